section
-- ===== PART A: goes FIRST, ahead of the names: the tables' words, and 'selects' of the private methods out of them =====
/-- a private method of a class that the tables say can be made, by its rows of tables_1 -/
def lw_okq (q : MethodName × Nat) : Prop := (q.1.cls ≠ "java/lang/invoke/MethodHandle" ∧ q.1.cls ≠ "java/lang/invoke/VarHandle") ∧ Cond.instantiable q.1.cls q.2 ∈ tables_1 ∧ Cond.privateMethod q.1 ∈ tables_1 ∧ Cond.instanceMethod q.1 ∈ tables_1
theorem lw_p0 : lw_okq (⟨"SoldStops", "bad", "(I)I"⟩, 12) := ⟨⟨by decide +kernel, by decide +kernel⟩, List.mem_of_getElem? (i := 18) (by decide +kernel), List.mem_of_getElem? (i := 270) (by decide +kernel), List.mem_of_getElem? (i := 271) (by decide +kernel)⟩
theorem lw_p1 : lw_okq (⟨"SoldStops", "full", "(I)I"⟩, 12) := ⟨⟨by decide +kernel, by decide +kernel⟩, List.mem_of_getElem? (i := 18) (by decide +kernel), List.mem_of_getElem? (i := 289) (by decide +kernel), List.mem_of_getElem? (i := 290) (by decide +kernel)⟩
theorem lw_p2 : lw_okq (⟨"SoldStops$Text", "next", "()V"⟩, 10) := ⟨⟨by decide +kernel, by decide +kernel⟩, List.mem_of_getElem? (i := 110) (by decide +kernel), List.mem_of_getElem? (i := 348) (by decide +kernel), List.mem_of_getElem? (i := 349) (by decide +kernel)⟩
theorem lw_p3 : lw_okq (⟨"SoldStops$Text", "runEnd", "(III)I"⟩, 10) := ⟨⟨by decide +kernel, by decide +kernel⟩, List.mem_of_getElem? (i := 110) (by decide +kernel), List.mem_of_getElem? (i := 352) (by decide +kernel), List.mem_of_getElem? (i := 353) (by decide +kernel)⟩
theorem lw_p4 : lw_okq (⟨"SoldStops$Text", "wordHere", "()I"⟩, 10) := ⟨⟨by decide +kernel, by decide +kernel⟩, List.mem_of_getElem? (i := 110) (by decide +kernel), List.mem_of_getElem? (i := 356) (by decide +kernel), List.mem_of_getElem? (i := 357) (by decide +kernel)⟩
theorem lw_p5 : lw_okq (⟨"SoldStops$Text", "isHere", "(Ljava/lang/String;)Z"⟩, 10) := ⟨⟨by decide +kernel, by decide +kernel⟩, List.mem_of_getElem? (i := 110) (by decide +kernel), List.mem_of_getElem? (i := 361) (by decide +kernel), List.mem_of_getElem? (i := 362) (by decide +kernel)⟩
theorem lw_p6 : lw_okq (⟨"SoldStops$Text", "numberHere", "()I"⟩, 10) := ⟨⟨by decide +kernel, by decide +kernel⟩, List.mem_of_getElem? (i := 110) (by decide +kernel), List.mem_of_getElem? (i := 415) (by decide +kernel), List.mem_of_getElem? (i := 416) (by decide +kernel)⟩
theorem lw_p7 : lw_okq (⟨"SoldStops$Text", "mayBegin", "()Z"⟩, 10) := ⟨⟨by decide +kernel, by decide +kernel⟩, List.mem_of_getElem? (i := 110) (by decide +kernel), List.mem_of_getElem? (i := 419) (by decide +kernel), List.mem_of_getElem? (i := 420) (by decide +kernel)⟩
theorem lw_p8 : lw_okq (⟨"SoldStops$Text", "takeItem", "()Z"⟩, 10) := ⟨⟨by decide +kernel, by decide +kernel⟩, List.mem_of_getElem? (i := 110) (by decide +kernel), List.mem_of_getElem? (i := 423) (by decide +kernel), List.mem_of_getElem? (i := 424) (by decide +kernel)⟩
theorem lw_p9 : lw_okq (⟨"SoldStops", "tellItem", "(I)Z"⟩, 12) := ⟨⟨by decide +kernel, by decide +kernel⟩, List.mem_of_getElem? (i := 18) (by decide +kernel), List.mem_of_getElem? (i := 427) (by decide +kernel), List.mem_of_getElem? (i := 428) (by decide +kernel)⟩
theorem lw_p10 : lw_okq (⟨"SoldStops", "no", "(I)I"⟩, 12) := ⟨⟨by decide +kernel, by decide +kernel⟩, List.mem_of_getElem? (i := 18) (by decide +kernel), List.mem_of_getElem? (i := 455) (by decide +kernel), List.mem_of_getElem? (i := 456) (by decide +kernel)⟩
theorem lw_p11 : lw_okq (⟨"SoldStops$Page", "dropOldest", "()V"⟩, 9) := ⟨⟨by decide +kernel, by decide +kernel⟩, List.mem_of_getElem? (i := 26) (by decide +kernel), List.mem_of_getElem? (i := 463) (by decide +kernel), List.mem_of_getElem? (i := 464) (by decide +kernel)⟩
theorem lw_p12 : lw_okq (⟨"SoldStops$Plan", "choose", "(LSoldStops$Page;IIIZ)V"⟩, 5) := ⟨⟨by decide +kernel, by decide +kernel⟩, List.mem_of_getElem? (i := 153) (by decide +kernel), List.mem_of_getElem? (i := 567) (by decide +kernel), List.mem_of_getElem? (i := 568) (by decide +kernel)⟩
theorem lw_p13 : lw_okq (⟨"SoldStops$Plan", "spread", "(LSoldStops$Page;II)V"⟩, 5) := ⟨⟨by decide +kernel, by decide +kernel⟩, List.mem_of_getElem? (i := 153) (by decide +kernel), List.mem_of_getElem? (i := 594) (by decide +kernel), List.mem_of_getElem? (i := 595) (by decide +kernel)⟩
theorem lw_p14 : lw_okq (⟨"SoldStops$Order", "keepRow", "(II)V"⟩, 4) := ⟨⟨by decide +kernel, by decide +kernel⟩, List.mem_of_getElem? (i := 177) (by decide +kernel), List.mem_of_getElem? (i := 611) (by decide +kernel), List.mem_of_getElem? (i := 612) (by decide +kernel)⟩
theorem lw_p15 : lw_okq (⟨"SoldStops", "mostAlike", "(II)I"⟩, 12) := ⟨⟨by decide +kernel, by decide +kernel⟩, List.mem_of_getElem? (i := 18) (by decide +kernel), List.mem_of_getElem? (i := 647) (by decide +kernel), List.mem_of_getElem? (i := 648) (by decide +kernel)⟩
def lw_privs_1 : List (MethodName × Nat) := [(⟨"SoldStops", "bad", "(I)I"⟩, 12), (⟨"SoldStops", "full", "(I)I"⟩, 12), (⟨"SoldStops$Text", "next", "()V"⟩, 10), (⟨"SoldStops$Text", "runEnd", "(III)I"⟩, 10), (⟨"SoldStops$Text", "wordHere", "()I"⟩, 10), (⟨"SoldStops$Text", "isHere", "(Ljava/lang/String;)Z"⟩, 10), (⟨"SoldStops$Text", "numberHere", "()I"⟩, 10), (⟨"SoldStops$Text", "mayBegin", "()Z"⟩, 10), (⟨"SoldStops$Text", "takeItem", "()Z"⟩, 10), (⟨"SoldStops", "tellItem", "(I)Z"⟩, 12), (⟨"SoldStops", "no", "(I)I"⟩, 12), (⟨"SoldStops$Page", "dropOldest", "()V"⟩, 9), (⟨"SoldStops$Plan", "choose", "(LSoldStops$Page;IIIZ)V"⟩, 5), (⟨"SoldStops$Plan", "spread", "(LSoldStops$Page;II)V"⟩, 5), (⟨"SoldStops$Order", "keepRow", "(II)V"⟩, 4), (⟨"SoldStops", "mostAlike", "(II)I"⟩, 12)]
theorem lw_r1 : ∀ q ∈ lw_privs_1, lw_okq q := List.forall_mem_cons.mpr ⟨lw_p0, List.forall_mem_cons.mpr ⟨lw_p1, List.forall_mem_cons.mpr ⟨lw_p2, List.forall_mem_cons.mpr ⟨lw_p3, List.forall_mem_cons.mpr ⟨lw_p4, List.forall_mem_cons.mpr ⟨lw_p5, List.forall_mem_cons.mpr ⟨lw_p6, List.forall_mem_cons.mpr ⟨lw_p7, List.forall_mem_cons.mpr ⟨lw_p8, List.forall_mem_cons.mpr ⟨lw_p9, List.forall_mem_cons.mpr ⟨lw_p10, List.forall_mem_cons.mpr ⟨lw_p11, List.forall_mem_cons.mpr ⟨lw_p12, List.forall_mem_cons.mpr ⟨lw_p13, List.forall_mem_cons.mpr ⟨lw_p14, List.forall_mem_cons.mpr ⟨lw_p15, fun _ h => absurd h List.not_mem_nil⟩⟩⟩⟩⟩⟩⟩⟩⟩⟩⟩⟩⟩⟩⟩⟩
theorem lw_p16 : lw_okq (⟨"SoldStops$Chance", "step", "(LSoldStops$Page;III)V"⟩, 4) := ⟨⟨by decide +kernel, by decide +kernel⟩, List.mem_of_getElem? (i := 198) (by decide +kernel), List.mem_of_getElem? (i := 674) (by decide +kernel), List.mem_of_getElem? (i := 675) (by decide +kernel)⟩
theorem lw_p17 : lw_okq (⟨"SoldStops$Chance", "setLowest", "(JJ)V"⟩, 4) := ⟨⟨by decide +kernel, by decide +kernel⟩, List.mem_of_getElem? (i := 198) (by decide +kernel), List.mem_of_getElem? (i := 681) (by decide +kernel), List.mem_of_getElem? (i := 682) (by decide +kernel)⟩
theorem lw_p18 : lw_okq (⟨"SoldStops", "countOf", "(I)I"⟩, 12) := ⟨⟨by decide +kernel, by decide +kernel⟩, List.mem_of_getElem? (i := 18) (by decide +kernel), List.mem_of_getElem? (i := 716) (by decide +kernel), List.mem_of_getElem? (i := 717) (by decide +kernel)⟩
theorem lw_p19 : lw_okq (⟨"SoldStopsModel", "begin", "(II)V"⟩, 32) := ⟨⟨by decide +kernel, by decide +kernel⟩, List.mem_of_getElem? (i := 730) (by decide +kernel), List.mem_of_getElem? (i := 736) (by decide +kernel), List.mem_of_getElem? (i := 737) (by decide +kernel)⟩
theorem lw_p20 : lw_okq (⟨"SoldStopsModel", "bad", "()I"⟩, 32) := ⟨⟨by decide +kernel, by decide +kernel⟩, List.mem_of_getElem? (i := 730) (by decide +kernel), List.mem_of_getElem? (i := 847) (by decide +kernel), List.mem_of_getElem? (i := 848) (by decide +kernel)⟩
theorem lw_p21 : lw_okq (⟨"SoldStopsModel", "full", "()I"⟩, 32) := ⟨⟨by decide +kernel, by decide +kernel⟩, List.mem_of_getElem? (i := 730) (by decide +kernel), List.mem_of_getElem? (i := 855) (by decide +kernel), List.mem_of_getElem? (i := 856) (by decide +kernel)⟩
theorem lw_p22 : lw_okq (⟨"SoldStopsModel", "add", "(I)I"⟩, 32) := ⟨⟨by decide +kernel, by decide +kernel⟩, List.mem_of_getElem? (i := 730) (by decide +kernel), List.mem_of_getElem? (i := 859) (by decide +kernel), List.mem_of_getElem? (i := 860) (by decide +kernel)⟩
theorem lw_p23 : lw_okq (⟨"SoldStopsModel", "isPiece", "(I)Z"⟩, 32) := ⟨⟨by decide +kernel, by decide +kernel⟩, List.mem_of_getElem? (i := 730) (by decide +kernel), List.mem_of_getElem? (i := 879) (by decide +kernel), List.mem_of_getElem? (i := 880) (by decide +kernel)⟩
theorem lw_p24 : lw_okq (⟨"SoldStopsModel", "ten", "()I"⟩, 32) := ⟨⟨by decide +kernel, by decide +kernel⟩, List.mem_of_getElem? (i := 730) (by decide +kernel), List.mem_of_getElem? (i := 886) (by decide +kernel), List.mem_of_getElem? (i := 887) (by decide +kernel)⟩
theorem lw_p25 : lw_okq (⟨"SoldStopsModel", "mark", "(II)V"⟩, 32) := ⟨⟨by decide +kernel, by decide +kernel⟩, List.mem_of_getElem? (i := 730) (by decide +kernel), List.mem_of_getElem? (i := 890) (by decide +kernel), List.mem_of_getElem? (i := 891) (by decide +kernel)⟩
theorem lw_p26 : lw_okq (⟨"SoldStopsModel", "readsPage", "()Z"⟩, 32) := ⟨⟨by decide +kernel, by decide +kernel⟩, List.mem_of_getElem? (i := 730) (by decide +kernel), List.mem_of_getElem? (i := 906) (by decide +kernel), List.mem_of_getElem? (i := 907) (by decide +kernel)⟩
theorem lw_p27 : lw_okq (⟨"SoldStopsModel", "skip", "()V"⟩, 32) := ⟨⟨by decide +kernel, by decide +kernel⟩, List.mem_of_getElem? (i := 730) (by decide +kernel), List.mem_of_getElem? (i := 910) (by decide +kernel), List.mem_of_getElem? (i := 911) (by decide +kernel)⟩
theorem lw_p28 : lw_okq (⟨"SoldStopsModel", "here", "()I"⟩, 32) := ⟨⟨by decide +kernel, by decide +kernel⟩, List.mem_of_getElem? (i := 730) (by decide +kernel), List.mem_of_getElem? (i := 914) (by decide +kernel), List.mem_of_getElem? (i := 915) (by decide +kernel)⟩
theorem lw_p29 : lw_okq (⟨"SoldStopsModel", "readsItem", "()Z"⟩, 32) := ⟨⟨by decide +kernel, by decide +kernel⟩, List.mem_of_getElem? (i := 730) (by decide +kernel), List.mem_of_getElem? (i := 918) (by decide +kernel), List.mem_of_getElem? (i := 919) (by decide +kernel)⟩
theorem lw_p30 : lw_okq (⟨"SoldStopsModel", "wordHere", "()I"⟩, 32) := ⟨⟨by decide +kernel, by decide +kernel⟩, List.mem_of_getElem? (i := 730) (by decide +kernel), List.mem_of_getElem? (i := 922) (by decide +kernel), List.mem_of_getElem? (i := 923) (by decide +kernel)⟩
theorem lw_p31 : lw_okq (⟨"SoldStopsModel", "wordSize", "()I"⟩, 32) := ⟨⟨by decide +kernel, by decide +kernel⟩, List.mem_of_getElem? (i := 730) (by decide +kernel), List.mem_of_getElem? (i := 926) (by decide +kernel), List.mem_of_getElem? (i := 927) (by decide +kernel)⟩
def lw_privs_2 : List (MethodName × Nat) := [(⟨"SoldStops$Chance", "step", "(LSoldStops$Page;III)V"⟩, 4), (⟨"SoldStops$Chance", "setLowest", "(JJ)V"⟩, 4), (⟨"SoldStops", "countOf", "(I)I"⟩, 12), (⟨"SoldStopsModel", "begin", "(II)V"⟩, 32), (⟨"SoldStopsModel", "bad", "()I"⟩, 32), (⟨"SoldStopsModel", "full", "()I"⟩, 32), (⟨"SoldStopsModel", "add", "(I)I"⟩, 32), (⟨"SoldStopsModel", "isPiece", "(I)Z"⟩, 32), (⟨"SoldStopsModel", "ten", "()I"⟩, 32), (⟨"SoldStopsModel", "mark", "(II)V"⟩, 32), (⟨"SoldStopsModel", "readsPage", "()Z"⟩, 32), (⟨"SoldStopsModel", "skip", "()V"⟩, 32), (⟨"SoldStopsModel", "here", "()I"⟩, 32), (⟨"SoldStopsModel", "readsItem", "()Z"⟩, 32), (⟨"SoldStopsModel", "wordHere", "()I"⟩, 32), (⟨"SoldStopsModel", "wordSize", "()I"⟩, 32)]
theorem lw_r2 : ∀ q ∈ lw_privs_2, lw_okq q := List.forall_mem_cons.mpr ⟨lw_p16, List.forall_mem_cons.mpr ⟨lw_p17, List.forall_mem_cons.mpr ⟨lw_p18, List.forall_mem_cons.mpr ⟨lw_p19, List.forall_mem_cons.mpr ⟨lw_p20, List.forall_mem_cons.mpr ⟨lw_p21, List.forall_mem_cons.mpr ⟨lw_p22, List.forall_mem_cons.mpr ⟨lw_p23, List.forall_mem_cons.mpr ⟨lw_p24, List.forall_mem_cons.mpr ⟨lw_p25, List.forall_mem_cons.mpr ⟨lw_p26, List.forall_mem_cons.mpr ⟨lw_p27, List.forall_mem_cons.mpr ⟨lw_p28, List.forall_mem_cons.mpr ⟨lw_p29, List.forall_mem_cons.mpr ⟨lw_p30, List.forall_mem_cons.mpr ⟨lw_p31, fun _ h => absurd h List.not_mem_nil⟩⟩⟩⟩⟩⟩⟩⟩⟩⟩⟩⟩⟩⟩⟩⟩
theorem lw_p32 : lw_okq (⟨"SoldStopsModel", "letter", "(I)I"⟩, 32) := ⟨⟨by decide +kernel, by decide +kernel⟩, List.mem_of_getElem? (i := 730) (by decide +kernel), List.mem_of_getElem? (i := 933) (by decide +kernel), List.mem_of_getElem? (i := 934) (by decide +kernel)⟩
theorem lw_p33 : lw_okq (⟨"SoldStopsModel", "number", "()Z"⟩, 32) := ⟨⟨by decide +kernel, by decide +kernel⟩, List.mem_of_getElem? (i := 730) (by decide +kernel), List.mem_of_getElem? (i := 937) (by decide +kernel), List.mem_of_getElem? (i := 938) (by decide +kernel)⟩
theorem lw_p34 : lw_okq (⟨"SoldStopsModel", "refusedItem", "()I"⟩, 32) := ⟨⟨by decide +kernel, by decide +kernel⟩, List.mem_of_getElem? (i := 730) (by decide +kernel), List.mem_of_getElem? (i := 944) (by decide +kernel), List.mem_of_getElem? (i := 945) (by decide +kernel)⟩
theorem lw_p35 : lw_okq (⟨"SoldStopsModel", "costOf", "(I)I"⟩, 32) := ⟨⟨by decide +kernel, by decide +kernel⟩, List.mem_of_getElem? (i := 730) (by decide +kernel), List.mem_of_getElem? (i := 952) (by decide +kernel), List.mem_of_getElem? (i := 953) (by decide +kernel)⟩
theorem lw_p36 : lw_okq (⟨"SoldStopsModel", "no", "()I"⟩, 32) := ⟨⟨by decide +kernel, by decide +kernel⟩, List.mem_of_getElem? (i := 730) (by decide +kernel), List.mem_of_getElem? (i := 956) (by decide +kernel), List.mem_of_getElem? (i := 957) (by decide +kernel)⟩
theorem lw_p37 : lw_okq (⟨"SoldStopsModel", "notes", "()V"⟩, 32) := ⟨⟨by decide +kernel, by decide +kernel⟩, List.mem_of_getElem? (i := 730) (by decide +kernel), List.mem_of_getElem? (i := 960) (by decide +kernel), List.mem_of_getElem? (i := 961) (by decide +kernel)⟩
theorem lw_p38 : lw_okq (⟨"SoldStopsModel", "stuckBy", "(II)I"⟩, 32) := ⟨⟨by decide +kernel, by decide +kernel⟩, List.mem_of_getElem? (i := 730) (by decide +kernel), List.mem_of_getElem? (i := 1008) (by decide +kernel), List.mem_of_getElem? (i := 1009) (by decide +kernel)⟩
theorem lw_p39 : lw_okq (⟨"SoldStopsModel", "setLeast", "(IZ)V"⟩, 32) := ⟨⟨by decide +kernel, by decide +kernel⟩, List.mem_of_getElem? (i := 730) (by decide +kernel), List.mem_of_getElem? (i := 1023) (by decide +kernel), List.mem_of_getElem? (i := 1024) (by decide +kernel)⟩
theorem lw_p40 : lw_okq (⟨"SoldStopsModel", "optionsAt", "(I)I"⟩, 32) := ⟨⟨by decide +kernel, by decide +kernel⟩, List.mem_of_getElem? (i := 730) (by decide +kernel), List.mem_of_getElem? (i := 1031) (by decide +kernel), List.mem_of_getElem? (i := 1032) (by decide +kernel)⟩
theorem lw_p41 : lw_okq (⟨"SoldStopsModel", "costBy", "(IIIIZ)I"⟩, 32) := ⟨⟨by decide +kernel, by decide +kernel⟩, List.mem_of_getElem? (i := 730) (by decide +kernel), List.mem_of_getElem? (i := 1035) (by decide +kernel), List.mem_of_getElem? (i := 1036) (by decide +kernel)⟩
theorem lw_p42 : lw_okq (⟨"SoldStopsModel", "twenty", "()I"⟩, 32) := ⟨⟨by decide +kernel, by decide +kernel⟩, List.mem_of_getElem? (i := 730) (by decide +kernel), List.mem_of_getElem? (i := 1047) (by decide +kernel), List.mem_of_getElem? (i := 1048) (by decide +kernel)⟩
theorem lw_p43 : lw_okq (⟨"SoldStopsModel", "readBy", "()I"⟩, 32) := ⟨⟨by decide +kernel, by decide +kernel⟩, List.mem_of_getElem? (i := 730) (by decide +kernel), List.mem_of_getElem? (i := 1051) (by decide +kernel), List.mem_of_getElem? (i := 1052) (by decide +kernel)⟩
theorem lw_p44 : lw_okq (⟨"SoldStopsModel", "nextLine", "()Z"⟩, 32) := ⟨⟨by decide +kernel, by decide +kernel⟩, List.mem_of_getElem? (i := 730) (by decide +kernel), List.mem_of_getElem? (i := 1055) (by decide +kernel), List.mem_of_getElem? (i := 1056) (by decide +kernel)⟩
theorem lw_p45 : lw_okq (⟨"SoldStopsModel", "breathSet", "()I"⟩, 32) := ⟨⟨by decide +kernel, by decide +kernel⟩, List.mem_of_getElem? (i := 730) (by decide +kernel), List.mem_of_getElem? (i := 1071) (by decide +kernel), List.mem_of_getElem? (i := 1072) (by decide +kernel)⟩
theorem lw_p46 : lw_okq (⟨"SoldStopsModel", "alike", "(II)I"⟩, 32) := ⟨⟨by decide +kernel, by decide +kernel⟩, List.mem_of_getElem? (i := 730) (by decide +kernel), List.mem_of_getElem? (i := 1080) (by decide +kernel), List.mem_of_getElem? (i := 1081) (by decide +kernel)⟩
theorem lw_p47 : lw_okq (⟨"SoldStopsModel", "lay", "(JJ)V"⟩, 32) := ⟨⟨by decide +kernel, by decide +kernel⟩, List.mem_of_getElem? (i := 730) (by decide +kernel), List.mem_of_getElem? (i := 1099) (by decide +kernel), List.mem_of_getElem? (i := 1100) (by decide +kernel)⟩
def lw_privs_3 : List (MethodName × Nat) := [(⟨"SoldStopsModel", "letter", "(I)I"⟩, 32), (⟨"SoldStopsModel", "number", "()Z"⟩, 32), (⟨"SoldStopsModel", "refusedItem", "()I"⟩, 32), (⟨"SoldStopsModel", "costOf", "(I)I"⟩, 32), (⟨"SoldStopsModel", "no", "()I"⟩, 32), (⟨"SoldStopsModel", "notes", "()V"⟩, 32), (⟨"SoldStopsModel", "stuckBy", "(II)I"⟩, 32), (⟨"SoldStopsModel", "setLeast", "(IZ)V"⟩, 32), (⟨"SoldStopsModel", "optionsAt", "(I)I"⟩, 32), (⟨"SoldStopsModel", "costBy", "(IIIIZ)I"⟩, 32), (⟨"SoldStopsModel", "twenty", "()I"⟩, 32), (⟨"SoldStopsModel", "readBy", "()I"⟩, 32), (⟨"SoldStopsModel", "nextLine", "()Z"⟩, 32), (⟨"SoldStopsModel", "breathSet", "()I"⟩, 32), (⟨"SoldStopsModel", "alike", "(II)I"⟩, 32), (⟨"SoldStopsModel", "lay", "(JJ)V"⟩, 32)]
theorem lw_r3 : ∀ q ∈ lw_privs_3, lw_okq q := List.forall_mem_cons.mpr ⟨lw_p32, List.forall_mem_cons.mpr ⟨lw_p33, List.forall_mem_cons.mpr ⟨lw_p34, List.forall_mem_cons.mpr ⟨lw_p35, List.forall_mem_cons.mpr ⟨lw_p36, List.forall_mem_cons.mpr ⟨lw_p37, List.forall_mem_cons.mpr ⟨lw_p38, List.forall_mem_cons.mpr ⟨lw_p39, List.forall_mem_cons.mpr ⟨lw_p40, List.forall_mem_cons.mpr ⟨lw_p41, List.forall_mem_cons.mpr ⟨lw_p42, List.forall_mem_cons.mpr ⟨lw_p43, List.forall_mem_cons.mpr ⟨lw_p44, List.forall_mem_cons.mpr ⟨lw_p45, List.forall_mem_cons.mpr ⟨lw_p46, List.forall_mem_cons.mpr ⟨lw_p47, fun _ h => absurd h List.not_mem_nil⟩⟩⟩⟩⟩⟩⟩⟩⟩⟩⟩⟩⟩⟩⟩⟩
theorem lw_p48 : lw_okq (⟨"SoldStopsModel", "countOf", "(I)I"⟩, 32) := ⟨⟨by decide +kernel, by decide +kernel⟩, List.mem_of_getElem? (i := 730) (by decide +kernel), List.mem_of_getElem? (i := 1133) (by decide +kernel), List.mem_of_getElem? (i := 1134) (by decide +kernel)⟩
theorem lw_p49 : lw_okq (⟨"SoldStopsModel", "mix", "(J)V"⟩, 32) := ⟨⟨by decide +kernel, by decide +kernel⟩, List.mem_of_getElem? (i := 730) (by decide +kernel), List.mem_of_getElem? (i := 1142) (by decide +kernel), List.mem_of_getElem? (i := 1143) (by decide +kernel)⟩
def lw_privs_4 : List (MethodName × Nat) := [(⟨"SoldStopsModel", "countOf", "(I)I"⟩, 32), (⟨"SoldStopsModel", "mix", "(J)V"⟩, 32)]
theorem lw_r4 : ∀ q ∈ lw_privs_4, lw_okq q := List.forall_mem_cons.mpr ⟨lw_p48, List.forall_mem_cons.mpr ⟨lw_p49, fun _ h => absurd h List.not_mem_nil⟩⟩
def lw_privs : List (MethodName × Nat) := lw_privs_1 ++ (lw_privs_2 ++ (lw_privs_3 ++ (lw_privs_4)))
def lw_tbl : List Cond := k2_sels lw_privs ++ tables_1
theorem lw_privs_ok : ∀ q ∈ lw_privs, lw_okq q := by
  show ∀ q ∈ lw_privs_1 ++ (lw_privs_2 ++ (lw_privs_3 ++ (lw_privs_4))), lw_okq q
  exact List.forall_mem_append.mpr ⟨lw_r1, List.forall_mem_append.mpr ⟨lw_r2, List.forall_mem_append.mpr ⟨lw_r3, lw_r4⟩⟩⟩
-- ===== end of PART A; then your names; then what follows =====
/-! ===== BEGIN words of one list among another's, by their places ===== -/
theorem goodIn_r {big : List Cond} (ws : List Cond) (ps : List Nat) (hp : ws = ps.filterMap (fun i => big[i]?)) (h : ws.all goodWord = true) : GoodIn big ws := by
  intro w hw
  have h1 := List.all_eq_true.mp h w hw
  rw [hp] at hw
  obtain ⟨i, -, hi⟩ := List.mem_filterMap.mp hw
  have hm : w ∈ big := by first | exact List.mem_of_getElem? hi | exact List.getElem?_mem hi
  exact ⟨hm, good_of_word h1⟩
theorem goodIn_app {big a b : List Cond} (ha : GoodIn big a) (hb : GoodIn big b) : GoodIn big (a ++ b) := fun w h => (List.mem_append.mp h).elim (ha w) (hb w)
theorem goodIn_ca {big a b : List Cond} {c : Cond} (ha : GoodIn big (c :: a)) (hb : GoodIn big b) : GoodIn big (c :: (a ++ b)) := fun w h => (List.mem_cons.mp h).elim (fun e => ha w (List.mem_cons.mpr (Or.inl e))) (fun h => (List.mem_append.mp h).elim (fun h => ha w (List.mem_cons.mpr (Or.inr h))) (hb w))
theorem goodIn_sub {big ws : List Cond} (hm : ∀ w ∈ ws, w ∈ big) (h : ws.all goodWord = true) : GoodIn big ws := fun w hw => ⟨hm w hw, good_of_word (List.all_eq_true.mp h w hw)⟩
/-! ===== END ===== -/


/-! ===== BEGIN printed: names, fields, word lists, decode rows ===== -/
def RX0 : String := "SoldStops$Chance"
def TX0 : u_T := fun k => match k with
  | 0 => ("SoldStops$Chance", "above", "J", false)
  | 1 => ("SoldStops$Chance", "below", "J", false)
  | 2 => ("SoldStops$Chance", "now", "[J", true)
  | _ => ("SoldStops$Chance", "then", "[J", true)
def tyX0 : Nat → FieldType := fun k => match k with
  | 0 => .long
  | 1 => .long
  | 2 => .array .long
  | _ => .array .long
abbrev wsX00 : List Cond := u_ws RX0 TX0 4
theorem nmX0 : ∀ a, a < 4 → ∀ b, b < 4 → a ≠ b → (TX0 a).2.1 ≠ (TX0 b).2.1 := by decide +kernel
theorem tyX0_ok : ∀ k, k < 4 → parseFieldDescriptor (TX0 k).2.2.1 = some (tyX0 k) := by decide +kernel
abbrev cX0_init : ByteArray := prog_2_method_1_code
def yX0_init : MethodName := ⟨RX0, "<init>", "()V"⟩
abbrev cX0_reckon : ByteArray := prog_2_method_2_code
def yX0_reckon : MethodName := ⟨RX0, "reckon", "(LSoldStops$Page;I)V"⟩
abbrev cX0_step : ByteArray := prog_2_method_3_code
def yX0_step : MethodName := ⟨RX0, "step", "(LSoldStops$Page;III)V"⟩
abbrev cX0_setLowest : ByteArray := prog_2_method_4_code
def yX0_setLowest : MethodName := ⟨RX0, "setLowest", "(JJ)V"⟩
def RX1 : String := "SoldStops$Kinds"
def TX1 : u_T := fun k => match k with
  | _ => ("", "", "", false)
def tyX1 : Nat → FieldType := fun k => match k with
  | _ => .int
abbrev wsX10 : List Cond := u_ws RX1 TX1 0
theorem nmX1 : ∀ a, a < 0 → ∀ b, b < 0 → a ≠ b → (TX1 a).2.1 ≠ (TX1 b).2.1 := by decide +kernel
theorem tyX1_ok : ∀ k, k < 0 → parseFieldDescriptor (TX1 k).2.2.1 = some (tyX1 k) := by decide +kernel
abbrev cX1_isOne : ByteArray := prog_3_method_2_code
def yX1_isOne : MethodName := ⟨RX1, "isOne", "(I)Z"⟩
abbrev cX1_cost : ByteArray := prog_3_method_3_code
def yX1_cost : MethodName := ⟨RX1, "cost", "(III)I"⟩
abbrev cX1_breathBehind : ByteArray := prog_3_method_4_code
def yX1_breathBehind : MethodName := ⟨RX1, "breathBehind", "(III)I"⟩
abbrev cX1_lasts : ByteArray := prog_3_method_5_code
def yX1_lasts : MethodName := ⟨RX1, "lasts", "(I)I"⟩
abbrev cX1_ends : ByteArray := prog_3_method_6_code
def yX1_ends : MethodName := ⟨RX1, "ends", "(I)Z"⟩
def RX2 : String := "SoldStops$Marks"
def TX2 : u_T := fun k => match k with
  | 0 => ("SoldStops$Marks", "purse", "I", false)
  | 1 => ("SoldStops$Marks", "week", "I", false)
  | 2 => ("SoldStops$Marks", "kinds", "[I", true)
  | _ => ("SoldStops$Marks", "reads", "[I", true)
def tyX2 : Nat → FieldType := fun k => match k with
  | 0 => .int
  | 1 => .int
  | 2 => .array .int
  | _ => .array .int
abbrev wsX20 : List Cond := u_ws RX2 TX2 4
theorem nmX2 : ∀ a, a < 4 → ∀ b, b < 4 → a ≠ b → (TX2 a).2.1 ≠ (TX2 b).2.1 := by decide +kernel
theorem tyX2_ok : ∀ k, k < 4 → parseFieldDescriptor (TX2 k).2.2.1 = some (tyX2 k) := by decide +kernel
abbrev cX2_init : ByteArray := prog_4_method_1_code
def yX2_init : MethodName := ⟨RX2, "<init>", "()V"⟩
abbrev cX2_set : ByteArray := prog_4_method_2_code
def yX2_set : MethodName := ⟨RX2, "set", "(II)V"⟩
abbrev cX2_readOnce : ByteArray := prog_4_method_3_code
def yX2_readOnce : MethodName := ⟨RX2, "readOnce", "(I)V"⟩
abbrev cX2_copy : ByteArray := prog_4_method_4_code
def yX2_copy : MethodName := ⟨RX2, "copy", "(LSoldStops$Marks;)V"⟩
def RX3 : String := "SoldStops$Order"
def TX3 : u_T := fun k => match k with
  | 0 => ("SoldStops$Order", "most", "I", false)
  | 1 => ("SoldStops$Order", "best", "[I", true)
  | 2 => ("SoldStops$Order", "row", "[I", true)
  | _ => ("SoldStops$Order", "used", "[Z", true)
def tyX3 : Nat → FieldType := fun k => match k with
  | 0 => .int
  | 1 => .array .int
  | 2 => .array .int
  | _ => .array .boolean
abbrev wsX30 : List Cond := u_ws RX3 TX3 4
theorem nmX3 : ∀ a, a < 4 → ∀ b, b < 4 → a ≠ b → (TX3 a).2.1 ≠ (TX3 b).2.1 := by decide +kernel
theorem tyX3_ok : ∀ k, k < 4 → parseFieldDescriptor (TX3 k).2.2.1 = some (tyX3 k) := by decide +kernel
abbrev cX3_init : ByteArray := prog_5_method_1_code
def yX3_init : MethodName := ⟨RX3, "<init>", "()V"⟩
abbrev cX3_search : ByteArray := prog_5_method_2_code
def yX3_search : MethodName := ⟨RX3, "search", "(LSoldStops$Page;)V"⟩
abbrev cX3_extend : ByteArray := prog_5_method_3_code
def yX3_extend : MethodName := ⟨RX3, "extend", "(LSoldStops$Order;LSoldStops$Page;II)V"⟩
abbrev cX3_keepRow : ByteArray := prog_5_method_4_code
def yX3_keepRow : MethodName := ⟨RX3, "keepRow", "(II)V"⟩
def RX4 : String := "SoldStops$Page"
def TX4 : u_T := fun k => match k with
  | 0 => ("SoldStops$Page", "breath", "I", false)
  | 1 => ("SoldStops$Page", "price", "I", false)
  | 2 => ("SoldStops$Page", "words", "I", false)
  | 3 => ("SoldStops$Page", "heards", "I", false)
  | 4 => ("SoldStops$Page", "pasts", "I", false)
  | 5 => ("SoldStops$Page", "lengths", "[I", true)
  | 6 => ("SoldStops$Page", "marks", "LSoldStops$Marks;", true)
  | 7 => ("SoldStops$Page", "heard", "[I", true)
  | _ => ("SoldStops$Page", "past", "[LSoldStops$Marks;", true)
def tyX4 : Nat → FieldType := fun k => match k with
  | 0 => .int
  | 1 => .int
  | 2 => .int
  | 3 => .int
  | 4 => .int
  | 5 => .array .int
  | 6 => .object "SoldStops$Marks"
  | 7 => .array .int
  | _ => .array (.object "SoldStops$Marks")
abbrev wsX40 : List Cond := u_ws RX4 TX4 9
theorem nmX4 : ∀ a, a < 9 → ∀ b, b < 9 → a ≠ b → (TX4 a).2.1 ≠ (TX4 b).2.1 := by decide +kernel
theorem tyX4_ok : ∀ k, k < 9 → parseFieldDescriptor (TX4 k).2.2.1 = some (tyX4 k) := by decide +kernel
abbrev cX4_init : ByteArray := prog_6_method_1_code
def yX4_init : MethodName := ⟨RX4, "<init>", "()V"⟩
abbrev cX4_begin : ByteArray := prog_6_method_2_code
def yX4_begin : MethodName := ⟨RX4, "begin", "(II)V"⟩
abbrev cX4_copy : ByteArray := prog_6_method_3_code
def yX4_copy : MethodName := ⟨RX4, "copy", "(LSoldStops$Page;)V"⟩
abbrev cX4_has : ByteArray := prog_6_method_4_code
def yX4_has : MethodName := ⟨RX4, "has", "(I)Z"⟩
abbrev cX4_hasRoom : ByteArray := prog_6_method_5_code
def yX4_hasRoom : MethodName := ⟨RX4, "hasRoom", "()Z"⟩
abbrev cX4_addWord : ByteArray := prog_6_method_6_code
def yX4_addWord : MethodName := ⟨RX4, "addWord", "(I)V"⟩
abbrev cX4_setMark : ByteArray := prog_6_method_7_code
def yX4_setMark : MethodName := ⟨RX4, "setMark", "(II)V"⟩
abbrev cX4_costOf : ByteArray := prog_6_method_8_code
def yX4_costOf : MethodName := ⟨RX4, "costOf", "(I)I"⟩
abbrev cX4_howManyMarks : ByteArray := prog_6_method_9_code
def yX4_howManyMarks : MethodName := ⟨RX4, "howManyMarks", "()I"⟩
abbrev cX4_remember : ByteArray := prog_6_method_10_code
def yX4_remember : MethodName := ⟨RX4, "remember", "()V"⟩
abbrev cX4_dropOldest : ByteArray := prog_6_method_11_code
def yX4_dropOldest : MethodName := ⟨RX4, "dropOldest", "()V"⟩
abbrev cX4_goBack : ByteArray := prog_6_method_12_code
def yX4_goBack : MethodName := ⟨RX4, "goBack", "()V"⟩
abbrev cX4_leftBehind : ByteArray := prog_6_method_13_code
def yX4_leftBehind : MethodName := ⟨RX4, "leftBehind", "(IIII)I"⟩
abbrev cX4_say : ByteArray := prog_6_method_14_code
def yX4_say : MethodName := ⟨RX4, "say", "()I"⟩
abbrev cX4_stuckAt : ByteArray := prog_6_method_15_code
def yX4_stuckAt : MethodName := ⟨RX4, "stuckAt", "(II)I"⟩
abbrev cX4_breathsStuckAt : ByteArray := prog_6_method_16_code
def yX4_breathsStuckAt : MethodName := ⟨RX4, "breathsStuckAt", "(I)I"⟩
abbrev cX4_addHeard : ByteArray := prog_6_method_17_code
def yX4_addHeard : MethodName := ⟨RX4, "addHeard", "(I)V"⟩
abbrev cX4_breathsHeard : ByteArray := prog_6_method_18_code
def yX4_breathsHeard : MethodName := ⟨RX4, "breathsHeard", "()I"⟩
abbrev cX4_lastIsEnded : ByteArray := prog_6_method_19_code
def yX4_lastIsEnded : MethodName := ⟨RX4, "lastIsEnded", "()Z"⟩
abbrev cX4_howManySentences : ByteArray := prog_6_method_20_code
def yX4_howManySentences : MethodName := ⟨RX4, "howManySentences", "()I"⟩
abbrev cX4_longestSentence : ByteArray := prog_6_method_21_code
def yX4_longestSentence : MethodName := ⟨RX4, "longestSentence", "(Z)I"⟩
def RX5 : String := "SoldStops$Plan"
def TX5 : u_T := fun k => match k with
  | 0 => ("SoldStops$Plan", "costs", "[[I", true)
  | 1 => ("SoldStops$Plan", "fewest", "[[I", true)
  | 2 => ("SoldStops$Plan", "choices", "[[I", true)
  | 3 => ("SoldStops$Plan", "now", "[I", true)
  | _ => ("SoldStops$Plan", "then", "[I", true)
def tyX5 : Nat → FieldType := fun k => match k with
  | 0 => .array (.array .int)
  | 1 => .array (.array .int)
  | 2 => .array (.array .int)
  | 3 => .array .int
  | _ => .array .int
abbrev wsX50 : List Cond := u_ws RX5 TX5 5
theorem nmX5 : ∀ a, a < 5 → ∀ b, b < 5 → a ≠ b → (TX5 a).2.1 ≠ (TX5 b).2.1 := by decide +kernel
theorem tyX5_ok : ∀ k, k < 5 → parseFieldDescriptor (TX5 k).2.2.1 = some (tyX5 k) := by decide +kernel
abbrev cX5_init : ByteArray := prog_7_method_1_code
def yX5_init : MethodName := ⟨RX5, "<init>", "()V"⟩
abbrev cX5_make : ByteArray := prog_7_method_2_code
def yX5_make : MethodName := ⟨RX5, "make", "(LSoldStops$Page;IZ)V"⟩
abbrev cX5_choose : ByteArray := prog_7_method_3_code
def yX5_choose : MethodName := ⟨RX5, "choose", "(LSoldStops$Page;IIIZ)V"⟩
abbrev cX5_isThere : ByteArray := prog_7_method_4_code
def yX5_isThere : MethodName := ⟨RX5, "isThere", "(I)Z"⟩
abbrev cX5_cost : ByteArray := prog_7_method_5_code
def yX5_cost : MethodName := ⟨RX5, "cost", "(I)I"⟩
abbrev cX5_kindBehind : ByteArray := prog_7_method_6_code
def yX5_kindBehind : MethodName := ⟨RX5, "kindBehind", "(LSoldStops$Page;II)I"⟩
abbrev cX5_reachFor : ByteArray := prog_7_method_7_code
def yX5_reachFor : MethodName := ⟨RX5, "reachFor", "(LSoldStops$Page;I)I"⟩
abbrev cX5_spread : ByteArray := prog_7_method_8_code
def yX5_spread : MethodName := ⟨RX5, "spread", "(LSoldStops$Page;II)V"⟩
def RX6 : String := "SoldStops$Text"
def TX6 : u_T := fun k => match k with
  | 0 => ("SoldStops$Text", "size", "I", false)
  | 1 => ("SoldStops$Text", "items", "I", false)
  | 2 => ("SoldStops$Text", "bytes", "[I", true)
  | 3 => ("SoldStops$Text", "whats", "[I", true)
  | 4 => ("SoldStops$Text", "firsts", "[I", true)
  | 5 => ("SoldStops$Text", "seconds", "[I", true)
  | 6 => ("SoldStops$Text", "token", "I", false)
  | 7 => ("SoldStops$Text", "value", "I", false)
  | 8 => ("SoldStops$Text", "place", "I", false)
  | _ => ("SoldStops$Text", "behind", "I", false)
def tyX6 : Nat → FieldType := fun k => match k with
  | 0 => .int
  | 1 => .int
  | 2 => .array .int
  | 3 => .array .int
  | 4 => .array .int
  | 5 => .array .int
  | 6 => .int
  | 7 => .int
  | 8 => .int
  | _ => .int
abbrev wsX60 : List Cond := u_ws RX6 TX6 10
theorem nmX6 : ∀ a, a < 10 → ∀ b, b < 10 → a ≠ b → (TX6 a).2.1 ≠ (TX6 b).2.1 := by decide +kernel
theorem tyX6_ok : ∀ k, k < 10 → parseFieldDescriptor (TX6 k).2.2.1 = some (tyX6 k) := by decide +kernel
abbrev cX6_init : ByteArray := prog_8_method_1_code
def yX6_init : MethodName := ⟨RX6, "<init>", "()V"⟩
abbrev cX6_add : ByteArray := prog_8_method_2_code
def yX6_add : MethodName := ⟨RX6, "add", "(I)V"⟩
abbrev cX6_findFault : ByteArray := prog_8_method_3_code
def yX6_findFault : MethodName := ⟨RX6, "findFault", "()I"⟩
abbrev cX6_mayBegin : ByteArray := prog_8_method_4_code
def yX6_mayBegin : MethodName := ⟨RX6, "mayBegin", "()Z"⟩
abbrev cX6_takeItem : ByteArray := prog_8_method_5_code
def yX6_takeItem : MethodName := ⟨RX6, "takeItem", "()Z"⟩
abbrev cX6_next : ByteArray := prog_8_method_6_code
def yX6_next : MethodName := ⟨RX6, "next", "()V"⟩
abbrev cX6_runEnd : ByteArray := prog_8_method_7_code
def yX6_runEnd : MethodName := ⟨RX6, "runEnd", "(III)I"⟩
abbrev cX6_wordHere : ByteArray := prog_8_method_8_code
def yX6_wordHere : MethodName := ⟨RX6, "wordHere", "()I"⟩
abbrev cX6_isHere : ByteArray := prog_8_method_9_code
def yX6_isHere : MethodName := ⟨RX6, "isHere", "(Ljava/lang/String;)Z"⟩
abbrev cX6_numberHere : ByteArray := prog_8_method_10_code
def yX6_numberHere : MethodName := ⟨RX6, "numberHere", "()I"⟩
def RX7 : String := "SoldStops"
def TX7 : u_T := fun k => match k with
  | 0 => ("SoldStops", "page", "LSoldStops$Page;", true)
  | 1 => ("SoldStops", "spare", "LSoldStops$Page;", true)
  | 2 => ("SoldStops", "images", "[LSoldStops$Page;", true)
  | 3 => ("SoldStops", "kept", "[Z", true)
  | 4 => ("SoldStops", "text", "LSoldStops$Text;", true)
  | 5 => ("SoldStops", "plan", "LSoldStops$Plan;", true)
  | 6 => ("SoldStops", "order", "LSoldStops$Order;", true)
  | 7 => ("SoldStops", "chance", "LSoldStops$Chance;", true)
  | 8 => ("SoldStops", "alike", "[I", true)
  | 9 => ("SoldStops", "bads", "I", false)
  | 10 => ("SoldStops", "nos", "I", false)
  | _ => ("SoldStops", "fulls", "I", false)
def tyX7 : Nat → FieldType := fun k => match k with
  | 0 => .object "SoldStops$Page"
  | 1 => .object "SoldStops$Page"
  | 2 => .array (.object "SoldStops$Page")
  | 3 => .array .boolean
  | 4 => .object "SoldStops$Text"
  | 5 => .object "SoldStops$Plan"
  | 6 => .object "SoldStops$Order"
  | 7 => .object "SoldStops$Chance"
  | 8 => .array .int
  | 9 => .int
  | 10 => .int
  | _ => .int
abbrev wsX70 : List Cond := u_ws RX7 TX7 12
theorem nmX7 : ∀ a, a < 12 → ∀ b, b < 12 → a ≠ b → (TX7 a).2.1 ≠ (TX7 b).2.1 := by decide +kernel
theorem tyX7_ok : ∀ k, k < 12 → parseFieldDescriptor (TX7 k).2.2.1 = some (tyX7 k) := by decide +kernel
abbrev cX7_init : ByteArray := prog_1_method_1_code
def yX7_init : MethodName := ⟨RX7, "<init>", "()V"⟩
abbrev cX7_page : ByteArray := prog_1_method_2_code
def yX7_page : MethodName := ⟨RX7, "page", "(II)I"⟩
abbrev cX7_word : ByteArray := prog_1_method_3_code
def yX7_word : MethodName := ⟨RX7, "word", "(I)I"⟩
abbrev cX7_breath : ByteArray := prog_1_method_4_code
def yX7_breath : MethodName := ⟨RX7, "breath", "(I)I"⟩
abbrev cX7_price : ByteArray := prog_1_method_5_code
def yX7_price : MethodName := ⟨RX7, "price", "(I)I"⟩
abbrev cX7_purse : ByteArray := prog_1_method_6_code
def yX7_purse : MethodName := ⟨RX7, "purse", "(I)I"⟩
abbrev cX7_put : ByteArray := prog_1_method_7_code
def yX7_put : MethodName := ⟨RX7, "put", "(II)I"⟩
abbrev cX7_type : ByteArray := prog_1_method_8_code
def yX7_type : MethodName := ⟨RX7, "type", "(I)I"⟩
abbrev cX7_clear : ByteArray := prog_1_method_9_code
def yX7_clear : MethodName := ⟨RX7, "clear", "()I"⟩
abbrev cX7_read : ByteArray := prog_1_method_10_code
def yX7_read : MethodName := ⟨RX7, "read", "()I"⟩
abbrev cX7_buy : ByteArray := prog_1_method_11_code
def yX7_buy : MethodName := ⟨RX7, "buy", "(II)I"⟩
abbrev cX7_sell : ByteArray := prog_1_method_12_code
def yX7_sell : MethodName := ⟨RX7, "sell", "(I)I"⟩
abbrev cX7_readOut : ByteArray := prog_1_method_13_code
def yX7_readOut : MethodName := ⟨RX7, "readOut", "()I"⟩
abbrev cX7_week : ByteArray := prog_1_method_14_code
def yX7_week : MethodName := ⟨RX7, "week", "(I)I"⟩
abbrev cX7_undo : ByteArray := prog_1_method_15_code
def yX7_undo : MethodName := ⟨RX7, "undo", "()I"⟩
abbrev cX7_of : ByteArray := prog_1_method_16_code
def yX7_of : MethodName := ⟨RX7, "of", "(II)I"⟩
abbrev cX7_costs : ByteArray := prog_1_method_17_code
def yX7_costs : MethodName := ⟨RX7, "costs", "(I)I"⟩
abbrev cX7_gives : ByteArray := prog_1_method_18_code
def yX7_gives : MethodName := ⟨RX7, "gives", "(II)I"⟩
abbrev cX7_stuck : ByteArray := prog_1_method_19_code
def yX7_stuck : MethodName := ⟨RX7, "stuck", "()I"⟩
abbrev cX7_sentences : ByteArray := prog_1_method_20_code
def yX7_sentences : MethodName := ⟨RX7, "sentences", "(I)I"⟩
abbrev cX7_cheapest : ByteArray := prog_1_method_21_code
def yX7_cheapest : MethodName := ⟨RX7, "cheapest", "(III)I"⟩
abbrev cX7_reach : ByteArray := prog_1_method_22_code
def yX7_reach : MethodName := ⟨RX7, "reach", "(I)I"⟩
abbrev cX7_order : ByteArray := prog_1_method_23_code
def yX7_order : MethodName := ⟨RX7, "order", "(I)I"⟩
abbrev cX7_heard : ByteArray := prog_1_method_24_code
def yX7_heard : MethodName := ⟨RX7, "heard", "(I)I"⟩
abbrev cX7_forget : ByteArray := prog_1_method_25_code
def yX7_forget : MethodName := ⟨RX7, "forget", "()I"⟩
abbrev cX7_breaths : ByteArray := prog_1_method_26_code
def yX7_breaths : MethodName := ⟨RX7, "breaths", "()I"⟩
abbrev cX7_shorter : ByteArray := prog_1_method_27_code
def yX7_shorter : MethodName := ⟨RX7, "shorter", "()I"⟩
abbrev cX7_bid : ByteArray := prog_1_method_28_code
def yX7_bid : MethodName := ⟨RX7, "bid", "(IIIIII)I"⟩
abbrev cX7_odds : ByteArray := prog_1_method_29_code
def yX7_odds : MethodName := ⟨RX7, "odds", "(I)I"⟩
abbrev cX7_drawn : ByteArray := prog_1_method_30_code
def yX7_drawn : MethodName := ⟨RX7, "drawn", "(II)I"⟩
abbrev cX7_part : ByteArray := prog_1_method_31_code
def yX7_part : MethodName := ⟨RX7, "part", "(I)J"⟩
abbrev cX7_image : ByteArray := prog_1_method_32_code
def yX7_image : MethodName := ⟨RX7, "image", "(I)I"⟩
abbrev cX7_from : ByteArray := prog_1_method_33_code
def yX7_from : MethodName := ⟨RX7, "from", "(I)I"⟩
abbrev cX7_status : ByteArray := prog_1_method_34_code
def yX7_status : MethodName := ⟨RX7, "status", "(I)I"⟩
abbrev cX7_count : ByteArray := prog_1_method_35_code
def yX7_count : MethodName := ⟨RX7, "count", "(I)I"⟩
abbrev cX7_digest : ByteArray := prog_1_method_36_code
def yX7_digest : MethodName := ⟨RX7, "digest", "()J"⟩
abbrev cX7_bad : ByteArray := prog_1_method_37_code
def yX7_bad : MethodName := ⟨RX7, "bad", "(I)I"⟩
abbrev cX7_no : ByteArray := prog_1_method_38_code
def yX7_no : MethodName := ⟨RX7, "no", "(I)I"⟩
abbrev cX7_full : ByteArray := prog_1_method_39_code
def yX7_full : MethodName := ⟨RX7, "full", "(I)I"⟩
abbrev cX7_isWithin : ByteArray := prog_1_method_40_code
def yX7_isWithin : MethodName := ⟨RX7, "isWithin", "(III)Z"⟩
abbrev cX7_isBreath : ByteArray := prog_1_method_41_code
def yX7_isBreath : MethodName := ⟨RX7, "isBreath", "(I)Z"⟩
abbrev cX7_isPrice : ByteArray := prog_1_method_42_code
def yX7_isPrice : MethodName := ⟨RX7, "isPrice", "(I)Z"⟩
abbrev cX7_isLength : ByteArray := prog_1_method_43_code
def yX7_isLength : MethodName := ⟨RX7, "isLength", "(I)Z"⟩
abbrev cX7_countOf : ByteArray := prog_1_method_44_code
def yX7_countOf : MethodName := ⟨RX7, "countOf", "(I)I"⟩
abbrev cX7_tellItem : ByteArray := prog_1_method_45_code
def yX7_tellItem : MethodName := ⟨RX7, "tellItem", "(I)Z"⟩
abbrev cX7_mostAlike : ByteArray := prog_1_method_46_code
def yX7_mostAlike : MethodName := ⟨RX7, "mostAlike", "(II)I"⟩
abbrev cX7_gain : ByteArray := prog_1_method_47_code
def yX7_gain : MethodName := ⟨RX7, "gain", "(IIII)I"⟩
abbrev cX7_isBest : ByteArray := prog_1_method_48_code
def yX7_isBest : MethodName := ⟨RX7, "isBest", "(IIIII)Z"⟩
def RX8 : String := "SoldStopsModel"
def TX8 : u_T := fun k => match k with
  | 0 => ("SoldStopsModel", "refused", "[I", true)
  | 1 => ("SoldStopsModel", "many", "I", false)
  | 2 => ("SoldStopsModel", "breath", "I", false)
  | 3 => ("SoldStopsModel", "price", "I", false)
  | 4 => ("SoldStopsModel", "purse", "I", false)
  | 5 => ("SoldStopsModel", "week", "I", false)
  | 6 => ("SoldStopsModel", "lengths", "[I", true)
  | 7 => ("SoldStopsModel", "kinds", "[I", true)
  | 8 => ("SoldStopsModel", "reads", "[I", true)
  | 9 => ("SoldStopsModel", "heardMany", "I", false)
  | 10 => ("SoldStopsModel", "heards", "[I", true)
  | 11 => ("SoldStopsModel", "text", "[I", true)
  | 12 => ("SoldStopsModel", "typed", "I", false)
  | 13 => ("SoldStopsModel", "readAt", "I", false)
  | 14 => ("SoldStopsModel", "readNumber", "I", false)
  | 15 => ("SoldStopsModel", "itemMany", "I", false)
  | 16 => ("SoldStopsModel", "items", "[I", true)
  | 17 => ("SoldStopsModel", "ahead", "[I", true)
  | 18 => ("SoldStopsModel", "undoMany", "I", false)
  | 19 => ("SoldStopsModel", "least", "[I", true)
  | 20 => ("SoldStopsModel", "bought", "[I", true)
  | 21 => ("SoldStopsModel", "paid", "[I", true)
  | 22 => ("SoldStopsModel", "then", "[I", true)
  | 23 => ("SoldStopsModel", "line", "[I", true)
  | 24 => ("SoldStopsModel", "bestLine", "[I", true)
  | 25 => ("SoldStopsModel", "groups", "[I", true)
  | 26 => ("SoldStopsModel", "above", "J", false)
  | 27 => ("SoldStopsModel", "below", "J", false)
  | 28 => ("SoldStopsModel", "ways", "[J", true)
  | 29 => ("SoldStopsModel", "waysThen", "[J", true)
  | 30 => ("SoldStopsModel", "images", "[I", true)
  | _ => ("SoldStopsModel", "h0", "J", false)
def tyX8 : Nat → FieldType := fun k => match k with
  | 0 => .array .int
  | 1 => .int
  | 2 => .int
  | 3 => .int
  | 4 => .int
  | 5 => .int
  | 6 => .array .int
  | 7 => .array .int
  | 8 => .array .int
  | 9 => .int
  | 10 => .array .int
  | 11 => .array .int
  | 12 => .int
  | 13 => .int
  | 14 => .int
  | 15 => .int
  | 16 => .array .int
  | 17 => .array .int
  | 18 => .int
  | 19 => .array .int
  | 20 => .array .int
  | 21 => .array .int
  | 22 => .array .int
  | 23 => .array .int
  | 24 => .array .int
  | 25 => .array .int
  | 26 => .long
  | 27 => .long
  | 28 => .array .long
  | 29 => .array .long
  | 30 => .array .int
  | _ => .long
abbrev wsX80 : List Cond := u_ws RX8 TX8 32
theorem nmX8 : ∀ a, a < 32 → ∀ b, b < 32 → a ≠ b → (TX8 a).2.1 ≠ (TX8 b).2.1 := by decide +kernel
theorem tyX8_ok : ∀ k, k < 32 → parseFieldDescriptor (TX8 k).2.2.1 = some (tyX8 k) := by decide +kernel
abbrev cX8_bad : ByteArray := prog_10_method_1_code
def yX8_bad : MethodName := ⟨RX8, "bad", "()I"⟩
abbrev cX8_ten : ByteArray := prog_10_method_2_code
def yX8_ten : MethodName := ⟨RX8, "ten", "()I"⟩
abbrev cX8_twenty : ByteArray := prog_10_method_3_code
def yX8_twenty : MethodName := ⟨RX8, "twenty", "()I"⟩
abbrev cX8_no : ByteArray := prog_10_method_4_code
def yX8_no : MethodName := ⟨RX8, "no", "()I"⟩
abbrev cX8_full : ByteArray := prog_10_method_5_code
def yX8_full : MethodName := ⟨RX8, "full", "()I"⟩
abbrev cX8_in : ByteArray := prog_10_method_6_code
def yX8_in : MethodName := ⟨RX8, "in", "(III)Z"⟩
abbrev cX8_init : ByteArray := prog_10_method_7_code
def yX8_init : MethodName := ⟨RX8, "<init>", "()V"⟩
abbrev cX8_begin : ByteArray := prog_10_method_8_code
def yX8_begin : MethodName := ⟨RX8, "begin", "(II)V"⟩
abbrev cX8_isPiece : ByteArray := prog_10_method_9_code
def yX8_isPiece : MethodName := ⟨RX8, "isPiece", "(I)Z"⟩
abbrev cX8_isKind : ByteArray := prog_10_method_10_code
def yX8_isKind : MethodName := ⟨RX8, "isKind", "(I)Z"⟩
abbrev cX8_isPage : ByteArray := prog_10_method_11_code
def yX8_isPage : MethodName := ⟨RX8, "isPage", "(II)Z"⟩
abbrev cX8_page : ByteArray := prog_10_method_12_code
def yX8_page : MethodName := ⟨RX8, "page", "(II)I"⟩
abbrev cX8_add : ByteArray := prog_10_method_13_code
def yX8_add : MethodName := ⟨RX8, "add", "(I)I"⟩
abbrev cX8_word : ByteArray := prog_10_method_14_code
def yX8_word : MethodName := ⟨RX8, "word", "(I)I"⟩
abbrev cX8_breath : ByteArray := prog_10_method_15_code
def yX8_breath : MethodName := ⟨RX8, "breath", "(I)I"⟩
abbrev cX8_price : ByteArray := prog_10_method_16_code
def yX8_price : MethodName := ⟨RX8, "price", "(I)I"⟩
abbrev cX8_purse : ByteArray := prog_10_method_17_code
def yX8_purse : MethodName := ⟨RX8, "purse", "(I)I"⟩
abbrev cX8_mark : ByteArray := prog_10_method_18_code
def yX8_mark : MethodName := ⟨RX8, "mark", "(II)V"⟩
abbrev cX8_put : ByteArray := prog_10_method_19_code
def yX8_put : MethodName := ⟨RX8, "put", "(II)I"⟩
abbrev cX8_type : ByteArray := prog_10_method_20_code
def yX8_type : MethodName := ⟨RX8, "type", "(I)I"⟩
abbrev cX8_clear : ByteArray := prog_10_method_21_code
def yX8_clear : MethodName := ⟨RX8, "clear", "()I"⟩
abbrev cX8_here : ByteArray := prog_10_method_22_code
def yX8_here : MethodName := ⟨RX8, "here", "()I"⟩
abbrev cX8_skip : ByteArray := prog_10_method_23_code
def yX8_skip : MethodName := ⟨RX8, "skip", "()V"⟩
abbrev cX8_isLetter : ByteArray := prog_10_method_24_code
def yX8_isLetter : MethodName := ⟨RX8, "isLetter", "(I)Z"⟩
abbrev cX8_isFigure : ByteArray := prog_10_method_25_code
def yX8_isFigure : MethodName := ⟨RX8, "isFigure", "(I)Z"⟩
abbrev cX8_wordSize : ByteArray := prog_10_method_26_code
def yX8_wordSize : MethodName := ⟨RX8, "wordSize", "()I"⟩
abbrev cX8_letter : ByteArray := prog_10_method_27_code
def yX8_letter : MethodName := ⟨RX8, "letter", "(I)I"⟩
abbrev cX8_wordHere : ByteArray := prog_10_method_28_code
def yX8_wordHere : MethodName := ⟨RX8, "wordHere", "()I"⟩
abbrev cX8_number : ByteArray := prog_10_method_29_code
def yX8_number : MethodName := ⟨RX8, "number", "()Z"⟩
abbrev cX8_readsItem : ByteArray := prog_10_method_30_code
def yX8_readsItem : MethodName := ⟨RX8, "readsItem", "()Z"⟩
abbrev cX8_readsPage : ByteArray := prog_10_method_31_code
def yX8_readsPage : MethodName := ⟨RX8, "readsPage", "()Z"⟩
abbrev cX8_refusedItem : ByteArray := prog_10_method_32_code
def yX8_refusedItem : MethodName := ⟨RX8, "refusedItem", "()I"⟩
abbrev cX8_read : ByteArray := prog_10_method_33_code
def yX8_read : MethodName := ⟨RX8, "read", "()I"⟩
abbrev cX8_costOf : ByteArray := prog_10_method_34_code
def yX8_costOf : MethodName := ⟨RX8, "costOf", "(I)I"⟩
abbrev cX8_lesser : ByteArray := prog_10_method_35_code
def yX8_lesser : MethodName := ⟨RX8, "lesser", "(II)I"⟩
abbrev cX8_greater : ByteArray := prog_10_method_36_code
def yX8_greater : MethodName := ⟨RX8, "greater", "(II)I"⟩
abbrev cX8_givenBy : ByteArray := prog_10_method_37_code
def yX8_givenBy : MethodName := ⟨RX8, "givenBy", "(III)I"⟩
abbrev cX8_ends : ByteArray := prog_10_method_38_code
def yX8_ends : MethodName := ⟨RX8, "ends", "(I)Z"⟩
abbrev cX8_dries : ByteArray := prog_10_method_39_code
def yX8_dries : MethodName := ⟨RX8, "dries", "(I)I"⟩
abbrev cX8_notes : ByteArray := prog_10_method_40_code
def yX8_notes : MethodName := ⟨RX8, "notes", "()V"⟩
abbrev cX8_buy : ByteArray := prog_10_method_41_code
def yX8_buy : MethodName := ⟨RX8, "buy", "(II)I"⟩
abbrev cX8_sell : ByteArray := prog_10_method_42_code
def yX8_sell : MethodName := ⟨RX8, "sell", "(I)I"⟩
abbrev cX8_readOut : ByteArray := prog_10_method_43_code
def yX8_readOut : MethodName := ⟨RX8, "readOut", "()I"⟩
abbrev cX8_week : ByteArray := prog_10_method_44_code
def yX8_week : MethodName := ⟨RX8, "week", "(I)I"⟩
abbrev cX8_undo : ByteArray := prog_10_method_45_code
def yX8_undo : MethodName := ⟨RX8, "undo", "()I"⟩
abbrev cX8_of : ByteArray := prog_10_method_46_code
def yX8_of : MethodName := ⟨RX8, "of", "(II)I"⟩
abbrev cX8_costs : ByteArray := prog_10_method_47_code
def yX8_costs : MethodName := ⟨RX8, "costs", "(I)I"⟩
abbrev cX8_gives : ByteArray := prog_10_method_48_code
def yX8_gives : MethodName := ⟨RX8, "gives", "(II)I"⟩
abbrev cX8_stuckBy : ByteArray := prog_10_method_49_code
def yX8_stuckBy : MethodName := ⟨RX8, "stuckBy", "(II)I"⟩
abbrev cX8_stuck : ByteArray := prog_10_method_50_code
def yX8_stuck : MethodName := ⟨RX8, "stuck", "()I"⟩
abbrev cX8_sentences : ByteArray := prog_10_method_51_code
def yX8_sentences : MethodName := ⟨RX8, "sentences", "(I)I"⟩
abbrev cX8_cellOf : ByteArray := prog_10_method_52_code
def yX8_cellOf : MethodName := ⟨RX8, "cellOf", "(II)I"⟩
abbrev cX8_costBy : ByteArray := prog_10_method_53_code
def yX8_costBy : MethodName := ⟨RX8, "costBy", "(IIIIZ)I"⟩
abbrev cX8_optionsAt : ByteArray := prog_10_method_54_code
def yX8_optionsAt : MethodName := ⟨RX8, "optionsAt", "(I)I"⟩
abbrev cX8_setLeast : ByteArray := prog_10_method_55_code
def yX8_setLeast : MethodName := ⟨RX8, "setLeast", "(IZ)V"⟩
abbrev cX8_cheapest : ByteArray := prog_10_method_56_code
def yX8_cheapest : MethodName := ⟨RX8, "cheapest", "(III)I"⟩
abbrev cX8_reach : ByteArray := prog_10_method_57_code
def yX8_reach : MethodName := ⟨RX8, "reach", "(I)I"⟩
abbrev cX8_readBy : ByteArray := prog_10_method_58_code
def yX8_readBy : MethodName := ⟨RX8, "readBy", "()I"⟩
abbrev cX8_nextLine : ByteArray := prog_10_method_59_code
def yX8_nextLine : MethodName := ⟨RX8, "nextLine", "()Z"⟩
abbrev cX8_order : ByteArray := prog_10_method_60_code
def yX8_order : MethodName := ⟨RX8, "order", "(I)I"⟩
abbrev cX8_heard : ByteArray := prog_10_method_61_code
def yX8_heard : MethodName := ⟨RX8, "heard", "(I)I"⟩
abbrev cX8_forget : ByteArray := prog_10_method_62_code
def yX8_forget : MethodName := ⟨RX8, "forget", "()I"⟩
abbrev cX8_breathSet : ByteArray := prog_10_method_63_code
def yX8_breathSet : MethodName := ⟨RX8, "breathSet", "()I"⟩
abbrev cX8_breaths : ByteArray := prog_10_method_64_code
def yX8_breaths : MethodName := ⟨RX8, "breaths", "()I"⟩
abbrev cX8_alike : ByteArray := prog_10_method_65_code
def yX8_alike : MethodName := ⟨RX8, "alike", "(II)I"⟩
abbrev cX8_shorter : ByteArray := prog_10_method_66_code
def yX8_shorter : MethodName := ⟨RX8, "shorter", "()I"⟩
abbrev cX8_gain : ByteArray := prog_10_method_67_code
def yX8_gain : MethodName := ⟨RX8, "gain", "(IIII)I"⟩
abbrev cX8_rests : ByteArray := prog_10_method_68_code
def yX8_rests : MethodName := ⟨RX8, "rests", "(IIIII)Z"⟩
abbrev cX8_bid : ByteArray := prog_10_method_69_code
def yX8_bid : MethodName := ⟨RX8, "bid", "(IIIIII)I"⟩
abbrev cX8_lay : ByteArray := prog_10_method_70_code
def yX8_lay : MethodName := ⟨RX8, "lay", "(JJ)V"⟩
abbrev cX8_odds : ByteArray := prog_10_method_71_code
def yX8_odds : MethodName := ⟨RX8, "odds", "(I)I"⟩
abbrev cX8_drawn : ByteArray := prog_10_method_72_code
def yX8_drawn : MethodName := ⟨RX8, "drawn", "(II)I"⟩
abbrev cX8_part : ByteArray := prog_10_method_73_code
def yX8_part : MethodName := ⟨RX8, "part", "(I)J"⟩
abbrev cX8_image : ByteArray := prog_10_method_74_code
def yX8_image : MethodName := ⟨RX8, "image", "(I)I"⟩
abbrev cX8_from : ByteArray := prog_10_method_75_code
def yX8_from : MethodName := ⟨RX8, "from", "(I)I"⟩
abbrev cX8_status : ByteArray := prog_10_method_76_code
def yX8_status : MethodName := ⟨RX8, "status", "(I)I"⟩
abbrev cX8_countOf : ByteArray := prog_10_method_77_code
def yX8_countOf : MethodName := ⟨RX8, "countOf", "(I)I"⟩
abbrev cX8_count : ByteArray := prog_10_method_78_code
def yX8_count : MethodName := ⟨RX8, "count", "(I)I"⟩
abbrev cX8_mix : ByteArray := prog_10_method_79_code
def yX8_mix : MethodName := ⟨RX8, "mix", "(J)V"⟩
abbrev cX8_digest : ByteArray := prog_10_method_80_code
def yX8_digest : MethodName := ⟨RX8, "digest", "()J"⟩
def RJx145de : String := "java/io/Serializable"
def TJx145de : u_T := fun k => match k with
  | _ => ("", "", "", false)
def tyJx145de : Nat → FieldType := fun k => match k with
  | _ => .int
abbrev wsJx145de0 : List Cond := u_ws RJx145de TJx145de 0
theorem nmJx145de : ∀ a, a < 0 → ∀ b, b < 0 → a ≠ b → (TJx145de a).2.1 ≠ (TJx145de b).2.1 := by decide +kernel
theorem tyJx145de_ok : ∀ k, k < 0 → parseFieldDescriptor (TJx145de k).2.2.1 = some (tyJx145de k) := by decide +kernel
def RJx9f9b0 : String := "java/lang/CharSequence"
def TJx9f9b0 : u_T := fun k => match k with
  | _ => ("", "", "", false)
def tyJx9f9b0 : Nat → FieldType := fun k => match k with
  | _ => .int
abbrev wsJx9f9b00 : List Cond := u_ws RJx9f9b0 TJx9f9b0 0
theorem nmJx9f9b0 : ∀ a, a < 0 → ∀ b, b < 0 → a ≠ b → (TJx9f9b0 a).2.1 ≠ (TJx9f9b0 b).2.1 := by decide +kernel
theorem tyJx9f9b0_ok : ∀ k, k < 0 → parseFieldDescriptor (TJx9f9b0 k).2.2.1 = some (tyJx9f9b0 k) := by decide +kernel
def RJxb160c : String := "java/lang/Comparable"
def TJxb160c : u_T := fun k => match k with
  | _ => ("", "", "", false)
def tyJxb160c : Nat → FieldType := fun k => match k with
  | _ => .int
abbrev wsJxb160c0 : List Cond := u_ws RJxb160c TJxb160c 0
theorem nmJxb160c : ∀ a, a < 0 → ∀ b, b < 0 → a ≠ b → (TJxb160c a).2.1 ≠ (TJxb160c b).2.1 := by decide +kernel
theorem tyJxb160c_ok : ∀ k, k < 0 → parseFieldDescriptor (TJxb160c k).2.2.1 = some (tyJxb160c k) := by decide +kernel
def RJ9 : String := "java/lang/Math"
def TJ9 : u_T := fun k => match k with
  | _ => ("", "", "", false)
def tyJ9 : Nat → FieldType := fun k => match k with
  | _ => .int
abbrev wsJ90 : List Cond := u_ws RJ9 TJ9 0
theorem nmJ9 : ∀ a, a < 0 → ∀ b, b < 0 → a ≠ b → (TJ9 a).2.1 ≠ (TJ9 b).2.1 := by decide +kernel
theorem tyJ9_ok : ∀ k, k < 0 → parseFieldDescriptor (TJ9 k).2.2.1 = some (tyJ9 k) := by decide +kernel
abbrev cJ9_max_7cf53 : ByteArray := prog_11_method_65_code
def yJ9_max_7cf53 : MethodName := ⟨RJ9, "max", "(II)I"⟩
abbrev cJ9_min_7cf53 : ByteArray := prog_11_method_69_code
def yJ9_min_7cf53 : MethodName := ⟨RJ9, "min", "(II)I"⟩
def RJ0 : String := "java/lang/String"
def TJ0 : u_T := fun k => match k with
  | _ => ("", "", "", false)
def tyJ0 : Nat → FieldType := fun k => match k with
  | _ => .int
abbrev wsJ00 : List Cond := u_ws RJ0 TJ0 0
theorem nmJ0 : ∀ a, a < 0 → ∀ b, b < 0 → a ≠ b → (TJ0 a).2.1 ≠ (TJ0 b).2.1 := by decide +kernel
theorem tyJ0_ok : ∀ k, k < 0 → parseFieldDescriptor (TJ0 k).2.2.1 = some (tyJ0 k) := by decide +kernel
abbrev cJ0_length_8abf5 : ByteArray := prog_12_method_54_code
def yJ0_length_8abf5 : MethodName := ⟨RJ0, "length", "()I"⟩
abbrev cJ0_charAt_5068e : ByteArray := prog_12_method_56_code
def yJ0_charAt_5068e : MethodName := ⟨RJ0, "charAt", "(I)C"⟩
abbrev cJ0_coder_7d493 : ByteArray := prog_12_method_152_code
def yJ0_coder_7d493 : MethodName := ⟨RJ0, "coder", "()B"⟩
abbrev cJ0_isLatin1_aae02 : ByteArray := prog_12_method_154_code
def yJ0_isLatin1_aae02 : MethodName := ⟨RJ0, "isLatin1", "()Z"⟩
abbrev cJ0_checkIndex_df160 : ByteArray := prog_12_method_155_code
def yJ0_checkIndex_df160 : MethodName := ⟨RJ0, "checkIndex", "(II)V"⟩
def RJ1 : String := "java/lang/StringLatin1"
def TJ1 : u_T := fun k => match k with
  | _ => ("", "", "", false)
def tyJ1 : Nat → FieldType := fun k => match k with
  | _ => .int
abbrev wsJ10 : List Cond := u_ws RJ1 TJ1 0
theorem nmJ1 : ∀ a, a < 0 → ∀ b, b < 0 → a ≠ b → (TJ1 a).2.1 ≠ (TJ1 b).2.1 := by decide +kernel
theorem tyJ1_ok : ∀ k, k < 0 → parseFieldDescriptor (TJ1 k).2.2.1 = some (tyJ1 k) := by decide +kernel
abbrev cJ1_charAt_3b067 : ByteArray := prog_13_method_2_code
def yJ1_charAt_3b067 : MethodName := ⟨RJ1, "charAt", "([BI)C"⟩
def RJ2 : String := "java/lang/StringUTF16"
def TJ2 : u_T := fun k => match k with
  | _ => ("", "", "", false)
def tyJ2 : Nat → FieldType := fun k => match k with
  | _ => .int
abbrev wsJ20 : List Cond := u_ws RJ2 TJ2 0
theorem nmJ2 : ∀ a, a < 0 → ∀ b, b < 0 → a ≠ b → (TJ2 a).2.1 ≠ (TJ2 b).2.1 := by decide +kernel
theorem tyJ2_ok : ∀ k, k < 0 → parseFieldDescriptor (TJ2 k).2.2.1 = some (tyJ2 k) := by decide +kernel
abbrev cJ2_getChar_3b067 : ByteArray := prog_14_method_5_code
def yJ2_getChar_3b067 : MethodName := ⟨RJ2, "getChar", "([BI)C"⟩
abbrev cJ2_length_9d52b : ByteArray := prog_14_method_6_code
def yJ2_length_9d52b : MethodName := ⟨RJ2, "length", "([B)I"⟩
abbrev cJ2_charAt_3b067 : ByteArray := prog_14_method_83_code
def yJ2_charAt_3b067 : MethodName := ⟨RJ2, "charAt", "([BI)C"⟩
abbrev cJ2_checkIndex_2214a : ByteArray := prog_14_method_91_code
def yJ2_checkIndex_2214a : MethodName := ⟨RJ2, "checkIndex", "(I[B)V"⟩
def RJ10 : String := "java/lang/System"
def TJ10 : u_T := fun k => match k with
  | _ => ("", "", "", false)
def tyJ10 : Nat → FieldType := fun k => match k with
  | _ => .int
abbrev wsJ100 : List Cond := u_ws RJ10 TJ10 0
theorem nmJ10 : ∀ a, a < 0 → ∀ b, b < 0 → a ≠ b → (TJ10 a).2.1 ≠ (TJ10 b).2.1 := by decide +kernel
theorem tyJ10_ok : ∀ k, k < 0 → parseFieldDescriptor (TJ10 k).2.2.1 = some (tyJ10 k) := by decide +kernel
def RJxfd54e : String := "java/lang/constant/Constable"
def TJxfd54e : u_T := fun k => match k with
  | _ => ("", "", "", false)
def tyJxfd54e : Nat → FieldType := fun k => match k with
  | _ => .int
abbrev wsJxfd54e0 : List Cond := u_ws RJxfd54e TJxfd54e 0
theorem nmJxfd54e : ∀ a, a < 0 → ∀ b, b < 0 → a ≠ b → (TJxfd54e a).2.1 ≠ (TJxfd54e b).2.1 := by decide +kernel
theorem tyJxfd54e_ok : ∀ k, k < 0 → parseFieldDescriptor (TJxfd54e k).2.2.1 = some (tyJxfd54e k) := by decide +kernel
def RJx3cf43 : String := "java/lang/constant/ConstantDesc"
def TJx3cf43 : u_T := fun k => match k with
  | _ => ("", "", "", false)
def tyJx3cf43 : Nat → FieldType := fun k => match k with
  | _ => .int
abbrev wsJx3cf430 : List Cond := u_ws RJx3cf43 TJx3cf43 0
theorem nmJx3cf43 : ∀ a, a < 0 → ∀ b, b < 0 → a ≠ b → (TJx3cf43 a).2.1 ≠ (TJx3cf43 b).2.1 := by decide +kernel
theorem tyJx3cf43_ok : ∀ k, k < 0 → parseFieldDescriptor (TJx3cf43 k).2.2.1 = some (tyJx3cf43 k) := by decide +kernel
def RJ7 : String := "java/util/Arrays"
def TJ7 : u_T := fun k => match k with
  | _ => ("", "", "", false)
def tyJ7 : Nat → FieldType := fun k => match k with
  | _ => .int
abbrev wsJ70 : List Cond := u_ws RJ7 TJ7 0
theorem nmJ7 : ∀ a, a < 0 → ∀ b, b < 0 → a ≠ b → (TJ7 a).2.1 ≠ (TJ7 b).2.1 := by decide +kernel
theorem tyJ7_ok : ∀ k, k < 0 → parseFieldDescriptor (TJ7 k).2.2.1 = some (tyJ7 k) := by decide +kernel
abbrev cJ7_fill_d0a16 : ByteArray := prog_16_method_101_code
def yJ7_fill_d0a16 : MethodName := ⟨RJ7, "fill", "([JJ)V"⟩
abbrev cJ7_fill_53178 : ByteArray := prog_16_method_103_code
def yJ7_fill_53178 : MethodName := ⟨RJ7, "fill", "([II)V"⟩
def RJ3 : String := "jdk/internal/util/Preconditions"
def TJ3 : u_T := fun k => match k with
  | _ => ("", "", "", false)
def tyJ3 : Nat → FieldType := fun k => match k with
  | _ => .int
abbrev wsJ30 : List Cond := u_ws RJ3 TJ3 0
theorem nmJ3 : ∀ a, a < 0 → ∀ b, b < 0 → a ≠ b → (TJ3 a).2.1 ≠ (TJ3 b).2.1 := by decide +kernel
theorem tyJ3_ok : ∀ k, k < 0 → parseFieldDescriptor (TJ3 k).2.2.1 = some (tyJ3 k) := by decide +kernel
abbrev cJ3_checkIndex_8e157 : ByteArray := prog_17_method_11_code
def yJ3_checkIndex_8e157 : MethodName := ⟨RJ3, "checkIndex", "(IILjava/util/function/BiFunction;)I"⟩
def RL : String := "SoldStopsLaw"
abbrev cL_law : ByteArray := code
def yL_law : MethodName := ⟨RL, "law", "([I)Z"⟩
def wsX0_init : List Cond := .code yX0_init cX0_init 1 none :: ([.methodLink RX0 3 objectInit, .instanceMethod objectInit, .code objectInit ⟨#[0xb1]⟩ 1 none, .fieldLink RX0 9 "SoldStops$Chance" "above" "J", .fieldLink RX0 15 "SoldStops$Chance" "below" "J", .arrayClass .long, .fieldLink RX0 18 "SoldStops$Chance" "now" "[J", .fieldLink RX0 22 "SoldStops$Chance" "then" "[J"] ++ wsX00)
def wsJ7_fill_d0a16 : List Cond := .code yJ7_fill_d0a16 cJ7_fill_d0a16 5 none :: ([])
def wsX1_breathBehind : List Cond := .code yX1_breathBehind cX1_breathBehind 5 (some .int) :: ([.methodLink RX1 9 Lib.Math.min.name, .static Lib.Math.min.name, .initialized "java/lang/Math", .code Lib.Math.min.name Lib.Math.min.code 2 (some .int), .methodLink RX1 15 Lib.Math.max.name, .static Lib.Math.max.name, .code Lib.Math.max.name Lib.Math.max.code 2 (some .int)])
def wsX0_step_r1 : List Cond := [Cond.fieldLink RX0 22 "SoldStops$Chance" "then" "[J", Cond.fieldLink RX0 60 "SoldStops$Page" "lengths" "[I", Cond.fieldLink RX0 31 "SoldStops$Page" "breath" "I", Cond.fieldLink RX0 40 "SoldStops$Page" "marks" "LSoldStops$Marks;", Cond.fieldLink RX0 44 "SoldStops$Marks" "kinds" "[I", Cond.fieldLink RX0 18 "SoldStops$Chance" "now" "[J", Cond.methodLink RX0 69 arraycopyName, Cond.native arraycopyName, Cond.static arraycopyName, Cond.initialized "java/lang/System", Cond.methodLink RX0 25 yJ7_fill_d0a16, Cond.static yJ7_fill_d0a16, Cond.initialized RJ7, Cond.code yJ7_fill_d0a16 cJ7_fill_d0a16 5 none, Cond.methodLink RX0 63 yX1_breathBehind, Cond.static yX1_breathBehind, Cond.initialized RX1, Cond.code yX1_breathBehind cX1_breathBehind 5 (some .int), Cond.methodLink RX1 9 Lib.Math.min.name, Cond.static Lib.Math.min.name, Cond.initialized "java/lang/Math", Cond.code Lib.Math.min.name Lib.Math.min.code 2 (some .int), Cond.methodLink RX1 15 Lib.Math.max.name, Cond.static Lib.Math.max.name]
def wsX0_step_r2 : List Cond := [Cond.code Lib.Math.max.name Lib.Math.max.code 2 (some .int)]
def wsX0_step : List Cond := .code yX0_step cX0_step 8 none :: ((wsX0_step_r1 ++ wsX0_step_r2) ++ wsX00 ++ wsX40 ++ wsX20)
def wsX0_setLowest : List Cond := .code yX0_setLowest cX0_setLowest 12 none :: ([.fieldLink RX0 9 "SoldStops$Chance" "above" "J", .fieldLink RX0 15 "SoldStops$Chance" "below" "J"] ++ wsX00)
def wsX0_reckon_r1 : List Cond := [Cond.fieldLink RX0 18 "SoldStops$Chance" "now" "[J", Cond.fieldLink RX0 31 "SoldStops$Page" "breath" "I", Cond.fieldLink RX0 37 "SoldStops$Page" "words" "I", Cond.fieldLink RX0 40 "SoldStops$Page" "marks" "LSoldStops$Marks;", Cond.fieldLink RX0 44 "SoldStops$Marks" "kinds" "[I", Cond.constantLong RX0 54 (10), Cond.methodLink RX0 25 yJ7_fill_d0a16, Cond.static yJ7_fill_d0a16, Cond.initialized RJ7, Cond.code yJ7_fill_d0a16 cJ7_fill_d0a16 5 none, Cond.methodLink RX0 50 yX0_step, Cond.instanceMethod yX0_step, Cond.selects RX0 yX0_step yX0_step, Cond.initialized RX0, Cond.code yX0_step cX0_step 8 none, Cond.fieldLink RX0 22 "SoldStops$Chance" "then" "[J", Cond.fieldLink RX0 60 "SoldStops$Page" "lengths" "[I", Cond.methodLink RX0 69 arraycopyName, Cond.native arraycopyName, Cond.static arraycopyName, Cond.initialized "java/lang/System", Cond.methodLink RX0 63 yX1_breathBehind, Cond.static yX1_breathBehind, Cond.initialized RX1]
def wsX0_reckon_r2 : List Cond := [Cond.code yX1_breathBehind cX1_breathBehind 5 (some .int), Cond.methodLink RX1 9 Lib.Math.min.name, Cond.static Lib.Math.min.name, Cond.initialized "java/lang/Math", Cond.code Lib.Math.min.name Lib.Math.min.code 2 (some .int), Cond.methodLink RX1 15 Lib.Math.max.name, Cond.static Lib.Math.max.name, Cond.code Lib.Math.max.name Lib.Math.max.code 2 (some .int), Cond.methodLink RX0 56 yX0_setLowest, Cond.instanceMethod yX0_setLowest, Cond.selects RX0 yX0_setLowest yX0_setLowest, Cond.code yX0_setLowest cX0_setLowest 12 none, Cond.fieldLink RX0 9 "SoldStops$Chance" "above" "J", Cond.fieldLink RX0 15 "SoldStops$Chance" "below" "J"]
def wsX0_reckon : List Cond := .code yX0_reckon cX0_reckon 8 none :: ((wsX0_reckon_r1 ++ wsX0_reckon_r2) ++ wsX00 ++ wsX40 ++ wsX20)
def wsX1_isOne : List Cond := .code yX1_isOne cX1_isOne 1 (some .boolean) :: ([])
def wsX1_cost : List Cond := .code yX1_cost cX1_cost 5 (some .int) :: ([])
def wsX1_lasts : List Cond := .code yX1_lasts cX1_lasts 1 (some .int) :: ([])
def wsX1_ends : List Cond := .code yX1_ends cX1_ends 1 (some .boolean) :: ([])
def wsX2_init : List Cond := .code yX2_init cX2_init 1 none :: ([.methodLink RX2 3 objectInit, .instanceMethod objectInit, .code objectInit ⟨#[0xb1]⟩ 1 none, .arrayClass .int, .fieldLink RX2 9 "SoldStops$Marks" "kinds" "[I", .fieldLink RX2 15 "SoldStops$Marks" "reads" "[I"] ++ wsX20)
def wsX2_set : List Cond := .code yX2_set cX2_set 3 none :: ([.fieldLink RX2 9 "SoldStops$Marks" "kinds" "[I", .fieldLink RX2 15 "SoldStops$Marks" "reads" "[I"] ++ wsX20)
def wsX2_readOnce : List Cond := .code yX2_readOnce cX2_readOnce 3 none :: ([.fieldLink RX2 9 "SoldStops$Marks" "kinds" "[I", .fieldLink RX2 15 "SoldStops$Marks" "reads" "[I", .methodLink RX2 18 yX1_lasts, .static yX1_lasts, .initialized RX1, .code yX1_lasts cX1_lasts 1 (some .int), .methodLink RX2 24 yX2_set, .instanceMethod yX2_set, .selects RX2 yX2_set yX2_set, .initialized RX2, .code yX2_set cX2_set 3 none] ++ wsX20)
def wsX2_copy : List Cond := .code yX2_copy cX2_copy 2 none :: ([.fieldLink RX2 28 "SoldStops$Marks" "purse" "I", .fieldLink RX2 32 "SoldStops$Marks" "week" "I", .fieldLink RX2 9 "SoldStops$Marks" "kinds" "[I", .methodLink RX2 35 arraycopyName, .native arraycopyName, .static arraycopyName, .initialized "java/lang/System", .fieldLink RX2 15 "SoldStops$Marks" "reads" "[I"] ++ wsX20)
def wsX3_init : List Cond := .code yX3_init cX3_init 1 none :: ([.methodLink RX3 3 objectInit, .instanceMethod objectInit, .code objectInit ⟨#[0xb1]⟩ 1 none, .arrayClass .int, .fieldLink RX3 9 "SoldStops$Order" "best" "[I", .fieldLink RX3 15 "SoldStops$Order" "row" "[I", .arrayClass .boolean, .fieldLink RX3 18 "SoldStops$Order" "used" "[Z"] ++ wsX30)
def wsX3_keepRow : List Cond := .code yX3_keepRow cX3_keepRow 5 none :: ([.fieldLink RX3 22 "SoldStops$Order" "most" "I", .fieldLink RX3 15 "SoldStops$Order" "row" "[I", .fieldLink RX3 9 "SoldStops$Order" "best" "[I", .methodLink RX3 49 arraycopyName, .native arraycopyName, .static arraycopyName, .initialized "java/lang/System", .fieldLink RX3 18 "SoldStops$Order" "used" "[Z"] ++ wsX30)
def wsX4_leftBehind : List Cond := .code yX4_leftBehind cX4_leftBehind 5 (some .int) :: ([.fieldLink RX4 25 "SoldStops$Page" "marks" "LSoldStops$Marks;", .fieldLink RX4 71 "SoldStops$Marks" "kinds" "[I", .methodLink RX4 77 yX1_breathBehind, .static yX1_breathBehind, .initialized RX1, .code yX1_breathBehind cX1_breathBehind 5 (some .int), .methodLink RX1 9 Lib.Math.min.name, .static Lib.Math.min.name, .initialized "java/lang/Math", .code Lib.Math.min.name Lib.Math.min.code 2 (some .int), .methodLink RX1 15 Lib.Math.max.name, .static Lib.Math.max.name, .code Lib.Math.max.name Lib.Math.max.code 2 (some .int)] ++ wsX40 ++ wsX20)
def wsX3_extend_r1 : List Cond := [Cond.fieldLink RX3 22 "SoldStops$Order" "most" "I", Cond.fieldLink RX3 35 "SoldStops$Page" "words" "I", Cond.fieldLink RX3 42 "SoldStops$Page" "lengths" "[I", Cond.fieldLink RX3 26 "SoldStops$Page" "breath" "I", Cond.fieldLink RX3 18 "SoldStops$Order" "used" "[Z", Cond.fieldLink RX3 15 "SoldStops$Order" "row" "[I", Cond.methodLink RX3 38 yX3_keepRow, Cond.instanceMethod yX3_keepRow, Cond.selects RX3 yX3_keepRow yX3_keepRow, Cond.initialized RX3, Cond.code yX3_keepRow cX3_keepRow 5 none, Cond.fieldLink RX3 9 "SoldStops$Order" "best" "[I", Cond.methodLink RX3 49 arraycopyName, Cond.native arraycopyName, Cond.static arraycopyName, Cond.initialized "java/lang/System", Cond.methodLink RX3 45 yX4_leftBehind, Cond.instanceMethod yX4_leftBehind, Cond.selects RX4 yX4_leftBehind yX4_leftBehind, Cond.initialized RX4, Cond.code yX4_leftBehind cX4_leftBehind 5 (some .int), Cond.fieldLink RX4 25 "SoldStops$Page" "marks" "LSoldStops$Marks;", Cond.fieldLink RX4 71 "SoldStops$Marks" "kinds" "[I", Cond.methodLink RX4 77 yX1_breathBehind]
def wsX3_extend_r2 : List Cond := [Cond.static yX1_breathBehind, Cond.initialized RX1, Cond.code yX1_breathBehind cX1_breathBehind 5 (some .int), Cond.methodLink RX1 9 Lib.Math.min.name, Cond.static Lib.Math.min.name, Cond.initialized "java/lang/Math", Cond.code Lib.Math.min.name Lib.Math.min.code 2 (some .int), Cond.methodLink RX1 15 Lib.Math.max.name, Cond.static Lib.Math.max.name, Cond.code Lib.Math.max.name Lib.Math.max.code 2 (some .int), Cond.methodLink RX3 31 yX3_extend, Cond.static yX3_extend]
def wsX3_extend : List Cond := .code yX3_extend cX3_extend 6 none :: ((wsX3_extend_r1 ++ wsX3_extend_r2) ++ wsX30 ++ wsX40 ++ wsX20)
def wsX3_search_r1 : List Cond := [Cond.fieldLink RX3 22 "SoldStops$Order" "most" "I", Cond.fieldLink RX3 9 "SoldStops$Order" "best" "[I", Cond.fieldLink RX3 18 "SoldStops$Order" "used" "[Z", Cond.fieldLink RX3 26 "SoldStops$Page" "breath" "I", Cond.methodLink RX3 31 yX3_extend, Cond.static yX3_extend, Cond.initialized RX3, Cond.code yX3_extend cX3_extend 6 none, Cond.fieldLink RX3 35 "SoldStops$Page" "words" "I", Cond.fieldLink RX3 42 "SoldStops$Page" "lengths" "[I", Cond.fieldLink RX3 15 "SoldStops$Order" "row" "[I", Cond.methodLink RX3 38 yX3_keepRow, Cond.instanceMethod yX3_keepRow, Cond.selects RX3 yX3_keepRow yX3_keepRow, Cond.code yX3_keepRow cX3_keepRow 5 none, Cond.methodLink RX3 49 arraycopyName, Cond.native arraycopyName, Cond.static arraycopyName, Cond.initialized "java/lang/System", Cond.methodLink RX3 45 yX4_leftBehind, Cond.instanceMethod yX4_leftBehind, Cond.selects RX4 yX4_leftBehind yX4_leftBehind, Cond.initialized RX4, Cond.code yX4_leftBehind cX4_leftBehind 5 (some .int)]
def wsX3_search_r2 : List Cond := [Cond.fieldLink RX4 25 "SoldStops$Page" "marks" "LSoldStops$Marks;", Cond.fieldLink RX4 71 "SoldStops$Marks" "kinds" "[I", Cond.methodLink RX4 77 yX1_breathBehind, Cond.static yX1_breathBehind, Cond.initialized RX1, Cond.code yX1_breathBehind cX1_breathBehind 5 (some .int), Cond.methodLink RX1 9 Lib.Math.min.name, Cond.static Lib.Math.min.name, Cond.initialized "java/lang/Math", Cond.code Lib.Math.min.name Lib.Math.min.code 2 (some .int), Cond.methodLink RX1 15 Lib.Math.max.name, Cond.static Lib.Math.max.name, Cond.code Lib.Math.max.name Lib.Math.max.code 2 (some .int)]
def wsX3_search : List Cond := .code yX3_search cX3_search 3 none :: ((wsX3_search_r1 ++ wsX3_search_r2) ++ wsX30 ++ wsX40 ++ wsX20)
def wsX4_init : List Cond := .code yX4_init cX4_init 2 none :: ([.methodLink RX4 3 objectInit, .instanceMethod objectInit, .code objectInit ⟨#[0xb1]⟩ 1 none, .fieldLink RX4 9 "SoldStops$Page" "breath" "I", .fieldLink RX4 15 "SoldStops$Page" "price" "I", .arrayClass .int, .fieldLink RX4 18 "SoldStops$Page" "lengths" "[I", .classLink RX4 22 RX2, .instantiable RX2 4, .initialized RX2, .fieldLink RX4 25 "SoldStops$Page" "marks" "LSoldStops$Marks;", .fieldLink RX4 29 "SoldStops$Page" "heard" "[I", .fieldLink RX4 32 "SoldStops$Page" "past" "[LSoldStops$Marks;", .instanceMethod yX2_init, .code yX2_init cX2_init 1 none, .methodLink RX2 3 objectInit, .fieldLink RX2 9 "SoldStops$Marks" "kinds" "[I", .fieldLink RX2 15 "SoldStops$Marks" "reads" "[I"] ++ wsX40 ++ wsX20)
def wsX4_begin : List Cond := .code yX4_begin cX4_begin 3 none :: ([.fieldLink RX4 9 "SoldStops$Page" "breath" "I", .fieldLink RX4 15 "SoldStops$Page" "price" "I", .fieldLink RX4 25 "SoldStops$Page" "marks" "LSoldStops$Marks;", .fieldLink RX4 36 "SoldStops$Marks" "purse" "I", .fieldLink RX4 39 "SoldStops$Marks" "week" "I", .fieldLink RX4 42 "SoldStops$Page" "words" "I", .fieldLink RX4 45 "SoldStops$Page" "heards" "I", .fieldLink RX4 48 "SoldStops$Page" "pasts" "I"] ++ wsX40 ++ wsX20)
def wsX4_copy : List Cond := .code yX4_copy cX4_copy 3 none :: ([.fieldLink RX4 9 "SoldStops$Page" "breath" "I", .fieldLink RX4 15 "SoldStops$Page" "price" "I", .fieldLink RX4 42 "SoldStops$Page" "words" "I", .fieldLink RX4 45 "SoldStops$Page" "heards" "I", .fieldLink RX4 48 "SoldStops$Page" "pasts" "I", .fieldLink RX4 18 "SoldStops$Page" "lengths" "[I", .methodLink RX4 51 arraycopyName, .native arraycopyName, .static arraycopyName, .initialized "java/lang/System", .fieldLink RX4 29 "SoldStops$Page" "heard" "[I", .fieldLink RX4 25 "SoldStops$Page" "marks" "LSoldStops$Marks;", .fieldLink RX4 32 "SoldStops$Page" "past" "[LSoldStops$Marks;", .methodLink RX4 57 yX2_copy, .instanceMethod yX2_copy, .selects RX2 yX2_copy yX2_copy, .initialized RX2, .code yX2_copy cX2_copy 2 none, .fieldLink RX2 28 "SoldStops$Marks" "purse" "I", .fieldLink RX2 32 "SoldStops$Marks" "week" "I", .fieldLink RX2 9 "SoldStops$Marks" "kinds" "[I", .methodLink RX2 35 arraycopyName, .fieldLink RX2 15 "SoldStops$Marks" "reads" "[I"] ++ wsX40 ++ wsX20)
def wsX4_has : List Cond := .code yX4_has cX4_has 2 (some .boolean) :: ([.fieldLink RX4 42 "SoldStops$Page" "words" "I"] ++ wsX40)
def wsX4_hasRoom : List Cond := .code yX4_hasRoom cX4_hasRoom 1 (some .boolean) :: ([.fieldLink RX4 42 "SoldStops$Page" "words" "I"] ++ wsX40)
def wsX4_addWord : List Cond := .code yX4_addWord cX4_addWord 2 none :: ([.fieldLink RX4 18 "SoldStops$Page" "lengths" "[I", .fieldLink RX4 42 "SoldStops$Page" "words" "I", .fieldLink RX4 25 "SoldStops$Page" "marks" "LSoldStops$Marks;", .fieldLink RX4 48 "SoldStops$Page" "pasts" "I", .methodLink RX4 61 yX2_set, .instanceMethod yX2_set, .selects RX2 yX2_set yX2_set, .initialized RX2, .code yX2_set cX2_set 3 none, .fieldLink RX2 9 "SoldStops$Marks" "kinds" "[I", .fieldLink RX2 15 "SoldStops$Marks" "reads" "[I"] ++ wsX40 ++ wsX20)
def wsX4_setMark : List Cond := .code yX4_setMark cX4_setMark 3 none :: ([.fieldLink RX4 25 "SoldStops$Page" "marks" "LSoldStops$Marks;", .fieldLink RX4 48 "SoldStops$Page" "pasts" "I", .methodLink RX4 61 yX2_set, .instanceMethod yX2_set, .selects RX2 yX2_set yX2_set, .initialized RX2, .code yX2_set cX2_set 3 none, .fieldLink RX2 9 "SoldStops$Marks" "kinds" "[I", .fieldLink RX2 15 "SoldStops$Marks" "reads" "[I"] ++ wsX40 ++ wsX20)
def wsX4_costOf : List Cond := .code yX4_costOf cX4_costOf 2 (some .int) :: ([.fieldLink RX4 15 "SoldStops$Page" "price" "I", .fieldLink RX4 25 "SoldStops$Page" "marks" "LSoldStops$Marks;", .fieldLink RX4 39 "SoldStops$Marks" "week" "I", .methodLink RX4 65 yX1_cost, .static yX1_cost, .initialized RX1, .code yX1_cost cX1_cost 5 (some .int)] ++ wsX40 ++ wsX20)
def wsX4_howManyMarks : List Cond := .code yX4_howManyMarks cX4_howManyMarks 3 (some .int) :: ([.fieldLink RX4 42 "SoldStops$Page" "words" "I", .fieldLink RX4 25 "SoldStops$Page" "marks" "LSoldStops$Marks;", .fieldLink RX4 71 "SoldStops$Marks" "kinds" "[I"] ++ wsX40 ++ wsX20)
def wsX4_dropOldest : List Cond := .code yX4_dropOldest cX4_dropOldest 3 none :: ([.fieldLink RX4 32 "SoldStops$Page" "past" "[LSoldStops$Marks;", .fieldLink RX4 48 "SoldStops$Page" "pasts" "I"] ++ wsX40)
def wsX4_remember : List Cond := .code yX4_remember cX4_remember 1 none :: ([.fieldLink RX4 48 "SoldStops$Page" "pasts" "I", .fieldLink RX4 32 "SoldStops$Page" "past" "[LSoldStops$Marks;", .fieldLink RX4 25 "SoldStops$Page" "marks" "LSoldStops$Marks;", .methodLink RX4 74 yX4_dropOldest, .instanceMethod yX4_dropOldest, .selects RX4 yX4_dropOldest yX4_dropOldest, .initialized RX4, .code yX4_dropOldest cX4_dropOldest 3 none, .methodLink RX4 57 yX2_copy, .instanceMethod yX2_copy, .selects RX2 yX2_copy yX2_copy, .initialized RX2, .code yX2_copy cX2_copy 2 none, .fieldLink RX2 28 "SoldStops$Marks" "purse" "I", .fieldLink RX2 32 "SoldStops$Marks" "week" "I", .fieldLink RX2 9 "SoldStops$Marks" "kinds" "[I", .methodLink RX2 35 arraycopyName, .native arraycopyName, .static arraycopyName, .initialized "java/lang/System", .fieldLink RX2 15 "SoldStops$Marks" "reads" "[I"] ++ wsX40 ++ wsX20)
def wsX4_goBack : List Cond := .code yX4_goBack cX4_goBack 1 none :: ([.fieldLink RX4 48 "SoldStops$Page" "pasts" "I", .fieldLink RX4 25 "SoldStops$Page" "marks" "LSoldStops$Marks;", .fieldLink RX4 32 "SoldStops$Page" "past" "[LSoldStops$Marks;", .methodLink RX4 57 yX2_copy, .instanceMethod yX2_copy, .selects RX2 yX2_copy yX2_copy, .initialized RX2, .code yX2_copy cX2_copy 2 none, .fieldLink RX2 28 "SoldStops$Marks" "purse" "I", .fieldLink RX2 32 "SoldStops$Marks" "week" "I", .fieldLink RX2 9 "SoldStops$Marks" "kinds" "[I", .methodLink RX2 35 arraycopyName, .native arraycopyName, .static arraycopyName, .initialized "java/lang/System", .fieldLink RX2 15 "SoldStops$Marks" "reads" "[I"] ++ wsX40 ++ wsX20)
def wsX4_say_r1 : List Cond := [Cond.fieldLink RX4 9 "SoldStops$Page" "breath" "I", Cond.fieldLink RX4 42 "SoldStops$Page" "words" "I", Cond.fieldLink RX4 18 "SoldStops$Page" "lengths" "[I", Cond.fieldLink RX4 25 "SoldStops$Page" "marks" "LSoldStops$Marks;", Cond.methodLink RX4 80 yX4_leftBehind, Cond.instanceMethod yX4_leftBehind, Cond.selects RX4 yX4_leftBehind yX4_leftBehind, Cond.initialized RX4, Cond.code yX4_leftBehind cX4_leftBehind 5 (some .int), Cond.fieldLink RX4 71 "SoldStops$Marks" "kinds" "[I", Cond.methodLink RX4 77 yX1_breathBehind, Cond.static yX1_breathBehind, Cond.initialized RX1, Cond.code yX1_breathBehind cX1_breathBehind 5 (some .int), Cond.methodLink RX1 9 Lib.Math.min.name, Cond.static Lib.Math.min.name, Cond.initialized "java/lang/Math", Cond.code Lib.Math.min.name Lib.Math.min.code 2 (some .int), Cond.methodLink RX1 15 Lib.Math.max.name, Cond.static Lib.Math.max.name, Cond.code Lib.Math.max.name Lib.Math.max.code 2 (some .int), Cond.methodLink RX4 84 yX2_readOnce, Cond.instanceMethod yX2_readOnce, Cond.selects RX2 yX2_readOnce yX2_readOnce]
def wsX4_say_r2 : List Cond := [Cond.initialized RX2, Cond.code yX2_readOnce cX2_readOnce 3 none, Cond.fieldLink RX2 9 "SoldStops$Marks" "kinds" "[I", Cond.fieldLink RX2 15 "SoldStops$Marks" "reads" "[I", Cond.methodLink RX2 18 yX1_lasts, Cond.static yX1_lasts, Cond.code yX1_lasts cX1_lasts 1 (some .int), Cond.methodLink RX2 24 yX2_set, Cond.instanceMethod yX2_set, Cond.selects RX2 yX2_set yX2_set, Cond.code yX2_set cX2_set 3 none]
def wsX4_say : List Cond := .code yX4_say cX4_say 3 (some .int) :: ((wsX4_say_r1 ++ wsX4_say_r2) ++ wsX40 ++ wsX20)
def wsX4_stuckAt : List Cond := .code yX4_stuckAt cX4_stuckAt 5 (some .int) :: ([.fieldLink RX4 42 "SoldStops$Page" "words" "I", .fieldLink RX4 18 "SoldStops$Page" "lengths" "[I", .methodLink RX4 80 yX4_leftBehind, .instanceMethod yX4_leftBehind, .selects RX4 yX4_leftBehind yX4_leftBehind, .initialized RX4, .code yX4_leftBehind cX4_leftBehind 5 (some .int), .fieldLink RX4 25 "SoldStops$Page" "marks" "LSoldStops$Marks;", .fieldLink RX4 71 "SoldStops$Marks" "kinds" "[I", .methodLink RX4 77 yX1_breathBehind, .static yX1_breathBehind, .initialized RX1, .code yX1_breathBehind cX1_breathBehind 5 (some .int), .methodLink RX1 9 Lib.Math.min.name, .static Lib.Math.min.name, .initialized "java/lang/Math", .code Lib.Math.min.name Lib.Math.min.code 2 (some .int), .methodLink RX1 15 Lib.Math.max.name, .static Lib.Math.max.name, .code Lib.Math.max.name Lib.Math.max.code 2 (some .int)] ++ wsX40 ++ wsX20)
def wsX4_breathsStuckAt : List Cond := .code yX4_breathsStuckAt cX4_breathsStuckAt 4 (some .int) :: ([.methodLink RX4 88 yX4_stuckAt, .instanceMethod yX4_stuckAt, .selects RX4 yX4_stuckAt yX4_stuckAt, .initialized RX4, .code yX4_stuckAt cX4_stuckAt 5 (some .int), .fieldLink RX4 42 "SoldStops$Page" "words" "I", .fieldLink RX4 18 "SoldStops$Page" "lengths" "[I", .methodLink RX4 80 yX4_leftBehind, .instanceMethod yX4_leftBehind, .selects RX4 yX4_leftBehind yX4_leftBehind, .code yX4_leftBehind cX4_leftBehind 5 (some .int), .fieldLink RX4 25 "SoldStops$Page" "marks" "LSoldStops$Marks;", .fieldLink RX4 71 "SoldStops$Marks" "kinds" "[I", .methodLink RX4 77 yX1_breathBehind, .static yX1_breathBehind, .initialized RX1, .code yX1_breathBehind cX1_breathBehind 5 (some .int), .methodLink RX1 9 Lib.Math.min.name, .static Lib.Math.min.name, .initialized "java/lang/Math", .code Lib.Math.min.name Lib.Math.min.code 2 (some .int), .methodLink RX1 15 Lib.Math.max.name, .static Lib.Math.max.name, .code Lib.Math.max.name Lib.Math.max.code 2 (some .int)] ++ wsX40 ++ wsX20)
def wsX4_addHeard : List Cond := .code yX4_addHeard cX4_addHeard 2 none :: ([.fieldLink RX4 29 "SoldStops$Page" "heard" "[I", .fieldLink RX4 45 "SoldStops$Page" "heards" "I"] ++ wsX40)
def wsX4_breathsHeard : List Cond := .code yX4_breathsHeard cX4_breathsHeard 3 (some .int) :: ([.constant RX4 92 (2147483646), .fieldLink RX4 45 "SoldStops$Page" "heards" "I", .fieldLink RX4 29 "SoldStops$Page" "heard" "[I"] ++ wsX40)
def wsX4_lastIsEnded : List Cond := .code yX4_lastIsEnded cX4_lastIsEnded 1 (some .boolean) :: ([.fieldLink RX4 42 "SoldStops$Page" "words" "I", .fieldLink RX4 25 "SoldStops$Page" "marks" "LSoldStops$Marks;", .fieldLink RX4 71 "SoldStops$Marks" "kinds" "[I", .methodLink RX4 93 yX1_ends, .static yX1_ends, .initialized RX1, .code yX1_ends cX1_ends 1 (some .boolean)] ++ wsX40 ++ wsX20)
def wsX4_howManySentences : List Cond := .code yX4_howManySentences cX4_howManySentences 3 (some .int) :: ([.fieldLink RX4 42 "SoldStops$Page" "words" "I", .fieldLink RX4 25 "SoldStops$Page" "marks" "LSoldStops$Marks;", .fieldLink RX4 71 "SoldStops$Marks" "kinds" "[I", .methodLink RX4 93 yX1_ends, .static yX1_ends, .initialized RX1, .code yX1_ends cX1_ends 1 (some .boolean), .methodLink RX4 97 yX4_lastIsEnded, .instanceMethod yX4_lastIsEnded, .selects RX4 yX4_lastIsEnded yX4_lastIsEnded, .initialized RX4, .code yX4_lastIsEnded cX4_lastIsEnded 1 (some .boolean)] ++ wsX40 ++ wsX20)
def wsX4_longestSentence : List Cond := .code yX4_longestSentence cX4_longestSentence 7 (some .int) :: ([.fieldLink RX4 42 "SoldStops$Page" "words" "I", .fieldLink RX4 25 "SoldStops$Page" "marks" "LSoldStops$Marks;", .fieldLink RX4 71 "SoldStops$Marks" "kinds" "[I", .methodLink RX4 93 yX1_ends, .static yX1_ends, .initialized RX1, .code yX1_ends cX1_ends 1 (some .boolean)] ++ wsX40 ++ wsX20)
def wsX5_init : List Cond := .code yX5_init cX5_init 1 none :: ([.methodLink RX5 3 objectInit, .instanceMethod objectInit, .code objectInit ⟨#[0xb1]⟩ 1 none, .classLink RX5 9 "[[I", .arrayClass .int, .fieldLink RX5 11 "SoldStops$Plan" "costs" "[[I", .fieldLink RX5 16 "SoldStops$Plan" "fewest" "[[I", .fieldLink RX5 19 "SoldStops$Plan" "choices" "[[I", .fieldLink RX5 22 "SoldStops$Plan" "now" "[I", .fieldLink RX5 26 "SoldStops$Plan" "then" "[I"] ++ wsX50)
def wsJ7_fill_53178 : List Cond := .code yJ7_fill_53178 cJ7_fill_53178 4 none :: ([])
def wsX5_choose_r1 : List Cond := [Cond.fieldLink RX5 49 "SoldStops$Page" "marks" "LSoldStops$Marks;", Cond.fieldLink RX5 53 "SoldStops$Marks" "kinds" "[I", Cond.fieldLink RX5 42 "SoldStops$Page" "lengths" "[I", Cond.fieldLink RX5 11 "SoldStops$Plan" "costs" "[[I", Cond.fieldLink RX5 16 "SoldStops$Plan" "fewest" "[[I", Cond.constant RX5 41 (1000000), Cond.fieldLink RX5 19 "SoldStops$Plan" "choices" "[[I", Cond.methodLink RX5 60 yX1_breathBehind, Cond.static yX1_breathBehind, Cond.initialized RX1, Cond.code yX1_breathBehind cX1_breathBehind 5 (some .int), Cond.methodLink RX1 9 Lib.Math.min.name, Cond.static Lib.Math.min.name, Cond.initialized "java/lang/Math", Cond.code Lib.Math.min.name Lib.Math.min.code 2 (some .int), Cond.methodLink RX1 15 Lib.Math.max.name, Cond.static Lib.Math.max.name, Cond.code Lib.Math.max.name Lib.Math.max.code 2 (some .int), Cond.methodLink RX5 64 yX4_costOf, Cond.instanceMethod yX4_costOf, Cond.selects RX4 yX4_costOf yX4_costOf, Cond.initialized RX4, Cond.code yX4_costOf cX4_costOf 2 (some .int), Cond.fieldLink RX4 15 "SoldStops$Page" "price" "I"]
def wsX5_choose_r2 : List Cond := [Cond.fieldLink RX4 25 "SoldStops$Page" "marks" "LSoldStops$Marks;", Cond.fieldLink RX4 39 "SoldStops$Marks" "week" "I", Cond.methodLink RX4 65 yX1_cost, Cond.static yX1_cost, Cond.code yX1_cost cX1_cost 5 (some .int), Cond.methodLink RX5 68 yX1_ends, Cond.static yX1_ends, Cond.code yX1_ends cX1_ends 1 (some .boolean)]
def wsX5_choose : List Cond := .code yX5_choose cX5_choose 14 none :: ((wsX5_choose_r1 ++ wsX5_choose_r2) ++ wsX40 ++ wsX20 ++ wsX50)
def wsX5_make_r1 : List Cond := [Cond.fieldLink RX5 29 "SoldStops$Page" "words" "I", Cond.fieldLink RX5 11 "SoldStops$Plan" "costs" "[[I", Cond.fieldLink RX5 16 "SoldStops$Plan" "fewest" "[[I", Cond.constant RX5 41 (1000000), Cond.fieldLink RX5 19 "SoldStops$Plan" "choices" "[[I", Cond.fieldLink RX5 42 "SoldStops$Page" "lengths" "[I", Cond.methodLink RX5 35 yJ7_fill_53178, Cond.static yJ7_fill_53178, Cond.initialized RJ7, Cond.code yJ7_fill_53178 cJ7_fill_53178 4 none, Cond.methodLink RX5 45 yX5_choose, Cond.instanceMethod yX5_choose, Cond.selects RX5 yX5_choose yX5_choose, Cond.initialized RX5, Cond.code yX5_choose cX5_choose 14 none, Cond.fieldLink RX5 49 "SoldStops$Page" "marks" "LSoldStops$Marks;", Cond.fieldLink RX5 53 "SoldStops$Marks" "kinds" "[I", Cond.methodLink RX5 60 yX1_breathBehind, Cond.static yX1_breathBehind, Cond.initialized RX1, Cond.code yX1_breathBehind cX1_breathBehind 5 (some .int), Cond.methodLink RX1 9 Lib.Math.min.name, Cond.static Lib.Math.min.name, Cond.initialized "java/lang/Math"]
def wsX5_make_r2 : List Cond := [Cond.code Lib.Math.min.name Lib.Math.min.code 2 (some .int), Cond.methodLink RX1 15 Lib.Math.max.name, Cond.static Lib.Math.max.name, Cond.code Lib.Math.max.name Lib.Math.max.code 2 (some .int), Cond.methodLink RX5 64 yX4_costOf, Cond.instanceMethod yX4_costOf, Cond.selects RX4 yX4_costOf yX4_costOf, Cond.initialized RX4, Cond.code yX4_costOf cX4_costOf 2 (some .int), Cond.fieldLink RX4 15 "SoldStops$Page" "price" "I", Cond.fieldLink RX4 25 "SoldStops$Page" "marks" "LSoldStops$Marks;", Cond.fieldLink RX4 39 "SoldStops$Marks" "week" "I", Cond.methodLink RX4 65 yX1_cost, Cond.static yX1_cost, Cond.code yX1_cost cX1_cost 5 (some .int), Cond.methodLink RX5 68 yX1_ends, Cond.static yX1_ends, Cond.code yX1_ends cX1_ends 1 (some .boolean)]
def wsX5_make : List Cond := .code yX5_make cX5_make 8 none :: ((wsX5_make_r1 ++ wsX5_make_r2) ++ wsX40 ++ wsX50 ++ wsX20)
def wsX5_isThere : List Cond := .code yX5_isThere cX5_isThere 2 (some .boolean) :: ([.fieldLink RX5 11 "SoldStops$Plan" "costs" "[[I", .constant RX5 41 (1000000)] ++ wsX50)
def wsX5_cost : List Cond := .code yX5_cost cX5_cost 2 (some .int) :: ([.fieldLink RX5 11 "SoldStops$Plan" "costs" "[[I"] ++ wsX50)
def wsX5_kindBehind : List Cond := .code yX5_kindBehind cX5_kindBehind 8 (some .int) :: ([.fieldLink RX5 49 "SoldStops$Page" "marks" "LSoldStops$Marks;", .fieldLink RX5 53 "SoldStops$Marks" "kinds" "[I", .fieldLink RX5 19 "SoldStops$Plan" "choices" "[[I", .fieldLink RX5 42 "SoldStops$Page" "lengths" "[I", .methodLink RX5 60 yX1_breathBehind, .static yX1_breathBehind, .initialized RX1, .code yX1_breathBehind cX1_breathBehind 5 (some .int), .methodLink RX1 9 Lib.Math.min.name, .static Lib.Math.min.name, .initialized "java/lang/Math", .code Lib.Math.min.name Lib.Math.min.code 2 (some .int), .methodLink RX1 15 Lib.Math.max.name, .static Lib.Math.max.name, .code Lib.Math.max.name Lib.Math.max.code 2 (some .int)] ++ wsX40 ++ wsX20 ++ wsX50)
def wsX5_spread_r1 : List Cond := [Cond.fieldLink RX5 49 "SoldStops$Page" "marks" "LSoldStops$Marks;", Cond.fieldLink RX5 53 "SoldStops$Marks" "kinds" "[I", Cond.fieldLink RX5 42 "SoldStops$Page" "lengths" "[I", Cond.fieldLink RX5 72 "SoldStops$Page" "breath" "I", Cond.fieldLink RX5 26 "SoldStops$Plan" "then" "[I", Cond.fieldLink RX5 22 "SoldStops$Plan" "now" "[I", Cond.methodLink RX5 85 Lib.Math.min.name, Cond.static Lib.Math.min.name, Cond.initialized "java/lang/Math", Cond.code Lib.Math.min.name Lib.Math.min.code 2 (some .int), Cond.methodLink RX5 60 yX1_breathBehind, Cond.static yX1_breathBehind, Cond.initialized RX1, Cond.code yX1_breathBehind cX1_breathBehind 5 (some .int), Cond.methodLink RX1 9 Lib.Math.min.name, Cond.methodLink RX1 15 Lib.Math.max.name, Cond.static Lib.Math.max.name, Cond.code Lib.Math.max.name Lib.Math.max.code 2 (some .int), Cond.methodLink RX5 64 yX4_costOf, Cond.instanceMethod yX4_costOf, Cond.selects RX4 yX4_costOf yX4_costOf, Cond.initialized RX4, Cond.code yX4_costOf cX4_costOf 2 (some .int), Cond.fieldLink RX4 15 "SoldStops$Page" "price" "I"]
def wsX5_spread_r2 : List Cond := [Cond.fieldLink RX4 25 "SoldStops$Page" "marks" "LSoldStops$Marks;", Cond.fieldLink RX4 39 "SoldStops$Marks" "week" "I", Cond.methodLink RX4 65 yX1_cost, Cond.static yX1_cost, Cond.code yX1_cost cX1_cost 5 (some .int)]
def wsX5_spread : List Cond := .code yX5_spread cX5_spread 9 none :: ((wsX5_spread_r1 ++ wsX5_spread_r2) ++ wsX40 ++ wsX20 ++ wsX50)
def wsX5_reachFor_r1 : List Cond := [Cond.fieldLink RX5 22 "SoldStops$Plan" "now" "[I", Cond.constant RX5 41 (1000000), Cond.fieldLink RX5 72 "SoldStops$Page" "breath" "I", Cond.fieldLink RX5 29 "SoldStops$Page" "words" "I", Cond.fieldLink RX5 26 "SoldStops$Plan" "then" "[I", Cond.fieldLink RX5 42 "SoldStops$Page" "lengths" "[I", Cond.methodLink RX5 79 arraycopyName, Cond.native arraycopyName, Cond.static arraycopyName, Cond.initialized "java/lang/System", Cond.methodLink RX5 35 yJ7_fill_53178, Cond.static yJ7_fill_53178, Cond.initialized RJ7, Cond.code yJ7_fill_53178 cJ7_fill_53178 4 none, Cond.methodLink RX5 75 yX5_spread, Cond.instanceMethod yX5_spread, Cond.selects RX5 yX5_spread yX5_spread, Cond.initialized RX5, Cond.code yX5_spread cX5_spread 9 none, Cond.fieldLink RX5 49 "SoldStops$Page" "marks" "LSoldStops$Marks;", Cond.fieldLink RX5 53 "SoldStops$Marks" "kinds" "[I", Cond.methodLink RX5 85 Lib.Math.min.name, Cond.static Lib.Math.min.name, Cond.initialized "java/lang/Math"]
def wsX5_reachFor_r2 : List Cond := [Cond.code Lib.Math.min.name Lib.Math.min.code 2 (some .int), Cond.methodLink RX5 60 yX1_breathBehind, Cond.static yX1_breathBehind, Cond.initialized RX1, Cond.code yX1_breathBehind cX1_breathBehind 5 (some .int), Cond.methodLink RX1 9 Lib.Math.min.name, Cond.methodLink RX1 15 Lib.Math.max.name, Cond.static Lib.Math.max.name, Cond.code Lib.Math.max.name Lib.Math.max.code 2 (some .int), Cond.methodLink RX5 64 yX4_costOf, Cond.instanceMethod yX4_costOf, Cond.selects RX4 yX4_costOf yX4_costOf, Cond.initialized RX4, Cond.code yX4_costOf cX4_costOf 2 (some .int), Cond.fieldLink RX4 15 "SoldStops$Page" "price" "I", Cond.fieldLink RX4 25 "SoldStops$Page" "marks" "LSoldStops$Marks;", Cond.fieldLink RX4 39 "SoldStops$Marks" "week" "I", Cond.methodLink RX4 65 yX1_cost, Cond.static yX1_cost, Cond.code yX1_cost cX1_cost 5 (some .int)]
def wsX5_reachFor : List Cond := .code yX5_reachFor cX5_reachFor 6 (some .int) :: ((wsX5_reachFor_r1 ++ wsX5_reachFor_r2) ++ wsX50 ++ wsX40 ++ wsX20)
def wsX6_init : List Cond := .code yX6_init cX6_init 1 none :: ([.methodLink RX6 3 objectInit, .instanceMethod objectInit, .code objectInit ⟨#[0xb1]⟩ 1 none, .arrayClass .int, .fieldLink RX6 9 "SoldStops$Text" "bytes" "[I", .fieldLink RX6 15 "SoldStops$Text" "whats" "[I", .fieldLink RX6 18 "SoldStops$Text" "firsts" "[I", .fieldLink RX6 21 "SoldStops$Text" "seconds" "[I"] ++ wsX60)
def wsX6_add : List Cond := .code yX6_add cX6_add 2 none :: ([.fieldLink RX6 9 "SoldStops$Text" "bytes" "[I", .fieldLink RX6 24 "SoldStops$Text" "size" "I"] ++ wsX60)
def wsX6_runEnd : List Cond := .code yX6_runEnd cX6_runEnd 5 (some .int) :: ([.fieldLink RX6 24 "SoldStops$Text" "size" "I", .fieldLink RX6 9 "SoldStops$Text" "bytes" "[I"] ++ wsX60)
def wsJ0_coder_7d493 : List Cond := .code yJ0_coder_7d493 cJ0_coder_7d493 1 (some .byte) :: ([.fieldLink RJ0 38 "java/lang/String" "COMPACT_STRINGS" "Z", .fieldLink RJ0 15 "java/lang/String" "coder" "B"])
def wsJ0_length_8abf5 : List Cond := .code yJ0_length_8abf5 cJ0_length_8abf5 1 (some .int) :: ([.fieldLink RJ0 9 "java/lang/String" "value" "[B", .methodLink RJ0 335 yJ0_coder_7d493, .instanceMethod yJ0_coder_7d493, .selects RJ0 yJ0_coder_7d493 yJ0_coder_7d493, .initialized RJ0, .code yJ0_coder_7d493 cJ0_coder_7d493 1 (some .byte), .fieldLink RJ0 38 "java/lang/String" "COMPACT_STRINGS" "Z", .fieldLink RJ0 15 "java/lang/String" "coder" "B"])
def wsJ0_isLatin1_aae02 : List Cond := .code yJ0_isLatin1_aae02 cJ0_isLatin1_aae02 1 (some .boolean) :: ([.fieldLink RJ0 38 "java/lang/String" "COMPACT_STRINGS" "Z", .fieldLink RJ0 15 "java/lang/String" "coder" "B"])
def wsJ3_checkIndex_8e157 : List Cond := .code yJ3_checkIndex_8e157 cJ3_checkIndex_8e157 3 (some .int) :: ([])
def wsJ0_checkIndex_df160 : List Cond := .code yJ0_checkIndex_df160 cJ0_checkIndex_df160 2 none :: ([.fieldLink RJ0 1053 "jdk/internal/util/Preconditions" "SIOOBE_FORMATTER" "Ljava/util/function/BiFunction;", .methodLink RJ0 1059 yJ3_checkIndex_8e157, .static yJ3_checkIndex_8e157, .initialized RJ3, .code yJ3_checkIndex_8e157 cJ3_checkIndex_8e157 3 (some .int)])
def wsJ1_charAt_3b067 : List Cond := .code yJ1_charAt_3b067 cJ1_charAt_3b067 2 (some .char) :: ([.methodLink RJ1 9 yJ0_checkIndex_df160, .static yJ0_checkIndex_df160, .initialized RJ0, .code yJ0_checkIndex_df160 cJ0_checkIndex_df160 2 none, .fieldLink RJ0 1053 "jdk/internal/util/Preconditions" "SIOOBE_FORMATTER" "Ljava/util/function/BiFunction;", .methodLink RJ0 1059 yJ3_checkIndex_8e157, .static yJ3_checkIndex_8e157, .initialized RJ3, .code yJ3_checkIndex_8e157 cJ3_checkIndex_8e157 3 (some .int)])
def wsJ2_length_9d52b : List Cond := .code yJ2_length_9d52b cJ2_length_9d52b 1 (some .int) :: ([])
def wsJ2_checkIndex_2214a : List Cond := .code yJ2_checkIndex_2214a cJ2_checkIndex_2214a 2 none :: ([.methodLink RJ2 48 yJ2_length_9d52b, .static yJ2_length_9d52b, .initialized RJ2, .code yJ2_length_9d52b cJ2_length_9d52b 1 (some .int), .methodLink RJ2 414 yJ0_checkIndex_df160, .static yJ0_checkIndex_df160, .initialized RJ0, .code yJ0_checkIndex_df160 cJ0_checkIndex_df160 2 none, .fieldLink RJ0 1053 "jdk/internal/util/Preconditions" "SIOOBE_FORMATTER" "Ljava/util/function/BiFunction;", .methodLink RJ0 1059 yJ3_checkIndex_8e157, .static yJ3_checkIndex_8e157, .initialized RJ3, .code yJ3_checkIndex_8e157 cJ3_checkIndex_8e157 3 (some .int)])
def wsJ2_getChar_3b067 : List Cond := .code yJ2_getChar_3b067 cJ2_getChar_3b067 2 (some .char) :: ([.fieldLink RJ2 44 "java/lang/StringUTF16" "$assertionsDisabled" "Z", .fieldLink RJ2 59 "java/lang/StringUTF16" "HI_BYTE_SHIFT" "I", .fieldLink RJ2 63 "java/lang/StringUTF16" "LO_BYTE_SHIFT" "I", .methodLink RJ2 48 yJ2_length_9d52b, .static yJ2_length_9d52b, .initialized RJ2, .code yJ2_length_9d52b cJ2_length_9d52b 1 (some .int)])
def wsJ2_charAt_3b067 : List Cond := .code yJ2_charAt_3b067 cJ2_charAt_3b067 2 (some .char) :: ([.methodLink RJ2 67 yJ2_checkIndex_2214a, .static yJ2_checkIndex_2214a, .initialized RJ2, .code yJ2_checkIndex_2214a cJ2_checkIndex_2214a 2 none, .methodLink RJ2 48 yJ2_length_9d52b, .static yJ2_length_9d52b, .code yJ2_length_9d52b cJ2_length_9d52b 1 (some .int), .methodLink RJ2 414 yJ0_checkIndex_df160, .static yJ0_checkIndex_df160, .initialized RJ0, .code yJ0_checkIndex_df160 cJ0_checkIndex_df160 2 none, .fieldLink RJ0 1053 "jdk/internal/util/Preconditions" "SIOOBE_FORMATTER" "Ljava/util/function/BiFunction;", .methodLink RJ0 1059 yJ3_checkIndex_8e157, .static yJ3_checkIndex_8e157, .initialized RJ3, .code yJ3_checkIndex_8e157 cJ3_checkIndex_8e157 3 (some .int), .methodLink RJ2 71 yJ2_getChar_3b067, .static yJ2_getChar_3b067, .code yJ2_getChar_3b067 cJ2_getChar_3b067 2 (some .char), .fieldLink RJ2 44 "java/lang/StringUTF16" "$assertionsDisabled" "Z", .fieldLink RJ2 59 "java/lang/StringUTF16" "HI_BYTE_SHIFT" "I", .fieldLink RJ2 63 "java/lang/StringUTF16" "LO_BYTE_SHIFT" "I"])
def wsJ0_charAt_5068e_r1 : List Cond := [Cond.fieldLink RJ0 9 "java/lang/String" "value" "[B", Cond.methodLink RJ0 492 yJ0_isLatin1_aae02, Cond.instanceMethod yJ0_isLatin1_aae02, Cond.selects RJ0 yJ0_isLatin1_aae02 yJ0_isLatin1_aae02, Cond.initialized RJ0, Cond.code yJ0_isLatin1_aae02 cJ0_isLatin1_aae02 1 (some .boolean), Cond.fieldLink RJ0 38 "java/lang/String" "COMPACT_STRINGS" "Z", Cond.fieldLink RJ0 15 "java/lang/String" "coder" "B", Cond.methodLink RJ0 495 yJ1_charAt_3b067, Cond.static yJ1_charAt_3b067, Cond.initialized RJ1, Cond.code yJ1_charAt_3b067 cJ1_charAt_3b067 2 (some .char), Cond.methodLink RJ1 9 yJ0_checkIndex_df160, Cond.static yJ0_checkIndex_df160, Cond.code yJ0_checkIndex_df160 cJ0_checkIndex_df160 2 none, Cond.fieldLink RJ0 1053 "jdk/internal/util/Preconditions" "SIOOBE_FORMATTER" "Ljava/util/function/BiFunction;", Cond.methodLink RJ0 1059 yJ3_checkIndex_8e157, Cond.static yJ3_checkIndex_8e157, Cond.initialized RJ3, Cond.code yJ3_checkIndex_8e157 cJ3_checkIndex_8e157 3 (some .int), Cond.methodLink RJ0 498 yJ2_charAt_3b067, Cond.static yJ2_charAt_3b067, Cond.initialized RJ2, Cond.code yJ2_charAt_3b067 cJ2_charAt_3b067 2 (some .char)]
def wsJ0_charAt_5068e_r2 : List Cond := [Cond.methodLink RJ2 67 yJ2_checkIndex_2214a, Cond.static yJ2_checkIndex_2214a, Cond.code yJ2_checkIndex_2214a cJ2_checkIndex_2214a 2 none, Cond.methodLink RJ2 48 yJ2_length_9d52b, Cond.static yJ2_length_9d52b, Cond.code yJ2_length_9d52b cJ2_length_9d52b 1 (some .int), Cond.methodLink RJ2 414 yJ0_checkIndex_df160, Cond.methodLink RJ2 71 yJ2_getChar_3b067, Cond.static yJ2_getChar_3b067, Cond.code yJ2_getChar_3b067 cJ2_getChar_3b067 2 (some .char), Cond.fieldLink RJ2 44 "java/lang/StringUTF16" "$assertionsDisabled" "Z", Cond.fieldLink RJ2 59 "java/lang/StringUTF16" "HI_BYTE_SHIFT" "I", Cond.fieldLink RJ2 63 "java/lang/StringUTF16" "LO_BYTE_SHIFT" "I"]
def wsJ0_charAt_5068e : List Cond := .code yJ0_charAt_5068e cJ0_charAt_5068e 2 (some .char) :: ((wsJ0_charAt_5068e_r1 ++ wsJ0_charAt_5068e_r2))
def wsX6_isHere_r1 : List Cond := [Cond.fieldLink RX6 28 "SoldStops$Text" "behind" "I", Cond.fieldLink RX6 47 "SoldStops$Text" "place" "I", Cond.fieldLink RX6 9 "SoldStops$Text" "bytes" "[I", Cond.methodLink RX6 74 yJ0_length_8abf5, Cond.instanceMethod yJ0_length_8abf5, Cond.selects RJ0 yJ0_length_8abf5 yJ0_length_8abf5, Cond.initialized RJ0, Cond.code yJ0_length_8abf5 cJ0_length_8abf5 1 (some .int), Cond.fieldLink RJ0 9 "java/lang/String" "value" "[B", Cond.methodLink RJ0 335 yJ0_coder_7d493, Cond.instanceMethod yJ0_coder_7d493, Cond.selects RJ0 yJ0_coder_7d493 yJ0_coder_7d493, Cond.code yJ0_coder_7d493 cJ0_coder_7d493 1 (some .byte), Cond.fieldLink RJ0 38 "java/lang/String" "COMPACT_STRINGS" "Z", Cond.fieldLink RJ0 15 "java/lang/String" "coder" "B", Cond.methodLink RX6 79 yJ0_charAt_5068e, Cond.instanceMethod yJ0_charAt_5068e, Cond.selects RJ0 yJ0_charAt_5068e yJ0_charAt_5068e, Cond.code yJ0_charAt_5068e cJ0_charAt_5068e 2 (some .char), Cond.methodLink RJ0 492 yJ0_isLatin1_aae02, Cond.instanceMethod yJ0_isLatin1_aae02, Cond.selects RJ0 yJ0_isLatin1_aae02 yJ0_isLatin1_aae02, Cond.code yJ0_isLatin1_aae02 cJ0_isLatin1_aae02 1 (some .boolean), Cond.methodLink RJ0 495 yJ1_charAt_3b067]
def wsX6_isHere_r2 : List Cond := [Cond.static yJ1_charAt_3b067, Cond.initialized RJ1, Cond.code yJ1_charAt_3b067 cJ1_charAt_3b067 2 (some .char), Cond.methodLink RJ1 9 yJ0_checkIndex_df160, Cond.static yJ0_checkIndex_df160, Cond.code yJ0_checkIndex_df160 cJ0_checkIndex_df160 2 none, Cond.fieldLink RJ0 1053 "jdk/internal/util/Preconditions" "SIOOBE_FORMATTER" "Ljava/util/function/BiFunction;", Cond.methodLink RJ0 1059 yJ3_checkIndex_8e157, Cond.static yJ3_checkIndex_8e157, Cond.initialized RJ3, Cond.code yJ3_checkIndex_8e157 cJ3_checkIndex_8e157 3 (some .int), Cond.methodLink RJ0 498 yJ2_charAt_3b067, Cond.static yJ2_charAt_3b067, Cond.initialized RJ2, Cond.code yJ2_charAt_3b067 cJ2_charAt_3b067 2 (some .char), Cond.methodLink RJ2 67 yJ2_checkIndex_2214a, Cond.static yJ2_checkIndex_2214a, Cond.code yJ2_checkIndex_2214a cJ2_checkIndex_2214a 2 none, Cond.methodLink RJ2 48 yJ2_length_9d52b, Cond.static yJ2_length_9d52b, Cond.code yJ2_length_9d52b cJ2_length_9d52b 1 (some .int), Cond.methodLink RJ2 414 yJ0_checkIndex_df160, Cond.methodLink RJ2 71 yJ2_getChar_3b067, Cond.static yJ2_getChar_3b067]
def wsX6_isHere_r3 : List Cond := [Cond.code yJ2_getChar_3b067 cJ2_getChar_3b067 2 (some .char), Cond.fieldLink RJ2 44 "java/lang/StringUTF16" "$assertionsDisabled" "Z", Cond.fieldLink RJ2 59 "java/lang/StringUTF16" "HI_BYTE_SHIFT" "I", Cond.fieldLink RJ2 63 "java/lang/StringUTF16" "LO_BYTE_SHIFT" "I"]
def wsX6_isHere : List Cond := .code yX6_isHere cX6_isHere 3 (some .boolean) :: ((wsX6_isHere_r1 ++ (wsX6_isHere_r2 ++ wsX6_isHere_r3)) ++ wsX60)
def wsX6_wordHere_r1 : List Cond := [Cond.methodLink RX6 66 yX6_isHere, Cond.instanceMethod yX6_isHere, Cond.selects RX6 yX6_isHere yX6_isHere, Cond.initialized RX6, Cond.code yX6_isHere cX6_isHere 3 (some .boolean), Cond.fieldLink RX6 28 "SoldStops$Text" "behind" "I", Cond.fieldLink RX6 47 "SoldStops$Text" "place" "I", Cond.fieldLink RX6 9 "SoldStops$Text" "bytes" "[I", Cond.methodLink RX6 74 yJ0_length_8abf5, Cond.instanceMethod yJ0_length_8abf5, Cond.selects RJ0 yJ0_length_8abf5 yJ0_length_8abf5, Cond.initialized RJ0, Cond.code yJ0_length_8abf5 cJ0_length_8abf5 1 (some .int), Cond.fieldLink RJ0 9 "java/lang/String" "value" "[B", Cond.methodLink RJ0 335 yJ0_coder_7d493, Cond.instanceMethod yJ0_coder_7d493, Cond.selects RJ0 yJ0_coder_7d493 yJ0_coder_7d493, Cond.code yJ0_coder_7d493 cJ0_coder_7d493 1 (some .byte), Cond.fieldLink RJ0 38 "java/lang/String" "COMPACT_STRINGS" "Z", Cond.fieldLink RJ0 15 "java/lang/String" "coder" "B", Cond.methodLink RX6 79 yJ0_charAt_5068e, Cond.instanceMethod yJ0_charAt_5068e, Cond.selects RJ0 yJ0_charAt_5068e yJ0_charAt_5068e, Cond.code yJ0_charAt_5068e cJ0_charAt_5068e 2 (some .char)]
def wsX6_wordHere_r2 : List Cond := [Cond.methodLink RJ0 492 yJ0_isLatin1_aae02, Cond.instanceMethod yJ0_isLatin1_aae02, Cond.selects RJ0 yJ0_isLatin1_aae02 yJ0_isLatin1_aae02, Cond.code yJ0_isLatin1_aae02 cJ0_isLatin1_aae02 1 (some .boolean), Cond.methodLink RJ0 495 yJ1_charAt_3b067, Cond.static yJ1_charAt_3b067, Cond.initialized RJ1, Cond.code yJ1_charAt_3b067 cJ1_charAt_3b067 2 (some .char), Cond.methodLink RJ1 9 yJ0_checkIndex_df160, Cond.static yJ0_checkIndex_df160, Cond.code yJ0_checkIndex_df160 cJ0_checkIndex_df160 2 none, Cond.fieldLink RJ0 1053 "jdk/internal/util/Preconditions" "SIOOBE_FORMATTER" "Ljava/util/function/BiFunction;", Cond.methodLink RJ0 1059 yJ3_checkIndex_8e157, Cond.static yJ3_checkIndex_8e157, Cond.initialized RJ3, Cond.code yJ3_checkIndex_8e157 cJ3_checkIndex_8e157 3 (some .int), Cond.methodLink RJ0 498 yJ2_charAt_3b067, Cond.static yJ2_charAt_3b067, Cond.initialized RJ2, Cond.code yJ2_charAt_3b067 cJ2_charAt_3b067 2 (some .char), Cond.methodLink RJ2 67 yJ2_checkIndex_2214a, Cond.static yJ2_checkIndex_2214a, Cond.code yJ2_checkIndex_2214a cJ2_checkIndex_2214a 2 none, Cond.methodLink RJ2 48 yJ2_length_9d52b]
def wsX6_wordHere_r3 : List Cond := [Cond.static yJ2_length_9d52b, Cond.code yJ2_length_9d52b cJ2_length_9d52b 1 (some .int), Cond.methodLink RJ2 414 yJ0_checkIndex_df160, Cond.methodLink RJ2 71 yJ2_getChar_3b067, Cond.static yJ2_getChar_3b067, Cond.code yJ2_getChar_3b067 cJ2_getChar_3b067 2 (some .char), Cond.fieldLink RJ2 44 "java/lang/StringUTF16" "$assertionsDisabled" "Z", Cond.fieldLink RJ2 59 "java/lang/StringUTF16" "HI_BYTE_SHIFT" "I", Cond.fieldLink RJ2 63 "java/lang/StringUTF16" "LO_BYTE_SHIFT" "I"]
def wsX6_wordHere : List Cond := .code yX6_wordHere cX6_wordHere 1 (some .int) :: ((wsX6_wordHere_r1 ++ (wsX6_wordHere_r2 ++ wsX6_wordHere_r3)) ++ wsX60)
def wsX6_numberHere : List Cond := .code yX6_numberHere cX6_numberHere 2 (some .int) :: ([.fieldLink RX6 28 "SoldStops$Text" "behind" "I", .fieldLink RX6 47 "SoldStops$Text" "place" "I", .fieldLink RX6 50 "SoldStops$Text" "value" "I", .fieldLink RX6 9 "SoldStops$Text" "bytes" "[I"] ++ wsX60)
def wsX6_next_r1 : List Cond := [Cond.fieldLink RX6 28 "SoldStops$Text" "behind" "I", Cond.fieldLink RX6 47 "SoldStops$Text" "place" "I", Cond.fieldLink RX6 24 "SoldStops$Text" "size" "I", Cond.fieldLink RX6 37 "SoldStops$Text" "token" "I", Cond.fieldLink RX6 9 "SoldStops$Text" "bytes" "[I", Cond.methodLink RX6 53 yX6_runEnd, Cond.instanceMethod yX6_runEnd, Cond.selects RX6 yX6_runEnd yX6_runEnd, Cond.initialized RX6, Cond.code yX6_runEnd cX6_runEnd 5 (some .int), Cond.methodLink RX6 57 yX6_wordHere, Cond.instanceMethod yX6_wordHere, Cond.selects RX6 yX6_wordHere yX6_wordHere, Cond.code yX6_wordHere cX6_wordHere 1 (some .int), Cond.methodLink RX6 66 yX6_isHere, Cond.instanceMethod yX6_isHere, Cond.selects RX6 yX6_isHere yX6_isHere, Cond.code yX6_isHere cX6_isHere 3 (some .boolean), Cond.methodLink RX6 74 yJ0_length_8abf5, Cond.instanceMethod yJ0_length_8abf5, Cond.selects RJ0 yJ0_length_8abf5 yJ0_length_8abf5, Cond.initialized RJ0, Cond.code yJ0_length_8abf5 cJ0_length_8abf5 1 (some .int), Cond.fieldLink RJ0 9 "java/lang/String" "value" "[B"]
def wsX6_next_r2 : List Cond := [Cond.methodLink RJ0 335 yJ0_coder_7d493, Cond.instanceMethod yJ0_coder_7d493, Cond.selects RJ0 yJ0_coder_7d493 yJ0_coder_7d493, Cond.code yJ0_coder_7d493 cJ0_coder_7d493 1 (some .byte), Cond.fieldLink RJ0 38 "java/lang/String" "COMPACT_STRINGS" "Z", Cond.fieldLink RJ0 15 "java/lang/String" "coder" "B", Cond.methodLink RX6 79 yJ0_charAt_5068e, Cond.instanceMethod yJ0_charAt_5068e, Cond.selects RJ0 yJ0_charAt_5068e yJ0_charAt_5068e, Cond.code yJ0_charAt_5068e cJ0_charAt_5068e 2 (some .char), Cond.methodLink RJ0 492 yJ0_isLatin1_aae02, Cond.instanceMethod yJ0_isLatin1_aae02, Cond.selects RJ0 yJ0_isLatin1_aae02 yJ0_isLatin1_aae02, Cond.code yJ0_isLatin1_aae02 cJ0_isLatin1_aae02 1 (some .boolean), Cond.methodLink RJ0 495 yJ1_charAt_3b067, Cond.static yJ1_charAt_3b067, Cond.initialized RJ1, Cond.code yJ1_charAt_3b067 cJ1_charAt_3b067 2 (some .char), Cond.methodLink RJ1 9 yJ0_checkIndex_df160, Cond.static yJ0_checkIndex_df160, Cond.code yJ0_checkIndex_df160 cJ0_checkIndex_df160 2 none, Cond.fieldLink RJ0 1053 "jdk/internal/util/Preconditions" "SIOOBE_FORMATTER" "Ljava/util/function/BiFunction;", Cond.methodLink RJ0 1059 yJ3_checkIndex_8e157, Cond.static yJ3_checkIndex_8e157]
def wsX6_next_r3 : List Cond := [Cond.initialized RJ3, Cond.code yJ3_checkIndex_8e157 cJ3_checkIndex_8e157 3 (some .int), Cond.methodLink RJ0 498 yJ2_charAt_3b067, Cond.static yJ2_charAt_3b067, Cond.initialized RJ2, Cond.code yJ2_charAt_3b067 cJ2_charAt_3b067 2 (some .char), Cond.methodLink RJ2 67 yJ2_checkIndex_2214a, Cond.static yJ2_checkIndex_2214a, Cond.code yJ2_checkIndex_2214a cJ2_checkIndex_2214a 2 none, Cond.methodLink RJ2 48 yJ2_length_9d52b, Cond.static yJ2_length_9d52b, Cond.code yJ2_length_9d52b cJ2_length_9d52b 1 (some .int), Cond.methodLink RJ2 414 yJ0_checkIndex_df160, Cond.methodLink RJ2 71 yJ2_getChar_3b067, Cond.static yJ2_getChar_3b067, Cond.code yJ2_getChar_3b067 cJ2_getChar_3b067 2 (some .char), Cond.fieldLink RJ2 44 "java/lang/StringUTF16" "$assertionsDisabled" "Z", Cond.fieldLink RJ2 59 "java/lang/StringUTF16" "HI_BYTE_SHIFT" "I", Cond.fieldLink RJ2 63 "java/lang/StringUTF16" "LO_BYTE_SHIFT" "I", Cond.methodLink RX6 61 yX6_numberHere, Cond.instanceMethod yX6_numberHere, Cond.selects RX6 yX6_numberHere yX6_numberHere, Cond.code yX6_numberHere cX6_numberHere 2 (some .int), Cond.fieldLink RX6 50 "SoldStops$Text" "value" "I"]
def wsX6_next : List Cond := .code yX6_next cX6_next 2 none :: ((wsX6_next_r1 ++ (wsX6_next_r2 ++ wsX6_next_r3)) ++ wsX60)
def wsX6_mayBegin : List Cond := .code yX6_mayBegin cX6_mayBegin 1 (some .boolean) :: ([.fieldLink RX6 34 "SoldStops$Text" "items" "I", .fieldLink RX6 37 "SoldStops$Text" "token" "I"] ++ wsX60)
def wsX6_takeItem_r1 : List Cond := [Cond.fieldLink RX6 15 "SoldStops$Text" "whats" "[I", Cond.fieldLink RX6 34 "SoldStops$Text" "items" "I", Cond.fieldLink RX6 37 "SoldStops$Text" "token" "I", Cond.fieldLink RX6 18 "SoldStops$Text" "firsts" "[I", Cond.fieldLink RX6 50 "SoldStops$Text" "value" "I", Cond.fieldLink RX6 21 "SoldStops$Text" "seconds" "[I", Cond.methodLink RX6 31 yX6_next, Cond.instanceMethod yX6_next, Cond.selects RX6 yX6_next yX6_next, Cond.initialized RX6, Cond.code yX6_next cX6_next 2 none, Cond.fieldLink RX6 28 "SoldStops$Text" "behind" "I", Cond.fieldLink RX6 47 "SoldStops$Text" "place" "I", Cond.fieldLink RX6 24 "SoldStops$Text" "size" "I", Cond.fieldLink RX6 9 "SoldStops$Text" "bytes" "[I", Cond.methodLink RX6 53 yX6_runEnd, Cond.instanceMethod yX6_runEnd, Cond.selects RX6 yX6_runEnd yX6_runEnd, Cond.code yX6_runEnd cX6_runEnd 5 (some .int), Cond.methodLink RX6 57 yX6_wordHere, Cond.instanceMethod yX6_wordHere, Cond.selects RX6 yX6_wordHere yX6_wordHere, Cond.code yX6_wordHere cX6_wordHere 1 (some .int), Cond.methodLink RX6 66 yX6_isHere]
def wsX6_takeItem_r2 : List Cond := [Cond.instanceMethod yX6_isHere, Cond.selects RX6 yX6_isHere yX6_isHere, Cond.code yX6_isHere cX6_isHere 3 (some .boolean), Cond.methodLink RX6 74 yJ0_length_8abf5, Cond.instanceMethod yJ0_length_8abf5, Cond.selects RJ0 yJ0_length_8abf5 yJ0_length_8abf5, Cond.initialized RJ0, Cond.code yJ0_length_8abf5 cJ0_length_8abf5 1 (some .int), Cond.fieldLink RJ0 9 "java/lang/String" "value" "[B", Cond.methodLink RJ0 335 yJ0_coder_7d493, Cond.instanceMethod yJ0_coder_7d493, Cond.selects RJ0 yJ0_coder_7d493 yJ0_coder_7d493, Cond.code yJ0_coder_7d493 cJ0_coder_7d493 1 (some .byte), Cond.fieldLink RJ0 38 "java/lang/String" "COMPACT_STRINGS" "Z", Cond.fieldLink RJ0 15 "java/lang/String" "coder" "B", Cond.methodLink RX6 79 yJ0_charAt_5068e, Cond.instanceMethod yJ0_charAt_5068e, Cond.selects RJ0 yJ0_charAt_5068e yJ0_charAt_5068e, Cond.code yJ0_charAt_5068e cJ0_charAt_5068e 2 (some .char), Cond.methodLink RJ0 492 yJ0_isLatin1_aae02, Cond.instanceMethod yJ0_isLatin1_aae02, Cond.selects RJ0 yJ0_isLatin1_aae02 yJ0_isLatin1_aae02, Cond.code yJ0_isLatin1_aae02 cJ0_isLatin1_aae02 1 (some .boolean), Cond.methodLink RJ0 495 yJ1_charAt_3b067]
def wsX6_takeItem_r3 : List Cond := [Cond.static yJ1_charAt_3b067, Cond.initialized RJ1, Cond.code yJ1_charAt_3b067 cJ1_charAt_3b067 2 (some .char), Cond.methodLink RJ1 9 yJ0_checkIndex_df160, Cond.static yJ0_checkIndex_df160, Cond.code yJ0_checkIndex_df160 cJ0_checkIndex_df160 2 none, Cond.fieldLink RJ0 1053 "jdk/internal/util/Preconditions" "SIOOBE_FORMATTER" "Ljava/util/function/BiFunction;", Cond.methodLink RJ0 1059 yJ3_checkIndex_8e157, Cond.static yJ3_checkIndex_8e157, Cond.initialized RJ3, Cond.code yJ3_checkIndex_8e157 cJ3_checkIndex_8e157 3 (some .int), Cond.methodLink RJ0 498 yJ2_charAt_3b067, Cond.static yJ2_charAt_3b067, Cond.initialized RJ2, Cond.code yJ2_charAt_3b067 cJ2_charAt_3b067 2 (some .char), Cond.methodLink RJ2 67 yJ2_checkIndex_2214a, Cond.static yJ2_checkIndex_2214a, Cond.code yJ2_checkIndex_2214a cJ2_checkIndex_2214a 2 none, Cond.methodLink RJ2 48 yJ2_length_9d52b, Cond.static yJ2_length_9d52b, Cond.code yJ2_length_9d52b cJ2_length_9d52b 1 (some .int), Cond.methodLink RJ2 414 yJ0_checkIndex_df160, Cond.methodLink RJ2 71 yJ2_getChar_3b067, Cond.static yJ2_getChar_3b067]
def wsX6_takeItem_r4 : List Cond := [Cond.code yJ2_getChar_3b067 cJ2_getChar_3b067 2 (some .char), Cond.fieldLink RJ2 44 "java/lang/StringUTF16" "$assertionsDisabled" "Z", Cond.fieldLink RJ2 59 "java/lang/StringUTF16" "HI_BYTE_SHIFT" "I", Cond.fieldLink RJ2 63 "java/lang/StringUTF16" "LO_BYTE_SHIFT" "I", Cond.methodLink RX6 61 yX6_numberHere, Cond.instanceMethod yX6_numberHere, Cond.selects RX6 yX6_numberHere yX6_numberHere, Cond.code yX6_numberHere cX6_numberHere 2 (some .int)]
def wsX6_takeItem : List Cond := .code yX6_takeItem cX6_takeItem 2 (some .boolean) :: ((wsX6_takeItem_r1 ++ (wsX6_takeItem_r2 ++ (wsX6_takeItem_r3 ++ wsX6_takeItem_r4))) ++ wsX60)
def wsX6_findFault_r1 : List Cond := [Cond.fieldLink RX6 28 "SoldStops$Text" "behind" "I", Cond.fieldLink RX6 34 "SoldStops$Text" "items" "I", Cond.fieldLink RX6 37 "SoldStops$Text" "token" "I", Cond.fieldLink RX6 47 "SoldStops$Text" "place" "I", Cond.fieldLink RX6 24 "SoldStops$Text" "size" "I", Cond.methodLink RX6 31 yX6_next, Cond.instanceMethod yX6_next, Cond.selects RX6 yX6_next yX6_next, Cond.initialized RX6, Cond.code yX6_next cX6_next 2 none, Cond.fieldLink RX6 9 "SoldStops$Text" "bytes" "[I", Cond.methodLink RX6 53 yX6_runEnd, Cond.instanceMethod yX6_runEnd, Cond.selects RX6 yX6_runEnd yX6_runEnd, Cond.code yX6_runEnd cX6_runEnd 5 (some .int), Cond.methodLink RX6 57 yX6_wordHere, Cond.instanceMethod yX6_wordHere, Cond.selects RX6 yX6_wordHere yX6_wordHere, Cond.code yX6_wordHere cX6_wordHere 1 (some .int), Cond.methodLink RX6 66 yX6_isHere, Cond.instanceMethod yX6_isHere, Cond.selects RX6 yX6_isHere yX6_isHere, Cond.code yX6_isHere cX6_isHere 3 (some .boolean), Cond.methodLink RX6 74 yJ0_length_8abf5]
def wsX6_findFault_r2 : List Cond := [Cond.instanceMethod yJ0_length_8abf5, Cond.selects RJ0 yJ0_length_8abf5 yJ0_length_8abf5, Cond.initialized RJ0, Cond.code yJ0_length_8abf5 cJ0_length_8abf5 1 (some .int), Cond.fieldLink RJ0 9 "java/lang/String" "value" "[B", Cond.methodLink RJ0 335 yJ0_coder_7d493, Cond.instanceMethod yJ0_coder_7d493, Cond.selects RJ0 yJ0_coder_7d493 yJ0_coder_7d493, Cond.code yJ0_coder_7d493 cJ0_coder_7d493 1 (some .byte), Cond.fieldLink RJ0 38 "java/lang/String" "COMPACT_STRINGS" "Z", Cond.fieldLink RJ0 15 "java/lang/String" "coder" "B", Cond.methodLink RX6 79 yJ0_charAt_5068e, Cond.instanceMethod yJ0_charAt_5068e, Cond.selects RJ0 yJ0_charAt_5068e yJ0_charAt_5068e, Cond.code yJ0_charAt_5068e cJ0_charAt_5068e 2 (some .char), Cond.methodLink RJ0 492 yJ0_isLatin1_aae02, Cond.instanceMethod yJ0_isLatin1_aae02, Cond.selects RJ0 yJ0_isLatin1_aae02 yJ0_isLatin1_aae02, Cond.code yJ0_isLatin1_aae02 cJ0_isLatin1_aae02 1 (some .boolean), Cond.methodLink RJ0 495 yJ1_charAt_3b067, Cond.static yJ1_charAt_3b067, Cond.initialized RJ1, Cond.code yJ1_charAt_3b067 cJ1_charAt_3b067 2 (some .char), Cond.methodLink RJ1 9 yJ0_checkIndex_df160]
def wsX6_findFault_r3 : List Cond := [Cond.static yJ0_checkIndex_df160, Cond.code yJ0_checkIndex_df160 cJ0_checkIndex_df160 2 none, Cond.fieldLink RJ0 1053 "jdk/internal/util/Preconditions" "SIOOBE_FORMATTER" "Ljava/util/function/BiFunction;", Cond.methodLink RJ0 1059 yJ3_checkIndex_8e157, Cond.static yJ3_checkIndex_8e157, Cond.initialized RJ3, Cond.code yJ3_checkIndex_8e157 cJ3_checkIndex_8e157 3 (some .int), Cond.methodLink RJ0 498 yJ2_charAt_3b067, Cond.static yJ2_charAt_3b067, Cond.initialized RJ2, Cond.code yJ2_charAt_3b067 cJ2_charAt_3b067 2 (some .char), Cond.methodLink RJ2 67 yJ2_checkIndex_2214a, Cond.static yJ2_checkIndex_2214a, Cond.code yJ2_checkIndex_2214a cJ2_checkIndex_2214a 2 none, Cond.methodLink RJ2 48 yJ2_length_9d52b, Cond.static yJ2_length_9d52b, Cond.code yJ2_length_9d52b cJ2_length_9d52b 1 (some .int), Cond.methodLink RJ2 414 yJ0_checkIndex_df160, Cond.methodLink RJ2 71 yJ2_getChar_3b067, Cond.static yJ2_getChar_3b067, Cond.code yJ2_getChar_3b067 cJ2_getChar_3b067 2 (some .char), Cond.fieldLink RJ2 44 "java/lang/StringUTF16" "$assertionsDisabled" "Z", Cond.fieldLink RJ2 59 "java/lang/StringUTF16" "HI_BYTE_SHIFT" "I", Cond.fieldLink RJ2 63 "java/lang/StringUTF16" "LO_BYTE_SHIFT" "I"]
def wsX6_findFault_r4 : List Cond := [Cond.methodLink RX6 61 yX6_numberHere, Cond.instanceMethod yX6_numberHere, Cond.selects RX6 yX6_numberHere yX6_numberHere, Cond.code yX6_numberHere cX6_numberHere 2 (some .int), Cond.fieldLink RX6 50 "SoldStops$Text" "value" "I", Cond.methodLink RX6 40 yX6_mayBegin, Cond.instanceMethod yX6_mayBegin, Cond.selects RX6 yX6_mayBegin yX6_mayBegin, Cond.code yX6_mayBegin cX6_mayBegin 1 (some .boolean), Cond.methodLink RX6 44 yX6_takeItem, Cond.instanceMethod yX6_takeItem, Cond.selects RX6 yX6_takeItem yX6_takeItem, Cond.code yX6_takeItem cX6_takeItem 2 (some .boolean), Cond.fieldLink RX6 15 "SoldStops$Text" "whats" "[I", Cond.fieldLink RX6 18 "SoldStops$Text" "firsts" "[I", Cond.fieldLink RX6 21 "SoldStops$Text" "seconds" "[I"]
def wsX6_findFault : List Cond := .code yX6_findFault cX6_findFault 1 (some .int) :: ((wsX6_findFault_r1 ++ (wsX6_findFault_r2 ++ (wsX6_findFault_r3 ++ wsX6_findFault_r4))) ++ wsX60)
def wsX7_init_r1 : List Cond := [Cond.methodLink RX7 1 objectInit, Cond.instanceMethod objectInit, Cond.code objectInit ⟨#[0xb1]⟩ 1 none, Cond.classLink RX7 7 RX4, Cond.instantiable RX4 9, Cond.initialized RX4, Cond.fieldLink RX7 10 "SoldStops" "page" "LSoldStops$Page;", Cond.fieldLink RX7 16 "SoldStops" "spare" "LSoldStops$Page;", Cond.fieldLink RX7 19 "SoldStops" "images" "[LSoldStops$Page;", Cond.arrayClass .boolean, Cond.fieldLink RX7 23 "SoldStops" "kept" "[Z", Cond.classLink RX7 27 RX6, Cond.instantiable RX6 10, Cond.initialized RX6, Cond.fieldLink RX7 30 "SoldStops" "text" "LSoldStops$Text;", Cond.classLink RX7 34 RX5, Cond.instantiable RX5 5, Cond.initialized RX5, Cond.fieldLink RX7 37 "SoldStops" "plan" "LSoldStops$Plan;", Cond.classLink RX7 41 RX3, Cond.instantiable RX3 4, Cond.initialized RX3, Cond.fieldLink RX7 44 "SoldStops" "order" "LSoldStops$Order;", Cond.classLink RX7 48 RX0]
def wsX7_init_r2 : List Cond := [Cond.instantiable RX0 4, Cond.initialized RX0, Cond.fieldLink RX7 51 "SoldStops" "chance" "LSoldStops$Chance;", Cond.arrayClass .int, Cond.fieldLink RX7 55 "SoldStops" "alike" "[I", Cond.methodLink RX7 9 yX4_init, Cond.instanceMethod yX4_init, Cond.code yX4_init cX4_init 2 none, Cond.methodLink RX4 3 objectInit, Cond.fieldLink RX4 9 "SoldStops$Page" "breath" "I", Cond.fieldLink RX4 15 "SoldStops$Page" "price" "I", Cond.fieldLink RX4 18 "SoldStops$Page" "lengths" "[I", Cond.classLink RX4 22 RX2, Cond.instantiable RX2 4, Cond.initialized RX2, Cond.fieldLink RX4 25 "SoldStops$Page" "marks" "LSoldStops$Marks;", Cond.fieldLink RX4 29 "SoldStops$Page" "heard" "[I", Cond.fieldLink RX4 32 "SoldStops$Page" "past" "[LSoldStops$Marks;", Cond.instanceMethod yX2_init, Cond.code yX2_init cX2_init 1 none, Cond.methodLink RX2 3 objectInit, Cond.fieldLink RX2 9 "SoldStops$Marks" "kinds" "[I", Cond.fieldLink RX2 15 "SoldStops$Marks" "reads" "[I", Cond.instanceMethod yX6_init]
def wsX7_init_r3 : List Cond := [Cond.code yX6_init cX6_init 1 none, Cond.methodLink RX6 3 objectInit, Cond.fieldLink RX6 9 "SoldStops$Text" "bytes" "[I", Cond.fieldLink RX6 15 "SoldStops$Text" "whats" "[I", Cond.fieldLink RX6 18 "SoldStops$Text" "firsts" "[I", Cond.fieldLink RX6 21 "SoldStops$Text" "seconds" "[I", Cond.instanceMethod yX5_init, Cond.code yX5_init cX5_init 1 none, Cond.methodLink RX5 3 objectInit, Cond.classLink RX5 9 "[[I", Cond.fieldLink RX5 11 "SoldStops$Plan" "costs" "[[I", Cond.fieldLink RX5 16 "SoldStops$Plan" "fewest" "[[I", Cond.fieldLink RX5 19 "SoldStops$Plan" "choices" "[[I", Cond.fieldLink RX5 22 "SoldStops$Plan" "now" "[I", Cond.fieldLink RX5 26 "SoldStops$Plan" "then" "[I", Cond.instanceMethod yX3_init, Cond.code yX3_init cX3_init 1 none, Cond.methodLink RX3 3 objectInit, Cond.fieldLink RX3 9 "SoldStops$Order" "best" "[I", Cond.fieldLink RX3 15 "SoldStops$Order" "row" "[I", Cond.fieldLink RX3 18 "SoldStops$Order" "used" "[Z", Cond.instanceMethod yX0_init, Cond.code yX0_init cX0_init 1 none, Cond.methodLink RX0 3 objectInit]
def wsX7_init_r4 : List Cond := [Cond.fieldLink RX0 9 "SoldStops$Chance" "above" "J", Cond.fieldLink RX0 15 "SoldStops$Chance" "below" "J", Cond.arrayClass .long, Cond.fieldLink RX0 18 "SoldStops$Chance" "now" "[J", Cond.fieldLink RX0 22 "SoldStops$Chance" "then" "[J"]
def wsX7_init : List Cond := .code yX7_init cX7_init 1 none :: ((wsX7_init_r1 ++ (wsX7_init_r2 ++ (wsX7_init_r3 ++ wsX7_init_r4))) ++ wsX40 ++ wsX70 ++ wsX60 ++ wsX50 ++ wsX30 ++ wsX00 ++ wsX20)
def wsX7_isWithin : List Cond := .code yX7_isWithin cX7_isWithin 3 (some .boolean) :: ([])
def wsX7_isBreath : List Cond := .code yX7_isBreath cX7_isBreath 1 (some .boolean) :: ([.methodLink RX7 98 yX7_isWithin, .static yX7_isWithin, .initialized RX7, .code yX7_isWithin cX7_isWithin 3 (some .boolean)])
def wsX7_isPrice : List Cond := .code yX7_isPrice cX7_isPrice 1 (some .boolean) :: ([.methodLink RX7 98 yX7_isWithin, .static yX7_isWithin, .initialized RX7, .code yX7_isWithin cX7_isWithin 3 (some .boolean)])
def wsX7_bad : List Cond := .code yX7_bad cX7_bad 2 (some .int) :: ([.fieldLink RX7 270 "SoldStops" "bads" "I"] ++ wsX70)
def wsX7_page_r1 : List Cond := [Cond.fieldLink RX7 10 "SoldStops" "page" "LSoldStops$Page;", Cond.fieldLink RX7 70 "SoldStops$Page" "words" "I", Cond.methodLink RX7 59 yX7_isBreath, Cond.static yX7_isBreath, Cond.initialized RX7, Cond.code yX7_isBreath cX7_isBreath 1 (some .boolean), Cond.methodLink RX7 98 yX7_isWithin, Cond.static yX7_isWithin, Cond.code yX7_isWithin cX7_isWithin 3 (some .boolean), Cond.methodLink RX7 63 yX7_isPrice, Cond.static yX7_isPrice, Cond.code yX7_isPrice cX7_isPrice 1 (some .boolean), Cond.methodLink RX7 66 yX7_bad, Cond.instanceMethod yX7_bad, Cond.selects RX7 yX7_bad yX7_bad, Cond.code yX7_bad cX7_bad 2 (some .int), Cond.fieldLink RX7 270 "SoldStops" "bads" "I", Cond.methodLink RX7 74 yX4_begin, Cond.instanceMethod yX4_begin, Cond.selects RX4 yX4_begin yX4_begin, Cond.initialized RX4, Cond.code yX4_begin cX4_begin 3 none, Cond.fieldLink RX4 9 "SoldStops$Page" "breath" "I", Cond.fieldLink RX4 15 "SoldStops$Page" "price" "I"]
def wsX7_page_r2 : List Cond := [Cond.fieldLink RX4 25 "SoldStops$Page" "marks" "LSoldStops$Marks;", Cond.fieldLink RX4 36 "SoldStops$Marks" "purse" "I", Cond.fieldLink RX4 39 "SoldStops$Marks" "week" "I", Cond.fieldLink RX4 42 "SoldStops$Page" "words" "I", Cond.fieldLink RX4 45 "SoldStops$Page" "heards" "I", Cond.fieldLink RX4 48 "SoldStops$Page" "pasts" "I"]
def wsX7_page : List Cond := .code yX7_page cX7_page 4 (some .int) :: ((wsX7_page_r1 ++ wsX7_page_r2) ++ wsX70 ++ wsX40 ++ wsX20)
def wsX7_isLength : List Cond := .code yX7_isLength cX7_isLength 1 (some .boolean) :: ([.methodLink RX7 98 yX7_isWithin, .static yX7_isWithin, .initialized RX7, .code yX7_isWithin cX7_isWithin 3 (some .boolean)])
def wsX7_full : List Cond := .code yX7_full cX7_full 2 (some .int) :: ([.fieldLink RX7 276 "SoldStops" "fulls" "I"] ++ wsX70)
def wsX7_word_r1 : List Cond := [Cond.fieldLink RX7 10 "SoldStops" "page" "LSoldStops$Page;", Cond.fieldLink RX7 70 "SoldStops$Page" "words" "I", Cond.methodLink RX7 78 yX7_isLength, Cond.static yX7_isLength, Cond.initialized RX7, Cond.code yX7_isLength cX7_isLength 1 (some .boolean), Cond.methodLink RX7 98 yX7_isWithin, Cond.static yX7_isWithin, Cond.code yX7_isWithin cX7_isWithin 3 (some .boolean), Cond.methodLink RX7 66 yX7_bad, Cond.instanceMethod yX7_bad, Cond.selects RX7 yX7_bad yX7_bad, Cond.code yX7_bad cX7_bad 2 (some .int), Cond.fieldLink RX7 270 "SoldStops" "bads" "I", Cond.methodLink RX7 81 yX4_hasRoom, Cond.instanceMethod yX4_hasRoom, Cond.selects RX4 yX4_hasRoom yX4_hasRoom, Cond.initialized RX4, Cond.code yX4_hasRoom cX4_hasRoom 1 (some .boolean), Cond.fieldLink RX4 42 "SoldStops$Page" "words" "I", Cond.methodLink RX7 85 yX7_full, Cond.instanceMethod yX7_full, Cond.selects RX7 yX7_full yX7_full, Cond.code yX7_full cX7_full 2 (some .int)]
def wsX7_word_r2 : List Cond := [Cond.fieldLink RX7 276 "SoldStops" "fulls" "I", Cond.methodLink RX7 88 yX4_addWord, Cond.instanceMethod yX4_addWord, Cond.selects RX4 yX4_addWord yX4_addWord, Cond.code yX4_addWord cX4_addWord 2 none, Cond.fieldLink RX4 18 "SoldStops$Page" "lengths" "[I", Cond.fieldLink RX4 25 "SoldStops$Page" "marks" "LSoldStops$Marks;", Cond.fieldLink RX4 48 "SoldStops$Page" "pasts" "I", Cond.methodLink RX4 61 yX2_set, Cond.instanceMethod yX2_set, Cond.selects RX2 yX2_set yX2_set, Cond.initialized RX2, Cond.code yX2_set cX2_set 3 none, Cond.fieldLink RX2 9 "SoldStops$Marks" "kinds" "[I", Cond.fieldLink RX2 15 "SoldStops$Marks" "reads" "[I"]
def wsX7_word : List Cond := .code yX7_word cX7_word 2 (some .int) :: ((wsX7_word_r1 ++ wsX7_word_r2) ++ wsX70 ++ wsX40 ++ wsX20)
def wsX7_breath : List Cond := .code yX7_breath cX7_breath 3 (some .int) :: ([.fieldLink RX7 10 "SoldStops" "page" "LSoldStops$Page;", .fieldLink RX7 92 "SoldStops$Page" "breath" "I", .methodLink RX7 59 yX7_isBreath, .static yX7_isBreath, .initialized RX7, .code yX7_isBreath cX7_isBreath 1 (some .boolean), .methodLink RX7 98 yX7_isWithin, .static yX7_isWithin, .code yX7_isWithin cX7_isWithin 3 (some .boolean), .methodLink RX7 66 yX7_bad, .instanceMethod yX7_bad, .selects RX7 yX7_bad yX7_bad, .code yX7_bad cX7_bad 2 (some .int), .fieldLink RX7 270 "SoldStops" "bads" "I"] ++ wsX70 ++ wsX40)
def wsX7_price : List Cond := .code yX7_price cX7_price 3 (some .int) :: ([.fieldLink RX7 10 "SoldStops" "page" "LSoldStops$Page;", .fieldLink RX7 95 "SoldStops$Page" "price" "I", .methodLink RX7 63 yX7_isPrice, .static yX7_isPrice, .initialized RX7, .code yX7_isPrice cX7_isPrice 1 (some .boolean), .methodLink RX7 98 yX7_isWithin, .static yX7_isWithin, .code yX7_isWithin cX7_isWithin 3 (some .boolean), .methodLink RX7 66 yX7_bad, .instanceMethod yX7_bad, .selects RX7 yX7_bad yX7_bad, .code yX7_bad cX7_bad 2 (some .int), .fieldLink RX7 270 "SoldStops" "bads" "I"] ++ wsX70 ++ wsX40)
def wsX7_purse : List Cond := .code yX7_purse cX7_purse 3 (some .int) :: ([.fieldLink RX7 10 "SoldStops" "page" "LSoldStops$Page;", .fieldLink RX7 102 "SoldStops$Page" "marks" "LSoldStops$Marks;", .fieldLink RX7 106 "SoldStops$Marks" "purse" "I", .methodLink RX7 98 yX7_isWithin, .static yX7_isWithin, .initialized RX7, .code yX7_isWithin cX7_isWithin 3 (some .boolean), .methodLink RX7 66 yX7_bad, .instanceMethod yX7_bad, .selects RX7 yX7_bad yX7_bad, .code yX7_bad cX7_bad 2 (some .int), .fieldLink RX7 270 "SoldStops" "bads" "I"] ++ wsX70 ++ wsX40 ++ wsX20)
def wsX7_put_r1 : List Cond := [Cond.fieldLink RX7 10 "SoldStops" "page" "LSoldStops$Page;", Cond.fieldLink RX7 102 "SoldStops$Page" "marks" "LSoldStops$Marks;", Cond.fieldLink RX7 119 "SoldStops$Marks" "kinds" "[I", Cond.methodLink RX7 111 yX4_has, Cond.instanceMethod yX4_has, Cond.selects RX4 yX4_has yX4_has, Cond.initialized RX4, Cond.code yX4_has cX4_has 2 (some .boolean), Cond.fieldLink RX4 42 "SoldStops$Page" "words" "I", Cond.methodLink RX7 114 yX1_isOne, Cond.static yX1_isOne, Cond.initialized RX1, Cond.code yX1_isOne cX1_isOne 1 (some .boolean), Cond.methodLink RX7 66 yX7_bad, Cond.instanceMethod yX7_bad, Cond.selects RX7 yX7_bad yX7_bad, Cond.initialized RX7, Cond.code yX7_bad cX7_bad 2 (some .int), Cond.fieldLink RX7 270 "SoldStops" "bads" "I", Cond.methodLink RX7 122 yX4_setMark, Cond.instanceMethod yX4_setMark, Cond.selects RX4 yX4_setMark yX4_setMark, Cond.code yX4_setMark cX4_setMark 3 none, Cond.fieldLink RX4 25 "SoldStops$Page" "marks" "LSoldStops$Marks;"]
def wsX7_put_r2 : List Cond := [Cond.fieldLink RX4 48 "SoldStops$Page" "pasts" "I", Cond.methodLink RX4 61 yX2_set, Cond.instanceMethod yX2_set, Cond.selects RX2 yX2_set yX2_set, Cond.initialized RX2, Cond.code yX2_set cX2_set 3 none, Cond.fieldLink RX2 9 "SoldStops$Marks" "kinds" "[I", Cond.fieldLink RX2 15 "SoldStops$Marks" "reads" "[I"]
def wsX7_put : List Cond := .code yX7_put cX7_put 4 (some .int) :: ((wsX7_put_r1 ++ wsX7_put_r2) ++ wsX70 ++ wsX40 ++ wsX20)
def wsX7_type : List Cond := .code yX7_type cX7_type 2 (some .int) :: ([.fieldLink RX7 30 "SoldStops" "text" "LSoldStops$Text;", .fieldLink RX7 125 "SoldStops$Text" "size" "I", .methodLink RX7 98 yX7_isWithin, .static yX7_isWithin, .initialized RX7, .code yX7_isWithin cX7_isWithin 3 (some .boolean), .methodLink RX7 66 yX7_bad, .instanceMethod yX7_bad, .selects RX7 yX7_bad yX7_bad, .code yX7_bad cX7_bad 2 (some .int), .fieldLink RX7 270 "SoldStops" "bads" "I", .methodLink RX7 85 yX7_full, .instanceMethod yX7_full, .selects RX7 yX7_full yX7_full, .code yX7_full cX7_full 2 (some .int), .fieldLink RX7 276 "SoldStops" "fulls" "I", .methodLink RX7 128 yX6_add, .instanceMethod yX6_add, .selects RX6 yX6_add yX6_add, .initialized RX6, .code yX6_add cX6_add 2 none, .fieldLink RX6 9 "SoldStops$Text" "bytes" "[I", .fieldLink RX6 24 "SoldStops$Text" "size" "I"] ++ wsX70 ++ wsX60)
def wsX7_clear : List Cond := .code yX7_clear cX7_clear 2 (some .int) :: ([.fieldLink RX7 30 "SoldStops" "text" "LSoldStops$Text;", .fieldLink RX7 125 "SoldStops$Text" "size" "I"] ++ wsX70 ++ wsX60)
def wsX7_tellItem_r1 : List Cond := [Cond.fieldLink RX7 30 "SoldStops" "text" "LSoldStops$Text;", Cond.fieldLink RX7 292 "SoldStops$Text" "firsts" "[I", Cond.fieldLink RX7 295 "SoldStops$Text" "seconds" "[I", Cond.fieldLink RX7 298 "SoldStops$Text" "whats" "[I", Cond.fieldLink RX7 16 "SoldStops" "spare" "LSoldStops$Page;", Cond.methodLink RX7 59 yX7_isBreath, Cond.static yX7_isBreath, Cond.initialized RX7, Cond.code yX7_isBreath cX7_isBreath 1 (some .boolean), Cond.methodLink RX7 98 yX7_isWithin, Cond.static yX7_isWithin, Cond.code yX7_isWithin cX7_isWithin 3 (some .boolean), Cond.methodLink RX7 63 yX7_isPrice, Cond.static yX7_isPrice, Cond.code yX7_isPrice cX7_isPrice 1 (some .boolean), Cond.methodLink RX7 74 yX4_begin, Cond.instanceMethod yX4_begin, Cond.selects RX4 yX4_begin yX4_begin, Cond.initialized RX4, Cond.code yX4_begin cX4_begin 3 none, Cond.fieldLink RX4 9 "SoldStops$Page" "breath" "I", Cond.fieldLink RX4 15 "SoldStops$Page" "price" "I", Cond.fieldLink RX4 25 "SoldStops$Page" "marks" "LSoldStops$Marks;", Cond.fieldLink RX4 36 "SoldStops$Marks" "purse" "I"]
def wsX7_tellItem_r2 : List Cond := [Cond.fieldLink RX4 39 "SoldStops$Marks" "week" "I", Cond.fieldLink RX4 42 "SoldStops$Page" "words" "I", Cond.fieldLink RX4 45 "SoldStops$Page" "heards" "I", Cond.fieldLink RX4 48 "SoldStops$Page" "pasts" "I", Cond.methodLink RX7 78 yX7_isLength, Cond.static yX7_isLength, Cond.code yX7_isLength cX7_isLength 1 (some .boolean), Cond.methodLink RX7 81 yX4_hasRoom, Cond.instanceMethod yX4_hasRoom, Cond.selects RX4 yX4_hasRoom yX4_hasRoom, Cond.code yX4_hasRoom cX4_hasRoom 1 (some .boolean), Cond.methodLink RX7 88 yX4_addWord, Cond.instanceMethod yX4_addWord, Cond.selects RX4 yX4_addWord yX4_addWord, Cond.code yX4_addWord cX4_addWord 2 none, Cond.fieldLink RX4 18 "SoldStops$Page" "lengths" "[I", Cond.methodLink RX4 61 yX2_set, Cond.instanceMethod yX2_set, Cond.selects RX2 yX2_set yX2_set, Cond.initialized RX2, Cond.code yX2_set cX2_set 3 none, Cond.fieldLink RX2 9 "SoldStops$Marks" "kinds" "[I", Cond.fieldLink RX2 15 "SoldStops$Marks" "reads" "[I", Cond.methodLink RX7 111 yX4_has]
def wsX7_tellItem_r3 : List Cond := [Cond.instanceMethod yX4_has, Cond.selects RX4 yX4_has yX4_has, Cond.code yX4_has cX4_has 2 (some .boolean), Cond.methodLink RX7 114 yX1_isOne, Cond.static yX1_isOne, Cond.initialized RX1, Cond.code yX1_isOne cX1_isOne 1 (some .boolean), Cond.methodLink RX7 122 yX4_setMark, Cond.instanceMethod yX4_setMark, Cond.selects RX4 yX4_setMark yX4_setMark, Cond.code yX4_setMark cX4_setMark 3 none]
def wsX7_tellItem : List Cond := .code yX7_tellItem cX7_tellItem 4 (some .boolean) :: ((wsX7_tellItem_r1 ++ (wsX7_tellItem_r2 ++ wsX7_tellItem_r3)) ++ wsX70 ++ wsX60 ++ wsX40 ++ wsX20)
def wsX7_read_r1 : List Cond := [Cond.fieldLink RX7 30 "SoldStops" "text" "LSoldStops$Text;", Cond.fieldLink RX7 135 "SoldStops$Text" "items" "I", Cond.fieldLink RX7 10 "SoldStops" "page" "LSoldStops$Page;", Cond.fieldLink RX7 16 "SoldStops" "spare" "LSoldStops$Page;", Cond.methodLink RX7 131 yX6_findFault, Cond.instanceMethod yX6_findFault, Cond.selects RX6 yX6_findFault yX6_findFault, Cond.initialized RX6, Cond.code yX6_findFault cX6_findFault 1 (some .int), Cond.fieldLink RX6 28 "SoldStops$Text" "behind" "I", Cond.fieldLink RX6 34 "SoldStops$Text" "items" "I", Cond.fieldLink RX6 37 "SoldStops$Text" "token" "I", Cond.fieldLink RX6 47 "SoldStops$Text" "place" "I", Cond.fieldLink RX6 24 "SoldStops$Text" "size" "I", Cond.methodLink RX6 31 yX6_next, Cond.instanceMethod yX6_next, Cond.selects RX6 yX6_next yX6_next, Cond.code yX6_next cX6_next 2 none, Cond.fieldLink RX6 9 "SoldStops$Text" "bytes" "[I", Cond.methodLink RX6 53 yX6_runEnd, Cond.instanceMethod yX6_runEnd, Cond.selects RX6 yX6_runEnd yX6_runEnd, Cond.code yX6_runEnd cX6_runEnd 5 (some .int), Cond.methodLink RX6 57 yX6_wordHere]
def wsX7_read_r2 : List Cond := [Cond.instanceMethod yX6_wordHere, Cond.selects RX6 yX6_wordHere yX6_wordHere, Cond.code yX6_wordHere cX6_wordHere 1 (some .int), Cond.methodLink RX6 66 yX6_isHere, Cond.instanceMethod yX6_isHere, Cond.selects RX6 yX6_isHere yX6_isHere, Cond.code yX6_isHere cX6_isHere 3 (some .boolean), Cond.methodLink RX6 74 yJ0_length_8abf5, Cond.instanceMethod yJ0_length_8abf5, Cond.selects RJ0 yJ0_length_8abf5 yJ0_length_8abf5, Cond.initialized RJ0, Cond.code yJ0_length_8abf5 cJ0_length_8abf5 1 (some .int), Cond.fieldLink RJ0 9 "java/lang/String" "value" "[B", Cond.methodLink RJ0 335 yJ0_coder_7d493, Cond.instanceMethod yJ0_coder_7d493, Cond.selects RJ0 yJ0_coder_7d493 yJ0_coder_7d493, Cond.code yJ0_coder_7d493 cJ0_coder_7d493 1 (some .byte), Cond.fieldLink RJ0 38 "java/lang/String" "COMPACT_STRINGS" "Z", Cond.fieldLink RJ0 15 "java/lang/String" "coder" "B", Cond.methodLink RX6 79 yJ0_charAt_5068e, Cond.instanceMethod yJ0_charAt_5068e, Cond.selects RJ0 yJ0_charAt_5068e yJ0_charAt_5068e, Cond.code yJ0_charAt_5068e cJ0_charAt_5068e 2 (some .char), Cond.methodLink RJ0 492 yJ0_isLatin1_aae02]
def wsX7_read_r3 : List Cond := [Cond.instanceMethod yJ0_isLatin1_aae02, Cond.selects RJ0 yJ0_isLatin1_aae02 yJ0_isLatin1_aae02, Cond.code yJ0_isLatin1_aae02 cJ0_isLatin1_aae02 1 (some .boolean), Cond.methodLink RJ0 495 yJ1_charAt_3b067, Cond.static yJ1_charAt_3b067, Cond.initialized RJ1, Cond.code yJ1_charAt_3b067 cJ1_charAt_3b067 2 (some .char), Cond.methodLink RJ1 9 yJ0_checkIndex_df160, Cond.static yJ0_checkIndex_df160, Cond.code yJ0_checkIndex_df160 cJ0_checkIndex_df160 2 none, Cond.fieldLink RJ0 1053 "jdk/internal/util/Preconditions" "SIOOBE_FORMATTER" "Ljava/util/function/BiFunction;", Cond.methodLink RJ0 1059 yJ3_checkIndex_8e157, Cond.static yJ3_checkIndex_8e157, Cond.initialized RJ3, Cond.code yJ3_checkIndex_8e157 cJ3_checkIndex_8e157 3 (some .int), Cond.methodLink RJ0 498 yJ2_charAt_3b067, Cond.static yJ2_charAt_3b067, Cond.initialized RJ2, Cond.code yJ2_charAt_3b067 cJ2_charAt_3b067 2 (some .char), Cond.methodLink RJ2 67 yJ2_checkIndex_2214a, Cond.static yJ2_checkIndex_2214a, Cond.code yJ2_checkIndex_2214a cJ2_checkIndex_2214a 2 none, Cond.methodLink RJ2 48 yJ2_length_9d52b, Cond.static yJ2_length_9d52b]
def wsX7_read_r4 : List Cond := [Cond.code yJ2_length_9d52b cJ2_length_9d52b 1 (some .int), Cond.methodLink RJ2 414 yJ0_checkIndex_df160, Cond.methodLink RJ2 71 yJ2_getChar_3b067, Cond.static yJ2_getChar_3b067, Cond.code yJ2_getChar_3b067 cJ2_getChar_3b067 2 (some .char), Cond.fieldLink RJ2 44 "java/lang/StringUTF16" "$assertionsDisabled" "Z", Cond.fieldLink RJ2 59 "java/lang/StringUTF16" "HI_BYTE_SHIFT" "I", Cond.fieldLink RJ2 63 "java/lang/StringUTF16" "LO_BYTE_SHIFT" "I", Cond.methodLink RX6 61 yX6_numberHere, Cond.instanceMethod yX6_numberHere, Cond.selects RX6 yX6_numberHere yX6_numberHere, Cond.code yX6_numberHere cX6_numberHere 2 (some .int), Cond.fieldLink RX6 50 "SoldStops$Text" "value" "I", Cond.methodLink RX6 40 yX6_mayBegin, Cond.instanceMethod yX6_mayBegin, Cond.selects RX6 yX6_mayBegin yX6_mayBegin, Cond.code yX6_mayBegin cX6_mayBegin 1 (some .boolean), Cond.methodLink RX6 44 yX6_takeItem, Cond.instanceMethod yX6_takeItem, Cond.selects RX6 yX6_takeItem yX6_takeItem, Cond.code yX6_takeItem cX6_takeItem 2 (some .boolean), Cond.fieldLink RX6 15 "SoldStops$Text" "whats" "[I", Cond.fieldLink RX6 18 "SoldStops$Text" "firsts" "[I", Cond.fieldLink RX6 21 "SoldStops$Text" "seconds" "[I"]
def wsX7_read_r5 : List Cond := [Cond.methodLink RX7 138 yX7_tellItem, Cond.instanceMethod yX7_tellItem, Cond.selects RX7 yX7_tellItem yX7_tellItem, Cond.initialized RX7, Cond.code yX7_tellItem cX7_tellItem 4 (some .boolean), Cond.fieldLink RX7 292 "SoldStops$Text" "firsts" "[I", Cond.fieldLink RX7 295 "SoldStops$Text" "seconds" "[I", Cond.fieldLink RX7 298 "SoldStops$Text" "whats" "[I", Cond.methodLink RX7 59 yX7_isBreath, Cond.static yX7_isBreath, Cond.code yX7_isBreath cX7_isBreath 1 (some .boolean), Cond.methodLink RX7 98 yX7_isWithin, Cond.static yX7_isWithin, Cond.code yX7_isWithin cX7_isWithin 3 (some .boolean), Cond.methodLink RX7 63 yX7_isPrice, Cond.static yX7_isPrice, Cond.code yX7_isPrice cX7_isPrice 1 (some .boolean), Cond.methodLink RX7 74 yX4_begin, Cond.instanceMethod yX4_begin, Cond.selects RX4 yX4_begin yX4_begin, Cond.initialized RX4, Cond.code yX4_begin cX4_begin 3 none, Cond.fieldLink RX4 9 "SoldStops$Page" "breath" "I", Cond.fieldLink RX4 15 "SoldStops$Page" "price" "I"]
def wsX7_read_r6 : List Cond := [Cond.fieldLink RX4 25 "SoldStops$Page" "marks" "LSoldStops$Marks;", Cond.fieldLink RX4 36 "SoldStops$Marks" "purse" "I", Cond.fieldLink RX4 39 "SoldStops$Marks" "week" "I", Cond.fieldLink RX4 42 "SoldStops$Page" "words" "I", Cond.fieldLink RX4 45 "SoldStops$Page" "heards" "I", Cond.fieldLink RX4 48 "SoldStops$Page" "pasts" "I", Cond.methodLink RX7 78 yX7_isLength, Cond.static yX7_isLength, Cond.code yX7_isLength cX7_isLength 1 (some .boolean), Cond.methodLink RX7 81 yX4_hasRoom, Cond.instanceMethod yX4_hasRoom, Cond.selects RX4 yX4_hasRoom yX4_hasRoom, Cond.code yX4_hasRoom cX4_hasRoom 1 (some .boolean), Cond.methodLink RX7 88 yX4_addWord, Cond.instanceMethod yX4_addWord, Cond.selects RX4 yX4_addWord yX4_addWord, Cond.code yX4_addWord cX4_addWord 2 none, Cond.fieldLink RX4 18 "SoldStops$Page" "lengths" "[I", Cond.methodLink RX4 61 yX2_set, Cond.instanceMethod yX2_set, Cond.selects RX2 yX2_set yX2_set, Cond.initialized RX2, Cond.code yX2_set cX2_set 3 none, Cond.fieldLink RX2 9 "SoldStops$Marks" "kinds" "[I"]
def wsX7_read_r7 : List Cond := [Cond.fieldLink RX2 15 "SoldStops$Marks" "reads" "[I", Cond.methodLink RX7 111 yX4_has, Cond.instanceMethod yX4_has, Cond.selects RX4 yX4_has yX4_has, Cond.code yX4_has cX4_has 2 (some .boolean), Cond.methodLink RX7 114 yX1_isOne, Cond.static yX1_isOne, Cond.initialized RX1, Cond.code yX1_isOne cX1_isOne 1 (some .boolean), Cond.methodLink RX7 122 yX4_setMark, Cond.instanceMethod yX4_setMark, Cond.selects RX4 yX4_setMark yX4_setMark, Cond.code yX4_setMark cX4_setMark 3 none, Cond.methodLink RX7 141 yX4_copy, Cond.instanceMethod yX4_copy, Cond.selects RX4 yX4_copy yX4_copy, Cond.code yX4_copy cX4_copy 3 none, Cond.methodLink RX4 51 arraycopyName, Cond.native arraycopyName, Cond.static arraycopyName, Cond.initialized "java/lang/System", Cond.fieldLink RX4 29 "SoldStops$Page" "heard" "[I", Cond.fieldLink RX4 32 "SoldStops$Page" "past" "[LSoldStops$Marks;", Cond.methodLink RX4 57 yX2_copy]
def wsX7_read_r8 : List Cond := [Cond.instanceMethod yX2_copy, Cond.selects RX2 yX2_copy yX2_copy, Cond.code yX2_copy cX2_copy 2 none, Cond.fieldLink RX2 28 "SoldStops$Marks" "purse" "I", Cond.fieldLink RX2 32 "SoldStops$Marks" "week" "I", Cond.methodLink RX2 35 arraycopyName]
def wsX7_read : List Cond := .code yX7_read cX7_read 3 (some .int) :: ((wsX7_read_r1 ++ (wsX7_read_r2 ++ (wsX7_read_r3 ++ (wsX7_read_r4 ++ (wsX7_read_r5 ++ (wsX7_read_r6 ++ (wsX7_read_r7 ++ wsX7_read_r8))))))) ++ wsX70 ++ wsX60 ++ wsX40 ++ wsX20)
def wsX7_no : List Cond := .code yX7_no cX7_no 2 (some .int) :: ([.fieldLink RX7 273 "SoldStops" "nos" "I"] ++ wsX70)
def wsX7_buy_r1 : List Cond := [Cond.fieldLink RX7 10 "SoldStops" "page" "LSoldStops$Page;", Cond.fieldLink RX7 102 "SoldStops$Page" "marks" "LSoldStops$Marks;", Cond.fieldLink RX7 119 "SoldStops$Marks" "kinds" "[I", Cond.fieldLink RX7 106 "SoldStops$Marks" "purse" "I", Cond.methodLink RX7 111 yX4_has, Cond.instanceMethod yX4_has, Cond.selects RX4 yX4_has yX4_has, Cond.initialized RX4, Cond.code yX4_has cX4_has 2 (some .boolean), Cond.fieldLink RX4 42 "SoldStops$Page" "words" "I", Cond.methodLink RX7 114 yX1_isOne, Cond.static yX1_isOne, Cond.initialized RX1, Cond.code yX1_isOne cX1_isOne 1 (some .boolean), Cond.methodLink RX7 66 yX7_bad, Cond.instanceMethod yX7_bad, Cond.selects RX7 yX7_bad yX7_bad, Cond.initialized RX7, Cond.code yX7_bad cX7_bad 2 (some .int), Cond.fieldLink RX7 270 "SoldStops" "bads" "I", Cond.methodLink RX7 145 yX4_costOf, Cond.instanceMethod yX4_costOf, Cond.selects RX4 yX4_costOf yX4_costOf, Cond.code yX4_costOf cX4_costOf 2 (some .int)]
def wsX7_buy_r2 : List Cond := [Cond.fieldLink RX4 15 "SoldStops$Page" "price" "I", Cond.fieldLink RX4 25 "SoldStops$Page" "marks" "LSoldStops$Marks;", Cond.fieldLink RX4 39 "SoldStops$Marks" "week" "I", Cond.methodLink RX4 65 yX1_cost, Cond.static yX1_cost, Cond.code yX1_cost cX1_cost 5 (some .int), Cond.methodLink RX7 148 yX7_no, Cond.instanceMethod yX7_no, Cond.selects RX7 yX7_no yX7_no, Cond.code yX7_no cX7_no 2 (some .int), Cond.fieldLink RX7 273 "SoldStops" "nos" "I", Cond.methodLink RX7 151 yX4_remember, Cond.instanceMethod yX4_remember, Cond.selects RX4 yX4_remember yX4_remember, Cond.code yX4_remember cX4_remember 1 none, Cond.fieldLink RX4 48 "SoldStops$Page" "pasts" "I", Cond.fieldLink RX4 32 "SoldStops$Page" "past" "[LSoldStops$Marks;", Cond.methodLink RX4 74 yX4_dropOldest, Cond.instanceMethod yX4_dropOldest, Cond.selects RX4 yX4_dropOldest yX4_dropOldest, Cond.code yX4_dropOldest cX4_dropOldest 3 none, Cond.methodLink RX4 57 yX2_copy, Cond.instanceMethod yX2_copy, Cond.selects RX2 yX2_copy yX2_copy]
def wsX7_buy_r3 : List Cond := [Cond.initialized RX2, Cond.code yX2_copy cX2_copy 2 none, Cond.fieldLink RX2 28 "SoldStops$Marks" "purse" "I", Cond.fieldLink RX2 32 "SoldStops$Marks" "week" "I", Cond.fieldLink RX2 9 "SoldStops$Marks" "kinds" "[I", Cond.methodLink RX2 35 arraycopyName, Cond.native arraycopyName, Cond.static arraycopyName, Cond.initialized "java/lang/System", Cond.fieldLink RX2 15 "SoldStops$Marks" "reads" "[I", Cond.methodLink RX7 154 yX2_set, Cond.instanceMethod yX2_set, Cond.selects RX2 yX2_set yX2_set, Cond.code yX2_set cX2_set 3 none]
def wsX7_buy : List Cond := .code yX7_buy cX7_buy 4 (some .int) :: ((wsX7_buy_r1 ++ (wsX7_buy_r2 ++ wsX7_buy_r3)) ++ wsX70 ++ wsX40 ++ wsX20)
def wsX7_sell_r1 : List Cond := [Cond.fieldLink RX7 10 "SoldStops" "page" "LSoldStops$Page;", Cond.fieldLink RX7 102 "SoldStops$Page" "marks" "LSoldStops$Marks;", Cond.fieldLink RX7 119 "SoldStops$Marks" "kinds" "[I", Cond.fieldLink RX7 106 "SoldStops$Marks" "purse" "I", Cond.methodLink RX7 157 Lib.Math.min.name, Cond.static Lib.Math.min.name, Cond.initialized "java/lang/Math", Cond.code Lib.Math.min.name Lib.Math.min.code 2 (some .int), Cond.methodLink RX7 111 yX4_has, Cond.instanceMethod yX4_has, Cond.selects RX4 yX4_has yX4_has, Cond.initialized RX4, Cond.code yX4_has cX4_has 2 (some .boolean), Cond.fieldLink RX4 42 "SoldStops$Page" "words" "I", Cond.methodLink RX7 66 yX7_bad, Cond.instanceMethod yX7_bad, Cond.selects RX7 yX7_bad yX7_bad, Cond.initialized RX7, Cond.code yX7_bad cX7_bad 2 (some .int), Cond.fieldLink RX7 270 "SoldStops" "bads" "I", Cond.methodLink RX7 148 yX7_no, Cond.instanceMethod yX7_no, Cond.selects RX7 yX7_no yX7_no, Cond.code yX7_no cX7_no 2 (some .int)]
def wsX7_sell_r2 : List Cond := [Cond.fieldLink RX7 273 "SoldStops" "nos" "I", Cond.methodLink RX7 145 yX4_costOf, Cond.instanceMethod yX4_costOf, Cond.selects RX4 yX4_costOf yX4_costOf, Cond.code yX4_costOf cX4_costOf 2 (some .int), Cond.fieldLink RX4 15 "SoldStops$Page" "price" "I", Cond.fieldLink RX4 25 "SoldStops$Page" "marks" "LSoldStops$Marks;", Cond.fieldLink RX4 39 "SoldStops$Marks" "week" "I", Cond.methodLink RX4 65 yX1_cost, Cond.static yX1_cost, Cond.initialized RX1, Cond.code yX1_cost cX1_cost 5 (some .int), Cond.methodLink RX7 151 yX4_remember, Cond.instanceMethod yX4_remember, Cond.selects RX4 yX4_remember yX4_remember, Cond.code yX4_remember cX4_remember 1 none, Cond.fieldLink RX4 48 "SoldStops$Page" "pasts" "I", Cond.fieldLink RX4 32 "SoldStops$Page" "past" "[LSoldStops$Marks;", Cond.methodLink RX4 74 yX4_dropOldest, Cond.instanceMethod yX4_dropOldest, Cond.selects RX4 yX4_dropOldest yX4_dropOldest, Cond.code yX4_dropOldest cX4_dropOldest 3 none, Cond.methodLink RX4 57 yX2_copy, Cond.instanceMethod yX2_copy]
def wsX7_sell_r3 : List Cond := [Cond.selects RX2 yX2_copy yX2_copy, Cond.initialized RX2, Cond.code yX2_copy cX2_copy 2 none, Cond.fieldLink RX2 28 "SoldStops$Marks" "purse" "I", Cond.fieldLink RX2 32 "SoldStops$Marks" "week" "I", Cond.fieldLink RX2 9 "SoldStops$Marks" "kinds" "[I", Cond.methodLink RX2 35 arraycopyName, Cond.native arraycopyName, Cond.static arraycopyName, Cond.initialized "java/lang/System", Cond.fieldLink RX2 15 "SoldStops$Marks" "reads" "[I", Cond.methodLink RX7 154 yX2_set, Cond.instanceMethod yX2_set, Cond.selects RX2 yX2_set yX2_set, Cond.code yX2_set cX2_set 3 none]
def wsX7_sell : List Cond := .code yX7_sell cX7_sell 3 (some .int) :: ((wsX7_sell_r1 ++ (wsX7_sell_r2 ++ wsX7_sell_r3)) ++ wsX70 ++ wsX40 ++ wsX20)
def wsX7_readOut_r1 : List Cond := [Cond.fieldLink RX7 10 "SoldStops" "page" "LSoldStops$Page;", Cond.methodLink RX7 151 yX4_remember, Cond.instanceMethod yX4_remember, Cond.selects RX4 yX4_remember yX4_remember, Cond.initialized RX4, Cond.code yX4_remember cX4_remember 1 none, Cond.fieldLink RX4 48 "SoldStops$Page" "pasts" "I", Cond.fieldLink RX4 32 "SoldStops$Page" "past" "[LSoldStops$Marks;", Cond.fieldLink RX4 25 "SoldStops$Page" "marks" "LSoldStops$Marks;", Cond.methodLink RX4 74 yX4_dropOldest, Cond.instanceMethod yX4_dropOldest, Cond.selects RX4 yX4_dropOldest yX4_dropOldest, Cond.code yX4_dropOldest cX4_dropOldest 3 none, Cond.methodLink RX4 57 yX2_copy, Cond.instanceMethod yX2_copy, Cond.selects RX2 yX2_copy yX2_copy, Cond.initialized RX2, Cond.code yX2_copy cX2_copy 2 none, Cond.fieldLink RX2 28 "SoldStops$Marks" "purse" "I", Cond.fieldLink RX2 32 "SoldStops$Marks" "week" "I", Cond.fieldLink RX2 9 "SoldStops$Marks" "kinds" "[I", Cond.methodLink RX2 35 arraycopyName, Cond.native arraycopyName, Cond.static arraycopyName]
def wsX7_readOut_r2 : List Cond := [Cond.initialized "java/lang/System", Cond.fieldLink RX2 15 "SoldStops$Marks" "reads" "[I", Cond.methodLink RX7 163 yX4_say, Cond.instanceMethod yX4_say, Cond.selects RX4 yX4_say yX4_say, Cond.code yX4_say cX4_say 3 (some .int), Cond.fieldLink RX4 9 "SoldStops$Page" "breath" "I", Cond.fieldLink RX4 42 "SoldStops$Page" "words" "I", Cond.fieldLink RX4 18 "SoldStops$Page" "lengths" "[I", Cond.methodLink RX4 80 yX4_leftBehind, Cond.instanceMethod yX4_leftBehind, Cond.selects RX4 yX4_leftBehind yX4_leftBehind, Cond.code yX4_leftBehind cX4_leftBehind 5 (some .int), Cond.fieldLink RX4 71 "SoldStops$Marks" "kinds" "[I", Cond.methodLink RX4 77 yX1_breathBehind, Cond.static yX1_breathBehind, Cond.initialized RX1, Cond.code yX1_breathBehind cX1_breathBehind 5 (some .int), Cond.methodLink RX1 9 Lib.Math.min.name, Cond.static Lib.Math.min.name, Cond.initialized "java/lang/Math", Cond.code Lib.Math.min.name Lib.Math.min.code 2 (some .int), Cond.methodLink RX1 15 Lib.Math.max.name, Cond.static Lib.Math.max.name]
def wsX7_readOut_r3 : List Cond := [Cond.code Lib.Math.max.name Lib.Math.max.code 2 (some .int), Cond.methodLink RX4 84 yX2_readOnce, Cond.instanceMethod yX2_readOnce, Cond.selects RX2 yX2_readOnce yX2_readOnce, Cond.code yX2_readOnce cX2_readOnce 3 none, Cond.methodLink RX2 18 yX1_lasts, Cond.static yX1_lasts, Cond.code yX1_lasts cX1_lasts 1 (some .int), Cond.methodLink RX2 24 yX2_set, Cond.instanceMethod yX2_set, Cond.selects RX2 yX2_set yX2_set, Cond.code yX2_set cX2_set 3 none]
def wsX7_readOut : List Cond := .code yX7_readOut cX7_readOut 1 (some .int) :: ((wsX7_readOut_r1 ++ (wsX7_readOut_r2 ++ wsX7_readOut_r3)) ++ wsX70 ++ wsX40 ++ wsX20)
def wsX7_week_r1 : List Cond := [Cond.fieldLink RX7 10 "SoldStops" "page" "LSoldStops$Page;", Cond.fieldLink RX7 102 "SoldStops$Page" "marks" "LSoldStops$Marks;", Cond.fieldLink RX7 166 "SoldStops$Marks" "week" "I", Cond.methodLink RX7 98 yX7_isWithin, Cond.static yX7_isWithin, Cond.initialized RX7, Cond.code yX7_isWithin cX7_isWithin 3 (some .boolean), Cond.methodLink RX7 66 yX7_bad, Cond.instanceMethod yX7_bad, Cond.selects RX7 yX7_bad yX7_bad, Cond.code yX7_bad cX7_bad 2 (some .int), Cond.fieldLink RX7 270 "SoldStops" "bads" "I", Cond.methodLink RX7 151 yX4_remember, Cond.instanceMethod yX4_remember, Cond.selects RX4 yX4_remember yX4_remember, Cond.initialized RX4, Cond.code yX4_remember cX4_remember 1 none, Cond.fieldLink RX4 48 "SoldStops$Page" "pasts" "I", Cond.fieldLink RX4 32 "SoldStops$Page" "past" "[LSoldStops$Marks;", Cond.fieldLink RX4 25 "SoldStops$Page" "marks" "LSoldStops$Marks;", Cond.methodLink RX4 74 yX4_dropOldest, Cond.instanceMethod yX4_dropOldest, Cond.selects RX4 yX4_dropOldest yX4_dropOldest, Cond.code yX4_dropOldest cX4_dropOldest 3 none]
def wsX7_week_r2 : List Cond := [Cond.methodLink RX4 57 yX2_copy, Cond.instanceMethod yX2_copy, Cond.selects RX2 yX2_copy yX2_copy, Cond.initialized RX2, Cond.code yX2_copy cX2_copy 2 none, Cond.fieldLink RX2 28 "SoldStops$Marks" "purse" "I", Cond.fieldLink RX2 32 "SoldStops$Marks" "week" "I", Cond.fieldLink RX2 9 "SoldStops$Marks" "kinds" "[I", Cond.methodLink RX2 35 arraycopyName, Cond.native arraycopyName, Cond.static arraycopyName, Cond.initialized "java/lang/System", Cond.fieldLink RX2 15 "SoldStops$Marks" "reads" "[I"]
def wsX7_week : List Cond := .code yX7_week cX7_week 2 (some .int) :: ((wsX7_week_r1 ++ wsX7_week_r2) ++ wsX70 ++ wsX40 ++ wsX20)
def wsX7_undo_r1 : List Cond := [Cond.fieldLink RX7 10 "SoldStops" "page" "LSoldStops$Page;", Cond.fieldLink RX7 169 "SoldStops$Page" "pasts" "I", Cond.fieldLink RX7 102 "SoldStops$Page" "marks" "LSoldStops$Marks;", Cond.fieldLink RX7 106 "SoldStops$Marks" "purse" "I", Cond.methodLink RX7 148 yX7_no, Cond.instanceMethod yX7_no, Cond.selects RX7 yX7_no yX7_no, Cond.initialized RX7, Cond.code yX7_no cX7_no 2 (some .int), Cond.fieldLink RX7 273 "SoldStops" "nos" "I", Cond.methodLink RX7 172 yX4_goBack, Cond.instanceMethod yX4_goBack, Cond.selects RX4 yX4_goBack yX4_goBack, Cond.initialized RX4, Cond.code yX4_goBack cX4_goBack 1 none, Cond.fieldLink RX4 48 "SoldStops$Page" "pasts" "I", Cond.fieldLink RX4 25 "SoldStops$Page" "marks" "LSoldStops$Marks;", Cond.fieldLink RX4 32 "SoldStops$Page" "past" "[LSoldStops$Marks;", Cond.methodLink RX4 57 yX2_copy, Cond.instanceMethod yX2_copy, Cond.selects RX2 yX2_copy yX2_copy, Cond.initialized RX2, Cond.code yX2_copy cX2_copy 2 none, Cond.fieldLink RX2 28 "SoldStops$Marks" "purse" "I"]
def wsX7_undo_r2 : List Cond := [Cond.fieldLink RX2 32 "SoldStops$Marks" "week" "I", Cond.fieldLink RX2 9 "SoldStops$Marks" "kinds" "[I", Cond.methodLink RX2 35 arraycopyName, Cond.native arraycopyName, Cond.static arraycopyName, Cond.initialized "java/lang/System", Cond.fieldLink RX2 15 "SoldStops$Marks" "reads" "[I"]
def wsX7_undo : List Cond := .code yX7_undo cX7_undo 1 (some .int) :: ((wsX7_undo_r1 ++ wsX7_undo_r2) ++ wsX70 ++ wsX40 ++ wsX20)
def wsX7_of_r1 : List Cond := [Cond.fieldLink RX7 10 "SoldStops" "page" "LSoldStops$Page;", Cond.fieldLink RX7 175 "SoldStops$Page" "lengths" "[I", Cond.fieldLink RX7 102 "SoldStops$Page" "marks" "LSoldStops$Marks;", Cond.fieldLink RX7 119 "SoldStops$Marks" "kinds" "[I", Cond.fieldLink RX7 178 "SoldStops$Marks" "reads" "[I", Cond.methodLink RX7 111 yX4_has, Cond.instanceMethod yX4_has, Cond.selects RX4 yX4_has yX4_has, Cond.initialized RX4, Cond.code yX4_has cX4_has 2 (some .boolean), Cond.fieldLink RX4 42 "SoldStops$Page" "words" "I", Cond.methodLink RX7 66 yX7_bad, Cond.instanceMethod yX7_bad, Cond.selects RX7 yX7_bad yX7_bad, Cond.initialized RX7, Cond.code yX7_bad cX7_bad 2 (some .int), Cond.fieldLink RX7 270 "SoldStops" "bads" "I", Cond.methodLink RX7 145 yX4_costOf, Cond.instanceMethod yX4_costOf, Cond.selects RX4 yX4_costOf yX4_costOf, Cond.code yX4_costOf cX4_costOf 2 (some .int), Cond.fieldLink RX4 15 "SoldStops$Page" "price" "I", Cond.fieldLink RX4 25 "SoldStops$Page" "marks" "LSoldStops$Marks;", Cond.fieldLink RX4 39 "SoldStops$Marks" "week" "I"]
def wsX7_of_r2 : List Cond := [Cond.methodLink RX4 65 yX1_cost, Cond.static yX1_cost, Cond.initialized RX1, Cond.code yX1_cost cX1_cost 5 (some .int)]
def wsX7_of : List Cond := .code yX7_of cX7_of 3 (some .int) :: ((wsX7_of_r1 ++ wsX7_of_r2) ++ wsX70 ++ wsX40 ++ wsX20)
def wsX7_costs : List Cond := .code yX7_costs cX7_costs 2 (some .int) :: ([.fieldLink RX7 10 "SoldStops" "page" "LSoldStops$Page;", .methodLink RX7 114 yX1_isOne, .static yX1_isOne, .initialized RX1, .code yX1_isOne cX1_isOne 1 (some .boolean), .methodLink RX7 145 yX4_costOf, .instanceMethod yX4_costOf, .selects RX4 yX4_costOf yX4_costOf, .initialized RX4, .code yX4_costOf cX4_costOf 2 (some .int), .fieldLink RX4 15 "SoldStops$Page" "price" "I", .fieldLink RX4 25 "SoldStops$Page" "marks" "LSoldStops$Marks;", .fieldLink RX4 39 "SoldStops$Marks" "week" "I", .methodLink RX4 65 yX1_cost, .static yX1_cost, .code yX1_cost cX1_cost 5 (some .int), .methodLink RX7 66 yX7_bad, .instanceMethod yX7_bad, .selects RX7 yX7_bad yX7_bad, .initialized RX7, .code yX7_bad cX7_bad 2 (some .int), .fieldLink RX7 270 "SoldStops" "bads" "I"] ++ wsX70 ++ wsX40 ++ wsX20)
def wsX7_gives_r1 : List Cond := [Cond.fieldLink RX7 10 "SoldStops" "page" "LSoldStops$Page;", Cond.fieldLink RX7 92 "SoldStops$Page" "breath" "I", Cond.methodLink RX7 114 yX1_isOne, Cond.static yX1_isOne, Cond.initialized RX1, Cond.code yX1_isOne cX1_isOne 1 (some .boolean), Cond.methodLink RX7 98 yX7_isWithin, Cond.static yX7_isWithin, Cond.initialized RX7, Cond.code yX7_isWithin cX7_isWithin 3 (some .boolean), Cond.methodLink RX7 66 yX7_bad, Cond.instanceMethod yX7_bad, Cond.selects RX7 yX7_bad yX7_bad, Cond.code yX7_bad cX7_bad 2 (some .int), Cond.fieldLink RX7 270 "SoldStops" "bads" "I", Cond.methodLink RX7 181 yX1_breathBehind, Cond.static yX1_breathBehind, Cond.code yX1_breathBehind cX1_breathBehind 5 (some .int), Cond.methodLink RX1 9 Lib.Math.min.name, Cond.static Lib.Math.min.name, Cond.initialized "java/lang/Math", Cond.code Lib.Math.min.name Lib.Math.min.code 2 (some .int), Cond.methodLink RX1 15 Lib.Math.max.name, Cond.static Lib.Math.max.name]
def wsX7_gives_r2 : List Cond := [Cond.code Lib.Math.max.name Lib.Math.max.code 2 (some .int)]
def wsX7_gives : List Cond := .code yX7_gives cX7_gives 3 (some .int) :: ((wsX7_gives_r1 ++ wsX7_gives_r2) ++ wsX70 ++ wsX40)
def wsX7_stuck_r1 : List Cond := [Cond.fieldLink RX7 10 "SoldStops" "page" "LSoldStops$Page;", Cond.fieldLink RX7 92 "SoldStops$Page" "breath" "I", Cond.methodLink RX7 185 yX4_stuckAt, Cond.instanceMethod yX4_stuckAt, Cond.selects RX4 yX4_stuckAt yX4_stuckAt, Cond.initialized RX4, Cond.code yX4_stuckAt cX4_stuckAt 5 (some .int), Cond.fieldLink RX4 42 "SoldStops$Page" "words" "I", Cond.fieldLink RX4 18 "SoldStops$Page" "lengths" "[I", Cond.methodLink RX4 80 yX4_leftBehind, Cond.instanceMethod yX4_leftBehind, Cond.selects RX4 yX4_leftBehind yX4_leftBehind, Cond.code yX4_leftBehind cX4_leftBehind 5 (some .int), Cond.fieldLink RX4 25 "SoldStops$Page" "marks" "LSoldStops$Marks;", Cond.fieldLink RX4 71 "SoldStops$Marks" "kinds" "[I", Cond.methodLink RX4 77 yX1_breathBehind, Cond.static yX1_breathBehind, Cond.initialized RX1, Cond.code yX1_breathBehind cX1_breathBehind 5 (some .int), Cond.methodLink RX1 9 Lib.Math.min.name, Cond.static Lib.Math.min.name, Cond.initialized "java/lang/Math", Cond.code Lib.Math.min.name Lib.Math.min.code 2 (some .int), Cond.methodLink RX1 15 Lib.Math.max.name]
def wsX7_stuck_r2 : List Cond := [Cond.static Lib.Math.max.name, Cond.code Lib.Math.max.name Lib.Math.max.code 2 (some .int)]
def wsX7_stuck : List Cond := .code yX7_stuck cX7_stuck 1 (some .int) :: ((wsX7_stuck_r1 ++ wsX7_stuck_r2) ++ wsX70 ++ wsX40 ++ wsX20)
def wsX7_sentences_r1 : List Cond := [Cond.fieldLink RX7 10 "SoldStops" "page" "LSoldStops$Page;", Cond.methodLink RX7 188 yX4_howManySentences, Cond.instanceMethod yX4_howManySentences, Cond.selects RX4 yX4_howManySentences yX4_howManySentences, Cond.initialized RX4, Cond.code yX4_howManySentences cX4_howManySentences 3 (some .int), Cond.fieldLink RX4 42 "SoldStops$Page" "words" "I", Cond.fieldLink RX4 25 "SoldStops$Page" "marks" "LSoldStops$Marks;", Cond.fieldLink RX4 71 "SoldStops$Marks" "kinds" "[I", Cond.methodLink RX4 93 yX1_ends, Cond.static yX1_ends, Cond.initialized RX1, Cond.code yX1_ends cX1_ends 1 (some .boolean), Cond.methodLink RX4 97 yX4_lastIsEnded, Cond.instanceMethod yX4_lastIsEnded, Cond.selects RX4 yX4_lastIsEnded yX4_lastIsEnded, Cond.code yX4_lastIsEnded cX4_lastIsEnded 1 (some .boolean), Cond.methodLink RX7 191 yX4_lastIsEnded, Cond.methodLink RX7 194 yX4_longestSentence, Cond.instanceMethod yX4_longestSentence, Cond.selects RX4 yX4_longestSentence yX4_longestSentence, Cond.code yX4_longestSentence cX4_longestSentence 7 (some .int), Cond.methodLink RX7 66 yX7_bad, Cond.instanceMethod yX7_bad]
def wsX7_sentences_r2 : List Cond := [Cond.selects RX7 yX7_bad yX7_bad, Cond.initialized RX7, Cond.code yX7_bad cX7_bad 2 (some .int), Cond.fieldLink RX7 270 "SoldStops" "bads" "I"]
def wsX7_sentences : List Cond := .code yX7_sentences cX7_sentences 2 (some .int) :: ((wsX7_sentences_r1 ++ wsX7_sentences_r2) ++ wsX70 ++ wsX40 ++ wsX20)
def wsX7_cheapest_r1 : List Cond := [Cond.fieldLink RX7 37 "SoldStops" "plan" "LSoldStops$Plan;", Cond.fieldLink RX7 10 "SoldStops" "page" "LSoldStops$Page;", Cond.fieldLink RX7 70 "SoldStops$Page" "words" "I", Cond.methodLink RX7 59 yX7_isBreath, Cond.static yX7_isBreath, Cond.initialized RX7, Cond.code yX7_isBreath cX7_isBreath 1 (some .boolean), Cond.methodLink RX7 98 yX7_isWithin, Cond.static yX7_isWithin, Cond.code yX7_isWithin cX7_isWithin 3 (some .boolean), Cond.methodLink RX7 66 yX7_bad, Cond.instanceMethod yX7_bad, Cond.selects RX7 yX7_bad yX7_bad, Cond.code yX7_bad cX7_bad 2 (some .int), Cond.fieldLink RX7 270 "SoldStops" "bads" "I", Cond.methodLink RX7 198 yX5_make, Cond.instanceMethod yX5_make, Cond.selects RX5 yX5_make yX5_make, Cond.initialized RX5, Cond.code yX5_make cX5_make 8 none, Cond.fieldLink RX5 29 "SoldStops$Page" "words" "I", Cond.fieldLink RX5 11 "SoldStops$Plan" "costs" "[[I", Cond.fieldLink RX5 16 "SoldStops$Plan" "fewest" "[[I", Cond.constant RX5 41 (1000000)]
def wsX7_cheapest_r2 : List Cond := [Cond.fieldLink RX5 19 "SoldStops$Plan" "choices" "[[I", Cond.fieldLink RX5 42 "SoldStops$Page" "lengths" "[I", Cond.methodLink RX5 35 yJ7_fill_53178, Cond.static yJ7_fill_53178, Cond.initialized RJ7, Cond.code yJ7_fill_53178 cJ7_fill_53178 4 none, Cond.methodLink RX5 45 yX5_choose, Cond.instanceMethod yX5_choose, Cond.selects RX5 yX5_choose yX5_choose, Cond.code yX5_choose cX5_choose 14 none, Cond.fieldLink RX5 49 "SoldStops$Page" "marks" "LSoldStops$Marks;", Cond.fieldLink RX5 53 "SoldStops$Marks" "kinds" "[I", Cond.methodLink RX5 60 yX1_breathBehind, Cond.static yX1_breathBehind, Cond.initialized RX1, Cond.code yX1_breathBehind cX1_breathBehind 5 (some .int), Cond.methodLink RX1 9 Lib.Math.min.name, Cond.static Lib.Math.min.name, Cond.initialized "java/lang/Math", Cond.code Lib.Math.min.name Lib.Math.min.code 2 (some .int), Cond.methodLink RX1 15 Lib.Math.max.name, Cond.static Lib.Math.max.name, Cond.code Lib.Math.max.name Lib.Math.max.code 2 (some .int), Cond.methodLink RX5 64 yX4_costOf]
def wsX7_cheapest_r3 : List Cond := [Cond.instanceMethod yX4_costOf, Cond.selects RX4 yX4_costOf yX4_costOf, Cond.initialized RX4, Cond.code yX4_costOf cX4_costOf 2 (some .int), Cond.fieldLink RX4 15 "SoldStops$Page" "price" "I", Cond.fieldLink RX4 25 "SoldStops$Page" "marks" "LSoldStops$Marks;", Cond.fieldLink RX4 39 "SoldStops$Marks" "week" "I", Cond.methodLink RX4 65 yX1_cost, Cond.static yX1_cost, Cond.code yX1_cost cX1_cost 5 (some .int), Cond.methodLink RX5 68 yX1_ends, Cond.static yX1_ends, Cond.code yX1_ends cX1_ends 1 (some .boolean), Cond.methodLink RX7 202 yX5_isThere, Cond.instanceMethod yX5_isThere, Cond.selects RX5 yX5_isThere yX5_isThere, Cond.code yX5_isThere cX5_isThere 2 (some .boolean), Cond.methodLink RX7 205 yX5_cost, Cond.instanceMethod yX5_cost, Cond.selects RX5 yX5_cost yX5_cost, Cond.code yX5_cost cX5_cost 2 (some .int), Cond.methodLink RX7 208 yX5_kindBehind, Cond.instanceMethod yX5_kindBehind, Cond.selects RX5 yX5_kindBehind yX5_kindBehind]
def wsX7_cheapest_r4 : List Cond := [Cond.code yX5_kindBehind cX5_kindBehind 8 (some .int)]
def wsX7_cheapest : List Cond := .code yX7_cheapest cX7_cheapest 4 (some .int) :: ((wsX7_cheapest_r1 ++ (wsX7_cheapest_r2 ++ (wsX7_cheapest_r3 ++ wsX7_cheapest_r4))) ++ wsX70 ++ wsX40 ++ wsX50 ++ wsX20)
def wsX7_reach_r1 : List Cond := [Cond.fieldLink RX7 37 "SoldStops" "plan" "LSoldStops$Plan;", Cond.fieldLink RX7 10 "SoldStops" "page" "LSoldStops$Page;", Cond.methodLink RX7 98 yX7_isWithin, Cond.static yX7_isWithin, Cond.initialized RX7, Cond.code yX7_isWithin cX7_isWithin 3 (some .boolean), Cond.methodLink RX7 212 yX5_reachFor, Cond.instanceMethod yX5_reachFor, Cond.selects RX5 yX5_reachFor yX5_reachFor, Cond.initialized RX5, Cond.code yX5_reachFor cX5_reachFor 6 (some .int), Cond.fieldLink RX5 22 "SoldStops$Plan" "now" "[I", Cond.constant RX5 41 (1000000), Cond.fieldLink RX5 72 "SoldStops$Page" "breath" "I", Cond.fieldLink RX5 29 "SoldStops$Page" "words" "I", Cond.fieldLink RX5 26 "SoldStops$Plan" "then" "[I", Cond.fieldLink RX5 42 "SoldStops$Page" "lengths" "[I", Cond.methodLink RX5 79 arraycopyName, Cond.native arraycopyName, Cond.static arraycopyName, Cond.initialized "java/lang/System", Cond.methodLink RX5 35 yJ7_fill_53178, Cond.static yJ7_fill_53178, Cond.initialized RJ7]
def wsX7_reach_r2 : List Cond := [Cond.code yJ7_fill_53178 cJ7_fill_53178 4 none, Cond.methodLink RX5 75 yX5_spread, Cond.instanceMethod yX5_spread, Cond.selects RX5 yX5_spread yX5_spread, Cond.code yX5_spread cX5_spread 9 none, Cond.fieldLink RX5 49 "SoldStops$Page" "marks" "LSoldStops$Marks;", Cond.fieldLink RX5 53 "SoldStops$Marks" "kinds" "[I", Cond.methodLink RX5 85 Lib.Math.min.name, Cond.static Lib.Math.min.name, Cond.initialized "java/lang/Math", Cond.code Lib.Math.min.name Lib.Math.min.code 2 (some .int), Cond.methodLink RX5 60 yX1_breathBehind, Cond.static yX1_breathBehind, Cond.initialized RX1, Cond.code yX1_breathBehind cX1_breathBehind 5 (some .int), Cond.methodLink RX1 9 Lib.Math.min.name, Cond.methodLink RX1 15 Lib.Math.max.name, Cond.static Lib.Math.max.name, Cond.code Lib.Math.max.name Lib.Math.max.code 2 (some .int), Cond.methodLink RX5 64 yX4_costOf, Cond.instanceMethod yX4_costOf, Cond.selects RX4 yX4_costOf yX4_costOf, Cond.initialized RX4, Cond.code yX4_costOf cX4_costOf 2 (some .int)]
def wsX7_reach_r3 : List Cond := [Cond.fieldLink RX4 15 "SoldStops$Page" "price" "I", Cond.fieldLink RX4 25 "SoldStops$Page" "marks" "LSoldStops$Marks;", Cond.fieldLink RX4 39 "SoldStops$Marks" "week" "I", Cond.methodLink RX4 65 yX1_cost, Cond.static yX1_cost, Cond.code yX1_cost cX1_cost 5 (some .int), Cond.methodLink RX7 66 yX7_bad, Cond.instanceMethod yX7_bad, Cond.selects RX7 yX7_bad yX7_bad, Cond.code yX7_bad cX7_bad 2 (some .int), Cond.fieldLink RX7 270 "SoldStops" "bads" "I"]
def wsX7_reach : List Cond := .code yX7_reach cX7_reach 2 (some .int) :: ((wsX7_reach_r1 ++ (wsX7_reach_r2 ++ wsX7_reach_r3)) ++ wsX70 ++ wsX50 ++ wsX40 ++ wsX20)
def wsX7_order_r1 : List Cond := [Cond.fieldLink RX7 10 "SoldStops" "page" "LSoldStops$Page;", Cond.fieldLink RX7 70 "SoldStops$Page" "words" "I", Cond.fieldLink RX7 44 "SoldStops" "order" "LSoldStops$Order;", Cond.fieldLink RX7 219 "SoldStops$Order" "most" "I", Cond.fieldLink RX7 222 "SoldStops$Order" "best" "[I", Cond.methodLink RX7 66 yX7_bad, Cond.instanceMethod yX7_bad, Cond.selects RX7 yX7_bad yX7_bad, Cond.initialized RX7, Cond.code yX7_bad cX7_bad 2 (some .int), Cond.fieldLink RX7 270 "SoldStops" "bads" "I", Cond.methodLink RX7 148 yX7_no, Cond.instanceMethod yX7_no, Cond.selects RX7 yX7_no yX7_no, Cond.code yX7_no cX7_no 2 (some .int), Cond.fieldLink RX7 273 "SoldStops" "nos" "I", Cond.methodLink RX7 216 yX3_search, Cond.instanceMethod yX3_search, Cond.selects RX3 yX3_search yX3_search, Cond.initialized RX3, Cond.code yX3_search cX3_search 3 none, Cond.fieldLink RX3 22 "SoldStops$Order" "most" "I", Cond.fieldLink RX3 9 "SoldStops$Order" "best" "[I", Cond.fieldLink RX3 18 "SoldStops$Order" "used" "[Z"]
def wsX7_order_r2 : List Cond := [Cond.fieldLink RX3 26 "SoldStops$Page" "breath" "I", Cond.methodLink RX3 31 yX3_extend, Cond.static yX3_extend, Cond.code yX3_extend cX3_extend 6 none, Cond.fieldLink RX3 35 "SoldStops$Page" "words" "I", Cond.fieldLink RX3 42 "SoldStops$Page" "lengths" "[I", Cond.fieldLink RX3 15 "SoldStops$Order" "row" "[I", Cond.methodLink RX3 38 yX3_keepRow, Cond.instanceMethod yX3_keepRow, Cond.selects RX3 yX3_keepRow yX3_keepRow, Cond.code yX3_keepRow cX3_keepRow 5 none, Cond.methodLink RX3 49 arraycopyName, Cond.native arraycopyName, Cond.static arraycopyName, Cond.initialized "java/lang/System", Cond.methodLink RX3 45 yX4_leftBehind, Cond.instanceMethod yX4_leftBehind, Cond.selects RX4 yX4_leftBehind yX4_leftBehind, Cond.initialized RX4, Cond.code yX4_leftBehind cX4_leftBehind 5 (some .int), Cond.fieldLink RX4 25 "SoldStops$Page" "marks" "LSoldStops$Marks;", Cond.fieldLink RX4 71 "SoldStops$Marks" "kinds" "[I", Cond.methodLink RX4 77 yX1_breathBehind, Cond.static yX1_breathBehind]
def wsX7_order_r3 : List Cond := [Cond.initialized RX1, Cond.code yX1_breathBehind cX1_breathBehind 5 (some .int), Cond.methodLink RX1 9 Lib.Math.min.name, Cond.static Lib.Math.min.name, Cond.initialized "java/lang/Math", Cond.code Lib.Math.min.name Lib.Math.min.code 2 (some .int), Cond.methodLink RX1 15 Lib.Math.max.name, Cond.static Lib.Math.max.name, Cond.code Lib.Math.max.name Lib.Math.max.code 2 (some .int)]
def wsX7_order : List Cond := .code yX7_order cX7_order 2 (some .int) :: ((wsX7_order_r1 ++ (wsX7_order_r2 ++ wsX7_order_r3)) ++ wsX70 ++ wsX40 ++ wsX30 ++ wsX20)
def wsX7_heard_r1 : List Cond := [Cond.fieldLink RX7 10 "SoldStops" "page" "LSoldStops$Page;", Cond.fieldLink RX7 225 "SoldStops$Page" "heards" "I", Cond.methodLink RX7 111 yX4_has, Cond.instanceMethod yX4_has, Cond.selects RX4 yX4_has yX4_has, Cond.initialized RX4, Cond.code yX4_has cX4_has 2 (some .boolean), Cond.fieldLink RX4 42 "SoldStops$Page" "words" "I", Cond.methodLink RX7 66 yX7_bad, Cond.instanceMethod yX7_bad, Cond.selects RX7 yX7_bad yX7_bad, Cond.initialized RX7, Cond.code yX7_bad cX7_bad 2 (some .int), Cond.fieldLink RX7 270 "SoldStops" "bads" "I", Cond.methodLink RX7 85 yX7_full, Cond.instanceMethod yX7_full, Cond.selects RX7 yX7_full yX7_full, Cond.code yX7_full cX7_full 2 (some .int), Cond.fieldLink RX7 276 "SoldStops" "fulls" "I", Cond.methodLink RX7 228 yX4_breathsStuckAt, Cond.instanceMethod yX4_breathsStuckAt, Cond.selects RX4 yX4_breathsStuckAt yX4_breathsStuckAt, Cond.code yX4_breathsStuckAt cX4_breathsStuckAt 4 (some .int), Cond.methodLink RX4 88 yX4_stuckAt]
def wsX7_heard_r2 : List Cond := [Cond.instanceMethod yX4_stuckAt, Cond.selects RX4 yX4_stuckAt yX4_stuckAt, Cond.code yX4_stuckAt cX4_stuckAt 5 (some .int), Cond.fieldLink RX4 18 "SoldStops$Page" "lengths" "[I", Cond.methodLink RX4 80 yX4_leftBehind, Cond.instanceMethod yX4_leftBehind, Cond.selects RX4 yX4_leftBehind yX4_leftBehind, Cond.code yX4_leftBehind cX4_leftBehind 5 (some .int), Cond.fieldLink RX4 25 "SoldStops$Page" "marks" "LSoldStops$Marks;", Cond.fieldLink RX4 71 "SoldStops$Marks" "kinds" "[I", Cond.methodLink RX4 77 yX1_breathBehind, Cond.static yX1_breathBehind, Cond.initialized RX1, Cond.code yX1_breathBehind cX1_breathBehind 5 (some .int), Cond.methodLink RX1 9 Lib.Math.min.name, Cond.static Lib.Math.min.name, Cond.initialized "java/lang/Math", Cond.code Lib.Math.min.name Lib.Math.min.code 2 (some .int), Cond.methodLink RX1 15 Lib.Math.max.name, Cond.static Lib.Math.max.name, Cond.code Lib.Math.max.name Lib.Math.max.code 2 (some .int), Cond.methodLink RX7 231 yX4_addHeard, Cond.instanceMethod yX4_addHeard, Cond.selects RX4 yX4_addHeard yX4_addHeard]
def wsX7_heard_r3 : List Cond := [Cond.code yX4_addHeard cX4_addHeard 2 none, Cond.fieldLink RX4 29 "SoldStops$Page" "heard" "[I", Cond.fieldLink RX4 45 "SoldStops$Page" "heards" "I"]
def wsX7_heard : List Cond := .code yX7_heard cX7_heard 2 (some .int) :: ((wsX7_heard_r1 ++ (wsX7_heard_r2 ++ wsX7_heard_r3)) ++ wsX70 ++ wsX40 ++ wsX20)
def wsX7_forget : List Cond := .code yX7_forget cX7_forget 2 (some .int) :: ([.fieldLink RX7 10 "SoldStops" "page" "LSoldStops$Page;", .fieldLink RX7 225 "SoldStops$Page" "heards" "I"] ++ wsX70 ++ wsX40)
def wsX7_breaths : List Cond := .code yX7_breaths cX7_breaths 1 (some .int) :: ([.fieldLink RX7 10 "SoldStops" "page" "LSoldStops$Page;", .methodLink RX7 234 yX4_breathsHeard, .instanceMethod yX4_breathsHeard, .selects RX4 yX4_breathsHeard yX4_breathsHeard, .initialized RX4, .code yX4_breathsHeard cX4_breathsHeard 3 (some .int), .constant RX4 92 (2147483646), .fieldLink RX4 45 "SoldStops$Page" "heards" "I", .fieldLink RX4 29 "SoldStops$Page" "heard" "[I"] ++ wsX70 ++ wsX40)
def wsX7_mostAlike_r1 : List Cond := [Cond.fieldLink RX7 55 "SoldStops" "alike" "[I", Cond.fieldLink RX7 10 "SoldStops" "page" "LSoldStops$Page;", Cond.methodLink RX7 307 Lib.Math.max.name, Cond.static Lib.Math.max.name, Cond.initialized "java/lang/Math", Cond.code Lib.Math.max.name Lib.Math.max.code 2 (some .int), Cond.methodLink RX7 301 yJ7_fill_53178, Cond.static yJ7_fill_53178, Cond.initialized RJ7, Cond.code yJ7_fill_53178 cJ7_fill_53178 4 none, Cond.methodLink RX7 185 yX4_stuckAt, Cond.instanceMethod yX4_stuckAt, Cond.selects RX4 yX4_stuckAt yX4_stuckAt, Cond.initialized RX4, Cond.code yX4_stuckAt cX4_stuckAt 5 (some .int), Cond.fieldLink RX4 42 "SoldStops$Page" "words" "I", Cond.fieldLink RX4 18 "SoldStops$Page" "lengths" "[I", Cond.methodLink RX4 80 yX4_leftBehind, Cond.instanceMethod yX4_leftBehind, Cond.selects RX4 yX4_leftBehind yX4_leftBehind, Cond.code yX4_leftBehind cX4_leftBehind 5 (some .int), Cond.fieldLink RX4 25 "SoldStops$Page" "marks" "LSoldStops$Marks;", Cond.fieldLink RX4 71 "SoldStops$Marks" "kinds" "[I", Cond.methodLink RX4 77 yX1_breathBehind]
def wsX7_mostAlike_r2 : List Cond := [Cond.static yX1_breathBehind, Cond.initialized RX1, Cond.code yX1_breathBehind cX1_breathBehind 5 (some .int), Cond.methodLink RX1 9 Lib.Math.min.name, Cond.static Lib.Math.min.name, Cond.code Lib.Math.min.name Lib.Math.min.code 2 (some .int), Cond.methodLink RX1 15 Lib.Math.max.name]
def wsX7_mostAlike : List Cond := .code yX7_mostAlike cX7_mostAlike 7 (some .int) :: ((wsX7_mostAlike_r1 ++ wsX7_mostAlike_r2) ++ wsX70 ++ wsX40 ++ wsX20)
def wsX7_shorter_r1 : List Cond := [Cond.fieldLink RX7 10 "SoldStops" "page" "LSoldStops$Page;", Cond.fieldLink RX7 70 "SoldStops$Page" "words" "I", Cond.methodLink RX7 234 yX4_breathsHeard, Cond.instanceMethod yX4_breathsHeard, Cond.selects RX4 yX4_breathsHeard yX4_breathsHeard, Cond.initialized RX4, Cond.code yX4_breathsHeard cX4_breathsHeard 3 (some .int), Cond.constant RX4 92 (2147483646), Cond.fieldLink RX4 45 "SoldStops$Page" "heards" "I", Cond.fieldLink RX4 29 "SoldStops$Page" "heard" "[I", Cond.methodLink RX7 237 yX7_mostAlike, Cond.instanceMethod yX7_mostAlike, Cond.selects RX7 yX7_mostAlike yX7_mostAlike, Cond.initialized RX7, Cond.code yX7_mostAlike cX7_mostAlike 7 (some .int), Cond.fieldLink RX7 55 "SoldStops" "alike" "[I", Cond.methodLink RX7 307 Lib.Math.max.name, Cond.static Lib.Math.max.name, Cond.initialized "java/lang/Math", Cond.code Lib.Math.max.name Lib.Math.max.code 2 (some .int), Cond.methodLink RX7 301 yJ7_fill_53178, Cond.static yJ7_fill_53178, Cond.initialized RJ7, Cond.code yJ7_fill_53178 cJ7_fill_53178 4 none]
def wsX7_shorter_r2 : List Cond := [Cond.methodLink RX7 185 yX4_stuckAt, Cond.instanceMethod yX4_stuckAt, Cond.selects RX4 yX4_stuckAt yX4_stuckAt, Cond.code yX4_stuckAt cX4_stuckAt 5 (some .int), Cond.fieldLink RX4 42 "SoldStops$Page" "words" "I", Cond.fieldLink RX4 18 "SoldStops$Page" "lengths" "[I", Cond.methodLink RX4 80 yX4_leftBehind, Cond.instanceMethod yX4_leftBehind, Cond.selects RX4 yX4_leftBehind yX4_leftBehind, Cond.code yX4_leftBehind cX4_leftBehind 5 (some .int), Cond.fieldLink RX4 25 "SoldStops$Page" "marks" "LSoldStops$Marks;", Cond.fieldLink RX4 71 "SoldStops$Marks" "kinds" "[I", Cond.methodLink RX4 77 yX1_breathBehind, Cond.static yX1_breathBehind, Cond.initialized RX1, Cond.code yX1_breathBehind cX1_breathBehind 5 (some .int), Cond.methodLink RX1 9 Lib.Math.min.name, Cond.static Lib.Math.min.name, Cond.code Lib.Math.min.name Lib.Math.min.code 2 (some .int), Cond.methodLink RX1 15 Lib.Math.max.name]
def wsX7_shorter : List Cond := .code yX7_shorter cX7_shorter 6 (some .int) :: ((wsX7_shorter_r1 ++ wsX7_shorter_r2) ++ wsX70 ++ wsX40 ++ wsX20)
def wsX7_gain : List Cond := .code yX7_gain cX7_gain 4 (some .int) :: ([])
def wsX7_isBest : List Cond := .code yX7_isBest cX7_isBest 7 (some .boolean) :: ([.methodLink RX7 310 yX7_gain, .static yX7_gain, .initialized RX7, .code yX7_gain cX7_gain 4 (some .int)])
def wsX7_bid_r1 : List Cond := [Cond.fieldLink RX7 10 "SoldStops" "page" "LSoldStops$Page;", Cond.methodLink RX7 98 yX7_isWithin, Cond.static yX7_isWithin, Cond.initialized RX7, Cond.code yX7_isWithin cX7_isWithin 3 (some .boolean), Cond.methodLink RX7 114 yX1_isOne, Cond.static yX1_isOne, Cond.initialized RX1, Cond.code yX1_isOne cX1_isOne 1 (some .boolean), Cond.methodLink RX7 66 yX7_bad, Cond.instanceMethod yX7_bad, Cond.selects RX7 yX7_bad yX7_bad, Cond.code yX7_bad cX7_bad 2 (some .int), Cond.fieldLink RX7 270 "SoldStops" "bads" "I", Cond.methodLink RX7 145 yX4_costOf, Cond.instanceMethod yX4_costOf, Cond.selects RX4 yX4_costOf yX4_costOf, Cond.initialized RX4, Cond.code yX4_costOf cX4_costOf 2 (some .int), Cond.fieldLink RX4 15 "SoldStops$Page" "price" "I", Cond.fieldLink RX4 25 "SoldStops$Page" "marks" "LSoldStops$Marks;", Cond.fieldLink RX4 39 "SoldStops$Marks" "week" "I", Cond.methodLink RX4 65 yX1_cost, Cond.static yX1_cost]
def wsX7_bid_r2 : List Cond := [Cond.code yX1_cost cX1_cost 5 (some .int), Cond.methodLink RX7 240 yX7_isBest, Cond.static yX7_isBest, Cond.code yX7_isBest cX7_isBest 7 (some .boolean), Cond.methodLink RX7 310 yX7_gain, Cond.static yX7_gain, Cond.code yX7_gain cX7_gain 4 (some .int)]
def wsX7_bid : List Cond := .code yX7_bid cX7_bid 14 (some .int) :: ((wsX7_bid_r1 ++ wsX7_bid_r2) ++ wsX70 ++ wsX40 ++ wsX20)
def wsX7_odds_r1 : List Cond := [Cond.fieldLink RX7 51 "SoldStops" "chance" "LSoldStops$Chance;", Cond.fieldLink RX7 10 "SoldStops" "page" "LSoldStops$Page;", Cond.methodLink RX7 98 yX7_isWithin, Cond.static yX7_isWithin, Cond.initialized RX7, Cond.code yX7_isWithin cX7_isWithin 3 (some .boolean), Cond.methodLink RX7 66 yX7_bad, Cond.instanceMethod yX7_bad, Cond.selects RX7 yX7_bad yX7_bad, Cond.code yX7_bad cX7_bad 2 (some .int), Cond.fieldLink RX7 270 "SoldStops" "bads" "I", Cond.methodLink RX7 244 yX0_reckon, Cond.instanceMethod yX0_reckon, Cond.selects RX0 yX0_reckon yX0_reckon, Cond.initialized RX0, Cond.code yX0_reckon cX0_reckon 8 none, Cond.fieldLink RX0 18 "SoldStops$Chance" "now" "[J", Cond.fieldLink RX0 31 "SoldStops$Page" "breath" "I", Cond.fieldLink RX0 37 "SoldStops$Page" "words" "I", Cond.fieldLink RX0 40 "SoldStops$Page" "marks" "LSoldStops$Marks;", Cond.fieldLink RX0 44 "SoldStops$Marks" "kinds" "[I", Cond.constantLong RX0 54 (10), Cond.methodLink RX0 25 yJ7_fill_d0a16, Cond.static yJ7_fill_d0a16]
def wsX7_odds_r2 : List Cond := [Cond.initialized RJ7, Cond.code yJ7_fill_d0a16 cJ7_fill_d0a16 5 none, Cond.methodLink RX0 50 yX0_step, Cond.instanceMethod yX0_step, Cond.selects RX0 yX0_step yX0_step, Cond.code yX0_step cX0_step 8 none, Cond.fieldLink RX0 22 "SoldStops$Chance" "then" "[J", Cond.fieldLink RX0 60 "SoldStops$Page" "lengths" "[I", Cond.methodLink RX0 69 arraycopyName, Cond.native arraycopyName, Cond.static arraycopyName, Cond.initialized "java/lang/System", Cond.methodLink RX0 63 yX1_breathBehind, Cond.static yX1_breathBehind, Cond.initialized RX1, Cond.code yX1_breathBehind cX1_breathBehind 5 (some .int), Cond.methodLink RX1 9 Lib.Math.min.name, Cond.static Lib.Math.min.name, Cond.initialized "java/lang/Math", Cond.code Lib.Math.min.name Lib.Math.min.code 2 (some .int), Cond.methodLink RX1 15 Lib.Math.max.name, Cond.static Lib.Math.max.name, Cond.code Lib.Math.max.name Lib.Math.max.code 2 (some .int), Cond.methodLink RX0 56 yX0_setLowest]
def wsX7_odds_r3 : List Cond := [Cond.instanceMethod yX0_setLowest, Cond.selects RX0 yX0_setLowest yX0_setLowest, Cond.code yX0_setLowest cX0_setLowest 12 none, Cond.fieldLink RX0 9 "SoldStops$Chance" "above" "J", Cond.fieldLink RX0 15 "SoldStops$Chance" "below" "J"]
def wsX7_odds : List Cond := .code yX7_odds cX7_odds 2 (some .int) :: ((wsX7_odds_r1 ++ (wsX7_odds_r2 ++ wsX7_odds_r3)) ++ wsX70 ++ wsX00 ++ wsX40 ++ wsX20)
def wsX7_drawn_r1 : List Cond := [Cond.constant RX7 248 (999999), Cond.fieldLink RX7 10 "SoldStops" "page" "LSoldStops$Page;", Cond.fieldLink RX7 92 "SoldStops$Page" "breath" "I", Cond.fieldLink RX7 70 "SoldStops$Page" "words" "I", Cond.constantLong RX7 249 (1103515245), Cond.constantLong RX7 251 (12345), Cond.constantLong RX7 253 (2147483648), Cond.constantLong RX7 255 (65536), Cond.constantLong RX7 257 (9), Cond.methodLink RX7 98 yX7_isWithin, Cond.static yX7_isWithin, Cond.initialized RX7, Cond.code yX7_isWithin cX7_isWithin 3 (some .boolean), Cond.methodLink RX7 66 yX7_bad, Cond.instanceMethod yX7_bad, Cond.selects RX7 yX7_bad yX7_bad, Cond.code yX7_bad cX7_bad 2 (some .int), Cond.fieldLink RX7 270 "SoldStops" "bads" "I", Cond.methodLink RX7 259 yX4_leftBehind, Cond.instanceMethod yX4_leftBehind, Cond.selects RX4 yX4_leftBehind yX4_leftBehind, Cond.initialized RX4, Cond.code yX4_leftBehind cX4_leftBehind 5 (some .int), Cond.fieldLink RX4 25 "SoldStops$Page" "marks" "LSoldStops$Marks;"]
def wsX7_drawn_r2 : List Cond := [Cond.fieldLink RX4 71 "SoldStops$Marks" "kinds" "[I", Cond.methodLink RX4 77 yX1_breathBehind, Cond.static yX1_breathBehind, Cond.initialized RX1, Cond.code yX1_breathBehind cX1_breathBehind 5 (some .int), Cond.methodLink RX1 9 Lib.Math.min.name, Cond.static Lib.Math.min.name, Cond.initialized "java/lang/Math", Cond.code Lib.Math.min.name Lib.Math.min.code 2 (some .int), Cond.methodLink RX1 15 Lib.Math.max.name, Cond.static Lib.Math.max.name, Cond.code Lib.Math.max.name Lib.Math.max.code 2 (some .int)]
def wsX7_drawn : List Cond := .code yX7_drawn cX7_drawn 10 (some .int) :: ((wsX7_drawn_r1 ++ wsX7_drawn_r2) ++ wsX70 ++ wsX40 ++ wsX20)
def wsX7_part : List Cond := .code yX7_part cX7_part 2 (some .long) :: ([.fieldLink RX7 51 "SoldStops" "chance" "LSoldStops$Chance;", .fieldLink RX7 263 "SoldStops$Chance" "above" "J", .fieldLink RX7 267 "SoldStops$Chance" "below" "J", .methodLink RX7 98 yX7_isWithin, .static yX7_isWithin, .initialized RX7, .code yX7_isWithin cX7_isWithin 3 (some .boolean), .methodLink RX7 66 yX7_bad, .instanceMethod yX7_bad, .selects RX7 yX7_bad yX7_bad, .code yX7_bad cX7_bad 2 (some .int), .fieldLink RX7 270 "SoldStops" "bads" "I"] ++ wsX70 ++ wsX00)
def wsX7_image_r1 : List Cond := [Cond.fieldLink RX7 19 "SoldStops" "images" "[LSoldStops$Page;", Cond.fieldLink RX7 10 "SoldStops" "page" "LSoldStops$Page;", Cond.fieldLink RX7 23 "SoldStops" "kept" "[Z", Cond.methodLink RX7 98 yX7_isWithin, Cond.static yX7_isWithin, Cond.initialized RX7, Cond.code yX7_isWithin cX7_isWithin 3 (some .boolean), Cond.methodLink RX7 66 yX7_bad, Cond.instanceMethod yX7_bad, Cond.selects RX7 yX7_bad yX7_bad, Cond.code yX7_bad cX7_bad 2 (some .int), Cond.fieldLink RX7 270 "SoldStops" "bads" "I", Cond.methodLink RX7 141 yX4_copy, Cond.instanceMethod yX4_copy, Cond.selects RX4 yX4_copy yX4_copy, Cond.initialized RX4, Cond.code yX4_copy cX4_copy 3 none, Cond.fieldLink RX4 9 "SoldStops$Page" "breath" "I", Cond.fieldLink RX4 15 "SoldStops$Page" "price" "I", Cond.fieldLink RX4 42 "SoldStops$Page" "words" "I", Cond.fieldLink RX4 45 "SoldStops$Page" "heards" "I", Cond.fieldLink RX4 48 "SoldStops$Page" "pasts" "I", Cond.fieldLink RX4 18 "SoldStops$Page" "lengths" "[I", Cond.methodLink RX4 51 arraycopyName]
def wsX7_image_r2 : List Cond := [Cond.native arraycopyName, Cond.static arraycopyName, Cond.initialized "java/lang/System", Cond.fieldLink RX4 29 "SoldStops$Page" "heard" "[I", Cond.fieldLink RX4 25 "SoldStops$Page" "marks" "LSoldStops$Marks;", Cond.fieldLink RX4 32 "SoldStops$Page" "past" "[LSoldStops$Marks;", Cond.methodLink RX4 57 yX2_copy, Cond.instanceMethod yX2_copy, Cond.selects RX2 yX2_copy yX2_copy, Cond.initialized RX2, Cond.code yX2_copy cX2_copy 2 none, Cond.fieldLink RX2 28 "SoldStops$Marks" "purse" "I", Cond.fieldLink RX2 32 "SoldStops$Marks" "week" "I", Cond.fieldLink RX2 9 "SoldStops$Marks" "kinds" "[I", Cond.methodLink RX2 35 arraycopyName, Cond.fieldLink RX2 15 "SoldStops$Marks" "reads" "[I"]
def wsX7_image : List Cond := .code yX7_image cX7_image 2 (some .int) :: ((wsX7_image_r1 ++ wsX7_image_r2) ++ wsX70 ++ wsX40 ++ wsX20)
def wsX7_from_r1 : List Cond := [Cond.fieldLink RX7 23 "SoldStops" "kept" "[Z", Cond.fieldLink RX7 10 "SoldStops" "page" "LSoldStops$Page;", Cond.fieldLink RX7 19 "SoldStops" "images" "[LSoldStops$Page;", Cond.methodLink RX7 98 yX7_isWithin, Cond.static yX7_isWithin, Cond.initialized RX7, Cond.code yX7_isWithin cX7_isWithin 3 (some .boolean), Cond.methodLink RX7 66 yX7_bad, Cond.instanceMethod yX7_bad, Cond.selects RX7 yX7_bad yX7_bad, Cond.code yX7_bad cX7_bad 2 (some .int), Cond.fieldLink RX7 270 "SoldStops" "bads" "I", Cond.methodLink RX7 148 yX7_no, Cond.instanceMethod yX7_no, Cond.selects RX7 yX7_no yX7_no, Cond.code yX7_no cX7_no 2 (some .int), Cond.fieldLink RX7 273 "SoldStops" "nos" "I", Cond.methodLink RX7 141 yX4_copy, Cond.instanceMethod yX4_copy, Cond.selects RX4 yX4_copy yX4_copy, Cond.initialized RX4, Cond.code yX4_copy cX4_copy 3 none, Cond.fieldLink RX4 9 "SoldStops$Page" "breath" "I", Cond.fieldLink RX4 15 "SoldStops$Page" "price" "I"]
def wsX7_from_r2 : List Cond := [Cond.fieldLink RX4 42 "SoldStops$Page" "words" "I", Cond.fieldLink RX4 45 "SoldStops$Page" "heards" "I", Cond.fieldLink RX4 48 "SoldStops$Page" "pasts" "I", Cond.fieldLink RX4 18 "SoldStops$Page" "lengths" "[I", Cond.methodLink RX4 51 arraycopyName, Cond.native arraycopyName, Cond.static arraycopyName, Cond.initialized "java/lang/System", Cond.fieldLink RX4 29 "SoldStops$Page" "heard" "[I", Cond.fieldLink RX4 25 "SoldStops$Page" "marks" "LSoldStops$Marks;", Cond.fieldLink RX4 32 "SoldStops$Page" "past" "[LSoldStops$Marks;", Cond.methodLink RX4 57 yX2_copy, Cond.instanceMethod yX2_copy, Cond.selects RX2 yX2_copy yX2_copy, Cond.initialized RX2, Cond.code yX2_copy cX2_copy 2 none, Cond.fieldLink RX2 28 "SoldStops$Marks" "purse" "I", Cond.fieldLink RX2 32 "SoldStops$Marks" "week" "I", Cond.fieldLink RX2 9 "SoldStops$Marks" "kinds" "[I", Cond.methodLink RX2 35 arraycopyName, Cond.fieldLink RX2 15 "SoldStops$Marks" "reads" "[I"]
def wsX7_from : List Cond := .code yX7_from cX7_from 2 (some .int) :: ((wsX7_from_r1 ++ wsX7_from_r2) ++ wsX70 ++ wsX40 ++ wsX20)
def wsX7_status : List Cond := .code yX7_status cX7_status 2 (some .int) :: ([.fieldLink RX7 270 "SoldStops" "bads" "I", .fieldLink RX7 273 "SoldStops" "nos" "I", .fieldLink RX7 276 "SoldStops" "fulls" "I", .methodLink RX7 66 yX7_bad, .instanceMethod yX7_bad, .selects RX7 yX7_bad yX7_bad, .initialized RX7, .code yX7_bad cX7_bad 2 (some .int)] ++ wsX70)
def wsX7_countOf : List Cond := .code yX7_countOf cX7_countOf 2 (some .int) :: ([.fieldLink RX7 10 "SoldStops" "page" "LSoldStops$Page;", .fieldLink RX7 70 "SoldStops$Page" "words" "I", .fieldLink RX7 92 "SoldStops$Page" "breath" "I", .fieldLink RX7 95 "SoldStops$Page" "price" "I", .fieldLink RX7 102 "SoldStops$Page" "marks" "LSoldStops$Marks;", .fieldLink RX7 106 "SoldStops$Marks" "purse" "I", .fieldLink RX7 166 "SoldStops$Marks" "week" "I", .fieldLink RX7 225 "SoldStops$Page" "heards" "I", .fieldLink RX7 169 "SoldStops$Page" "pasts" "I", .fieldLink RX7 30 "SoldStops" "text" "LSoldStops$Text;", .fieldLink RX7 125 "SoldStops$Text" "size" "I", .methodLink RX7 289 yX4_howManyMarks, .instanceMethod yX4_howManyMarks, .selects RX4 yX4_howManyMarks yX4_howManyMarks, .initialized RX4, .code yX4_howManyMarks cX4_howManyMarks 3 (some .int), .fieldLink RX4 42 "SoldStops$Page" "words" "I", .fieldLink RX4 25 "SoldStops$Page" "marks" "LSoldStops$Marks;", .fieldLink RX4 71 "SoldStops$Marks" "kinds" "[I"] ++ wsX70 ++ wsX40 ++ wsX20 ++ wsX60)
def wsX7_count_r1 : List Cond := [Cond.methodLink RX7 98 yX7_isWithin, Cond.static yX7_isWithin, Cond.initialized RX7, Cond.code yX7_isWithin cX7_isWithin 3 (some .boolean), Cond.methodLink RX7 279 yX7_countOf, Cond.instanceMethod yX7_countOf, Cond.selects RX7 yX7_countOf yX7_countOf, Cond.code yX7_countOf cX7_countOf 2 (some .int), Cond.fieldLink RX7 10 "SoldStops" "page" "LSoldStops$Page;", Cond.fieldLink RX7 70 "SoldStops$Page" "words" "I", Cond.fieldLink RX7 92 "SoldStops$Page" "breath" "I", Cond.fieldLink RX7 95 "SoldStops$Page" "price" "I", Cond.fieldLink RX7 102 "SoldStops$Page" "marks" "LSoldStops$Marks;", Cond.fieldLink RX7 106 "SoldStops$Marks" "purse" "I", Cond.fieldLink RX7 166 "SoldStops$Marks" "week" "I", Cond.fieldLink RX7 225 "SoldStops$Page" "heards" "I", Cond.fieldLink RX7 169 "SoldStops$Page" "pasts" "I", Cond.fieldLink RX7 30 "SoldStops" "text" "LSoldStops$Text;", Cond.fieldLink RX7 125 "SoldStops$Text" "size" "I", Cond.methodLink RX7 289 yX4_howManyMarks, Cond.instanceMethod yX4_howManyMarks, Cond.selects RX4 yX4_howManyMarks yX4_howManyMarks, Cond.initialized RX4, Cond.code yX4_howManyMarks cX4_howManyMarks 3 (some .int)]
def wsX7_count_r2 : List Cond := [Cond.fieldLink RX4 42 "SoldStops$Page" "words" "I", Cond.fieldLink RX4 25 "SoldStops$Page" "marks" "LSoldStops$Marks;", Cond.fieldLink RX4 71 "SoldStops$Marks" "kinds" "[I", Cond.methodLink RX7 66 yX7_bad, Cond.instanceMethod yX7_bad, Cond.selects RX7 yX7_bad yX7_bad, Cond.code yX7_bad cX7_bad 2 (some .int), Cond.fieldLink RX7 270 "SoldStops" "bads" "I"]
def wsX7_count : List Cond := .code yX7_count cX7_count 2 (some .int) :: ((wsX7_count_r1 ++ wsX7_count_r2) ++ wsX70 ++ wsX40 ++ wsX20 ++ wsX60)
def wsX7_digest_r1 : List Cond := [Cond.constantLong RX7 282 (1063), Cond.constantLong RX7 284 (31), Cond.fieldLink RX7 10 "SoldStops" "page" "LSoldStops$Page;", Cond.fieldLink RX7 70 "SoldStops$Page" "words" "I", Cond.fieldLink RX7 175 "SoldStops$Page" "lengths" "[I", Cond.fieldLink RX7 102 "SoldStops$Page" "marks" "LSoldStops$Marks;", Cond.fieldLink RX7 119 "SoldStops$Marks" "kinds" "[I", Cond.fieldLink RX7 178 "SoldStops$Marks" "reads" "[I", Cond.fieldLink RX7 225 "SoldStops$Page" "heards" "I", Cond.fieldLink RX7 286 "SoldStops$Page" "heard" "[I", Cond.fieldLink RX7 51 "SoldStops" "chance" "LSoldStops$Chance;", Cond.fieldLink RX7 263 "SoldStops$Chance" "above" "J", Cond.fieldLink RX7 267 "SoldStops$Chance" "below" "J", Cond.methodLink RX7 279 yX7_countOf, Cond.instanceMethod yX7_countOf, Cond.selects RX7 yX7_countOf yX7_countOf, Cond.initialized RX7, Cond.code yX7_countOf cX7_countOf 2 (some .int), Cond.fieldLink RX7 92 "SoldStops$Page" "breath" "I", Cond.fieldLink RX7 95 "SoldStops$Page" "price" "I", Cond.fieldLink RX7 106 "SoldStops$Marks" "purse" "I", Cond.fieldLink RX7 166 "SoldStops$Marks" "week" "I", Cond.fieldLink RX7 169 "SoldStops$Page" "pasts" "I", Cond.fieldLink RX7 30 "SoldStops" "text" "LSoldStops$Text;"]
def wsX7_digest_r2 : List Cond := [Cond.fieldLink RX7 125 "SoldStops$Text" "size" "I", Cond.methodLink RX7 289 yX4_howManyMarks, Cond.instanceMethod yX4_howManyMarks, Cond.selects RX4 yX4_howManyMarks yX4_howManyMarks, Cond.initialized RX4, Cond.code yX4_howManyMarks cX4_howManyMarks 3 (some .int), Cond.fieldLink RX4 42 "SoldStops$Page" "words" "I", Cond.fieldLink RX4 25 "SoldStops$Page" "marks" "LSoldStops$Marks;", Cond.fieldLink RX4 71 "SoldStops$Marks" "kinds" "[I"]
def wsX7_digest : List Cond := .code yX7_digest cX7_digest 4 (some .long) :: ((wsX7_digest_r1 ++ wsX7_digest_r2) ++ wsX70 ++ wsX40 ++ wsX20 ++ wsX00 ++ wsX60)
def wsX8_bad : List Cond := .code yX8_bad cX8_bad 1 (some .int) :: ([.fieldLink RX8 1 "SoldStopsModel" "refused" "[I"] ++ wsX80)
def wsX8_ten : List Cond := .code yX8_ten cX8_ten 1 (some .int) :: ([.fieldLink RX8 1 "SoldStopsModel" "refused" "[I"] ++ wsX80)
def wsX8_twenty : List Cond := .code yX8_twenty cX8_twenty 1 (some .int) :: ([.fieldLink RX8 1 "SoldStopsModel" "refused" "[I"] ++ wsX80)
def wsX8_no : List Cond := .code yX8_no cX8_no 1 (some .int) :: ([.fieldLink RX8 1 "SoldStopsModel" "refused" "[I"] ++ wsX80)
def wsX8_full : List Cond := .code yX8_full cX8_full 1 (some .int) :: ([.fieldLink RX8 1 "SoldStopsModel" "refused" "[I"] ++ wsX80)
def wsX8_in : List Cond := .code yX8_in cX8_in 3 (some .boolean) :: ([])
def wsX8_begin : List Cond := .code yX8_begin cX8_begin 3 none :: ([.fieldLink RX8 13 "SoldStopsModel" "breath" "I", .fieldLink RX8 17 "SoldStopsModel" "price" "I", .fieldLink RX8 80 "SoldStopsModel" "many" "I", .fieldLink RX8 83 "SoldStopsModel" "purse" "I", .fieldLink RX8 86 "SoldStopsModel" "week" "I", .fieldLink RX8 89 "SoldStopsModel" "heardMany" "I", .fieldLink RX8 92 "SoldStopsModel" "undoMany" "I"] ++ wsX80)
def wsX8_init_r1 : List Cond := [Cond.methodLink RX8 7 objectInit, Cond.instanceMethod objectInit, Cond.code objectInit ⟨#[0xb1]⟩ 1 none, Cond.arrayClass .int, Cond.fieldLink RX8 1 "SoldStopsModel" "refused" "[I", Cond.fieldLink RX8 13 "SoldStopsModel" "breath" "I", Cond.fieldLink RX8 17 "SoldStopsModel" "price" "I", Cond.fieldLink RX8 20 "SoldStopsModel" "lengths" "[I", Cond.fieldLink RX8 23 "SoldStopsModel" "kinds" "[I", Cond.fieldLink RX8 26 "SoldStopsModel" "reads" "[I", Cond.fieldLink RX8 29 "SoldStopsModel" "heards" "[I", Cond.fieldLink RX8 32 "SoldStopsModel" "text" "[I", Cond.fieldLink RX8 35 "SoldStopsModel" "items" "[I", Cond.fieldLink RX8 38 "SoldStopsModel" "ahead" "[I", Cond.fieldLink RX8 41 "SoldStopsModel" "least" "[I", Cond.fieldLink RX8 44 "SoldStopsModel" "bought" "[I", Cond.fieldLink RX8 47 "SoldStopsModel" "paid" "[I", Cond.fieldLink RX8 50 "SoldStopsModel" "then" "[I", Cond.fieldLink RX8 53 "SoldStopsModel" "line" "[I", Cond.fieldLink RX8 56 "SoldStopsModel" "bestLine" "[I", Cond.fieldLink RX8 59 "SoldStopsModel" "groups" "[I", Cond.fieldLink RX8 62 "SoldStopsModel" "below" "J", Cond.arrayClass .long, Cond.fieldLink RX8 66 "SoldStopsModel" "ways" "[J"]
def wsX8_init_r2 : List Cond := [Cond.fieldLink RX8 70 "SoldStopsModel" "waysThen" "[J", Cond.fieldLink RX8 73 "SoldStopsModel" "images" "[I", Cond.methodLink RX8 76 yX8_begin, Cond.instanceMethod yX8_begin, Cond.selects RX8 yX8_begin yX8_begin, Cond.initialized RX8, Cond.code yX8_begin cX8_begin 3 none, Cond.fieldLink RX8 80 "SoldStopsModel" "many" "I", Cond.fieldLink RX8 83 "SoldStopsModel" "purse" "I", Cond.fieldLink RX8 86 "SoldStopsModel" "week" "I", Cond.fieldLink RX8 89 "SoldStopsModel" "heardMany" "I", Cond.fieldLink RX8 92 "SoldStopsModel" "undoMany" "I"]
def wsX8_init : List Cond := .code yX8_init cX8_init 1 none :: ((wsX8_init_r1 ++ wsX8_init_r2) ++ wsX80)
def wsX8_isPiece : List Cond := .code yX8_isPiece cX8_isPiece 2 (some .boolean) :: ([.fieldLink RX8 80 "SoldStopsModel" "many" "I", .methodLink RX8 95 yX8_in, .static yX8_in, .initialized RX8, .code yX8_in cX8_in 3 (some .boolean)] ++ wsX80)
def wsX8_isKind : List Cond := .code yX8_isKind cX8_isKind 1 (some .boolean) :: ([.methodLink RX8 95 yX8_in, .static yX8_in, .initialized RX8, .code yX8_in cX8_in 3 (some .boolean)])
def wsX8_isPage : List Cond := .code yX8_isPage cX8_isPage 2 (some .boolean) :: ([.methodLink RX8 95 yX8_in, .static yX8_in, .initialized RX8, .code yX8_in cX8_in 3 (some .boolean)])
def wsX8_page : List Cond := .code yX8_page cX8_page 4 (some .int) :: ([.fieldLink RX8 80 "SoldStopsModel" "many" "I", .methodLink RX8 99 yX8_isPage, .static yX8_isPage, .initialized RX8, .code yX8_isPage cX8_isPage 2 (some .boolean), .methodLink RX8 95 yX8_in, .static yX8_in, .code yX8_in cX8_in 3 (some .boolean), .methodLink RX8 103 yX8_bad, .instanceMethod yX8_bad, .selects RX8 yX8_bad yX8_bad, .code yX8_bad cX8_bad 1 (some .int), .fieldLink RX8 1 "SoldStopsModel" "refused" "[I", .methodLink RX8 76 yX8_begin, .instanceMethod yX8_begin, .selects RX8 yX8_begin yX8_begin, .code yX8_begin cX8_begin 3 none, .fieldLink RX8 13 "SoldStopsModel" "breath" "I", .fieldLink RX8 17 "SoldStopsModel" "price" "I", .fieldLink RX8 83 "SoldStopsModel" "purse" "I", .fieldLink RX8 86 "SoldStopsModel" "week" "I", .fieldLink RX8 89 "SoldStopsModel" "heardMany" "I", .fieldLink RX8 92 "SoldStopsModel" "undoMany" "I"] ++ wsX80)
def wsX8_add : List Cond := .code yX8_add cX8_add 2 (some .int) :: ([.fieldLink RX8 20 "SoldStopsModel" "lengths" "[I", .fieldLink RX8 80 "SoldStopsModel" "many" "I", .fieldLink RX8 23 "SoldStopsModel" "kinds" "[I", .fieldLink RX8 26 "SoldStopsModel" "reads" "[I", .fieldLink RX8 92 "SoldStopsModel" "undoMany" "I"] ++ wsX80)
def wsX8_word : List Cond := .code yX8_word cX8_word 2 (some .int) :: ([.fieldLink RX8 80 "SoldStopsModel" "many" "I", .methodLink RX8 95 yX8_in, .static yX8_in, .initialized RX8, .code yX8_in cX8_in 3 (some .boolean), .methodLink RX8 103 yX8_bad, .instanceMethod yX8_bad, .selects RX8 yX8_bad yX8_bad, .code yX8_bad cX8_bad 1 (some .int), .fieldLink RX8 1 "SoldStopsModel" "refused" "[I", .methodLink RX8 107 yX8_full, .instanceMethod yX8_full, .selects RX8 yX8_full yX8_full, .code yX8_full cX8_full 1 (some .int), .methodLink RX8 110 yX8_add, .instanceMethod yX8_add, .selects RX8 yX8_add yX8_add, .code yX8_add cX8_add 2 (some .int), .fieldLink RX8 20 "SoldStopsModel" "lengths" "[I", .fieldLink RX8 23 "SoldStopsModel" "kinds" "[I", .fieldLink RX8 26 "SoldStopsModel" "reads" "[I", .fieldLink RX8 92 "SoldStopsModel" "undoMany" "I"] ++ wsX80)
def wsX8_breath : List Cond := .code yX8_breath cX8_breath 3 (some .int) :: ([.fieldLink RX8 13 "SoldStopsModel" "breath" "I", .methodLink RX8 95 yX8_in, .static yX8_in, .initialized RX8, .code yX8_in cX8_in 3 (some .boolean), .methodLink RX8 103 yX8_bad, .instanceMethod yX8_bad, .selects RX8 yX8_bad yX8_bad, .code yX8_bad cX8_bad 1 (some .int), .fieldLink RX8 1 "SoldStopsModel" "refused" "[I"] ++ wsX80)
def wsX8_price : List Cond := .code yX8_price cX8_price 3 (some .int) :: ([.fieldLink RX8 17 "SoldStopsModel" "price" "I", .methodLink RX8 95 yX8_in, .static yX8_in, .initialized RX8, .code yX8_in cX8_in 3 (some .boolean), .methodLink RX8 103 yX8_bad, .instanceMethod yX8_bad, .selects RX8 yX8_bad yX8_bad, .code yX8_bad cX8_bad 1 (some .int), .fieldLink RX8 1 "SoldStopsModel" "refused" "[I"] ++ wsX80)
def wsX8_purse : List Cond := .code yX8_purse cX8_purse 3 (some .int) :: ([.fieldLink RX8 83 "SoldStopsModel" "purse" "I", .methodLink RX8 95 yX8_in, .static yX8_in, .initialized RX8, .code yX8_in cX8_in 3 (some .boolean), .methodLink RX8 103 yX8_bad, .instanceMethod yX8_bad, .selects RX8 yX8_bad yX8_bad, .code yX8_bad cX8_bad 1 (some .int), .fieldLink RX8 1 "SoldStopsModel" "refused" "[I"] ++ wsX80)
def wsX8_mark : List Cond := .code yX8_mark cX8_mark 3 none :: ([.fieldLink RX8 23 "SoldStopsModel" "kinds" "[I", .fieldLink RX8 26 "SoldStopsModel" "reads" "[I"] ++ wsX80)
def wsX8_put : List Cond := .code yX8_put cX8_put 4 (some .int) :: ([.fieldLink RX8 23 "SoldStopsModel" "kinds" "[I", .fieldLink RX8 92 "SoldStopsModel" "undoMany" "I", .methodLink RX8 114 yX8_isPiece, .instanceMethod yX8_isPiece, .selects RX8 yX8_isPiece yX8_isPiece, .initialized RX8, .code yX8_isPiece cX8_isPiece 2 (some .boolean), .fieldLink RX8 80 "SoldStopsModel" "many" "I", .methodLink RX8 95 yX8_in, .static yX8_in, .code yX8_in cX8_in 3 (some .boolean), .methodLink RX8 118 yX8_isKind, .static yX8_isKind, .code yX8_isKind cX8_isKind 1 (some .boolean), .methodLink RX8 121 yX8_ten, .instanceMethod yX8_ten, .selects RX8 yX8_ten yX8_ten, .code yX8_ten cX8_ten 1 (some .int), .fieldLink RX8 1 "SoldStopsModel" "refused" "[I", .methodLink RX8 124 yX8_mark, .instanceMethod yX8_mark, .selects RX8 yX8_mark yX8_mark, .code yX8_mark cX8_mark 3 none, .fieldLink RX8 26 "SoldStopsModel" "reads" "[I"] ++ wsX80)
def wsX8_type : List Cond := .code yX8_type cX8_type 2 (some .int) :: ([.fieldLink RX8 127 "SoldStopsModel" "typed" "I", .fieldLink RX8 32 "SoldStopsModel" "text" "[I", .methodLink RX8 95 yX8_in, .static yX8_in, .initialized RX8, .code yX8_in cX8_in 3 (some .boolean), .methodLink RX8 103 yX8_bad, .instanceMethod yX8_bad, .selects RX8 yX8_bad yX8_bad, .code yX8_bad cX8_bad 1 (some .int), .fieldLink RX8 1 "SoldStopsModel" "refused" "[I", .methodLink RX8 107 yX8_full, .instanceMethod yX8_full, .selects RX8 yX8_full yX8_full, .code yX8_full cX8_full 1 (some .int)] ++ wsX80)
def wsX8_clear : List Cond := .code yX8_clear cX8_clear 2 (some .int) :: ([.fieldLink RX8 127 "SoldStopsModel" "typed" "I"] ++ wsX80)
def wsX8_here : List Cond := .code yX8_here cX8_here 1 (some .int) :: ([.fieldLink RX8 130 "SoldStopsModel" "readAt" "I", .fieldLink RX8 127 "SoldStopsModel" "typed" "I", .fieldLink RX8 32 "SoldStopsModel" "text" "[I"] ++ wsX80)
def wsX8_skip : List Cond := .code yX8_skip cX8_skip 1 none :: ([.fieldLink RX8 130 "SoldStopsModel" "readAt" "I", .methodLink RX8 133 yX8_here, .instanceMethod yX8_here, .selects RX8 yX8_here yX8_here, .initialized RX8, .code yX8_here cX8_here 1 (some .int), .fieldLink RX8 127 "SoldStopsModel" "typed" "I", .fieldLink RX8 32 "SoldStopsModel" "text" "[I"] ++ wsX80)
def wsX8_isLetter : List Cond := .code yX8_isLetter cX8_isLetter 1 (some .boolean) :: ([.methodLink RX8 95 yX8_in, .static yX8_in, .initialized RX8, .code yX8_in cX8_in 3 (some .boolean)])
def wsX8_isFigure : List Cond := .code yX8_isFigure cX8_isFigure 1 (some .boolean) :: ([.methodLink RX8 95 yX8_in, .static yX8_in, .initialized RX8, .code yX8_in cX8_in 3 (some .boolean)])
def wsX8_wordSize : List Cond := .code yX8_wordSize cX8_wordSize 2 (some .int) :: ([.fieldLink RX8 130 "SoldStopsModel" "readAt" "I", .fieldLink RX8 127 "SoldStopsModel" "typed" "I", .fieldLink RX8 32 "SoldStopsModel" "text" "[I", .methodLink RX8 136 yX8_isLetter, .static yX8_isLetter, .initialized RX8, .code yX8_isLetter cX8_isLetter 1 (some .boolean), .methodLink RX8 95 yX8_in, .static yX8_in, .code yX8_in cX8_in 3 (some .boolean)] ++ wsX80)
def wsX8_letter : List Cond := .code yX8_letter cX8_letter 2 (some .int) :: ([.fieldLink RX8 32 "SoldStopsModel" "text" "[I", .fieldLink RX8 130 "SoldStopsModel" "readAt" "I"] ++ wsX80)
def wsX8_wordHere : List Cond := .code yX8_wordHere cX8_wordHere 5 (some .int) :: ([.methodLink RX8 139 yX8_wordSize, .instanceMethod yX8_wordSize, .selects RX8 yX8_wordSize yX8_wordSize, .initialized RX8, .code yX8_wordSize cX8_wordSize 2 (some .int), .fieldLink RX8 130 "SoldStopsModel" "readAt" "I", .fieldLink RX8 127 "SoldStopsModel" "typed" "I", .fieldLink RX8 32 "SoldStopsModel" "text" "[I", .methodLink RX8 136 yX8_isLetter, .static yX8_isLetter, .code yX8_isLetter cX8_isLetter 1 (some .boolean), .methodLink RX8 95 yX8_in, .static yX8_in, .code yX8_in cX8_in 3 (some .boolean), .methodLink RX8 142 yX8_letter, .instanceMethod yX8_letter, .selects RX8 yX8_letter yX8_letter, .code yX8_letter cX8_letter 2 (some .int)] ++ wsX80)
def wsX8_number : List Cond := .code yX8_number cX8_number 3 (some .boolean) :: ([.fieldLink RX8 130 "SoldStopsModel" "readAt" "I", .fieldLink RX8 127 "SoldStopsModel" "typed" "I", .fieldLink RX8 32 "SoldStopsModel" "text" "[I", .fieldLink RX8 151 "SoldStopsModel" "readNumber" "I", .methodLink RX8 145 yX8_skip, .instanceMethod yX8_skip, .selects RX8 yX8_skip yX8_skip, .initialized RX8, .code yX8_skip cX8_skip 1 none, .methodLink RX8 133 yX8_here, .instanceMethod yX8_here, .selects RX8 yX8_here yX8_here, .code yX8_here cX8_here 1 (some .int), .methodLink RX8 148 yX8_isFigure, .static yX8_isFigure, .code yX8_isFigure cX8_isFigure 1 (some .boolean), .methodLink RX8 95 yX8_in, .static yX8_in, .code yX8_in cX8_in 3 (some .boolean)] ++ wsX80)
def wsX8_readsItem_r1 : List Cond := [Cond.fieldLink RX8 157 "SoldStopsModel" "itemMany" "I", Cond.fieldLink RX8 130 "SoldStopsModel" "readAt" "I", Cond.fieldLink RX8 35 "SoldStopsModel" "items" "[I", Cond.fieldLink RX8 151 "SoldStopsModel" "readNumber" "I", Cond.methodLink RX8 154 yX8_wordHere, Cond.instanceMethod yX8_wordHere, Cond.selects RX8 yX8_wordHere yX8_wordHere, Cond.initialized RX8, Cond.code yX8_wordHere cX8_wordHere 5 (some .int), Cond.methodLink RX8 139 yX8_wordSize, Cond.instanceMethod yX8_wordSize, Cond.selects RX8 yX8_wordSize yX8_wordSize, Cond.code yX8_wordSize cX8_wordSize 2 (some .int), Cond.fieldLink RX8 127 "SoldStopsModel" "typed" "I", Cond.fieldLink RX8 32 "SoldStopsModel" "text" "[I", Cond.methodLink RX8 136 yX8_isLetter, Cond.static yX8_isLetter, Cond.code yX8_isLetter cX8_isLetter 1 (some .boolean), Cond.methodLink RX8 95 yX8_in, Cond.static yX8_in, Cond.code yX8_in cX8_in 3 (some .boolean), Cond.methodLink RX8 142 yX8_letter, Cond.instanceMethod yX8_letter, Cond.selects RX8 yX8_letter yX8_letter]
def wsX8_readsItem_r2 : List Cond := [Cond.code yX8_letter cX8_letter 2 (some .int), Cond.methodLink RX8 160 yX8_number, Cond.instanceMethod yX8_number, Cond.selects RX8 yX8_number yX8_number, Cond.code yX8_number cX8_number 3 (some .boolean), Cond.methodLink RX8 145 yX8_skip, Cond.instanceMethod yX8_skip, Cond.selects RX8 yX8_skip yX8_skip, Cond.code yX8_skip cX8_skip 1 none, Cond.methodLink RX8 133 yX8_here, Cond.instanceMethod yX8_here, Cond.selects RX8 yX8_here yX8_here, Cond.code yX8_here cX8_here 1 (some .int), Cond.methodLink RX8 148 yX8_isFigure, Cond.static yX8_isFigure, Cond.code yX8_isFigure cX8_isFigure 1 (some .boolean)]
def wsX8_readsItem : List Cond := .code yX8_readsItem cX8_readsItem 3 (some .boolean) :: ((wsX8_readsItem_r1 ++ wsX8_readsItem_r2) ++ wsX80)
def wsX8_readsPage_r1 : List Cond := [Cond.fieldLink RX8 130 "SoldStopsModel" "readAt" "I", Cond.fieldLink RX8 157 "SoldStopsModel" "itemMany" "I", Cond.fieldLink RX8 127 "SoldStopsModel" "typed" "I", Cond.methodLink RX8 145 yX8_skip, Cond.instanceMethod yX8_skip, Cond.selects RX8 yX8_skip yX8_skip, Cond.initialized RX8, Cond.code yX8_skip cX8_skip 1 none, Cond.methodLink RX8 133 yX8_here, Cond.instanceMethod yX8_here, Cond.selects RX8 yX8_here yX8_here, Cond.code yX8_here cX8_here 1 (some .int), Cond.fieldLink RX8 32 "SoldStopsModel" "text" "[I", Cond.methodLink RX8 164 yX8_readsItem, Cond.instanceMethod yX8_readsItem, Cond.selects RX8 yX8_readsItem yX8_readsItem, Cond.code yX8_readsItem cX8_readsItem 3 (some .boolean), Cond.fieldLink RX8 35 "SoldStopsModel" "items" "[I", Cond.fieldLink RX8 151 "SoldStopsModel" "readNumber" "I", Cond.methodLink RX8 154 yX8_wordHere, Cond.instanceMethod yX8_wordHere, Cond.selects RX8 yX8_wordHere yX8_wordHere, Cond.code yX8_wordHere cX8_wordHere 5 (some .int), Cond.methodLink RX8 139 yX8_wordSize]
def wsX8_readsPage_r2 : List Cond := [Cond.instanceMethod yX8_wordSize, Cond.selects RX8 yX8_wordSize yX8_wordSize, Cond.code yX8_wordSize cX8_wordSize 2 (some .int), Cond.methodLink RX8 136 yX8_isLetter, Cond.static yX8_isLetter, Cond.code yX8_isLetter cX8_isLetter 1 (some .boolean), Cond.methodLink RX8 95 yX8_in, Cond.static yX8_in, Cond.code yX8_in cX8_in 3 (some .boolean), Cond.methodLink RX8 142 yX8_letter, Cond.instanceMethod yX8_letter, Cond.selects RX8 yX8_letter yX8_letter, Cond.code yX8_letter cX8_letter 2 (some .int), Cond.methodLink RX8 160 yX8_number, Cond.instanceMethod yX8_number, Cond.selects RX8 yX8_number yX8_number, Cond.code yX8_number cX8_number 3 (some .boolean), Cond.methodLink RX8 148 yX8_isFigure, Cond.static yX8_isFigure, Cond.code yX8_isFigure cX8_isFigure 1 (some .boolean)]
def wsX8_readsPage : List Cond := .code yX8_readsPage cX8_readsPage 2 (some .boolean) :: ((wsX8_readsPage_r1 ++ wsX8_readsPage_r2) ++ wsX80)
def wsX8_refusedItem : List Cond := .code yX8_refusedItem cX8_refusedItem 7 (some .int) :: ([.fieldLink RX8 157 "SoldStopsModel" "itemMany" "I", .fieldLink RX8 35 "SoldStopsModel" "items" "[I", .methodLink RX8 99 yX8_isPage, .static yX8_isPage, .initialized RX8, .code yX8_isPage cX8_isPage 2 (some .boolean), .methodLink RX8 95 yX8_in, .static yX8_in, .code yX8_in cX8_in 3 (some .boolean), .methodLink RX8 118 yX8_isKind, .static yX8_isKind, .code yX8_isKind cX8_isKind 1 (some .boolean)] ++ wsX80)
def wsX8_read_r1 : List Cond := [Cond.fieldLink RX8 130 "SoldStopsModel" "readAt" "I", Cond.fieldLink RX8 35 "SoldStopsModel" "items" "[I", Cond.fieldLink RX8 157 "SoldStopsModel" "itemMany" "I", Cond.methodLink RX8 167 yX8_readsPage, Cond.instanceMethod yX8_readsPage, Cond.selects RX8 yX8_readsPage yX8_readsPage, Cond.initialized RX8, Cond.code yX8_readsPage cX8_readsPage 2 (some .boolean), Cond.fieldLink RX8 127 "SoldStopsModel" "typed" "I", Cond.methodLink RX8 145 yX8_skip, Cond.instanceMethod yX8_skip, Cond.selects RX8 yX8_skip yX8_skip, Cond.code yX8_skip cX8_skip 1 none, Cond.methodLink RX8 133 yX8_here, Cond.instanceMethod yX8_here, Cond.selects RX8 yX8_here yX8_here, Cond.code yX8_here cX8_here 1 (some .int), Cond.fieldLink RX8 32 "SoldStopsModel" "text" "[I", Cond.methodLink RX8 164 yX8_readsItem, Cond.instanceMethod yX8_readsItem, Cond.selects RX8 yX8_readsItem yX8_readsItem, Cond.code yX8_readsItem cX8_readsItem 3 (some .boolean), Cond.fieldLink RX8 151 "SoldStopsModel" "readNumber" "I", Cond.methodLink RX8 154 yX8_wordHere]
def wsX8_read_r2 : List Cond := [Cond.instanceMethod yX8_wordHere, Cond.selects RX8 yX8_wordHere yX8_wordHere, Cond.code yX8_wordHere cX8_wordHere 5 (some .int), Cond.methodLink RX8 139 yX8_wordSize, Cond.instanceMethod yX8_wordSize, Cond.selects RX8 yX8_wordSize yX8_wordSize, Cond.code yX8_wordSize cX8_wordSize 2 (some .int), Cond.methodLink RX8 136 yX8_isLetter, Cond.static yX8_isLetter, Cond.code yX8_isLetter cX8_isLetter 1 (some .boolean), Cond.methodLink RX8 95 yX8_in, Cond.static yX8_in, Cond.code yX8_in cX8_in 3 (some .boolean), Cond.methodLink RX8 142 yX8_letter, Cond.instanceMethod yX8_letter, Cond.selects RX8 yX8_letter yX8_letter, Cond.code yX8_letter cX8_letter 2 (some .int), Cond.methodLink RX8 160 yX8_number, Cond.instanceMethod yX8_number, Cond.selects RX8 yX8_number yX8_number, Cond.code yX8_number cX8_number 3 (some .boolean), Cond.methodLink RX8 148 yX8_isFigure, Cond.static yX8_isFigure, Cond.code yX8_isFigure cX8_isFigure 1 (some .boolean)]
def wsX8_read_r3 : List Cond := [Cond.methodLink RX8 170 yX8_refusedItem, Cond.instanceMethod yX8_refusedItem, Cond.selects RX8 yX8_refusedItem yX8_refusedItem, Cond.code yX8_refusedItem cX8_refusedItem 7 (some .int), Cond.methodLink RX8 99 yX8_isPage, Cond.static yX8_isPage, Cond.code yX8_isPage cX8_isPage 2 (some .boolean), Cond.methodLink RX8 118 yX8_isKind, Cond.static yX8_isKind, Cond.code yX8_isKind cX8_isKind 1 (some .boolean), Cond.methodLink RX8 76 yX8_begin, Cond.instanceMethod yX8_begin, Cond.selects RX8 yX8_begin yX8_begin, Cond.code yX8_begin cX8_begin 3 none, Cond.fieldLink RX8 13 "SoldStopsModel" "breath" "I", Cond.fieldLink RX8 17 "SoldStopsModel" "price" "I", Cond.fieldLink RX8 80 "SoldStopsModel" "many" "I", Cond.fieldLink RX8 83 "SoldStopsModel" "purse" "I", Cond.fieldLink RX8 86 "SoldStopsModel" "week" "I", Cond.fieldLink RX8 89 "SoldStopsModel" "heardMany" "I", Cond.fieldLink RX8 92 "SoldStopsModel" "undoMany" "I", Cond.methodLink RX8 110 yX8_add, Cond.instanceMethod yX8_add, Cond.selects RX8 yX8_add yX8_add]
def wsX8_read_r4 : List Cond := [Cond.code yX8_add cX8_add 2 (some .int), Cond.fieldLink RX8 20 "SoldStopsModel" "lengths" "[I", Cond.fieldLink RX8 23 "SoldStopsModel" "kinds" "[I", Cond.fieldLink RX8 26 "SoldStopsModel" "reads" "[I", Cond.methodLink RX8 124 yX8_mark, Cond.instanceMethod yX8_mark, Cond.selects RX8 yX8_mark yX8_mark, Cond.code yX8_mark cX8_mark 3 none]
def wsX8_read : List Cond := .code yX8_read cX8_read 3 (some .int) :: ((wsX8_read_r1 ++ (wsX8_read_r2 ++ (wsX8_read_r3 ++ wsX8_read_r4))) ++ wsX80)
def wsX8_costOf : List Cond := .code yX8_costOf cX8_costOf 2 (some .int) :: ([.fieldLink RX8 17 "SoldStopsModel" "price" "I", .fieldLink RX8 86 "SoldStopsModel" "week" "I"] ++ wsX80)
def wsX8_lesser : List Cond := .code yX8_lesser cX8_lesser 2 (some .int) :: ([])
def wsX8_greater : List Cond := .code yX8_greater cX8_greater 2 (some .int) :: ([])
def wsX8_givenBy : List Cond := .code yX8_givenBy cX8_givenBy 3 (some .int) :: ([.methodLink RX8 173 yX8_lesser, .static yX8_lesser, .initialized RX8, .code yX8_lesser cX8_lesser 2 (some .int), .methodLink RX8 177 yX8_greater, .static yX8_greater, .code yX8_greater cX8_greater 2 (some .int)])
def wsX8_ends : List Cond := .code yX8_ends cX8_ends 1 (some .boolean) :: ([.methodLink RX8 95 yX8_in, .static yX8_in, .initialized RX8, .code yX8_in cX8_in 3 (some .boolean)])
def wsX8_dries : List Cond := .code yX8_dries cX8_dries 1 (some .int) :: ([])
def wsX8_notes : List Cond := .code yX8_notes cX8_notes 3 none :: ([.fieldLink RX8 92 "SoldStopsModel" "undoMany" "I", .fieldLink RX8 38 "SoldStopsModel" "ahead" "[I", .fieldLink RX8 83 "SoldStopsModel" "purse" "I", .fieldLink RX8 86 "SoldStopsModel" "week" "I", .fieldLink RX8 23 "SoldStopsModel" "kinds" "[I", .fieldLink RX8 26 "SoldStopsModel" "reads" "[I"] ++ wsX80)
def wsX8_buy_r1 : List Cond := [Cond.fieldLink RX8 23 "SoldStopsModel" "kinds" "[I", Cond.fieldLink RX8 83 "SoldStopsModel" "purse" "I", Cond.methodLink RX8 114 yX8_isPiece, Cond.instanceMethod yX8_isPiece, Cond.selects RX8 yX8_isPiece yX8_isPiece, Cond.initialized RX8, Cond.code yX8_isPiece cX8_isPiece 2 (some .boolean), Cond.fieldLink RX8 80 "SoldStopsModel" "many" "I", Cond.methodLink RX8 95 yX8_in, Cond.static yX8_in, Cond.code yX8_in cX8_in 3 (some .boolean), Cond.methodLink RX8 118 yX8_isKind, Cond.static yX8_isKind, Cond.code yX8_isKind cX8_isKind 1 (some .boolean), Cond.methodLink RX8 103 yX8_bad, Cond.instanceMethod yX8_bad, Cond.selects RX8 yX8_bad yX8_bad, Cond.code yX8_bad cX8_bad 1 (some .int), Cond.fieldLink RX8 1 "SoldStopsModel" "refused" "[I", Cond.methodLink RX8 180 yX8_costOf, Cond.instanceMethod yX8_costOf, Cond.selects RX8 yX8_costOf yX8_costOf, Cond.code yX8_costOf cX8_costOf 2 (some .int), Cond.fieldLink RX8 17 "SoldStopsModel" "price" "I"]
def wsX8_buy_r2 : List Cond := [Cond.fieldLink RX8 86 "SoldStopsModel" "week" "I", Cond.methodLink RX8 183 yX8_no, Cond.instanceMethod yX8_no, Cond.selects RX8 yX8_no yX8_no, Cond.code yX8_no cX8_no 1 (some .int), Cond.methodLink RX8 186 yX8_notes, Cond.instanceMethod yX8_notes, Cond.selects RX8 yX8_notes yX8_notes, Cond.code yX8_notes cX8_notes 3 none, Cond.fieldLink RX8 92 "SoldStopsModel" "undoMany" "I", Cond.fieldLink RX8 38 "SoldStopsModel" "ahead" "[I", Cond.fieldLink RX8 26 "SoldStopsModel" "reads" "[I", Cond.methodLink RX8 124 yX8_mark, Cond.instanceMethod yX8_mark, Cond.selects RX8 yX8_mark yX8_mark, Cond.code yX8_mark cX8_mark 3 none]
def wsX8_buy : List Cond := .code yX8_buy cX8_buy 4 (some .int) :: ((wsX8_buy_r1 ++ wsX8_buy_r2) ++ wsX80)
def wsX8_sell_r1 : List Cond := [Cond.fieldLink RX8 23 "SoldStopsModel" "kinds" "[I", Cond.fieldLink RX8 83 "SoldStopsModel" "purse" "I", Cond.methodLink RX8 114 yX8_isPiece, Cond.instanceMethod yX8_isPiece, Cond.selects RX8 yX8_isPiece yX8_isPiece, Cond.initialized RX8, Cond.code yX8_isPiece cX8_isPiece 2 (some .boolean), Cond.fieldLink RX8 80 "SoldStopsModel" "many" "I", Cond.methodLink RX8 95 yX8_in, Cond.static yX8_in, Cond.code yX8_in cX8_in 3 (some .boolean), Cond.methodLink RX8 103 yX8_bad, Cond.instanceMethod yX8_bad, Cond.selects RX8 yX8_bad yX8_bad, Cond.code yX8_bad cX8_bad 1 (some .int), Cond.fieldLink RX8 1 "SoldStopsModel" "refused" "[I", Cond.methodLink RX8 183 yX8_no, Cond.instanceMethod yX8_no, Cond.selects RX8 yX8_no yX8_no, Cond.code yX8_no cX8_no 1 (some .int), Cond.methodLink RX8 186 yX8_notes, Cond.instanceMethod yX8_notes, Cond.selects RX8 yX8_notes yX8_notes, Cond.code yX8_notes cX8_notes 3 none]
def wsX8_sell_r2 : List Cond := [Cond.fieldLink RX8 92 "SoldStopsModel" "undoMany" "I", Cond.fieldLink RX8 38 "SoldStopsModel" "ahead" "[I", Cond.fieldLink RX8 86 "SoldStopsModel" "week" "I", Cond.fieldLink RX8 26 "SoldStopsModel" "reads" "[I", Cond.methodLink RX8 180 yX8_costOf, Cond.instanceMethod yX8_costOf, Cond.selects RX8 yX8_costOf yX8_costOf, Cond.code yX8_costOf cX8_costOf 2 (some .int), Cond.fieldLink RX8 17 "SoldStopsModel" "price" "I", Cond.methodLink RX8 124 yX8_mark, Cond.instanceMethod yX8_mark, Cond.selects RX8 yX8_mark yX8_mark, Cond.code yX8_mark cX8_mark 3 none, Cond.methodLink RX8 173 yX8_lesser, Cond.static yX8_lesser, Cond.code yX8_lesser cX8_lesser 2 (some .int)]
def wsX8_sell : List Cond := .code yX8_sell cX8_sell 3 (some .int) :: ((wsX8_sell_r1 ++ wsX8_sell_r2) ++ wsX80)
def wsX8_readOut_r1 : List Cond := [Cond.fieldLink RX8 13 "SoldStopsModel" "breath" "I", Cond.fieldLink RX8 80 "SoldStopsModel" "many" "I", Cond.fieldLink RX8 20 "SoldStopsModel" "lengths" "[I", Cond.fieldLink RX8 23 "SoldStopsModel" "kinds" "[I", Cond.fieldLink RX8 26 "SoldStopsModel" "reads" "[I", Cond.methodLink RX8 186 yX8_notes, Cond.instanceMethod yX8_notes, Cond.selects RX8 yX8_notes yX8_notes, Cond.initialized RX8, Cond.code yX8_notes cX8_notes 3 none, Cond.fieldLink RX8 92 "SoldStopsModel" "undoMany" "I", Cond.fieldLink RX8 38 "SoldStopsModel" "ahead" "[I", Cond.fieldLink RX8 83 "SoldStopsModel" "purse" "I", Cond.fieldLink RX8 86 "SoldStopsModel" "week" "I", Cond.methodLink RX8 189 yX8_givenBy, Cond.static yX8_givenBy, Cond.code yX8_givenBy cX8_givenBy 3 (some .int), Cond.methodLink RX8 173 yX8_lesser, Cond.static yX8_lesser, Cond.code yX8_lesser cX8_lesser 2 (some .int), Cond.methodLink RX8 177 yX8_greater, Cond.static yX8_greater, Cond.code yX8_greater cX8_greater 2 (some .int), Cond.methodLink RX8 193 yX8_dries]
def wsX8_readOut_r2 : List Cond := [Cond.static yX8_dries, Cond.code yX8_dries cX8_dries 1 (some .int), Cond.methodLink RX8 124 yX8_mark, Cond.instanceMethod yX8_mark, Cond.selects RX8 yX8_mark yX8_mark, Cond.code yX8_mark cX8_mark 3 none]
def wsX8_readOut : List Cond := .code yX8_readOut cX8_readOut 4 (some .int) :: ((wsX8_readOut_r1 ++ wsX8_readOut_r2) ++ wsX80)
def wsX8_week : List Cond := .code yX8_week cX8_week 2 (some .int) :: ([.fieldLink RX8 86 "SoldStopsModel" "week" "I", .methodLink RX8 95 yX8_in, .static yX8_in, .initialized RX8, .code yX8_in cX8_in 3 (some .boolean), .methodLink RX8 103 yX8_bad, .instanceMethod yX8_bad, .selects RX8 yX8_bad yX8_bad, .code yX8_bad cX8_bad 1 (some .int), .fieldLink RX8 1 "SoldStopsModel" "refused" "[I", .methodLink RX8 186 yX8_notes, .instanceMethod yX8_notes, .selects RX8 yX8_notes yX8_notes, .code yX8_notes cX8_notes 3 none, .fieldLink RX8 92 "SoldStopsModel" "undoMany" "I", .fieldLink RX8 38 "SoldStopsModel" "ahead" "[I", .fieldLink RX8 83 "SoldStopsModel" "purse" "I", .fieldLink RX8 23 "SoldStopsModel" "kinds" "[I", .fieldLink RX8 26 "SoldStopsModel" "reads" "[I"] ++ wsX80)
def wsX8_undo : List Cond := .code yX8_undo cX8_undo 3 (some .int) :: ([.fieldLink RX8 92 "SoldStopsModel" "undoMany" "I", .fieldLink RX8 38 "SoldStopsModel" "ahead" "[I", .fieldLink RX8 83 "SoldStopsModel" "purse" "I", .fieldLink RX8 86 "SoldStopsModel" "week" "I", .fieldLink RX8 23 "SoldStopsModel" "kinds" "[I", .fieldLink RX8 26 "SoldStopsModel" "reads" "[I", .methodLink RX8 183 yX8_no, .instanceMethod yX8_no, .selects RX8 yX8_no yX8_no, .initialized RX8, .code yX8_no cX8_no 1 (some .int), .fieldLink RX8 1 "SoldStopsModel" "refused" "[I"] ++ wsX80)
def wsX8_of : List Cond := .code yX8_of cX8_of 3 (some .int) :: ([.fieldLink RX8 20 "SoldStopsModel" "lengths" "[I", .fieldLink RX8 23 "SoldStopsModel" "kinds" "[I", .fieldLink RX8 26 "SoldStopsModel" "reads" "[I", .methodLink RX8 114 yX8_isPiece, .instanceMethod yX8_isPiece, .selects RX8 yX8_isPiece yX8_isPiece, .initialized RX8, .code yX8_isPiece cX8_isPiece 2 (some .boolean), .fieldLink RX8 80 "SoldStopsModel" "many" "I", .methodLink RX8 95 yX8_in, .static yX8_in, .code yX8_in cX8_in 3 (some .boolean), .methodLink RX8 121 yX8_ten, .instanceMethod yX8_ten, .selects RX8 yX8_ten yX8_ten, .code yX8_ten cX8_ten 1 (some .int), .fieldLink RX8 1 "SoldStopsModel" "refused" "[I", .methodLink RX8 180 yX8_costOf, .instanceMethod yX8_costOf, .selects RX8 yX8_costOf yX8_costOf, .code yX8_costOf cX8_costOf 2 (some .int), .fieldLink RX8 17 "SoldStopsModel" "price" "I", .fieldLink RX8 86 "SoldStopsModel" "week" "I"] ++ wsX80)
def wsX8_costs : List Cond := .code yX8_costs cX8_costs 2 (some .int) :: ([.methodLink RX8 118 yX8_isKind, .static yX8_isKind, .initialized RX8, .code yX8_isKind cX8_isKind 1 (some .boolean), .methodLink RX8 95 yX8_in, .static yX8_in, .code yX8_in cX8_in 3 (some .boolean), .methodLink RX8 180 yX8_costOf, .instanceMethod yX8_costOf, .selects RX8 yX8_costOf yX8_costOf, .code yX8_costOf cX8_costOf 2 (some .int), .fieldLink RX8 17 "SoldStopsModel" "price" "I", .fieldLink RX8 86 "SoldStopsModel" "week" "I", .methodLink RX8 103 yX8_bad, .instanceMethod yX8_bad, .selects RX8 yX8_bad yX8_bad, .code yX8_bad cX8_bad 1 (some .int), .fieldLink RX8 1 "SoldStopsModel" "refused" "[I"] ++ wsX80)
def wsX8_gives : List Cond := .code yX8_gives cX8_gives 3 (some .int) :: ([.fieldLink RX8 13 "SoldStopsModel" "breath" "I", .methodLink RX8 118 yX8_isKind, .static yX8_isKind, .initialized RX8, .code yX8_isKind cX8_isKind 1 (some .boolean), .methodLink RX8 95 yX8_in, .static yX8_in, .code yX8_in cX8_in 3 (some .boolean), .methodLink RX8 189 yX8_givenBy, .static yX8_givenBy, .code yX8_givenBy cX8_givenBy 3 (some .int), .methodLink RX8 173 yX8_lesser, .static yX8_lesser, .code yX8_lesser cX8_lesser 2 (some .int), .methodLink RX8 177 yX8_greater, .static yX8_greater, .code yX8_greater cX8_greater 2 (some .int), .methodLink RX8 103 yX8_bad, .instanceMethod yX8_bad, .selects RX8 yX8_bad yX8_bad, .code yX8_bad cX8_bad 1 (some .int), .fieldLink RX8 1 "SoldStopsModel" "refused" "[I"] ++ wsX80)
def wsX8_stuckBy : List Cond := .code yX8_stuckBy cX8_stuckBy 5 (some .int) :: ([.fieldLink RX8 80 "SoldStopsModel" "many" "I", .fieldLink RX8 20 "SoldStopsModel" "lengths" "[I", .fieldLink RX8 23 "SoldStopsModel" "kinds" "[I", .methodLink RX8 189 yX8_givenBy, .static yX8_givenBy, .initialized RX8, .code yX8_givenBy cX8_givenBy 3 (some .int), .methodLink RX8 173 yX8_lesser, .static yX8_lesser, .code yX8_lesser cX8_lesser 2 (some .int), .methodLink RX8 177 yX8_greater, .static yX8_greater, .code yX8_greater cX8_greater 2 (some .int)] ++ wsX80)
def wsX8_stuck : List Cond := .code yX8_stuck cX8_stuck 2 (some .int) :: ([.fieldLink RX8 13 "SoldStopsModel" "breath" "I", .fieldLink RX8 80 "SoldStopsModel" "many" "I", .methodLink RX8 196 yX8_stuckBy, .instanceMethod yX8_stuckBy, .selects RX8 yX8_stuckBy yX8_stuckBy, .initialized RX8, .code yX8_stuckBy cX8_stuckBy 5 (some .int), .fieldLink RX8 20 "SoldStopsModel" "lengths" "[I", .fieldLink RX8 23 "SoldStopsModel" "kinds" "[I", .methodLink RX8 189 yX8_givenBy, .static yX8_givenBy, .code yX8_givenBy cX8_givenBy 3 (some .int), .methodLink RX8 173 yX8_lesser, .static yX8_lesser, .code yX8_lesser cX8_lesser 2 (some .int), .methodLink RX8 177 yX8_greater, .static yX8_greater, .code yX8_greater cX8_greater 2 (some .int)] ++ wsX80)
def wsX8_sentences : List Cond := .code yX8_sentences cX8_sentences 8 (some .int) :: ([.fieldLink RX8 80 "SoldStopsModel" "many" "I", .fieldLink RX8 23 "SoldStopsModel" "kinds" "[I", .methodLink RX8 95 yX8_in, .static yX8_in, .initialized RX8, .code yX8_in cX8_in 3 (some .boolean), .methodLink RX8 103 yX8_bad, .instanceMethod yX8_bad, .selects RX8 yX8_bad yX8_bad, .code yX8_bad cX8_bad 1 (some .int), .fieldLink RX8 1 "SoldStopsModel" "refused" "[I", .methodLink RX8 199 yX8_ends, .static yX8_ends, .code yX8_ends cX8_ends 1 (some .boolean), .methodLink RX8 177 yX8_greater, .static yX8_greater, .code yX8_greater cX8_greater 2 (some .int)] ++ wsX80)
def wsX8_cellOf : List Cond := .code yX8_cellOf cX8_cellOf 2 (some .int) :: ([])
def wsX8_costBy_r1 : List Cond := [Cond.fieldLink RX8 20 "SoldStopsModel" "lengths" "[I", Cond.constant RX8 202 (1048576), Cond.fieldLink RX8 23 "SoldStopsModel" "kinds" "[I", Cond.fieldLink RX8 80 "SoldStopsModel" "many" "I", Cond.fieldLink RX8 41 "SoldStopsModel" "least" "[I", Cond.methodLink RX8 199 yX8_ends, Cond.static yX8_ends, Cond.initialized RX8, Cond.code yX8_ends cX8_ends 1 (some .boolean), Cond.methodLink RX8 95 yX8_in, Cond.static yX8_in, Cond.code yX8_in cX8_in 3 (some .boolean), Cond.methodLink RX8 189 yX8_givenBy, Cond.static yX8_givenBy, Cond.code yX8_givenBy cX8_givenBy 3 (some .int), Cond.methodLink RX8 173 yX8_lesser, Cond.static yX8_lesser, Cond.code yX8_lesser cX8_lesser 2 (some .int), Cond.methodLink RX8 177 yX8_greater, Cond.static yX8_greater, Cond.code yX8_greater cX8_greater 2 (some .int), Cond.methodLink RX8 203 yX8_cellOf, Cond.static yX8_cellOf, Cond.code yX8_cellOf cX8_cellOf 2 (some .int)]
def wsX8_costBy_r2 : List Cond := [Cond.methodLink RX8 180 yX8_costOf, Cond.instanceMethod yX8_costOf, Cond.selects RX8 yX8_costOf yX8_costOf, Cond.code yX8_costOf cX8_costOf 2 (some .int), Cond.fieldLink RX8 17 "SoldStopsModel" "price" "I", Cond.fieldLink RX8 86 "SoldStopsModel" "week" "I"]
def wsX8_costBy : List Cond := .code yX8_costBy cX8_costBy 8 (some .int) :: ((wsX8_costBy_r1 ++ wsX8_costBy_r2) ++ wsX80)
def wsX8_optionsAt : List Cond := .code yX8_optionsAt cX8_optionsAt 2 (some .int) :: ([.fieldLink RX8 23 "SoldStopsModel" "kinds" "[I"] ++ wsX80)
def wsX8_setLeast_r1 : List Cond := [Cond.fieldLink RX8 41 "SoldStopsModel" "least" "[I", Cond.fieldLink RX8 80 "SoldStopsModel" "many" "I", Cond.constant RX8 202 (1048576), Cond.methodLink RX8 203 yX8_cellOf, Cond.static yX8_cellOf, Cond.initialized RX8, Cond.code yX8_cellOf cX8_cellOf 2 (some .int), Cond.methodLink RX8 206 yX8_optionsAt, Cond.instanceMethod yX8_optionsAt, Cond.selects RX8 yX8_optionsAt yX8_optionsAt, Cond.code yX8_optionsAt cX8_optionsAt 2 (some .int), Cond.fieldLink RX8 23 "SoldStopsModel" "kinds" "[I", Cond.methodLink RX8 209 yX8_costBy, Cond.instanceMethod yX8_costBy, Cond.selects RX8 yX8_costBy yX8_costBy, Cond.code yX8_costBy cX8_costBy 8 (some .int), Cond.fieldLink RX8 20 "SoldStopsModel" "lengths" "[I", Cond.methodLink RX8 199 yX8_ends, Cond.static yX8_ends, Cond.code yX8_ends cX8_ends 1 (some .boolean), Cond.methodLink RX8 95 yX8_in, Cond.static yX8_in, Cond.code yX8_in cX8_in 3 (some .boolean), Cond.methodLink RX8 189 yX8_givenBy]
def wsX8_setLeast_r2 : List Cond := [Cond.static yX8_givenBy, Cond.code yX8_givenBy cX8_givenBy 3 (some .int), Cond.methodLink RX8 173 yX8_lesser, Cond.static yX8_lesser, Cond.code yX8_lesser cX8_lesser 2 (some .int), Cond.methodLink RX8 177 yX8_greater, Cond.static yX8_greater, Cond.code yX8_greater cX8_greater 2 (some .int), Cond.methodLink RX8 180 yX8_costOf, Cond.instanceMethod yX8_costOf, Cond.selects RX8 yX8_costOf yX8_costOf, Cond.code yX8_costOf cX8_costOf 2 (some .int), Cond.fieldLink RX8 17 "SoldStopsModel" "price" "I", Cond.fieldLink RX8 86 "SoldStopsModel" "week" "I"]
def wsX8_setLeast : List Cond := .code yX8_setLeast cX8_setLeast 7 none :: ((wsX8_setLeast_r1 ++ wsX8_setLeast_r2) ++ wsX80)
def wsX8_cheapest_r1 : List Cond := [Cond.fieldLink RX8 41 "SoldStopsModel" "least" "[I", Cond.constant RX8 202 (1048576), Cond.fieldLink RX8 80 "SoldStopsModel" "many" "I", Cond.fieldLink RX8 44 "SoldStopsModel" "bought" "[I", Cond.fieldLink RX8 23 "SoldStopsModel" "kinds" "[I", Cond.fieldLink RX8 20 "SoldStopsModel" "lengths" "[I", Cond.methodLink RX8 95 yX8_in, Cond.static yX8_in, Cond.initialized RX8, Cond.code yX8_in cX8_in 3 (some .boolean), Cond.methodLink RX8 121 yX8_ten, Cond.instanceMethod yX8_ten, Cond.selects RX8 yX8_ten yX8_ten, Cond.code yX8_ten cX8_ten 1 (some .int), Cond.fieldLink RX8 1 "SoldStopsModel" "refused" "[I", Cond.methodLink RX8 213 yX8_setLeast, Cond.instanceMethod yX8_setLeast, Cond.selects RX8 yX8_setLeast yX8_setLeast, Cond.code yX8_setLeast cX8_setLeast 7 none, Cond.methodLink RX8 203 yX8_cellOf, Cond.static yX8_cellOf, Cond.code yX8_cellOf cX8_cellOf 2 (some .int), Cond.methodLink RX8 206 yX8_optionsAt, Cond.instanceMethod yX8_optionsAt]
def wsX8_cheapest_r2 : List Cond := [Cond.selects RX8 yX8_optionsAt yX8_optionsAt, Cond.code yX8_optionsAt cX8_optionsAt 2 (some .int), Cond.methodLink RX8 209 yX8_costBy, Cond.instanceMethod yX8_costBy, Cond.selects RX8 yX8_costBy yX8_costBy, Cond.code yX8_costBy cX8_costBy 8 (some .int), Cond.methodLink RX8 199 yX8_ends, Cond.static yX8_ends, Cond.code yX8_ends cX8_ends 1 (some .boolean), Cond.methodLink RX8 189 yX8_givenBy, Cond.static yX8_givenBy, Cond.code yX8_givenBy cX8_givenBy 3 (some .int), Cond.methodLink RX8 173 yX8_lesser, Cond.static yX8_lesser, Cond.code yX8_lesser cX8_lesser 2 (some .int), Cond.methodLink RX8 177 yX8_greater, Cond.static yX8_greater, Cond.code yX8_greater cX8_greater 2 (some .int), Cond.methodLink RX8 180 yX8_costOf, Cond.instanceMethod yX8_costOf, Cond.selects RX8 yX8_costOf yX8_costOf, Cond.code yX8_costOf cX8_costOf 2 (some .int), Cond.fieldLink RX8 17 "SoldStopsModel" "price" "I", Cond.fieldLink RX8 86 "SoldStopsModel" "week" "I"]
def wsX8_cheapest : List Cond := .code yX8_cheapest cX8_cheapest 9 (some .int) :: ((wsX8_cheapest_r1 ++ wsX8_cheapest_r2) ++ wsX80)
def wsX8_reach_r1 : List Cond := [Cond.fieldLink RX8 47 "SoldStopsModel" "paid" "[I", Cond.fieldLink RX8 13 "SoldStopsModel" "breath" "I", Cond.constant RX8 202 (1048576), Cond.fieldLink RX8 80 "SoldStopsModel" "many" "I", Cond.fieldLink RX8 50 "SoldStopsModel" "then" "[I", Cond.fieldLink RX8 20 "SoldStopsModel" "lengths" "[I", Cond.fieldLink RX8 23 "SoldStopsModel" "kinds" "[I", Cond.methodLink RX8 95 yX8_in, Cond.static yX8_in, Cond.initialized RX8, Cond.code yX8_in cX8_in 3 (some .boolean), Cond.methodLink RX8 103 yX8_bad, Cond.instanceMethod yX8_bad, Cond.selects RX8 yX8_bad yX8_bad, Cond.code yX8_bad cX8_bad 1 (some .int), Cond.fieldLink RX8 1 "SoldStopsModel" "refused" "[I", Cond.methodLink RX8 206 yX8_optionsAt, Cond.instanceMethod yX8_optionsAt, Cond.selects RX8 yX8_optionsAt yX8_optionsAt, Cond.code yX8_optionsAt cX8_optionsAt 2 (some .int), Cond.methodLink RX8 189 yX8_givenBy, Cond.static yX8_givenBy, Cond.code yX8_givenBy cX8_givenBy 3 (some .int), Cond.methodLink RX8 173 yX8_lesser]
def wsX8_reach_r2 : List Cond := [Cond.static yX8_lesser, Cond.code yX8_lesser cX8_lesser 2 (some .int), Cond.methodLink RX8 177 yX8_greater, Cond.static yX8_greater, Cond.code yX8_greater cX8_greater 2 (some .int), Cond.methodLink RX8 180 yX8_costOf, Cond.instanceMethod yX8_costOf, Cond.selects RX8 yX8_costOf yX8_costOf, Cond.code yX8_costOf cX8_costOf 2 (some .int), Cond.fieldLink RX8 17 "SoldStopsModel" "price" "I", Cond.fieldLink RX8 86 "SoldStopsModel" "week" "I"]
def wsX8_reach : List Cond := .code yX8_reach cX8_reach 7 (some .int) :: ((wsX8_reach_r1 ++ wsX8_reach_r2) ++ wsX80)
def wsX8_readBy : List Cond := .code yX8_readBy cX8_readBy 4 (some .int) :: ([.fieldLink RX8 13 "SoldStopsModel" "breath" "I", .fieldLink RX8 80 "SoldStopsModel" "many" "I", .fieldLink RX8 20 "SoldStopsModel" "lengths" "[I", .fieldLink RX8 53 "SoldStopsModel" "line" "[I", .fieldLink RX8 23 "SoldStopsModel" "kinds" "[I", .methodLink RX8 189 yX8_givenBy, .static yX8_givenBy, .initialized RX8, .code yX8_givenBy cX8_givenBy 3 (some .int), .methodLink RX8 173 yX8_lesser, .static yX8_lesser, .code yX8_lesser cX8_lesser 2 (some .int), .methodLink RX8 177 yX8_greater, .static yX8_greater, .code yX8_greater cX8_greater 2 (some .int)] ++ wsX80)
def wsX8_nextLine : List Cond := .code yX8_nextLine cX8_nextLine 6 (some .boolean) :: ([.fieldLink RX8 80 "SoldStopsModel" "many" "I", .fieldLink RX8 53 "SoldStopsModel" "line" "[I"] ++ wsX80)
def wsX8_order_r1 : List Cond := [Cond.fieldLink RX8 80 "SoldStopsModel" "many" "I", Cond.fieldLink RX8 53 "SoldStopsModel" "line" "[I", Cond.fieldLink RX8 56 "SoldStopsModel" "bestLine" "[I", Cond.methodLink RX8 121 yX8_ten, Cond.instanceMethod yX8_ten, Cond.selects RX8 yX8_ten yX8_ten, Cond.initialized RX8, Cond.code yX8_ten cX8_ten 1 (some .int), Cond.fieldLink RX8 1 "SoldStopsModel" "refused" "[I", Cond.methodLink RX8 217 yX8_twenty, Cond.instanceMethod yX8_twenty, Cond.selects RX8 yX8_twenty yX8_twenty, Cond.code yX8_twenty cX8_twenty 1 (some .int), Cond.methodLink RX8 220 yX8_readBy, Cond.instanceMethod yX8_readBy, Cond.selects RX8 yX8_readBy yX8_readBy, Cond.code yX8_readBy cX8_readBy 4 (some .int), Cond.fieldLink RX8 13 "SoldStopsModel" "breath" "I", Cond.fieldLink RX8 20 "SoldStopsModel" "lengths" "[I", Cond.fieldLink RX8 23 "SoldStopsModel" "kinds" "[I", Cond.methodLink RX8 189 yX8_givenBy, Cond.static yX8_givenBy, Cond.code yX8_givenBy cX8_givenBy 3 (some .int), Cond.methodLink RX8 173 yX8_lesser]
def wsX8_order_r2 : List Cond := [Cond.static yX8_lesser, Cond.code yX8_lesser cX8_lesser 2 (some .int), Cond.methodLink RX8 177 yX8_greater, Cond.static yX8_greater, Cond.code yX8_greater cX8_greater 2 (some .int), Cond.methodLink RX8 223 yX8_nextLine, Cond.instanceMethod yX8_nextLine, Cond.selects RX8 yX8_nextLine yX8_nextLine, Cond.code yX8_nextLine cX8_nextLine 6 (some .boolean)]
def wsX8_order : List Cond := .code yX8_order cX8_order 6 (some .int) :: ((wsX8_order_r1 ++ wsX8_order_r2) ++ wsX80)
def wsX8_heard_r1 : List Cond := [Cond.fieldLink RX8 89 "SoldStopsModel" "heardMany" "I", Cond.fieldLink RX8 80 "SoldStopsModel" "many" "I", Cond.fieldLink RX8 29 "SoldStopsModel" "heards" "[I", Cond.methodLink RX8 114 yX8_isPiece, Cond.instanceMethod yX8_isPiece, Cond.selects RX8 yX8_isPiece yX8_isPiece, Cond.initialized RX8, Cond.code yX8_isPiece cX8_isPiece 2 (some .boolean), Cond.methodLink RX8 95 yX8_in, Cond.static yX8_in, Cond.code yX8_in cX8_in 3 (some .boolean), Cond.methodLink RX8 103 yX8_bad, Cond.instanceMethod yX8_bad, Cond.selects RX8 yX8_bad yX8_bad, Cond.code yX8_bad cX8_bad 1 (some .int), Cond.fieldLink RX8 1 "SoldStopsModel" "refused" "[I", Cond.methodLink RX8 107 yX8_full, Cond.instanceMethod yX8_full, Cond.selects RX8 yX8_full yX8_full, Cond.code yX8_full cX8_full 1 (some .int), Cond.methodLink RX8 196 yX8_stuckBy, Cond.instanceMethod yX8_stuckBy, Cond.selects RX8 yX8_stuckBy yX8_stuckBy, Cond.code yX8_stuckBy cX8_stuckBy 5 (some .int)]
def wsX8_heard_r2 : List Cond := [Cond.fieldLink RX8 20 "SoldStopsModel" "lengths" "[I", Cond.fieldLink RX8 23 "SoldStopsModel" "kinds" "[I", Cond.methodLink RX8 189 yX8_givenBy, Cond.static yX8_givenBy, Cond.code yX8_givenBy cX8_givenBy 3 (some .int), Cond.methodLink RX8 173 yX8_lesser, Cond.static yX8_lesser, Cond.code yX8_lesser cX8_lesser 2 (some .int), Cond.methodLink RX8 177 yX8_greater, Cond.static yX8_greater, Cond.code yX8_greater cX8_greater 2 (some .int)]
def wsX8_heard : List Cond := .code yX8_heard cX8_heard 4 (some .int) :: ((wsX8_heard_r1 ++ wsX8_heard_r2) ++ wsX80)
def wsX8_forget : List Cond := .code yX8_forget cX8_forget 2 (some .int) :: ([.fieldLink RX8 89 "SoldStopsModel" "heardMany" "I"] ++ wsX80)
def wsX8_breathSet : List Cond := .code yX8_breathSet cX8_breathSet 3 (some .int) :: ([.constant RX8 226 (2147483646), .fieldLink RX8 89 "SoldStopsModel" "heardMany" "I", .fieldLink RX8 29 "SoldStopsModel" "heards" "[I"] ++ wsX80)
def wsX8_breaths : List Cond := .code yX8_breaths cX8_breaths 1 (some .int) :: ([.methodLink RX8 227 yX8_breathSet, .instanceMethod yX8_breathSet, .selects RX8 yX8_breathSet yX8_breathSet, .initialized RX8, .code yX8_breathSet cX8_breathSet 3 (some .int), .constant RX8 226 (2147483646), .fieldLink RX8 89 "SoldStopsModel" "heardMany" "I", .fieldLink RX8 29 "SoldStopsModel" "heards" "[I"] ++ wsX80)
def wsX8_alike : List Cond := .code yX8_alike cX8_alike 6 (some .int) :: ([.fieldLink RX8 80 "SoldStopsModel" "many" "I", .fieldLink RX8 59 "SoldStopsModel" "groups" "[I", .methodLink RX8 196 yX8_stuckBy, .instanceMethod yX8_stuckBy, .selects RX8 yX8_stuckBy yX8_stuckBy, .initialized RX8, .code yX8_stuckBy cX8_stuckBy 5 (some .int), .fieldLink RX8 20 "SoldStopsModel" "lengths" "[I", .fieldLink RX8 23 "SoldStopsModel" "kinds" "[I", .methodLink RX8 189 yX8_givenBy, .static yX8_givenBy, .code yX8_givenBy cX8_givenBy 3 (some .int), .methodLink RX8 173 yX8_lesser, .static yX8_lesser, .code yX8_lesser cX8_lesser 2 (some .int), .methodLink RX8 177 yX8_greater, .static yX8_greater, .code yX8_greater cX8_greater 2 (some .int)] ++ wsX80)
def wsX8_shorter_r1 : List Cond := [Cond.constant RX8 202 (1048576), Cond.fieldLink RX8 80 "SoldStopsModel" "many" "I", Cond.methodLink RX8 227 yX8_breathSet, Cond.instanceMethod yX8_breathSet, Cond.selects RX8 yX8_breathSet yX8_breathSet, Cond.initialized RX8, Cond.code yX8_breathSet cX8_breathSet 3 (some .int), Cond.constant RX8 226 (2147483646), Cond.fieldLink RX8 89 "SoldStopsModel" "heardMany" "I", Cond.fieldLink RX8 29 "SoldStopsModel" "heards" "[I", Cond.methodLink RX8 230 yX8_alike, Cond.instanceMethod yX8_alike, Cond.selects RX8 yX8_alike yX8_alike, Cond.code yX8_alike cX8_alike 6 (some .int), Cond.fieldLink RX8 59 "SoldStopsModel" "groups" "[I", Cond.methodLink RX8 196 yX8_stuckBy, Cond.instanceMethod yX8_stuckBy, Cond.selects RX8 yX8_stuckBy yX8_stuckBy, Cond.code yX8_stuckBy cX8_stuckBy 5 (some .int), Cond.fieldLink RX8 20 "SoldStopsModel" "lengths" "[I", Cond.fieldLink RX8 23 "SoldStopsModel" "kinds" "[I", Cond.methodLink RX8 189 yX8_givenBy, Cond.static yX8_givenBy, Cond.code yX8_givenBy cX8_givenBy 3 (some .int)]
def wsX8_shorter_r2 : List Cond := [Cond.methodLink RX8 173 yX8_lesser, Cond.static yX8_lesser, Cond.code yX8_lesser cX8_lesser 2 (some .int), Cond.methodLink RX8 177 yX8_greater, Cond.static yX8_greater, Cond.code yX8_greater cX8_greater 2 (some .int)]
def wsX8_shorter : List Cond := .code yX8_shorter cX8_shorter 6 (some .int) :: ((wsX8_shorter_r1 ++ wsX8_shorter_r2) ++ wsX80)
def wsX8_gain : List Cond := .code yX8_gain cX8_gain 4 (some .int) :: ([])
def wsX8_rests : List Cond := .code yX8_rests cX8_rests 7 (some .boolean) :: ([.methodLink RX8 233 yX8_gain, .static yX8_gain, .initialized RX8, .code yX8_gain cX8_gain 4 (some .int)])
def wsX8_bid : List Cond := .code yX8_bid cX8_bid 13 (some .int) :: ([.methodLink RX8 118 yX8_isKind, .static yX8_isKind, .initialized RX8, .code yX8_isKind cX8_isKind 1 (some .boolean), .methodLink RX8 95 yX8_in, .static yX8_in, .code yX8_in cX8_in 3 (some .boolean), .methodLink RX8 121 yX8_ten, .instanceMethod yX8_ten, .selects RX8 yX8_ten yX8_ten, .code yX8_ten cX8_ten 1 (some .int), .fieldLink RX8 1 "SoldStopsModel" "refused" "[I", .methodLink RX8 180 yX8_costOf, .instanceMethod yX8_costOf, .selects RX8 yX8_costOf yX8_costOf, .code yX8_costOf cX8_costOf 2 (some .int), .fieldLink RX8 17 "SoldStopsModel" "price" "I", .fieldLink RX8 86 "SoldStopsModel" "week" "I", .methodLink RX8 237 yX8_rests, .static yX8_rests, .code yX8_rests cX8_rests 7 (some .boolean), .methodLink RX8 233 yX8_gain, .static yX8_gain, .code yX8_gain cX8_gain 4 (some .int)] ++ wsX80)
def wsX8_lay : List Cond := .code yX8_lay cX8_lay 11 none :: ([.fieldLink RX8 241 "SoldStopsModel" "above" "J", .fieldLink RX8 62 "SoldStopsModel" "below" "J"] ++ wsX80)
def wsX8_odds_r1 : List Cond := [Cond.fieldLink RX8 66 "SoldStopsModel" "ways" "[J", Cond.fieldLink RX8 13 "SoldStopsModel" "breath" "I", Cond.fieldLink RX8 80 "SoldStopsModel" "many" "I", Cond.fieldLink RX8 70 "SoldStopsModel" "waysThen" "[J", Cond.fieldLink RX8 23 "SoldStopsModel" "kinds" "[I", Cond.fieldLink RX8 20 "SoldStopsModel" "lengths" "[I", Cond.constantLong RX8 244 (10), Cond.methodLink RX8 95 yX8_in, Cond.static yX8_in, Cond.initialized RX8, Cond.code yX8_in cX8_in 3 (some .boolean), Cond.methodLink RX8 103 yX8_bad, Cond.instanceMethod yX8_bad, Cond.selects RX8 yX8_bad yX8_bad, Cond.code yX8_bad cX8_bad 1 (some .int), Cond.fieldLink RX8 1 "SoldStopsModel" "refused" "[I", Cond.methodLink RX8 189 yX8_givenBy, Cond.static yX8_givenBy, Cond.code yX8_givenBy cX8_givenBy 3 (some .int), Cond.methodLink RX8 173 yX8_lesser, Cond.static yX8_lesser, Cond.code yX8_lesser cX8_lesser 2 (some .int), Cond.methodLink RX8 177 yX8_greater, Cond.static yX8_greater]
def wsX8_odds_r2 : List Cond := [Cond.code yX8_greater cX8_greater 2 (some .int), Cond.methodLink RX8 246 yX8_lay, Cond.instanceMethod yX8_lay, Cond.selects RX8 yX8_lay yX8_lay, Cond.code yX8_lay cX8_lay 11 none, Cond.fieldLink RX8 241 "SoldStopsModel" "above" "J", Cond.fieldLink RX8 62 "SoldStopsModel" "below" "J"]
def wsX8_odds : List Cond := .code yX8_odds cX8_odds 9 (some .int) :: ((wsX8_odds_r1 ++ wsX8_odds_r2) ++ wsX80)
def wsX8_drawn_r1 : List Cond := [Cond.constant RX8 250 (999999), Cond.fieldLink RX8 13 "SoldStopsModel" "breath" "I", Cond.fieldLink RX8 80 "SoldStopsModel" "many" "I", Cond.constantLong RX8 251 (1103515245), Cond.constantLong RX8 253 (12345), Cond.constantLong RX8 255 (2147483648), Cond.constantLong RX8 257 (65536), Cond.constantLong RX8 259 (9), Cond.fieldLink RX8 23 "SoldStopsModel" "kinds" "[I", Cond.methodLink RX8 95 yX8_in, Cond.static yX8_in, Cond.initialized RX8, Cond.code yX8_in cX8_in 3 (some .boolean), Cond.methodLink RX8 103 yX8_bad, Cond.instanceMethod yX8_bad, Cond.selects RX8 yX8_bad yX8_bad, Cond.code yX8_bad cX8_bad 1 (some .int), Cond.fieldLink RX8 1 "SoldStopsModel" "refused" "[I", Cond.methodLink RX8 189 yX8_givenBy, Cond.static yX8_givenBy, Cond.code yX8_givenBy cX8_givenBy 3 (some .int), Cond.methodLink RX8 173 yX8_lesser, Cond.static yX8_lesser, Cond.code yX8_lesser cX8_lesser 2 (some .int)]
def wsX8_drawn_r2 : List Cond := [Cond.methodLink RX8 177 yX8_greater, Cond.static yX8_greater, Cond.code yX8_greater cX8_greater 2 (some .int)]
def wsX8_drawn : List Cond := .code yX8_drawn cX8_drawn 11 (some .int) :: ((wsX8_drawn_r1 ++ wsX8_drawn_r2) ++ wsX80)
def wsX8_part : List Cond := .code yX8_part cX8_part 2 (some .long) :: ([.fieldLink RX8 241 "SoldStopsModel" "above" "J", .fieldLink RX8 62 "SoldStopsModel" "below" "J", .methodLink RX8 103 yX8_bad, .instanceMethod yX8_bad, .selects RX8 yX8_bad yX8_bad, .initialized RX8, .code yX8_bad cX8_bad 1 (some .int), .fieldLink RX8 1 "SoldStopsModel" "refused" "[I"] ++ wsX80)
def wsX8_image : List Cond := .code yX8_image cX8_image 4 (some .int) :: ([.fieldLink RX8 73 "SoldStopsModel" "images" "[I", .fieldLink RX8 13 "SoldStopsModel" "breath" "I", .fieldLink RX8 17 "SoldStopsModel" "price" "I", .fieldLink RX8 80 "SoldStopsModel" "many" "I", .fieldLink RX8 83 "SoldStopsModel" "purse" "I", .fieldLink RX8 86 "SoldStopsModel" "week" "I", .fieldLink RX8 89 "SoldStopsModel" "heardMany" "I", .fieldLink RX8 92 "SoldStopsModel" "undoMany" "I", .fieldLink RX8 20 "SoldStopsModel" "lengths" "[I", .fieldLink RX8 23 "SoldStopsModel" "kinds" "[I", .fieldLink RX8 26 "SoldStopsModel" "reads" "[I", .fieldLink RX8 29 "SoldStopsModel" "heards" "[I", .fieldLink RX8 38 "SoldStopsModel" "ahead" "[I", .methodLink RX8 95 yX8_in, .static yX8_in, .initialized RX8, .code yX8_in cX8_in 3 (some .boolean), .methodLink RX8 103 yX8_bad, .instanceMethod yX8_bad, .selects RX8 yX8_bad yX8_bad, .code yX8_bad cX8_bad 1 (some .int), .fieldLink RX8 1 "SoldStopsModel" "refused" "[I"] ++ wsX80)
def wsX8_from_r1 : List Cond := [Cond.fieldLink RX8 73 "SoldStopsModel" "images" "[I", Cond.fieldLink RX8 13 "SoldStopsModel" "breath" "I", Cond.fieldLink RX8 17 "SoldStopsModel" "price" "I", Cond.fieldLink RX8 80 "SoldStopsModel" "many" "I", Cond.fieldLink RX8 83 "SoldStopsModel" "purse" "I", Cond.fieldLink RX8 86 "SoldStopsModel" "week" "I", Cond.fieldLink RX8 89 "SoldStopsModel" "heardMany" "I", Cond.fieldLink RX8 92 "SoldStopsModel" "undoMany" "I", Cond.fieldLink RX8 20 "SoldStopsModel" "lengths" "[I", Cond.fieldLink RX8 23 "SoldStopsModel" "kinds" "[I", Cond.fieldLink RX8 26 "SoldStopsModel" "reads" "[I", Cond.fieldLink RX8 29 "SoldStopsModel" "heards" "[I", Cond.fieldLink RX8 38 "SoldStopsModel" "ahead" "[I", Cond.methodLink RX8 95 yX8_in, Cond.static yX8_in, Cond.initialized RX8, Cond.code yX8_in cX8_in 3 (some .boolean), Cond.methodLink RX8 103 yX8_bad, Cond.instanceMethod yX8_bad, Cond.selects RX8 yX8_bad yX8_bad, Cond.code yX8_bad cX8_bad 1 (some .int), Cond.fieldLink RX8 1 "SoldStopsModel" "refused" "[I", Cond.methodLink RX8 183 yX8_no, Cond.instanceMethod yX8_no]
def wsX8_from_r2 : List Cond := [Cond.selects RX8 yX8_no yX8_no, Cond.code yX8_no cX8_no 1 (some .int)]
def wsX8_from : List Cond := .code yX8_from cX8_from 4 (some .int) :: ((wsX8_from_r1 ++ wsX8_from_r2) ++ wsX80)
def wsX8_status : List Cond := .code yX8_status cX8_status 2 (some .int) :: ([.fieldLink RX8 1 "SoldStopsModel" "refused" "[I", .methodLink RX8 95 yX8_in, .static yX8_in, .initialized RX8, .code yX8_in cX8_in 3 (some .boolean)] ++ wsX80)
def wsX8_countOf : List Cond := .code yX8_countOf cX8_countOf 4 (some .int) :: ([.fieldLink RX8 80 "SoldStopsModel" "many" "I", .fieldLink RX8 23 "SoldStopsModel" "kinds" "[I", .fieldLink RX8 13 "SoldStopsModel" "breath" "I", .fieldLink RX8 17 "SoldStopsModel" "price" "I", .fieldLink RX8 83 "SoldStopsModel" "purse" "I", .fieldLink RX8 86 "SoldStopsModel" "week" "I", .fieldLink RX8 89 "SoldStopsModel" "heardMany" "I", .fieldLink RX8 92 "SoldStopsModel" "undoMany" "I", .fieldLink RX8 127 "SoldStopsModel" "typed" "I"] ++ wsX80)
def wsX8_count : List Cond := .code yX8_count cX8_count 2 (some .int) :: ([.methodLink RX8 95 yX8_in, .static yX8_in, .initialized RX8, .code yX8_in cX8_in 3 (some .boolean), .methodLink RX8 261 yX8_countOf, .instanceMethod yX8_countOf, .selects RX8 yX8_countOf yX8_countOf, .code yX8_countOf cX8_countOf 4 (some .int), .fieldLink RX8 80 "SoldStopsModel" "many" "I", .fieldLink RX8 23 "SoldStopsModel" "kinds" "[I", .fieldLink RX8 13 "SoldStopsModel" "breath" "I", .fieldLink RX8 17 "SoldStopsModel" "price" "I", .fieldLink RX8 83 "SoldStopsModel" "purse" "I", .fieldLink RX8 86 "SoldStopsModel" "week" "I", .fieldLink RX8 89 "SoldStopsModel" "heardMany" "I", .fieldLink RX8 92 "SoldStopsModel" "undoMany" "I", .fieldLink RX8 127 "SoldStopsModel" "typed" "I", .methodLink RX8 103 yX8_bad, .instanceMethod yX8_bad, .selects RX8 yX8_bad yX8_bad, .code yX8_bad cX8_bad 1 (some .int), .fieldLink RX8 1 "SoldStopsModel" "refused" "[I"] ++ wsX80)
def wsX8_mix : List Cond := .code yX8_mix cX8_mix 3 none :: ([.constantLong RX8 264 (31), .fieldLink RX8 266 "SoldStopsModel" "h0" "J"] ++ wsX80)
def wsX8_digest_r1 : List Cond := [Cond.constantLong RX8 269 (1063), Cond.fieldLink RX8 266 "SoldStopsModel" "h0" "J", Cond.fieldLink RX8 80 "SoldStopsModel" "many" "I", Cond.fieldLink RX8 20 "SoldStopsModel" "lengths" "[I", Cond.fieldLink RX8 23 "SoldStopsModel" "kinds" "[I", Cond.fieldLink RX8 26 "SoldStopsModel" "reads" "[I", Cond.fieldLink RX8 89 "SoldStopsModel" "heardMany" "I", Cond.fieldLink RX8 29 "SoldStopsModel" "heards" "[I", Cond.fieldLink RX8 241 "SoldStopsModel" "above" "J", Cond.fieldLink RX8 62 "SoldStopsModel" "below" "J", Cond.methodLink RX8 261 yX8_countOf, Cond.instanceMethod yX8_countOf, Cond.selects RX8 yX8_countOf yX8_countOf, Cond.initialized RX8, Cond.code yX8_countOf cX8_countOf 4 (some .int), Cond.fieldLink RX8 13 "SoldStopsModel" "breath" "I", Cond.fieldLink RX8 17 "SoldStopsModel" "price" "I", Cond.fieldLink RX8 83 "SoldStopsModel" "purse" "I", Cond.fieldLink RX8 86 "SoldStopsModel" "week" "I", Cond.fieldLink RX8 92 "SoldStopsModel" "undoMany" "I", Cond.fieldLink RX8 127 "SoldStopsModel" "typed" "I", Cond.methodLink RX8 271 yX8_mix, Cond.instanceMethod yX8_mix, Cond.selects RX8 yX8_mix yX8_mix]
def wsX8_digest_r2 : List Cond := [Cond.code yX8_mix cX8_mix 3 none, Cond.constantLong RX8 264 (31)]
def wsX8_digest : List Cond := .code yX8_digest cX8_digest 2 (some .long) :: ((wsX8_digest_r1 ++ wsX8_digest_r2) ++ wsX80)
def wsJ9_max_7cf53 : List Cond := .code yJ9_max_7cf53 cJ9_max_7cf53 2 (some .int) :: ([])
def wsJ9_min_7cf53 : List Cond := .code yJ9_min_7cf53 cJ9_min_7cf53 2 (some .int) :: ([])
def wsL_law_r1 : List Cond := [Cond.classLink RL 7 RX7, Cond.instantiable RX7 12, Cond.initialized RX7, Cond.classLink RL 10 RX8, Cond.instantiable RX8 32, Cond.initialized RX8, Cond.methodLink RL 9 yX7_init, Cond.instanceMethod yX7_init, Cond.code yX7_init cX7_init 1 none, Cond.methodLink RX7 1 objectInit, Cond.instanceMethod objectInit, Cond.code objectInit ⟨#[0xb1]⟩ 1 none, Cond.classLink RX7 7 RX4, Cond.instantiable RX4 9, Cond.initialized RX4, Cond.fieldLink RX7 10 "SoldStops" "page" "LSoldStops$Page;", Cond.fieldLink RX7 16 "SoldStops" "spare" "LSoldStops$Page;", Cond.fieldLink RX7 19 "SoldStops" "images" "[LSoldStops$Page;", Cond.arrayClass .boolean, Cond.fieldLink RX7 23 "SoldStops" "kept" "[Z", Cond.classLink RX7 27 RX6, Cond.instantiable RX6 10, Cond.initialized RX6, Cond.fieldLink RX7 30 "SoldStops" "text" "LSoldStops$Text;"]
def wsL_law_r2 : List Cond := [Cond.classLink RX7 34 RX5, Cond.instantiable RX5 5, Cond.initialized RX5, Cond.fieldLink RX7 37 "SoldStops" "plan" "LSoldStops$Plan;", Cond.classLink RX7 41 RX3, Cond.instantiable RX3 4, Cond.initialized RX3, Cond.fieldLink RX7 44 "SoldStops" "order" "LSoldStops$Order;", Cond.classLink RX7 48 RX0, Cond.instantiable RX0 4, Cond.initialized RX0, Cond.fieldLink RX7 51 "SoldStops" "chance" "LSoldStops$Chance;", Cond.arrayClass .int, Cond.fieldLink RX7 55 "SoldStops" "alike" "[I", Cond.methodLink RX7 9 yX4_init, Cond.instanceMethod yX4_init, Cond.code yX4_init cX4_init 2 none, Cond.methodLink RX4 3 objectInit, Cond.fieldLink RX4 9 "SoldStops$Page" "breath" "I", Cond.fieldLink RX4 15 "SoldStops$Page" "price" "I", Cond.fieldLink RX4 18 "SoldStops$Page" "lengths" "[I", Cond.classLink RX4 22 RX2, Cond.instantiable RX2 4, Cond.initialized RX2]
def wsL_law_r3 : List Cond := [Cond.fieldLink RX4 25 "SoldStops$Page" "marks" "LSoldStops$Marks;", Cond.fieldLink RX4 29 "SoldStops$Page" "heard" "[I", Cond.fieldLink RX4 32 "SoldStops$Page" "past" "[LSoldStops$Marks;", Cond.instanceMethod yX2_init, Cond.code yX2_init cX2_init 1 none, Cond.methodLink RX2 3 objectInit, Cond.fieldLink RX2 9 "SoldStops$Marks" "kinds" "[I", Cond.fieldLink RX2 15 "SoldStops$Marks" "reads" "[I", Cond.instanceMethod yX6_init, Cond.code yX6_init cX6_init 1 none, Cond.methodLink RX6 3 objectInit, Cond.fieldLink RX6 9 "SoldStops$Text" "bytes" "[I", Cond.fieldLink RX6 15 "SoldStops$Text" "whats" "[I", Cond.fieldLink RX6 18 "SoldStops$Text" "firsts" "[I", Cond.fieldLink RX6 21 "SoldStops$Text" "seconds" "[I", Cond.instanceMethod yX5_init, Cond.code yX5_init cX5_init 1 none, Cond.methodLink RX5 3 objectInit, Cond.classLink RX5 9 "[[I", Cond.fieldLink RX5 11 "SoldStops$Plan" "costs" "[[I", Cond.fieldLink RX5 16 "SoldStops$Plan" "fewest" "[[I", Cond.fieldLink RX5 19 "SoldStops$Plan" "choices" "[[I", Cond.fieldLink RX5 22 "SoldStops$Plan" "now" "[I", Cond.fieldLink RX5 26 "SoldStops$Plan" "then" "[I"]
def wsL_law_r4 : List Cond := [Cond.instanceMethod yX3_init, Cond.code yX3_init cX3_init 1 none, Cond.methodLink RX3 3 objectInit, Cond.fieldLink RX3 9 "SoldStops$Order" "best" "[I", Cond.fieldLink RX3 15 "SoldStops$Order" "row" "[I", Cond.fieldLink RX3 18 "SoldStops$Order" "used" "[Z", Cond.instanceMethod yX0_init, Cond.code yX0_init cX0_init 1 none, Cond.methodLink RX0 3 objectInit, Cond.fieldLink RX0 9 "SoldStops$Chance" "above" "J", Cond.fieldLink RX0 15 "SoldStops$Chance" "below" "J", Cond.arrayClass .long, Cond.fieldLink RX0 18 "SoldStops$Chance" "now" "[J", Cond.fieldLink RX0 22 "SoldStops$Chance" "then" "[J", Cond.methodLink RL 12 yX8_init, Cond.instanceMethod yX8_init, Cond.code yX8_init cX8_init 1 none, Cond.methodLink RX8 7 objectInit, Cond.fieldLink RX8 1 "SoldStopsModel" "refused" "[I", Cond.fieldLink RX8 13 "SoldStopsModel" "breath" "I", Cond.fieldLink RX8 17 "SoldStopsModel" "price" "I", Cond.fieldLink RX8 20 "SoldStopsModel" "lengths" "[I", Cond.fieldLink RX8 23 "SoldStopsModel" "kinds" "[I", Cond.fieldLink RX8 26 "SoldStopsModel" "reads" "[I"]
def wsL_law_r5 : List Cond := [Cond.fieldLink RX8 29 "SoldStopsModel" "heards" "[I", Cond.fieldLink RX8 32 "SoldStopsModel" "text" "[I", Cond.fieldLink RX8 35 "SoldStopsModel" "items" "[I", Cond.fieldLink RX8 38 "SoldStopsModel" "ahead" "[I", Cond.fieldLink RX8 41 "SoldStopsModel" "least" "[I", Cond.fieldLink RX8 44 "SoldStopsModel" "bought" "[I", Cond.fieldLink RX8 47 "SoldStopsModel" "paid" "[I", Cond.fieldLink RX8 50 "SoldStopsModel" "then" "[I", Cond.fieldLink RX8 53 "SoldStopsModel" "line" "[I", Cond.fieldLink RX8 56 "SoldStopsModel" "bestLine" "[I", Cond.fieldLink RX8 59 "SoldStopsModel" "groups" "[I", Cond.fieldLink RX8 62 "SoldStopsModel" "below" "J", Cond.fieldLink RX8 66 "SoldStopsModel" "ways" "[J", Cond.fieldLink RX8 70 "SoldStopsModel" "waysThen" "[J", Cond.fieldLink RX8 73 "SoldStopsModel" "images" "[I", Cond.methodLink RX8 76 yX8_begin, Cond.instanceMethod yX8_begin, Cond.selects RX8 yX8_begin yX8_begin, Cond.code yX8_begin cX8_begin 3 none, Cond.fieldLink RX8 80 "SoldStopsModel" "many" "I", Cond.fieldLink RX8 83 "SoldStopsModel" "purse" "I", Cond.fieldLink RX8 86 "SoldStopsModel" "week" "I", Cond.fieldLink RX8 89 "SoldStopsModel" "heardMany" "I", Cond.fieldLink RX8 92 "SoldStopsModel" "undoMany" "I"]
def wsL_law_r6 : List Cond := [Cond.methodLink RL 13 yX7_page, Cond.instanceMethod yX7_page, Cond.selects RX7 yX7_page yX7_page, Cond.code yX7_page cX7_page 4 (some .int), Cond.fieldLink RX7 70 "SoldStops$Page" "words" "I", Cond.methodLink RX7 59 yX7_isBreath, Cond.static yX7_isBreath, Cond.code yX7_isBreath cX7_isBreath 1 (some .boolean), Cond.methodLink RX7 98 yX7_isWithin, Cond.static yX7_isWithin, Cond.code yX7_isWithin cX7_isWithin 3 (some .boolean), Cond.methodLink RX7 63 yX7_isPrice, Cond.static yX7_isPrice, Cond.code yX7_isPrice cX7_isPrice 1 (some .boolean), Cond.methodLink RX7 66 yX7_bad, Cond.instanceMethod yX7_bad, Cond.selects RX7 yX7_bad yX7_bad, Cond.code yX7_bad cX7_bad 2 (some .int), Cond.fieldLink RX7 270 "SoldStops" "bads" "I", Cond.methodLink RX7 74 yX4_begin, Cond.instanceMethod yX4_begin, Cond.selects RX4 yX4_begin yX4_begin, Cond.code yX4_begin cX4_begin 3 none, Cond.fieldLink RX4 36 "SoldStops$Marks" "purse" "I"]
def wsL_law_r7 : List Cond := [Cond.fieldLink RX4 39 "SoldStops$Marks" "week" "I", Cond.fieldLink RX4 42 "SoldStops$Page" "words" "I", Cond.fieldLink RX4 45 "SoldStops$Page" "heards" "I", Cond.fieldLink RX4 48 "SoldStops$Page" "pasts" "I", Cond.methodLink RL 17 yX8_page, Cond.instanceMethod yX8_page, Cond.selects RX8 yX8_page yX8_page, Cond.code yX8_page cX8_page 4 (some .int), Cond.methodLink RX8 99 yX8_isPage, Cond.static yX8_isPage, Cond.code yX8_isPage cX8_isPage 2 (some .boolean), Cond.methodLink RX8 95 yX8_in, Cond.static yX8_in, Cond.code yX8_in cX8_in 3 (some .boolean), Cond.methodLink RX8 103 yX8_bad, Cond.instanceMethod yX8_bad, Cond.selects RX8 yX8_bad yX8_bad, Cond.code yX8_bad cX8_bad 1 (some .int), Cond.methodLink RL 18 yX7_word, Cond.instanceMethod yX7_word, Cond.selects RX7 yX7_word yX7_word, Cond.code yX7_word cX7_word 2 (some .int), Cond.methodLink RX7 78 yX7_isLength, Cond.static yX7_isLength]
def wsL_law_r8 : List Cond := [Cond.code yX7_isLength cX7_isLength 1 (some .boolean), Cond.methodLink RX7 81 yX4_hasRoom, Cond.instanceMethod yX4_hasRoom, Cond.selects RX4 yX4_hasRoom yX4_hasRoom, Cond.code yX4_hasRoom cX4_hasRoom 1 (some .boolean), Cond.methodLink RX7 85 yX7_full, Cond.instanceMethod yX7_full, Cond.selects RX7 yX7_full yX7_full, Cond.code yX7_full cX7_full 2 (some .int), Cond.fieldLink RX7 276 "SoldStops" "fulls" "I", Cond.methodLink RX7 88 yX4_addWord, Cond.instanceMethod yX4_addWord, Cond.selects RX4 yX4_addWord yX4_addWord, Cond.code yX4_addWord cX4_addWord 2 none, Cond.methodLink RX4 61 yX2_set, Cond.instanceMethod yX2_set, Cond.selects RX2 yX2_set yX2_set, Cond.code yX2_set cX2_set 3 none, Cond.methodLink RL 22 yX8_word, Cond.instanceMethod yX8_word, Cond.selects RX8 yX8_word yX8_word, Cond.code yX8_word cX8_word 2 (some .int), Cond.methodLink RX8 107 yX8_full, Cond.instanceMethod yX8_full]
def wsL_law_r9 : List Cond := [Cond.selects RX8 yX8_full yX8_full, Cond.code yX8_full cX8_full 1 (some .int), Cond.methodLink RX8 110 yX8_add, Cond.instanceMethod yX8_add, Cond.selects RX8 yX8_add yX8_add, Cond.code yX8_add cX8_add 2 (some .int), Cond.methodLink RL 23 yX7_breath, Cond.instanceMethod yX7_breath, Cond.selects RX7 yX7_breath yX7_breath, Cond.code yX7_breath cX7_breath 3 (some .int), Cond.fieldLink RX7 92 "SoldStops$Page" "breath" "I", Cond.methodLink RL 26 yX8_breath, Cond.instanceMethod yX8_breath, Cond.selects RX8 yX8_breath yX8_breath, Cond.code yX8_breath cX8_breath 3 (some .int), Cond.methodLink RL 27 yX7_price, Cond.instanceMethod yX7_price, Cond.selects RX7 yX7_price yX7_price, Cond.code yX7_price cX7_price 3 (some .int), Cond.fieldLink RX7 95 "SoldStops$Page" "price" "I", Cond.methodLink RL 30 yX8_price, Cond.instanceMethod yX8_price, Cond.selects RX8 yX8_price yX8_price, Cond.code yX8_price cX8_price 3 (some .int)]
def wsL_law_r10 : List Cond := [Cond.methodLink RL 31 yX7_purse, Cond.instanceMethod yX7_purse, Cond.selects RX7 yX7_purse yX7_purse, Cond.code yX7_purse cX7_purse 3 (some .int), Cond.fieldLink RX7 102 "SoldStops$Page" "marks" "LSoldStops$Marks;", Cond.fieldLink RX7 106 "SoldStops$Marks" "purse" "I", Cond.methodLink RL 34 yX8_purse, Cond.instanceMethod yX8_purse, Cond.selects RX8 yX8_purse yX8_purse, Cond.code yX8_purse cX8_purse 3 (some .int), Cond.methodLink RL 35 yX7_put, Cond.instanceMethod yX7_put, Cond.selects RX7 yX7_put yX7_put, Cond.code yX7_put cX7_put 4 (some .int), Cond.fieldLink RX7 119 "SoldStops$Marks" "kinds" "[I", Cond.methodLink RX7 111 yX4_has, Cond.instanceMethod yX4_has, Cond.selects RX4 yX4_has yX4_has, Cond.code yX4_has cX4_has 2 (some .boolean), Cond.methodLink RX7 114 yX1_isOne, Cond.static yX1_isOne, Cond.initialized RX1, Cond.code yX1_isOne cX1_isOne 1 (some .boolean), Cond.methodLink RX7 122 yX4_setMark]
def wsL_law_r11 : List Cond := [Cond.instanceMethod yX4_setMark, Cond.selects RX4 yX4_setMark yX4_setMark, Cond.code yX4_setMark cX4_setMark 3 none, Cond.methodLink RL 38 yX8_put, Cond.instanceMethod yX8_put, Cond.selects RX8 yX8_put yX8_put, Cond.code yX8_put cX8_put 4 (some .int), Cond.methodLink RX8 114 yX8_isPiece, Cond.instanceMethod yX8_isPiece, Cond.selects RX8 yX8_isPiece yX8_isPiece, Cond.code yX8_isPiece cX8_isPiece 2 (some .boolean), Cond.methodLink RX8 118 yX8_isKind, Cond.static yX8_isKind, Cond.code yX8_isKind cX8_isKind 1 (some .boolean), Cond.methodLink RX8 121 yX8_ten, Cond.instanceMethod yX8_ten, Cond.selects RX8 yX8_ten yX8_ten, Cond.code yX8_ten cX8_ten 1 (some .int), Cond.methodLink RX8 124 yX8_mark, Cond.instanceMethod yX8_mark, Cond.selects RX8 yX8_mark yX8_mark, Cond.code yX8_mark cX8_mark 3 none, Cond.methodLink RL 39 yX7_type, Cond.instanceMethod yX7_type]
def wsL_law_r12 : List Cond := [Cond.selects RX7 yX7_type yX7_type, Cond.code yX7_type cX7_type 2 (some .int), Cond.fieldLink RX7 125 "SoldStops$Text" "size" "I", Cond.methodLink RX7 128 yX6_add, Cond.instanceMethod yX6_add, Cond.selects RX6 yX6_add yX6_add, Cond.code yX6_add cX6_add 2 none, Cond.fieldLink RX6 24 "SoldStops$Text" "size" "I", Cond.methodLink RL 42 yX8_type, Cond.instanceMethod yX8_type, Cond.selects RX8 yX8_type yX8_type, Cond.code yX8_type cX8_type 2 (some .int), Cond.fieldLink RX8 127 "SoldStopsModel" "typed" "I", Cond.methodLink RL 43 yX7_clear, Cond.instanceMethod yX7_clear, Cond.selects RX7 yX7_clear yX7_clear, Cond.code yX7_clear cX7_clear 2 (some .int), Cond.methodLink RL 47 yX8_clear, Cond.instanceMethod yX8_clear, Cond.selects RX8 yX8_clear yX8_clear, Cond.code yX8_clear cX8_clear 2 (some .int), Cond.methodLink RL 48 yX7_read, Cond.instanceMethod yX7_read, Cond.selects RX7 yX7_read yX7_read]
def wsL_law_r13 : List Cond := [Cond.code yX7_read cX7_read 3 (some .int), Cond.fieldLink RX7 135 "SoldStops$Text" "items" "I", Cond.methodLink RX7 131 yX6_findFault, Cond.instanceMethod yX6_findFault, Cond.selects RX6 yX6_findFault yX6_findFault, Cond.code yX6_findFault cX6_findFault 1 (some .int), Cond.fieldLink RX6 28 "SoldStops$Text" "behind" "I", Cond.fieldLink RX6 34 "SoldStops$Text" "items" "I", Cond.fieldLink RX6 37 "SoldStops$Text" "token" "I", Cond.fieldLink RX6 47 "SoldStops$Text" "place" "I", Cond.methodLink RX6 31 yX6_next, Cond.instanceMethod yX6_next, Cond.selects RX6 yX6_next yX6_next, Cond.code yX6_next cX6_next 2 none, Cond.methodLink RX6 53 yX6_runEnd, Cond.instanceMethod yX6_runEnd, Cond.selects RX6 yX6_runEnd yX6_runEnd, Cond.code yX6_runEnd cX6_runEnd 5 (some .int), Cond.methodLink RX6 57 yX6_wordHere, Cond.instanceMethod yX6_wordHere, Cond.selects RX6 yX6_wordHere yX6_wordHere, Cond.code yX6_wordHere cX6_wordHere 1 (some .int), Cond.methodLink RX6 66 yX6_isHere, Cond.instanceMethod yX6_isHere]
def wsL_law_r14 : List Cond := [Cond.selects RX6 yX6_isHere yX6_isHere, Cond.code yX6_isHere cX6_isHere 3 (some .boolean), Cond.methodLink RX6 74 yJ0_length_8abf5, Cond.instanceMethod yJ0_length_8abf5, Cond.selects RJ0 yJ0_length_8abf5 yJ0_length_8abf5, Cond.initialized RJ0, Cond.code yJ0_length_8abf5 cJ0_length_8abf5 1 (some .int), Cond.fieldLink RJ0 9 "java/lang/String" "value" "[B", Cond.methodLink RJ0 335 yJ0_coder_7d493, Cond.instanceMethod yJ0_coder_7d493, Cond.selects RJ0 yJ0_coder_7d493 yJ0_coder_7d493, Cond.code yJ0_coder_7d493 cJ0_coder_7d493 1 (some .byte), Cond.fieldLink RJ0 38 "java/lang/String" "COMPACT_STRINGS" "Z", Cond.fieldLink RJ0 15 "java/lang/String" "coder" "B", Cond.methodLink RX6 79 yJ0_charAt_5068e, Cond.instanceMethod yJ0_charAt_5068e, Cond.selects RJ0 yJ0_charAt_5068e yJ0_charAt_5068e, Cond.code yJ0_charAt_5068e cJ0_charAt_5068e 2 (some .char), Cond.methodLink RJ0 492 yJ0_isLatin1_aae02, Cond.instanceMethod yJ0_isLatin1_aae02, Cond.selects RJ0 yJ0_isLatin1_aae02 yJ0_isLatin1_aae02, Cond.code yJ0_isLatin1_aae02 cJ0_isLatin1_aae02 1 (some .boolean), Cond.methodLink RJ0 495 yJ1_charAt_3b067, Cond.static yJ1_charAt_3b067]
def wsL_law_r15 : List Cond := [Cond.initialized RJ1, Cond.code yJ1_charAt_3b067 cJ1_charAt_3b067 2 (some .char), Cond.methodLink RJ1 9 yJ0_checkIndex_df160, Cond.static yJ0_checkIndex_df160, Cond.code yJ0_checkIndex_df160 cJ0_checkIndex_df160 2 none, Cond.fieldLink RJ0 1053 "jdk/internal/util/Preconditions" "SIOOBE_FORMATTER" "Ljava/util/function/BiFunction;", Cond.methodLink RJ0 1059 yJ3_checkIndex_8e157, Cond.static yJ3_checkIndex_8e157, Cond.initialized RJ3, Cond.code yJ3_checkIndex_8e157 cJ3_checkIndex_8e157 3 (some .int), Cond.methodLink RJ0 498 yJ2_charAt_3b067, Cond.static yJ2_charAt_3b067, Cond.initialized RJ2, Cond.code yJ2_charAt_3b067 cJ2_charAt_3b067 2 (some .char), Cond.methodLink RJ2 67 yJ2_checkIndex_2214a, Cond.static yJ2_checkIndex_2214a, Cond.code yJ2_checkIndex_2214a cJ2_checkIndex_2214a 2 none, Cond.methodLink RJ2 48 yJ2_length_9d52b, Cond.static yJ2_length_9d52b, Cond.code yJ2_length_9d52b cJ2_length_9d52b 1 (some .int), Cond.methodLink RJ2 414 yJ0_checkIndex_df160, Cond.methodLink RJ2 71 yJ2_getChar_3b067, Cond.static yJ2_getChar_3b067, Cond.code yJ2_getChar_3b067 cJ2_getChar_3b067 2 (some .char)]
def wsL_law_r16 : List Cond := [Cond.fieldLink RJ2 44 "java/lang/StringUTF16" "$assertionsDisabled" "Z", Cond.fieldLink RJ2 59 "java/lang/StringUTF16" "HI_BYTE_SHIFT" "I", Cond.fieldLink RJ2 63 "java/lang/StringUTF16" "LO_BYTE_SHIFT" "I", Cond.methodLink RX6 61 yX6_numberHere, Cond.instanceMethod yX6_numberHere, Cond.selects RX6 yX6_numberHere yX6_numberHere, Cond.code yX6_numberHere cX6_numberHere 2 (some .int), Cond.fieldLink RX6 50 "SoldStops$Text" "value" "I", Cond.methodLink RX6 40 yX6_mayBegin, Cond.instanceMethod yX6_mayBegin, Cond.selects RX6 yX6_mayBegin yX6_mayBegin, Cond.code yX6_mayBegin cX6_mayBegin 1 (some .boolean), Cond.methodLink RX6 44 yX6_takeItem, Cond.instanceMethod yX6_takeItem, Cond.selects RX6 yX6_takeItem yX6_takeItem, Cond.code yX6_takeItem cX6_takeItem 2 (some .boolean), Cond.methodLink RX7 138 yX7_tellItem, Cond.instanceMethod yX7_tellItem, Cond.selects RX7 yX7_tellItem yX7_tellItem, Cond.code yX7_tellItem cX7_tellItem 4 (some .boolean), Cond.fieldLink RX7 292 "SoldStops$Text" "firsts" "[I", Cond.fieldLink RX7 295 "SoldStops$Text" "seconds" "[I", Cond.fieldLink RX7 298 "SoldStops$Text" "whats" "[I", Cond.methodLink RX7 141 yX4_copy]
def wsL_law_r17 : List Cond := [Cond.instanceMethod yX4_copy, Cond.selects RX4 yX4_copy yX4_copy, Cond.code yX4_copy cX4_copy 3 none, Cond.methodLink RX4 51 arraycopyName, Cond.native arraycopyName, Cond.static arraycopyName, Cond.initialized "java/lang/System", Cond.methodLink RX4 57 yX2_copy, Cond.instanceMethod yX2_copy, Cond.selects RX2 yX2_copy yX2_copy, Cond.code yX2_copy cX2_copy 2 none, Cond.fieldLink RX2 28 "SoldStops$Marks" "purse" "I", Cond.fieldLink RX2 32 "SoldStops$Marks" "week" "I", Cond.methodLink RX2 35 arraycopyName, Cond.methodLink RL 51 yX8_read, Cond.instanceMethod yX8_read, Cond.selects RX8 yX8_read yX8_read, Cond.code yX8_read cX8_read 3 (some .int), Cond.fieldLink RX8 130 "SoldStopsModel" "readAt" "I", Cond.fieldLink RX8 157 "SoldStopsModel" "itemMany" "I", Cond.methodLink RX8 167 yX8_readsPage, Cond.instanceMethod yX8_readsPage, Cond.selects RX8 yX8_readsPage yX8_readsPage, Cond.code yX8_readsPage cX8_readsPage 2 (some .boolean)]
def wsL_law_r18 : List Cond := [Cond.methodLink RX8 145 yX8_skip, Cond.instanceMethod yX8_skip, Cond.selects RX8 yX8_skip yX8_skip, Cond.code yX8_skip cX8_skip 1 none, Cond.methodLink RX8 133 yX8_here, Cond.instanceMethod yX8_here, Cond.selects RX8 yX8_here yX8_here, Cond.code yX8_here cX8_here 1 (some .int), Cond.methodLink RX8 164 yX8_readsItem, Cond.instanceMethod yX8_readsItem, Cond.selects RX8 yX8_readsItem yX8_readsItem, Cond.code yX8_readsItem cX8_readsItem 3 (some .boolean), Cond.fieldLink RX8 151 "SoldStopsModel" "readNumber" "I", Cond.methodLink RX8 154 yX8_wordHere, Cond.instanceMethod yX8_wordHere, Cond.selects RX8 yX8_wordHere yX8_wordHere, Cond.code yX8_wordHere cX8_wordHere 5 (some .int), Cond.methodLink RX8 139 yX8_wordSize, Cond.instanceMethod yX8_wordSize, Cond.selects RX8 yX8_wordSize yX8_wordSize, Cond.code yX8_wordSize cX8_wordSize 2 (some .int), Cond.methodLink RX8 136 yX8_isLetter, Cond.static yX8_isLetter, Cond.code yX8_isLetter cX8_isLetter 1 (some .boolean)]
def wsL_law_r19 : List Cond := [Cond.methodLink RX8 142 yX8_letter, Cond.instanceMethod yX8_letter, Cond.selects RX8 yX8_letter yX8_letter, Cond.code yX8_letter cX8_letter 2 (some .int), Cond.methodLink RX8 160 yX8_number, Cond.instanceMethod yX8_number, Cond.selects RX8 yX8_number yX8_number, Cond.code yX8_number cX8_number 3 (some .boolean), Cond.methodLink RX8 148 yX8_isFigure, Cond.static yX8_isFigure, Cond.code yX8_isFigure cX8_isFigure 1 (some .boolean), Cond.methodLink RX8 170 yX8_refusedItem, Cond.instanceMethod yX8_refusedItem, Cond.selects RX8 yX8_refusedItem yX8_refusedItem, Cond.code yX8_refusedItem cX8_refusedItem 7 (some .int), Cond.methodLink RL 52 yX7_buy, Cond.instanceMethod yX7_buy, Cond.selects RX7 yX7_buy yX7_buy, Cond.code yX7_buy cX7_buy 4 (some .int), Cond.methodLink RX7 145 yX4_costOf, Cond.instanceMethod yX4_costOf, Cond.selects RX4 yX4_costOf yX4_costOf, Cond.code yX4_costOf cX4_costOf 2 (some .int), Cond.methodLink RX4 65 yX1_cost]
def wsL_law_r20 : List Cond := [Cond.static yX1_cost, Cond.code yX1_cost cX1_cost 5 (some .int), Cond.methodLink RX7 148 yX7_no, Cond.instanceMethod yX7_no, Cond.selects RX7 yX7_no yX7_no, Cond.code yX7_no cX7_no 2 (some .int), Cond.fieldLink RX7 273 "SoldStops" "nos" "I", Cond.methodLink RX7 151 yX4_remember, Cond.instanceMethod yX4_remember, Cond.selects RX4 yX4_remember yX4_remember, Cond.code yX4_remember cX4_remember 1 none, Cond.methodLink RX4 74 yX4_dropOldest, Cond.instanceMethod yX4_dropOldest, Cond.selects RX4 yX4_dropOldest yX4_dropOldest, Cond.code yX4_dropOldest cX4_dropOldest 3 none, Cond.methodLink RX7 154 yX2_set, Cond.methodLink RL 55 yX8_buy, Cond.instanceMethod yX8_buy, Cond.selects RX8 yX8_buy yX8_buy, Cond.code yX8_buy cX8_buy 4 (some .int), Cond.methodLink RX8 180 yX8_costOf, Cond.instanceMethod yX8_costOf, Cond.selects RX8 yX8_costOf yX8_costOf, Cond.code yX8_costOf cX8_costOf 2 (some .int)]
def wsL_law_r21 : List Cond := [Cond.methodLink RX8 183 yX8_no, Cond.instanceMethod yX8_no, Cond.selects RX8 yX8_no yX8_no, Cond.code yX8_no cX8_no 1 (some .int), Cond.methodLink RX8 186 yX8_notes, Cond.instanceMethod yX8_notes, Cond.selects RX8 yX8_notes yX8_notes, Cond.code yX8_notes cX8_notes 3 none, Cond.methodLink RL 56 yX7_sell, Cond.instanceMethod yX7_sell, Cond.selects RX7 yX7_sell yX7_sell, Cond.code yX7_sell cX7_sell 3 (some .int), Cond.methodLink RX7 157 Lib.Math.min.name, Cond.static Lib.Math.min.name, Cond.initialized "java/lang/Math", Cond.code Lib.Math.min.name Lib.Math.min.code 2 (some .int), Cond.methodLink RL 59 yX8_sell, Cond.instanceMethod yX8_sell, Cond.selects RX8 yX8_sell yX8_sell, Cond.code yX8_sell cX8_sell 3 (some .int), Cond.methodLink RX8 173 yX8_lesser, Cond.static yX8_lesser, Cond.code yX8_lesser cX8_lesser 2 (some .int), Cond.methodLink RL 60 yX7_readOut]
def wsL_law_r22 : List Cond := [Cond.instanceMethod yX7_readOut, Cond.selects RX7 yX7_readOut yX7_readOut, Cond.code yX7_readOut cX7_readOut 1 (some .int), Cond.methodLink RX7 163 yX4_say, Cond.instanceMethod yX4_say, Cond.selects RX4 yX4_say yX4_say, Cond.code yX4_say cX4_say 3 (some .int), Cond.methodLink RX4 80 yX4_leftBehind, Cond.instanceMethod yX4_leftBehind, Cond.selects RX4 yX4_leftBehind yX4_leftBehind, Cond.code yX4_leftBehind cX4_leftBehind 5 (some .int), Cond.fieldLink RX4 71 "SoldStops$Marks" "kinds" "[I", Cond.methodLink RX4 77 yX1_breathBehind, Cond.static yX1_breathBehind, Cond.code yX1_breathBehind cX1_breathBehind 5 (some .int), Cond.methodLink RX1 9 Lib.Math.min.name, Cond.methodLink RX1 15 Lib.Math.max.name, Cond.static Lib.Math.max.name, Cond.code Lib.Math.max.name Lib.Math.max.code 2 (some .int), Cond.methodLink RX4 84 yX2_readOnce, Cond.instanceMethod yX2_readOnce, Cond.selects RX2 yX2_readOnce yX2_readOnce, Cond.code yX2_readOnce cX2_readOnce 3 none, Cond.methodLink RX2 18 yX1_lasts]
def wsL_law_r23 : List Cond := [Cond.static yX1_lasts, Cond.code yX1_lasts cX1_lasts 1 (some .int), Cond.methodLink RX2 24 yX2_set, Cond.methodLink RL 63 yX8_readOut, Cond.instanceMethod yX8_readOut, Cond.selects RX8 yX8_readOut yX8_readOut, Cond.code yX8_readOut cX8_readOut 4 (some .int), Cond.methodLink RX8 189 yX8_givenBy, Cond.static yX8_givenBy, Cond.code yX8_givenBy cX8_givenBy 3 (some .int), Cond.methodLink RX8 177 yX8_greater, Cond.static yX8_greater, Cond.code yX8_greater cX8_greater 2 (some .int), Cond.methodLink RX8 193 yX8_dries, Cond.static yX8_dries, Cond.code yX8_dries cX8_dries 1 (some .int), Cond.methodLink RL 64 yX7_week, Cond.instanceMethod yX7_week, Cond.selects RX7 yX7_week yX7_week, Cond.code yX7_week cX7_week 2 (some .int), Cond.fieldLink RX7 166 "SoldStops$Marks" "week" "I", Cond.methodLink RL 67 yX8_week, Cond.instanceMethod yX8_week, Cond.selects RX8 yX8_week yX8_week]
def wsL_law_r24 : List Cond := [Cond.code yX8_week cX8_week 2 (some .int), Cond.methodLink RL 68 yX7_undo, Cond.instanceMethod yX7_undo, Cond.selects RX7 yX7_undo yX7_undo, Cond.code yX7_undo cX7_undo 1 (some .int), Cond.fieldLink RX7 169 "SoldStops$Page" "pasts" "I", Cond.methodLink RX7 172 yX4_goBack, Cond.instanceMethod yX4_goBack, Cond.selects RX4 yX4_goBack yX4_goBack, Cond.code yX4_goBack cX4_goBack 1 none, Cond.methodLink RL 71 yX8_undo, Cond.instanceMethod yX8_undo, Cond.selects RX8 yX8_undo yX8_undo, Cond.code yX8_undo cX8_undo 3 (some .int), Cond.methodLink RL 72 yX7_of, Cond.instanceMethod yX7_of, Cond.selects RX7 yX7_of yX7_of, Cond.code yX7_of cX7_of 3 (some .int), Cond.fieldLink RX7 175 "SoldStops$Page" "lengths" "[I", Cond.fieldLink RX7 178 "SoldStops$Marks" "reads" "[I", Cond.methodLink RL 75 yX8_of, Cond.instanceMethod yX8_of, Cond.selects RX8 yX8_of yX8_of, Cond.code yX8_of cX8_of 3 (some .int)]
def wsL_law_r25 : List Cond := [Cond.methodLink RL 76 yX7_costs, Cond.instanceMethod yX7_costs, Cond.selects RX7 yX7_costs yX7_costs, Cond.code yX7_costs cX7_costs 2 (some .int), Cond.methodLink RL 79 yX8_costs, Cond.instanceMethod yX8_costs, Cond.selects RX8 yX8_costs yX8_costs, Cond.code yX8_costs cX8_costs 2 (some .int), Cond.methodLink RL 80 yX7_gives, Cond.instanceMethod yX7_gives, Cond.selects RX7 yX7_gives yX7_gives, Cond.code yX7_gives cX7_gives 3 (some .int), Cond.methodLink RX7 181 yX1_breathBehind, Cond.methodLink RL 83 yX8_gives, Cond.instanceMethod yX8_gives, Cond.selects RX8 yX8_gives yX8_gives, Cond.code yX8_gives cX8_gives 3 (some .int), Cond.methodLink RL 84 yX7_stuck, Cond.instanceMethod yX7_stuck, Cond.selects RX7 yX7_stuck yX7_stuck, Cond.code yX7_stuck cX7_stuck 1 (some .int), Cond.methodLink RX7 185 yX4_stuckAt, Cond.instanceMethod yX4_stuckAt, Cond.selects RX4 yX4_stuckAt yX4_stuckAt]
def wsL_law_r26 : List Cond := [Cond.code yX4_stuckAt cX4_stuckAt 5 (some .int), Cond.methodLink RL 87 yX8_stuck, Cond.instanceMethod yX8_stuck, Cond.selects RX8 yX8_stuck yX8_stuck, Cond.code yX8_stuck cX8_stuck 2 (some .int), Cond.methodLink RX8 196 yX8_stuckBy, Cond.instanceMethod yX8_stuckBy, Cond.selects RX8 yX8_stuckBy yX8_stuckBy, Cond.code yX8_stuckBy cX8_stuckBy 5 (some .int), Cond.methodLink RL 88 yX7_sentences, Cond.instanceMethod yX7_sentences, Cond.selects RX7 yX7_sentences yX7_sentences, Cond.code yX7_sentences cX7_sentences 2 (some .int), Cond.methodLink RX7 188 yX4_howManySentences, Cond.instanceMethod yX4_howManySentences, Cond.selects RX4 yX4_howManySentences yX4_howManySentences, Cond.code yX4_howManySentences cX4_howManySentences 3 (some .int), Cond.methodLink RX4 93 yX1_ends, Cond.static yX1_ends, Cond.code yX1_ends cX1_ends 1 (some .boolean), Cond.methodLink RX4 97 yX4_lastIsEnded, Cond.instanceMethod yX4_lastIsEnded, Cond.selects RX4 yX4_lastIsEnded yX4_lastIsEnded, Cond.code yX4_lastIsEnded cX4_lastIsEnded 1 (some .boolean)]
def wsL_law_r27 : List Cond := [Cond.methodLink RX7 191 yX4_lastIsEnded, Cond.methodLink RX7 194 yX4_longestSentence, Cond.instanceMethod yX4_longestSentence, Cond.selects RX4 yX4_longestSentence yX4_longestSentence, Cond.code yX4_longestSentence cX4_longestSentence 7 (some .int), Cond.methodLink RL 91 yX8_sentences, Cond.instanceMethod yX8_sentences, Cond.selects RX8 yX8_sentences yX8_sentences, Cond.code yX8_sentences cX8_sentences 8 (some .int), Cond.methodLink RX8 199 yX8_ends, Cond.static yX8_ends, Cond.code yX8_ends cX8_ends 1 (some .boolean), Cond.methodLink RL 92 yX7_cheapest, Cond.instanceMethod yX7_cheapest, Cond.selects RX7 yX7_cheapest yX7_cheapest, Cond.code yX7_cheapest cX7_cheapest 4 (some .int), Cond.methodLink RX7 198 yX5_make, Cond.instanceMethod yX5_make, Cond.selects RX5 yX5_make yX5_make, Cond.code yX5_make cX5_make 8 none, Cond.fieldLink RX5 29 "SoldStops$Page" "words" "I", Cond.constant RX5 41 (1000000), Cond.fieldLink RX5 42 "SoldStops$Page" "lengths" "[I", Cond.methodLink RX5 35 yJ7_fill_53178]
def wsL_law_r28 : List Cond := [Cond.static yJ7_fill_53178, Cond.initialized RJ7, Cond.code yJ7_fill_53178 cJ7_fill_53178 4 none, Cond.methodLink RX5 45 yX5_choose, Cond.instanceMethod yX5_choose, Cond.selects RX5 yX5_choose yX5_choose, Cond.code yX5_choose cX5_choose 14 none, Cond.fieldLink RX5 49 "SoldStops$Page" "marks" "LSoldStops$Marks;", Cond.fieldLink RX5 53 "SoldStops$Marks" "kinds" "[I", Cond.methodLink RX5 60 yX1_breathBehind, Cond.methodLink RX5 64 yX4_costOf, Cond.methodLink RX5 68 yX1_ends, Cond.methodLink RX7 202 yX5_isThere, Cond.instanceMethod yX5_isThere, Cond.selects RX5 yX5_isThere yX5_isThere, Cond.code yX5_isThere cX5_isThere 2 (some .boolean), Cond.methodLink RX7 205 yX5_cost, Cond.instanceMethod yX5_cost, Cond.selects RX5 yX5_cost yX5_cost, Cond.code yX5_cost cX5_cost 2 (some .int), Cond.methodLink RX7 208 yX5_kindBehind, Cond.instanceMethod yX5_kindBehind, Cond.selects RX5 yX5_kindBehind yX5_kindBehind, Cond.code yX5_kindBehind cX5_kindBehind 8 (some .int)]
def wsL_law_r29 : List Cond := [Cond.methodLink RL 96 yX8_cheapest, Cond.instanceMethod yX8_cheapest, Cond.selects RX8 yX8_cheapest yX8_cheapest, Cond.code yX8_cheapest cX8_cheapest 9 (some .int), Cond.constant RX8 202 (1048576), Cond.methodLink RX8 213 yX8_setLeast, Cond.instanceMethod yX8_setLeast, Cond.selects RX8 yX8_setLeast yX8_setLeast, Cond.code yX8_setLeast cX8_setLeast 7 none, Cond.methodLink RX8 203 yX8_cellOf, Cond.static yX8_cellOf, Cond.code yX8_cellOf cX8_cellOf 2 (some .int), Cond.methodLink RX8 206 yX8_optionsAt, Cond.instanceMethod yX8_optionsAt, Cond.selects RX8 yX8_optionsAt yX8_optionsAt, Cond.code yX8_optionsAt cX8_optionsAt 2 (some .int), Cond.methodLink RX8 209 yX8_costBy, Cond.instanceMethod yX8_costBy, Cond.selects RX8 yX8_costBy yX8_costBy, Cond.code yX8_costBy cX8_costBy 8 (some .int), Cond.methodLink RL 97 yX7_reach, Cond.instanceMethod yX7_reach, Cond.selects RX7 yX7_reach yX7_reach, Cond.code yX7_reach cX7_reach 2 (some .int)]
def wsL_law_r30 : List Cond := [Cond.methodLink RX7 212 yX5_reachFor, Cond.instanceMethod yX5_reachFor, Cond.selects RX5 yX5_reachFor yX5_reachFor, Cond.code yX5_reachFor cX5_reachFor 6 (some .int), Cond.fieldLink RX5 72 "SoldStops$Page" "breath" "I", Cond.methodLink RX5 79 arraycopyName, Cond.methodLink RX5 75 yX5_spread, Cond.instanceMethod yX5_spread, Cond.selects RX5 yX5_spread yX5_spread, Cond.code yX5_spread cX5_spread 9 none, Cond.methodLink RX5 85 Lib.Math.min.name, Cond.methodLink RL 100 yX8_reach, Cond.instanceMethod yX8_reach, Cond.selects RX8 yX8_reach yX8_reach, Cond.code yX8_reach cX8_reach 7 (some .int), Cond.methodLink RL 101 yX7_order, Cond.instanceMethod yX7_order, Cond.selects RX7 yX7_order yX7_order, Cond.code yX7_order cX7_order 2 (some .int), Cond.fieldLink RX7 219 "SoldStops$Order" "most" "I", Cond.fieldLink RX7 222 "SoldStops$Order" "best" "[I", Cond.methodLink RX7 216 yX3_search, Cond.instanceMethod yX3_search, Cond.selects RX3 yX3_search yX3_search]
def wsL_law_r31 : List Cond := [Cond.code yX3_search cX3_search 3 none, Cond.fieldLink RX3 22 "SoldStops$Order" "most" "I", Cond.fieldLink RX3 26 "SoldStops$Page" "breath" "I", Cond.methodLink RX3 31 yX3_extend, Cond.static yX3_extend, Cond.code yX3_extend cX3_extend 6 none, Cond.fieldLink RX3 35 "SoldStops$Page" "words" "I", Cond.fieldLink RX3 42 "SoldStops$Page" "lengths" "[I", Cond.methodLink RX3 38 yX3_keepRow, Cond.instanceMethod yX3_keepRow, Cond.selects RX3 yX3_keepRow yX3_keepRow, Cond.code yX3_keepRow cX3_keepRow 5 none, Cond.methodLink RX3 49 arraycopyName, Cond.methodLink RX3 45 yX4_leftBehind, Cond.methodLink RL 104 yX8_order, Cond.instanceMethod yX8_order, Cond.selects RX8 yX8_order yX8_order, Cond.code yX8_order cX8_order 6 (some .int), Cond.methodLink RX8 217 yX8_twenty, Cond.instanceMethod yX8_twenty, Cond.selects RX8 yX8_twenty yX8_twenty, Cond.code yX8_twenty cX8_twenty 1 (some .int), Cond.methodLink RX8 220 yX8_readBy, Cond.instanceMethod yX8_readBy]
def wsL_law_r32 : List Cond := [Cond.selects RX8 yX8_readBy yX8_readBy, Cond.code yX8_readBy cX8_readBy 4 (some .int), Cond.methodLink RX8 223 yX8_nextLine, Cond.instanceMethod yX8_nextLine, Cond.selects RX8 yX8_nextLine yX8_nextLine, Cond.code yX8_nextLine cX8_nextLine 6 (some .boolean), Cond.methodLink RL 105 yX7_heard, Cond.instanceMethod yX7_heard, Cond.selects RX7 yX7_heard yX7_heard, Cond.code yX7_heard cX7_heard 2 (some .int), Cond.fieldLink RX7 225 "SoldStops$Page" "heards" "I", Cond.methodLink RX7 228 yX4_breathsStuckAt, Cond.instanceMethod yX4_breathsStuckAt, Cond.selects RX4 yX4_breathsStuckAt yX4_breathsStuckAt, Cond.code yX4_breathsStuckAt cX4_breathsStuckAt 4 (some .int), Cond.methodLink RX4 88 yX4_stuckAt, Cond.methodLink RX7 231 yX4_addHeard, Cond.instanceMethod yX4_addHeard, Cond.selects RX4 yX4_addHeard yX4_addHeard, Cond.code yX4_addHeard cX4_addHeard 2 none, Cond.methodLink RL 108 yX8_heard, Cond.instanceMethod yX8_heard, Cond.selects RX8 yX8_heard yX8_heard, Cond.code yX8_heard cX8_heard 4 (some .int)]
def wsL_law_r33 : List Cond := [Cond.methodLink RL 109 yX7_forget, Cond.instanceMethod yX7_forget, Cond.selects RX7 yX7_forget yX7_forget, Cond.code yX7_forget cX7_forget 2 (some .int), Cond.methodLink RL 112 yX8_forget, Cond.instanceMethod yX8_forget, Cond.selects RX8 yX8_forget yX8_forget, Cond.code yX8_forget cX8_forget 2 (some .int), Cond.methodLink RL 113 yX7_breaths, Cond.instanceMethod yX7_breaths, Cond.selects RX7 yX7_breaths yX7_breaths, Cond.code yX7_breaths cX7_breaths 1 (some .int), Cond.methodLink RX7 234 yX4_breathsHeard, Cond.instanceMethod yX4_breathsHeard, Cond.selects RX4 yX4_breathsHeard yX4_breathsHeard, Cond.code yX4_breathsHeard cX4_breathsHeard 3 (some .int), Cond.constant RX4 92 (2147483646), Cond.methodLink RL 116 yX8_breaths, Cond.instanceMethod yX8_breaths, Cond.selects RX8 yX8_breaths yX8_breaths, Cond.code yX8_breaths cX8_breaths 1 (some .int), Cond.methodLink RX8 227 yX8_breathSet, Cond.instanceMethod yX8_breathSet, Cond.selects RX8 yX8_breathSet yX8_breathSet]
def wsL_law_r34 : List Cond := [Cond.code yX8_breathSet cX8_breathSet 3 (some .int), Cond.constant RX8 226 (2147483646), Cond.methodLink RL 117 yX7_shorter, Cond.instanceMethod yX7_shorter, Cond.selects RX7 yX7_shorter yX7_shorter, Cond.code yX7_shorter cX7_shorter 6 (some .int), Cond.methodLink RX7 237 yX7_mostAlike, Cond.instanceMethod yX7_mostAlike, Cond.selects RX7 yX7_mostAlike yX7_mostAlike, Cond.code yX7_mostAlike cX7_mostAlike 7 (some .int), Cond.methodLink RX7 307 Lib.Math.max.name, Cond.methodLink RX7 301 yJ7_fill_53178, Cond.methodLink RL 120 yX8_shorter, Cond.instanceMethod yX8_shorter, Cond.selects RX8 yX8_shorter yX8_shorter, Cond.code yX8_shorter cX8_shorter 6 (some .int), Cond.methodLink RX8 230 yX8_alike, Cond.instanceMethod yX8_alike, Cond.selects RX8 yX8_alike yX8_alike, Cond.code yX8_alike cX8_alike 6 (some .int), Cond.methodLink RL 121 yX7_bid, Cond.instanceMethod yX7_bid, Cond.selects RX7 yX7_bid yX7_bid, Cond.code yX7_bid cX7_bid 14 (some .int)]
def wsL_law_r35 : List Cond := [Cond.methodLink RX7 240 yX7_isBest, Cond.static yX7_isBest, Cond.code yX7_isBest cX7_isBest 7 (some .boolean), Cond.methodLink RX7 310 yX7_gain, Cond.static yX7_gain, Cond.code yX7_gain cX7_gain 4 (some .int), Cond.methodLink RL 125 yX8_bid, Cond.instanceMethod yX8_bid, Cond.selects RX8 yX8_bid yX8_bid, Cond.code yX8_bid cX8_bid 13 (some .int), Cond.methodLink RX8 237 yX8_rests, Cond.static yX8_rests, Cond.code yX8_rests cX8_rests 7 (some .boolean), Cond.methodLink RX8 233 yX8_gain, Cond.static yX8_gain, Cond.code yX8_gain cX8_gain 4 (some .int), Cond.methodLink RL 126 yX7_odds, Cond.instanceMethod yX7_odds, Cond.selects RX7 yX7_odds yX7_odds, Cond.code yX7_odds cX7_odds 2 (some .int), Cond.methodLink RX7 244 yX0_reckon, Cond.instanceMethod yX0_reckon, Cond.selects RX0 yX0_reckon yX0_reckon, Cond.code yX0_reckon cX0_reckon 8 none]
def wsL_law_r36 : List Cond := [Cond.fieldLink RX0 31 "SoldStops$Page" "breath" "I", Cond.fieldLink RX0 37 "SoldStops$Page" "words" "I", Cond.fieldLink RX0 40 "SoldStops$Page" "marks" "LSoldStops$Marks;", Cond.fieldLink RX0 44 "SoldStops$Marks" "kinds" "[I", Cond.constantLong RX0 54 (10), Cond.methodLink RX0 25 yJ7_fill_d0a16, Cond.static yJ7_fill_d0a16, Cond.code yJ7_fill_d0a16 cJ7_fill_d0a16 5 none, Cond.methodLink RX0 50 yX0_step, Cond.instanceMethod yX0_step, Cond.selects RX0 yX0_step yX0_step, Cond.code yX0_step cX0_step 8 none, Cond.fieldLink RX0 60 "SoldStops$Page" "lengths" "[I", Cond.methodLink RX0 69 arraycopyName, Cond.methodLink RX0 63 yX1_breathBehind, Cond.methodLink RX0 56 yX0_setLowest, Cond.instanceMethod yX0_setLowest, Cond.selects RX0 yX0_setLowest yX0_setLowest, Cond.code yX0_setLowest cX0_setLowest 12 none, Cond.methodLink RL 129 yX8_odds, Cond.instanceMethod yX8_odds, Cond.selects RX8 yX8_odds yX8_odds, Cond.code yX8_odds cX8_odds 9 (some .int), Cond.constantLong RX8 244 (10)]
def wsL_law_r37 : List Cond := [Cond.methodLink RX8 246 yX8_lay, Cond.instanceMethod yX8_lay, Cond.selects RX8 yX8_lay yX8_lay, Cond.code yX8_lay cX8_lay 11 none, Cond.fieldLink RX8 241 "SoldStopsModel" "above" "J", Cond.methodLink RL 130 yX7_drawn, Cond.instanceMethod yX7_drawn, Cond.selects RX7 yX7_drawn yX7_drawn, Cond.code yX7_drawn cX7_drawn 10 (some .int), Cond.constant RX7 248 (999999), Cond.constantLong RX7 249 (1103515245), Cond.constantLong RX7 251 (12345), Cond.constantLong RX7 253 (2147483648), Cond.constantLong RX7 255 (65536), Cond.constantLong RX7 257 (9), Cond.methodLink RX7 259 yX4_leftBehind, Cond.methodLink RL 133 yX8_drawn, Cond.instanceMethod yX8_drawn, Cond.selects RX8 yX8_drawn yX8_drawn, Cond.code yX8_drawn cX8_drawn 11 (some .int), Cond.constant RX8 250 (999999), Cond.constantLong RX8 251 (1103515245), Cond.constantLong RX8 253 (12345), Cond.constantLong RX8 255 (2147483648)]
def wsL_law_r38 : List Cond := [Cond.constantLong RX8 257 (65536), Cond.constantLong RX8 259 (9), Cond.methodLink RL 134 yX7_part, Cond.instanceMethod yX7_part, Cond.selects RX7 yX7_part yX7_part, Cond.code yX7_part cX7_part 2 (some .long), Cond.fieldLink RX7 263 "SoldStops$Chance" "above" "J", Cond.fieldLink RX7 267 "SoldStops$Chance" "below" "J", Cond.methodLink RL 138 yX8_part, Cond.instanceMethod yX8_part, Cond.selects RX8 yX8_part yX8_part, Cond.code yX8_part cX8_part 2 (some .long), Cond.methodLink RL 139 yX7_image, Cond.instanceMethod yX7_image, Cond.selects RX7 yX7_image yX7_image, Cond.code yX7_image cX7_image 2 (some .int), Cond.methodLink RL 142 yX8_image, Cond.instanceMethod yX8_image, Cond.selects RX8 yX8_image yX8_image, Cond.code yX8_image cX8_image 4 (some .int), Cond.methodLink RL 143 yX7_from, Cond.instanceMethod yX7_from, Cond.selects RX7 yX7_from yX7_from, Cond.code yX7_from cX7_from 2 (some .int)]
def wsL_law_r39 : List Cond := [Cond.methodLink RL 146 yX8_from, Cond.instanceMethod yX8_from, Cond.selects RX8 yX8_from yX8_from, Cond.code yX8_from cX8_from 4 (some .int), Cond.methodLink RL 147 yX7_status, Cond.instanceMethod yX7_status, Cond.selects RX7 yX7_status yX7_status, Cond.code yX7_status cX7_status 2 (some .int), Cond.methodLink RL 150 yX8_status, Cond.instanceMethod yX8_status, Cond.selects RX8 yX8_status yX8_status, Cond.code yX8_status cX8_status 2 (some .int), Cond.methodLink RL 151 yX7_count, Cond.instanceMethod yX7_count, Cond.selects RX7 yX7_count yX7_count, Cond.code yX7_count cX7_count 2 (some .int), Cond.methodLink RX7 279 yX7_countOf, Cond.instanceMethod yX7_countOf, Cond.selects RX7 yX7_countOf yX7_countOf, Cond.code yX7_countOf cX7_countOf 2 (some .int), Cond.methodLink RX7 289 yX4_howManyMarks, Cond.instanceMethod yX4_howManyMarks, Cond.selects RX4 yX4_howManyMarks yX4_howManyMarks, Cond.code yX4_howManyMarks cX4_howManyMarks 3 (some .int)]
def wsL_law_r40 : List Cond := [Cond.methodLink RL 154 yX8_count, Cond.instanceMethod yX8_count, Cond.selects RX8 yX8_count yX8_count, Cond.code yX8_count cX8_count 2 (some .int), Cond.methodLink RX8 261 yX8_countOf, Cond.instanceMethod yX8_countOf, Cond.selects RX8 yX8_countOf yX8_countOf, Cond.code yX8_countOf cX8_countOf 4 (some .int), Cond.methodLink RL 155 yX7_digest, Cond.instanceMethod yX7_digest, Cond.selects RX7 yX7_digest yX7_digest, Cond.code yX7_digest cX7_digest 4 (some .long), Cond.constantLong RX7 282 (1063), Cond.constantLong RX7 284 (31), Cond.fieldLink RX7 286 "SoldStops$Page" "heard" "[I", Cond.methodLink RL 159 yX8_digest, Cond.instanceMethod yX8_digest, Cond.selects RX8 yX8_digest yX8_digest, Cond.code yX8_digest cX8_digest 2 (some .long), Cond.constantLong RX8 269 (1063), Cond.fieldLink RX8 266 "SoldStopsModel" "h0" "J", Cond.methodLink RX8 271 yX8_mix, Cond.instanceMethod yX8_mix, Cond.selects RX8 yX8_mix yX8_mix]
def wsL_law_r41 : List Cond := [Cond.code yX8_mix cX8_mix 3 none, Cond.constantLong RX8 264 (31)]
def wsL_law : List Cond := (wsL_law_r1 ++ (wsL_law_r2 ++ (wsL_law_r3 ++ (wsL_law_r4 ++ (wsL_law_r5 ++ (wsL_law_r6 ++ (wsL_law_r7 ++ (wsL_law_r8 ++ (wsL_law_r9 ++ (wsL_law_r10 ++ (wsL_law_r11 ++ (wsL_law_r12 ++ (wsL_law_r13 ++ (wsL_law_r14 ++ (wsL_law_r15 ++ (wsL_law_r16 ++ (wsL_law_r17 ++ (wsL_law_r18 ++ (wsL_law_r19 ++ (wsL_law_r20 ++ (wsL_law_r21 ++ (wsL_law_r22 ++ (wsL_law_r23 ++ (wsL_law_r24 ++ (wsL_law_r25 ++ (wsL_law_r26 ++ (wsL_law_r27 ++ (wsL_law_r28 ++ (wsL_law_r29 ++ (wsL_law_r30 ++ (wsL_law_r31 ++ (wsL_law_r32 ++ (wsL_law_r33 ++ (wsL_law_r34 ++ (wsL_law_r35 ++ (wsL_law_r36 ++ (wsL_law_r37 ++ (wsL_law_r38 ++ (wsL_law_r39 ++ (wsL_law_r40 ++ wsL_law_r41)))))))))))))))))))))))))))))))))))))))) ++ wsX70 ++ wsX80 ++ wsX40 ++ wsX60 ++ wsX50 ++ wsX30 ++ wsX00 ++ wsX20 ++ ([] : List Cond)
abbrev vwCl : List vw_C := [(RX0, TX0, 4), (RX2, TX2, 4), (RX3, TX3, 4), (RX4, TX4, 9), (RX5, TX5, 5), (RX6, TX6, 10), (RX7, TX7, 12), (RX8, TX8, 32)]
end
section
/-! THE MEMORY: one state of all objects of a side (side 0: the class, side 1: the reference), by codes; see wip/gen/layout.py -/
abbrev ss_M : Type := (Nat → Nat → Int32) × (Nat → Nat → Nat → Int32) × (Nat → Int64) × (Nat → Nat → Int64) × (Nat → Nat → Nat)
def sG (σ : ss_M) (f o : Nat) : Int32 := σ.1 f o
def sA (σ : ss_M) (c o : Nat) : Nat → Int32 := σ.2.1 c o
def sL (σ : ss_M) (f : Nat) : Int64 := σ.2.2.1 f
def sB (σ : ss_M) (c : Nat) : Nat → Int64 := σ.2.2.2.1 c
def sR (σ : ss_M) (p : Nat) : Nat → Nat := σ.2.2.2.2 p
def sGu (σ : ss_M) (f o : Nat) (v : Int32) : ss_M := (fun f' o' => if f' = f ∧ o' = o then v else σ.1 f' o', σ.2)
def sAu (σ : ss_M) (c o : Nat) (v : Nat → Int32) : ss_M := (σ.1, (fun c' o' => if c' = c ∧ o' = o then v else σ.2.1 c' o'), σ.2.2)
def sLu (σ : ss_M) (f : Nat) (v : Int64) : ss_M := (σ.1, σ.2.1, (fun f' => if f' = f then v else σ.2.2.1 f'), σ.2.2.2)
def sBu (σ : ss_M) (c : Nat) (v : Nat → Int64) : ss_M := (σ.1, σ.2.1, σ.2.2.1, (fun c' => if c' = c then v else σ.2.2.2.1 c'), σ.2.2.2.2)
def sRu (σ : ss_M) (p : Nat) (v : Nat → Nat) : ss_M := (σ.1, σ.2.1, σ.2.2.1, σ.2.2.2.1, (fun p' => if p' = p then v else σ.2.2.2.2 p'))
def sUp (f : Nat → Nat) (i v : Nat) : Nat → Nat := fun j => if j = i then v else f j
theorem sG_G (σ : ss_M) (f o : Nat) (v : Int32) (f' o' : Nat) : sG (sGu σ f o v) f' o' = if f' = f ∧ o' = o then v else sG σ f' o' := rfl
theorem sG_A (σ : ss_M) (c o : Nat) (v : Nat → Int32) (f' o' : Nat) : sG (sAu σ c o v) f' o' = sG σ f' o' := rfl
theorem sG_L (σ : ss_M) (f : Nat) (v : Int64) (f' o' : Nat) : sG (sLu σ f v) f' o' = sG σ f' o' := rfl
theorem sG_B (σ : ss_M) (c : Nat) (v : Nat → Int64) (f' o' : Nat) : sG (sBu σ c v) f' o' = sG σ f' o' := rfl
theorem sG_R (σ : ss_M) (p : Nat) (v : Nat → Nat) (f' o' : Nat) : sG (sRu σ p v) f' o' = sG σ f' o' := rfl
theorem sA_G (σ : ss_M) (f o : Nat) (v : Int32) (c' o' : Nat) : sA (sGu σ f o v) c' o' = sA σ c' o' := rfl
theorem sA_A (σ : ss_M) (c o : Nat) (v : Nat → Int32) (c' o' : Nat) : sA (sAu σ c o v) c' o' = if c' = c ∧ o' = o then v else sA σ c' o' := rfl
theorem sA_L (σ : ss_M) (f : Nat) (v : Int64) (c' o' : Nat) : sA (sLu σ f v) c' o' = sA σ c' o' := rfl
theorem sA_B (σ : ss_M) (c : Nat) (v : Nat → Int64) (c' o' : Nat) : sA (sBu σ c v) c' o' = sA σ c' o' := rfl
theorem sA_R (σ : ss_M) (p : Nat) (v : Nat → Nat) (c' o' : Nat) : sA (sRu σ p v) c' o' = sA σ c' o' := rfl
theorem sL_G (σ : ss_M) (f o : Nat) (v : Int32) (c' : Nat) : sL (sGu σ f o v) c' = sL σ c' := rfl
theorem sL_A (σ : ss_M) (c o : Nat) (v : Nat → Int32) (c' : Nat) : sL (sAu σ c o v) c' = sL σ c' := rfl
theorem sL_L (σ : ss_M) (f : Nat) (v : Int64) (c' : Nat) : sL (sLu σ f v) c' = if c' = f then v else sL σ c' := rfl
theorem sL_B (σ : ss_M) (c : Nat) (v : Nat → Int64) (c' : Nat) : sL (sBu σ c v) c' = sL σ c' := rfl
theorem sL_R (σ : ss_M) (p : Nat) (v : Nat → Nat) (c' : Nat) : sL (sRu σ p v) c' = sL σ c' := rfl
theorem sB_G (σ : ss_M) (f o : Nat) (v : Int32) (c' : Nat) : sB (sGu σ f o v) c' = sB σ c' := rfl
theorem sB_A (σ : ss_M) (c o : Nat) (v : Nat → Int32) (c' : Nat) : sB (sAu σ c o v) c' = sB σ c' := rfl
theorem sB_L (σ : ss_M) (f : Nat) (v : Int64) (c' : Nat) : sB (sLu σ f v) c' = sB σ c' := rfl
theorem sB_B (σ : ss_M) (c : Nat) (v : Nat → Int64) (c' : Nat) : sB (sBu σ c v) c' = if c' = c then v else sB σ c' := rfl
theorem sB_R (σ : ss_M) (p : Nat) (v : Nat → Nat) (c' : Nat) : sB (sRu σ p v) c' = sB σ c' := rfl
theorem sR_G (σ : ss_M) (f o : Nat) (v : Int32) (c' : Nat) : sR (sGu σ f o v) c' = sR σ c' := rfl
theorem sR_A (σ : ss_M) (c o : Nat) (v : Nat → Int32) (c' : Nat) : sR (sAu σ c o v) c' = sR σ c' := rfl
theorem sR_L (σ : ss_M) (f : Nat) (v : Int64) (c' : Nat) : sR (sLu σ f v) c' = sR σ c' := rfl
theorem sR_B (σ : ss_M) (c : Nat) (v : Nat → Int64) (c' : Nat) : sR (sBu σ c v) c' = sR σ c' := rfl
theorem sR_R (σ : ss_M) (p : Nat) (v : Nat → Nat) (c' : Nat) : sR (sRu σ p v) c' = if c' = p then v else sR σ c' := rfl
/-- an index within, as a test -/
def gd (i : Int32) (n : Nat) : Bool := !(decide (i < 0)) && decide (i.toNatClampNeg < n)
theorem gd_in {i : Int32} {n : Nat} (h : gd i n = true) : vp_in i n := by
  unfold gd at h
  simp only [Bool.and_eq_true, Bool.not_eq_true', decide_eq_false_iff_not, decide_eq_true_eq] at h
  exact fun q => q.elim h.1 (fun q => absurd h.2 (Nat.not_lt.mpr q))
def gdc (sp dp n : Int32) (n0 n1 : Nat) : Bool := !(decide (sp < 0)) && !(decide (dp < 0)) && !(decide (n < 0)) && decide (sp.toNatClampNeg + n.toNatClampNeg ≤ n0) && decide (dp.toNatClampNeg + n.toNatClampNeg ≤ n1)
theorem gdc_in {sp dp n : Int32} {n0 n1 : Nat} (h : gdc sp dp n n0 n1 = true) : ¬ sp < 0 ∧ ¬ dp < 0 ∧ ¬ n < 0 ∧ sp.toNatClampNeg + n.toNatClampNeg ≤ n0 ∧ dp.toNatClampNeg + n.toNatClampNeg ≤ n1 := by
  unfold gdc at h
  simp only [Bool.and_eq_true, Bool.not_eq_true', decide_eq_false_iff_not, decide_eq_true_eq] at h
  exact ⟨h.1.1.1.1, h.1.1.1.2, h.1.1.2, h.1.2, h.2⟩
theorem ss_if {α : Type} {c : Prop} {x : Decidable c} {a : Option α} {o : α} (h : (if c then a else none) = some o) : c ∧ a = some o := by
  by_cases q : c
  · rw [if_pos q] at h; exact ⟨q, h⟩
  · rw [if_neg q] at h; cases h
theorem ss_bind {α β : Type} {a : Option α} {k : α → Option β} {o : β} (h : a.bind k = some o) : ∃ x, a = some x ∧ k x = some o := by
  cases a with
  | none => cases h
  | some x => exact ⟨x, rfl, h⟩
def ss_bd {α β : Type} (a : Option (α × ss_M)) (k : α → ss_M → Option β) : Option β := match a with
  | none => none
  | some z => k z.1 z.2
theorem ss_bd_some {α β : Type} {a : Option (α × ss_M)} {k : α → ss_M → Option β} {o : β} (h : ss_bd a k = some o) : ∃ r σ, a = some (r, σ) ∧ k r σ = some o := by
  cases a with
  | none => cases h
  | some z => exact ⟨z.1, z.2, rfl, h⟩
theorem ss_bd_e {α β : Type} (r : α) (σ : ss_M) (k : α → ss_M → Option β) : ss_bd (some (r, σ)) k = k r σ := rfl
def ss_let {β : Type} (x : ss_M) (k : ss_M → Option β) : Option β := k x
theorem ss_let_some {β : Type} {x : ss_M} {k : ss_M → Option β} {o : β} (h : ss_let x k = some o) : ∃ y, y = x ∧ k y = some o := ⟨x, rfl, h⟩
theorem gd_lt {i : Int32} {n : Nat} (h : gd i n = true) : i.toNatClampNeg < n := by
  unfold gd at h
  simp only [Bool.and_eq_true, decide_eq_true_eq] at h
  exact h.2
theorem gd_lti {i : Int32} {n : Nat} {k : Int32} (h : gd i n = true) (hk : (n : Int) ≤ k.toInt) : i < k := by
  obtain ⟨h1, h2⟩ := vp_in_iff.mp (gd_in h)
  exact Int32.lt_iff_toInt_lt.mpr (by omega)
def FU : Nat := 10000
def alen (c : Nat) : Nat := match c with
  | 0 => 12
  | 1 => 12
  | 2 => 7
  | 3 => 7
  | 4 => 12
  | 5 => 6
  | 6 => 31
  | 7 => 31
  | 8 => 31
  | 9 => 31
  | 10 => 31
  | 11 => 150
  | 12 => 150
  | 13 => 150
  | 14 => 150
  | 15 => 13
  | 16 => 3
  | 17 => 12
  | 18 => 12
  | 19 => 12
  | 20 => 6
  | 21 => 150
  | 22 => 225
  | 23 => 208
  | 24 => 403
  | 25 => 12
  | 26 => 31
  | 27 => 31
  | 28 => 7
  | 29 => 7
  | 30 => 13
  | 31 => 516
  | _ => 0
def rlen (c : Nat) : Nat := match c with
  | 0 => 8
  | 1 => 2
  | 2 => 13
  | 3 => 13
  | 4 => 12
  | _ => 0
/-- how many cells there are of a kind: side w; t 0 objects, 1 int rows, 2 boolean rows, 3 long rows, 4 rows of references -/
def cn (w t c : Nat) : Nat := if w = 0 then (match t with
  | 0 => [1, 36, 1, 4, 1, 1, 1].getD c 0
  | 1 => [36, 36, 1, 1, 4, 4, 13, 13, 12, 1, 1, 1, 1, 1, 1, 1].getD c 0
  | 2 => [1, 1].getD c 0
  | 3 => [1, 1].getD c 0
  | 4 => [4, 1, 1, 1, 1].getD c 0
  | _ => 0) else (match t with
  | 0 => [0, 0, 0, 0, 0, 0, 0, 1].getD c 0
  | 1 => [0, 0, 0, 0, 0, 0, 0, 0, 0, 0, 0, 0, 0, 0, 0, 0, 1, 1, 1, 1, 1, 1, 1, 1, 1, 1, 1, 1, 1, 1, 1, 1].getD c 0
  | 3 => [0, 0, 1, 1].getD c 0
  | _ => 0)
def zlen (c : Nat) : Nat := match c with
  | 0 => 7
  | 1 => 2
  | _ => 0
abbrev ss_K : Type := Nat × Nat × Nat
def kS (w : Nat) : List ss_K := (List.range 5).flatMap fun t => (List.range 34).flatMap fun c => (List.range (cn w t c)).map fun o => (t, c, o)
theorem kS_mem {w t c o : Nat} : (t, c, o) ∈ kS w ↔ t < 5 ∧ c < 34 ∧ o < cn w t c := by
  constructor
  · intro h
    obtain ⟨t', h1, h⟩ := List.mem_flatMap.mp h
    obtain ⟨c', h2, h⟩ := List.mem_flatMap.mp h
    obtain ⟨o', h3, h⟩ := List.mem_map.mp h
    cases h
    exact ⟨List.mem_range.mp h1, List.mem_range.mp h2, List.mem_range.mp h3⟩
  · intro h
    exact List.mem_flatMap.mpr ⟨t, List.mem_range.mpr h.1, List.mem_flatMap.mpr ⟨c, List.mem_range.mpr h.2.1, List.mem_map.mpr ⟨o, List.mem_range.mpr h.2.2, rfl⟩⟩⟩
theorem kS_in {w t c o : Nat} (h : o < cn w t c) (ht : t < 5 := by decide) (hc : c < 34 := by decide) : (t, c, o) ∈ kS w := kS_mem.mpr ⟨ht, hc, h⟩
set_option maxRecDepth 100000 in
theorem kS_nd0 : (kS 0).Nodup := by decide +kernel
set_option maxRecDepth 100000 in
theorem kS_nd1 : (kS 1).Nodup := by decide +kernel
abbrev ss_A : Type := Nat → Nat → Nat → Nat
abbrev ad (A : ss_A) (k : ss_K) : Nat := A k.1 k.2.1 k.2.2
def cO (A : ss_A) (σ : ss_M) (c o : Nat) : List Value := match c with
  | 0 => [.long (sL σ 0), .long (sL σ 1), .ref (A 3 0 0), .ref (A 3 1 0)]
  | 1 => [.int (sG σ 0 o), .int (sG σ 1 o), .ref (A 1 0 o), .ref (A 1 1 o)]
  | 2 => [.int (sG σ 2 o), .ref (A 1 2 0), .ref (A 1 3 0), .ref (A 2 0 0)]
  | 3 => [.int (sG σ 3 o), .int (sG σ 4 o), .int (sG σ 5 o), .int (sG σ 6 o), .int (sG σ 7 o), .ref (A 1 4 o), .ref (A 0 1 o), .ref (A 1 5 o), .ref (A 4 0 o)]
  | 4 => [.ref (A 4 2 0), .ref (A 4 3 0), .ref (A 4 4 0), .ref (A 1 9 0), .ref (A 1 10 0)]
  | 5 => [.int (sG σ 8 o), .int (sG σ 9 o), .ref (A 1 11 0), .ref (A 1 12 0), .ref (A 1 13 0), .ref (A 1 14 0), .int (sG σ 10 o), .int (sG σ 11 o), .int (sG σ 12 o), .int (sG σ 13 o)]
  | 6 => [.ref (A 0 3 0), .ref (A 0 3 1), .ref (A 4 1 0), .ref (A 2 1 0), .ref (A 0 5 0), .ref (A 0 4 0), .ref (A 0 2 0), .ref (A 0 0 0), .ref (A 1 15 0), .int (sG σ 14 o), .int (sG σ 15 o), .int (sG σ 16 o)]
  | 7 => [.ref (A 1 16 0), .int (sG σ 17 o), .int (sG σ 18 o), .int (sG σ 19 o), .int (sG σ 20 o), .int (sG σ 21 o), .ref (A 1 17 0), .ref (A 1 18 0), .ref (A 1 19 0), .int (sG σ 22 o), .ref (A 1 20 0), .ref (A 1 21 0), .int (sG σ 23 o), .int (sG σ 24 o), .int (sG σ 25 o), .int (sG σ 26 o), .ref (A 1 22 0), .ref (A 1 23 0), .int (sG σ 27 o), .ref (A 1 24 0), .ref (A 1 25 0), .ref (A 1 26 0), .ref (A 1 27 0), .ref (A 1 28 0), .ref (A 1 29 0), .ref (A 1 30 0), .long (sL σ 2), .long (sL σ 3), .ref (A 3 2 0), .ref (A 3 3 0), .ref (A 1 31 0), .long (sL σ 4)]
  | _ => []
def cR (Y : Nat → ClassId) (A : ss_A) (τ : (Nat → Nat → Nat → Int32) × (Nat → Int64) × (Nat → Nat → Int64) × (Nat → Nat → Nat)) (t c o : Nat) : ClassId × vp_A := match t with
  | 1 => (Y 0, alen c, .inl (τ.1 c o))
  | 2 => (Y 2, zlen c, .inl (τ.1 (c + 100) o))
  | 3 => (Y 1, 31, .inr (.inl (τ.2.2.1 c)))
  | _ => match c with
    | 0 => (Y 3, 8, .inr (.inr (.inr (.inr (fun i => some (A 0 1 (τ.2.2.2 o i)))))))
    | 1 => (Y 4, 2, .inr (.inr (.inr (.inr (fun i => some (A 0 3 (2 + i)))))))
    | 2 => (Y 5, 13, .inr (.inr (.inr (.inr (fun i => some (A 1 6 i))))))
    | 3 => (Y 5, 13, .inr (.inr (.inr (.inr (fun i => some (A 1 7 i))))))
    | _ => (Y 5, 12, .inr (.inr (.inr (.inr (fun i => some (A 1 8 i))))))
def cE (Y : Nat → ClassId) (A : ss_A) (σ : ss_M) (k : ss_K) : va_E := if k.1 = 0 then .inr (k.2.1, cO A σ k.2.1 k.2.2) else .inl (cR Y A σ.2 k.1 k.2.1 k.2.2)
theorem cE_o (Y : Nat → ClassId) (A : ss_A) (σ : ss_M) (c o : Nat) : cE Y A σ (0, c, o) = .inr (c, cO A σ c o) := if_pos rfl
theorem cE_r (Y : Nat → ClassId) (A : ss_A) (σ : ss_M) {t : Nat} (ht : t ≠ 0) (c o : Nat) : cE Y A σ (t, c, o) = .inl (cR Y A σ.2 t c o) := if_neg ht
def wsO (w : Nat) (Y : Nat → ClassId) (A : ss_A) (σ : ss_M) : va_W := (kS w).map fun k => (ad A k, cE Y A σ k)
abbrev tyL (Y : Nat → ClassId) : List (ClassId × FieldType) := [(Y 0, .int), (Y 1, .long), (Y 2, .boolean), (Y 3, .object "SoldStops$Marks"), (Y 4, .object "SoldStops$Page"), (Y 5, .array .int)]
def FA (w : Nat) (A : ss_A) : Nat → Prop := fun q => ∃ k ∈ kS w, q = ad A k
/-- the cells of a side have addresses of their own -/
def AD (w : Nat) (A : ss_A) : Prop := (kS w).Nodup ∧ ∀ k ∈ kS w, ∀ k' ∈ kS w, ad A k = ad A k' → k = k'
theorem ws_at {w : Nat} {Y : Nat → ClassId} {A : ss_A} (σ : ss_M) {k : ss_K} (hk : k ∈ kS w) : ∃ q0 : Nat, (kS w)[q0]? = some k ∧ (wsO w Y A σ)[q0]? = some (ad A k, cE Y A σ k) := by
  obtain ⟨q0, h⟩ := List.getElem?_of_mem hk
  exact ⟨q0, h, by simp [wsO, h]⟩
theorem ws_of {w : Nat} {Y : Nat → ClassId} {A : ss_A} {σ : ss_M} {i : Nat} {x : Nat × va_E} (h : (wsO w Y A σ)[i]? = some x) : ∃ k, (kS w)[i]? = some k ∧ k ∈ kS w ∧ x = (ad A k, cE Y A σ k) := by
  unfold wsO at h
  rw [List.getElem?_map] at h
  cases hk : (kS w)[i]? with
  | none => rw [hk] at h; cases h
  | some k => rw [hk] at h; cases h; exact ⟨k, rfl, List.mem_of_getElem? hk, rfl⟩
theorem ws_D {w : Nat} {A : ss_A} (h : AD w A) (Y : Nat → ClassId) (σ : ss_M) : va_D (FA w A) (wsO w Y A σ) := by
  refine ⟨fun i j p q hi hj he => ?_, fun k q hq => ?_⟩
  · obtain ⟨k1, g1, m1, rfl⟩ := ws_of hi
    obtain ⟨k2, g2, m2, rfl⟩ := ws_of hj
    have := h.2 k1 m1 k2 m2 he
    subst this
    exact (List.getElem?_inj (List.getElem?_eq_some_iff.mp g1).1 h.1).mp (g1.trans g2.symm)
  · obtain ⟨k1, g1, m1, rfl⟩ := ws_of hq
    exact ⟨k1, m1, rfl⟩
theorem ws_put {w : Nat} {Y : Nat → ClassId} {A : ss_A} {σ σ' : ss_M} {q0 : Nat} {k : ss_K} {e : va_E} (nd : (kS w).Nodup) (hq : (kS w)[q0]? = some k) (h1 : cE Y A σ' k = e) (h2 : ∀ j ∈ kS w, j ≠ k → cE Y A σ' j = cE Y A σ j) : (wsO w Y A σ).set q0 (ad A k, e) = wsO w Y A σ' := by
  have hl := (List.getElem?_eq_some_iff.mp hq).1
  apply List.ext_getElem?
  intro i
  by_cases hi : i = q0
  · subst hi
    rw [List.getElem?_set_self (by simpa [wsO] using hl)]
    simp [wsO, hq, h1]
  · rw [List.getElem?_set_ne (Ne.symm hi)]
    unfold wsO
    rw [List.getElem?_map, List.getElem?_map]
    cases hk : (kS w)[i]? with
    | none => rfl
    | some j =>
      have hj : j ≠ k := fun z => hi ((List.getElem?_inj (List.getElem?_eq_some_iff.mp hk).1 nd).mp (by rw [hk, hq, z]))
      simp [h2 j (List.mem_of_getElem? hk) hj]
abbrev lenW : List Nat := [4, 4, 4]
abbrev bytW : List (List Int32) := [[112, 97, 103, 101], [119, 111, 114, 100], [109, 97, 114, 107]]
/-- the String constants and statics that the class reads: they lie outside its own cells, and stay -/
def EX (w : Nat) (A : ss_A) (U : State) : Prop := w = 0 → vk_S 3 lenW bytW (A 5 0) (A 5 1) (FA 0 A) U U.heap ∧ vk_R RX6 64 "page" (A 5 0 0) U ∧ vk_R RX6 70 "word" (A 5 0 1) U ∧ vk_R RX6 72 "mark" (A 5 0 2) U ∧ va_Z "java/lang/String" "COMPACT_STRINGS" "Z" (.int 1) (FA 0 A) U U.heap ∧ ∃ v, va_Z "jdk/internal/util/Preconditions" "SIOOBE_FORMATTER" "Ljava/util/function/BiFunction;" (va_rf v) (FA 0 A) U U.heap
theorem EX.next {w : Nat} {A : ss_A} {s U : State} {locs : List Loc} (h : EX w A s) (hw : s.WarmedH U.vm) (hS : va_S (FA w A) s.heap U.heap locs) : EX w A U := by
  intro h0
  subst h0
  obtain ⟨h1, h2, h3, h4, h5, v, h6⟩ := h rfl
  exact ⟨(h1.kept hS.2.1).moved hw.alike, vk_R.warm hw h2, vk_R.warm hw h3, vk_R.warm hw h4, (h5.kept hS.2.1).moved hw.alike, v, (h6.kept hS.2.1).moved hw.alike⟩
/-- a side's world, at a heap -/
def sW (w : Nat) (D : va_G) (Y : Nat → ClassId) (A : ss_A) (σ : ss_M) (s : State) (H0 H : Heap) (locs : List Loc) : Prop := AD w A ∧ va_K D vwCl (tyL Y) s ∧ va_P D vwCl (wsO w Y A σ) H ∧ va_S (FA w A) H0 H locs ∧ EX w A s
/-- a side's world, in a state -/
def WB (w : Nat) (D : va_G) (Y : Nat → ClassId) (A : ss_A) (σ : ss_M) (U : State) : Prop := va_K D vwCl (tyL Y) U ∧ va_P D vwCl (wsO w Y A σ) U.heap ∧ EX w A U
abbrev Pc0 (w : Nat) (D : va_G) (Y : Nat → ClassId) (A : ss_A) (σ : ss_M) (av : List Value) : Array Value → State → Prop := va_Pc av (WB w D Y A σ)
abbrev Qi0 (w : Nat) (D : va_G) (Y : Nat → ClassId) (A : ss_A) (r : Int32) (σ' : ss_M) : Array Value → State → Outcome → State → Prop := va_Qi (fun (x : Int32) (u : ss_M) => x = r ∧ u = σ') (fun u t => WB w D Y A u t) (FA w A)
abbrev Ql0 (w : Nat) (D : va_G) (Y : Nat → ClassId) (A : ss_A) (r : Int64) (σ' : ss_M) : Array Value → State → Outcome → State → Prop := va_Ql (fun (x : Int64) (u : ss_M) => x = r ∧ u = σ') (fun u t => WB w D Y A u t) (FA w A)
abbrev Qv0 (w : Nat) (D : va_G) (Y : Nat → ClassId) (A : ss_A) (σ' : ss_M) : Array Value → State → Outcome → State → Prop := va_Qv (fun (u : ss_M) => u = σ') (fun u t => WB w D Y A u t) (FA w A)
theorem lt_obj (A : ss_A) {σ σ' : ss_M} (h1 : σ'.1 = σ.1) (h2 : σ'.2.2.1 = σ.2.2.1) (c o : Nat) : cO A σ' c o = cO A σ c o := by
  have e1 : ∀ f o, sG σ' f o = sG σ f o := fun f o => congrFun (congrFun h1 f) o
  have e2 : ∀ f, sL σ' f = sL σ f := fun f => congrFun h2 f
  unfold cO
  simp only [e1, e2]
/-- an int row of a side is put anew -/
theorem cg_A {w : Nat} {Y : Nat → ClassId} {A : ss_A} {σ : ss_M} {c o : Nat} (hk : (1, c, o) ∈ kS w) (v : Nat → Int32) : ∀ j ∈ kS w, j ≠ (1, c, o) → cE Y A (sAu σ c o v) j = cE Y A σ j := by
  intro j hj hne
  obtain ⟨t, c', o'⟩ := j
  have hc := (kS_mem.mp hk).2.1
  match t with
  | 0 => rw [cE_o, cE_o, lt_obj A (σ := σ) (σ' := sAu σ c o v) rfl rfl]
  | 1 =>
    rw [cE_r _ _ _ (by decide), cE_r _ _ _ (by decide)]
    have : ¬ (c' = c ∧ o' = o) := fun q => hne (by rw [q.1, q.2])
    simp [cR, sAu, this]
  | 2 =>
    rw [cE_r _ _ _ (by decide), cE_r _ _ _ (by decide)]
    have : ¬ (c' + 100 = c ∧ o' = o) := fun q => by omega
    simp [cR, sAu, this]
  | 3 => rfl
  | (n + 4) => rfl
theorem cg_Z {w : Nat} {Y : Nat → ClassId} {A : ss_A} {σ : ss_M} {c o : Nat} (v : Nat → Int32) : ∀ j ∈ kS w, j ≠ (2, c, o) → cE Y A (sAu σ (c + 100) o v) j = cE Y A σ j := by
  intro j hj hne
  obtain ⟨t, c', o'⟩ := j
  have hc' := (kS_mem.mp hj).2.1
  match t with
  | 0 => rw [cE_o, cE_o, lt_obj A (σ := σ) (σ' := sAu σ (c + 100) o v) rfl rfl]
  | 2 =>
    rw [cE_r _ _ _ (by decide), cE_r _ _ _ (by decide)]
    have : ¬ (c' = c ∧ o' = o) := fun q => hne (by rw [q.1, q.2])
    simp [cR, sAu, this]
  | 1 =>
    rw [cE_r _ _ _ (by decide), cE_r _ _ _ (by decide)]
    have : ¬ (c' = c + 100 ∧ o' = o) := fun q => by omega
    simp [cR, sAu, this]
  | 3 => rfl
  | (n + 4) => rfl
theorem cn3 {w c o : Nat} (h : o < cn w 3 c) : o = 0 := by
  have h1 : cn w 3 c ≤ 1 := by
    by_cases hw : w = 0
    · subst hw
      match c with
      | 0 => decide
      | 1 => decide
      | (n + 2) => exact Nat.zero_le _
    · unfold cn
      rw [if_neg hw]
      match c with
      | 0 => decide
      | 1 => decide
      | 2 => decide
      | 3 => decide
      | (n + 4) => exact Nat.zero_le _
  omega
theorem cg_L {w : Nat} {Y : Nat → ClassId} {A : ss_A} {σ : ss_M} {c : Nat} (v : Nat → Int64) : ∀ j ∈ kS w, j ≠ (3, c, 0) → cE Y A (sBu σ c v) j = cE Y A σ j := by
  intro j hj hne
  obtain ⟨t, c', o'⟩ := j
  have hc' := (kS_mem.mp hj).2.2
  match t with
  | 0 => rw [cE_o, cE_o, lt_obj A (σ := σ) (σ' := sBu σ c v) rfl rfl]
  | 1 => rfl
  | 2 => rfl
  | 3 =>
    have h0 := cn3 hc'
    rw [cE_r _ _ _ (by decide), cE_r _ _ _ (by decide)]
    have : ¬ c' = c := fun q => hne (by rw [q, h0])
    simp [cR, sBu, this]
  | (n + 4) => rfl
theorem cg_R {w : Nat} {Y : Nat → ClassId} {A : ss_A} {σ : ss_M} {p : Nat} (v : Nat → Nat) : ∀ j ∈ kS w, j ≠ (4, 0, p) → cE Y A (sRu σ p v) j = cE Y A σ j := by
  intro j hj hne
  obtain ⟨t, c', o'⟩ := j
  match t with
  | 0 => rw [cE_o, cE_o, lt_obj A (σ := σ) (σ' := sRu σ p v) rfl rfl]
  | 1 => rfl
  | 2 => rfl
  | 3 => rfl
  | (n + 4) =>
    rw [cE_r _ _ _ (by omega), cE_r _ _ _ (by omega)]
    by_cases h0 : c' = 0
    · subst h0
      by_cases hp : o' = p
      · subst hp
        have ht := (kS_mem.mp hj).1
        have : n = 0 := by omega
        subst this
        exact absurd rfl hne
      · simp [cR, sRu, hp]
    · match c', h0 with
      | 0, h0 => exact absurd rfl h0
      | 1, _ => cases n <;> rfl
      | 2, _ => cases n <;> rfl
      | 3, _ => cases n <;> rfl
      | (k + 4), _ => cases n <;> rfl
end
section
/-! rows of the machine over the memory -/
section SSR
variable {p : Program} {l : Launch} {e : Env} {R : Room} {s : State} {m : MethodId} {args : Array Value} {below : List Frame} {meth : Method} {c : Code} {H : Heap} {locs : List Loc} {cells slots : Nat} {Q : State → Prop}
variable {cc : ByteArray} {pc : Nat} {ls : Array Slot} {rest : List Value} {w : Nat} {D : va_G} {Y : Nat → ClassId} {A : ss_A} {σ : ss_M} {H0 : Heap} {own : String} {Ts : List Cond}
theorem rg (hx : p.tables.exec = Jvm.exec) (hb : c.code = cc) (hts : ∀ q ∈ Ts, q.before args s = true) (hown : s.vm.findClass own = some m.cls) (hW : sW w D Y A σ s H0 H locs) {ci o : Nat} (hk : (0, ci, o) ∈ kS w) {C : String} {T : u_T} {N : Nat} (hin : ∀ q ∈ u_ws C T N, q ∈ Ts) (hc : vwCl[ci]? = some (C, T, N)) (j : Nat) (hj : j < N) {index : Nat} (hlink : Cond.fieldLink own index (T j).1 (T j).2.1 (T j).2.2.1 ∈ Ts) {v : Value} (hv : (cO A σ ci o)[j]? = some v) (hdg : decode cc pc = .ok (.getfield index, 3))
    (kk : W p l e R s m args below meth c H locs cells slots Q (F0 m (pc + 3) ls (v :: rest))) : W p l e R s m args below meth c H locs cells slots Q (F0 m pc ls (.ref (A 0 ci o) :: rest)) := by
  obtain ⟨q0, -, hq⟩ := ws_at (Y := Y) (A := A) σ hk
  rw [cE_o] at hq
  exact va_get hx hb hts hin hown hW.2.1 hW.2.2.1 q0 hq hc j hj (hts _ hlink) (fun _ h => h) hv hdg kk
theorem rp (hx : p.tables.exec = Jvm.exec) (hb : c.code = cc) (hts : ∀ q ∈ Ts, q.before args s = true) (hown : s.vm.findClass own = some m.cls) (hW : sW w D Y A σ s H0 H locs) {ci o : Nat} (hk : (0, ci, o) ∈ kS w) {C : String} {T : u_T} {N : Nat} (hin : ∀ q ∈ u_ws C T N, q ∈ Ts) (ty0 : Nat → FieldType) (hty : ∀ k, k < N → parseFieldDescriptor (T k).2.2.1 = some (ty0 k)) (hnm : ∀ a, a < N → ∀ b, b < N → a ≠ b → (T a).2.1 ≠ (T b).2.1) (hc : vwCl[ci]? = some (C, T, N)) (j : Nat) (hj : j < N) {index : Nat} (hlink : Cond.fieldLink own index (T j).1 (T j).2.1 (T j).2.2.1 ∈ Ts) (hfin : (T j).2.2.2 = false) {ty : FieldType} {v : Value} (hd : parseFieldDescriptor (T j).2.2.1 = some ty) (hn : narrow ty v = v) (hfit : fits ty v = true) {σ' : ss_M} (hl : j < (cO A σ ci o).length) (h1 : cO A σ' ci o = (cO A σ ci o).set j v) (h2 : ∀ i ∈ kS w, i ≠ (0, ci, o) → cE Y A σ' i = cE Y A σ i) (hdg : decode cc pc = .ok (.putfield index, 3))
    (kk : ∀ (H1 : Heap) (locs1 : List Loc), sW w D Y A σ' s H0 H1 locs1 → W p l e R s m args below meth c H1 locs1 cells slots Q (F0 m (pc + 3) ls rest)) : W p l e R s m args below meth c H locs cells slots Q (F0 m pc ls (v :: .ref (A 0 ci o) :: rest)) := by
  obtain ⟨q0, hqk, hq⟩ := ws_at (Y := Y) (A := A) σ hk
  rw [cE_o] at hq
  refine va_put hx hb hts hin ty0 hty hnm hown hW.2.1 hW.2.2.1 (ws_D hW.1 Y σ) hW.2.2.2.1 q0 hq hc j hj (hts _ hlink) (fun _ h => h) hfin hd hn hfit hl hdg (fun H1 locs1 hP hD hS => kk H1 locs1 ⟨hW.1, hW.2.1, ?_, hS, hW.2.2.2.2⟩)
  rw [← ws_put (σ' := σ') (e := .inr (ci, (cO A σ ci o).set j v)) hW.1.1 hqk (by rw [cE_o, h1]) h2]
  exact hP
theorem cg_O {f ci o : Nat} {v : Int32} (hf : ∀ c' o', ¬ (c' = ci ∧ o' = o) → cO A (sGu σ f o v) c' o' = cO A σ c' o') : ∀ j ∈ kS w, j ≠ (0, ci, o) → cE Y A (sGu σ f o v) j = cE Y A σ j := by
  intro j _ hne
  obtain ⟨t, c', o'⟩ := j
  by_cases ht : t = 0
  · subst ht
    rw [cE_o, cE_o, hf c' o' (fun q => hne (by rw [q.1, q.2]))]
  · rw [cE_r _ _ _ ht, cE_r _ _ _ ht]
    rfl
theorem cg_J {f ci : Nat} {v : Int64} (hf : ∀ c' o', ¬ c' = ci → cO A (sLu σ f v) c' o' = cO A σ c' o') (h0 : ∀ o, (0, ci, o) ∈ kS w → o = 0) : ∀ j ∈ kS w, j ≠ (0, ci, 0) → cE Y A (sLu σ f v) j = cE Y A σ j := by
  intro j hj hne
  obtain ⟨t, c', o'⟩ := j
  by_cases ht : t = 0
  · subst ht
    rw [cE_o, cE_o, hf c' o' (fun q => by subst q; exact hne (by rw [h0 _ hj]))]
  · rw [cE_r _ _ _ ht, cE_r _ _ _ ht]
    rfl
theorem o1 {w ci o : Nat} (h : (0, ci, o) ∈ kS w) (hc : ci = 0 ∨ ci = 7) : o = 0 := by
  have h3 := (kS_mem.mp h).2.2
  have h1 : cn w 0 ci ≤ 1 := by
    by_cases hw : w = 0
    · subst hw
      rcases hc with rfl | rfl <;> decide
    · unfold cn
      rw [if_neg hw]
      rcases hc with rfl | rfl <;> decide
  omega
theorem gf_X0_above (hx : p.tables.exec = Jvm.exec) (hb : c.code = cc) (hts : ∀ q ∈ Ts, q.before args s = true) (hown : s.vm.findClass own = some m.cls) (hW : sW w D Y A σ s H0 H locs) (hk : (0, 0, 0) ∈ kS w) (hin : ∀ q ∈ wsX00, q ∈ Ts) {index : Nat} (hlink : Cond.fieldLink own index "SoldStops$Chance" "above" "J" ∈ Ts) (hdg : decode cc pc = .ok (.getfield index, 3)) (kk : W p l e R s m args below meth c H locs cells slots Q (F0 m (pc + 3) ls (.long (sL σ 0) :: rest))) : W p l e R s m args below meth c H locs cells slots Q (F0 m pc ls (.ref (A 0 0 0) :: rest)) := rg hx hb hts hown hW hk hin rfl 0 (by decide) hlink rfl hdg kk
theorem pf_X0_above (hx : p.tables.exec = Jvm.exec) (hb : c.code = cc) (hts : ∀ q ∈ Ts, q.before args s = true) (hown : s.vm.findClass own = some m.cls) (hW : sW w D Y A σ s H0 H locs) (hk : (0, 0, 0) ∈ kS w) (hin : ∀ q ∈ wsX00, q ∈ Ts) {index : Nat} (hlink : Cond.fieldLink own index "SoldStops$Chance" "above" "J" ∈ Ts) {v : Int64} (hdg : decode cc pc = .ok (.putfield index, 3)) (kk : ∀ (H1 : Heap) (locs1 : List Loc), sW w D Y A (sLu σ 0 v) s H0 H1 locs1 → W p l e R s m args below meth c H1 locs1 cells slots Q (F0 m (pc + 3) ls rest)) : W p l e R s m args below meth c H locs cells slots Q (F0 m pc ls (.long v :: .ref (A 0 0 0) :: rest)) :=
  rp (ty := .long) hx hb hts hown hW hk hin tyX0 tyX0_ok nmX0 rfl 0 (by decide) hlink rfl (by decide +kernel) rfl rfl (by simp [cO]) (by simp [cO, sL, sLu, sG]) (cg_J (fun c' o' => match c' with
  | 0 => fun h => absurd rfl h
  | 1 => fun h => rfl
  | 2 => fun h => rfl
  | 3 => fun h => rfl
  | 4 => fun h => rfl
  | 5 => fun h => rfl
  | 6 => fun h => rfl
  | 7 => fun h => rfl
  | (_ + 8) => fun _ => rfl) (fun o h => o1 h (by decide))) hdg kk
theorem gf_X0_below (hx : p.tables.exec = Jvm.exec) (hb : c.code = cc) (hts : ∀ q ∈ Ts, q.before args s = true) (hown : s.vm.findClass own = some m.cls) (hW : sW w D Y A σ s H0 H locs) (hk : (0, 0, 0) ∈ kS w) (hin : ∀ q ∈ wsX00, q ∈ Ts) {index : Nat} (hlink : Cond.fieldLink own index "SoldStops$Chance" "below" "J" ∈ Ts) (hdg : decode cc pc = .ok (.getfield index, 3)) (kk : W p l e R s m args below meth c H locs cells slots Q (F0 m (pc + 3) ls (.long (sL σ 1) :: rest))) : W p l e R s m args below meth c H locs cells slots Q (F0 m pc ls (.ref (A 0 0 0) :: rest)) := rg hx hb hts hown hW hk hin rfl 1 (by decide) hlink rfl hdg kk
theorem pf_X0_below (hx : p.tables.exec = Jvm.exec) (hb : c.code = cc) (hts : ∀ q ∈ Ts, q.before args s = true) (hown : s.vm.findClass own = some m.cls) (hW : sW w D Y A σ s H0 H locs) (hk : (0, 0, 0) ∈ kS w) (hin : ∀ q ∈ wsX00, q ∈ Ts) {index : Nat} (hlink : Cond.fieldLink own index "SoldStops$Chance" "below" "J" ∈ Ts) {v : Int64} (hdg : decode cc pc = .ok (.putfield index, 3)) (kk : ∀ (H1 : Heap) (locs1 : List Loc), sW w D Y A (sLu σ 1 v) s H0 H1 locs1 → W p l e R s m args below meth c H1 locs1 cells slots Q (F0 m (pc + 3) ls rest)) : W p l e R s m args below meth c H locs cells slots Q (F0 m pc ls (.long v :: .ref (A 0 0 0) :: rest)) :=
  rp (ty := .long) hx hb hts hown hW hk hin tyX0 tyX0_ok nmX0 rfl 1 (by decide) hlink rfl (by decide +kernel) rfl rfl (by simp [cO]) (by simp [cO, sL, sLu, sG]) (cg_J (fun c' o' => match c' with
  | 0 => fun h => absurd rfl h
  | 1 => fun h => rfl
  | 2 => fun h => rfl
  | 3 => fun h => rfl
  | 4 => fun h => rfl
  | 5 => fun h => rfl
  | 6 => fun h => rfl
  | 7 => fun h => rfl
  | (_ + 8) => fun _ => rfl) (fun o h => o1 h (by decide))) hdg kk
theorem gf_X0_now (hx : p.tables.exec = Jvm.exec) (hb : c.code = cc) (hts : ∀ q ∈ Ts, q.before args s = true) (hown : s.vm.findClass own = some m.cls) (hW : sW w D Y A σ s H0 H locs) (hk : (0, 0, 0) ∈ kS w) (hin : ∀ q ∈ wsX00, q ∈ Ts) {index : Nat} (hlink : Cond.fieldLink own index "SoldStops$Chance" "now" "[J" ∈ Ts) (hdg : decode cc pc = .ok (.getfield index, 3)) (kk : W p l e R s m args below meth c H locs cells slots Q (F0 m (pc + 3) ls (.ref (A 3 0 0) :: rest))) : W p l e R s m args below meth c H locs cells slots Q (F0 m pc ls (.ref (A 0 0 0) :: rest)) := rg hx hb hts hown hW hk hin rfl 2 (by decide) hlink rfl hdg kk
theorem gf_X0_then (hx : p.tables.exec = Jvm.exec) (hb : c.code = cc) (hts : ∀ q ∈ Ts, q.before args s = true) (hown : s.vm.findClass own = some m.cls) (hW : sW w D Y A σ s H0 H locs) (hk : (0, 0, 0) ∈ kS w) (hin : ∀ q ∈ wsX00, q ∈ Ts) {index : Nat} (hlink : Cond.fieldLink own index "SoldStops$Chance" "then" "[J" ∈ Ts) (hdg : decode cc pc = .ok (.getfield index, 3)) (kk : W p l e R s m args below meth c H locs cells slots Q (F0 m (pc + 3) ls (.ref (A 3 1 0) :: rest))) : W p l e R s m args below meth c H locs cells slots Q (F0 m pc ls (.ref (A 0 0 0) :: rest)) := rg hx hb hts hown hW hk hin rfl 3 (by decide) hlink rfl hdg kk
theorem gf_X2_purse (hx : p.tables.exec = Jvm.exec) (hb : c.code = cc) (hts : ∀ q ∈ Ts, q.before args s = true) (hown : s.vm.findClass own = some m.cls) (hW : sW w D Y A σ s H0 H locs) {o : Nat} (hk : (0, 1, o) ∈ kS w) (hin : ∀ q ∈ wsX20, q ∈ Ts) {index : Nat} (hlink : Cond.fieldLink own index "SoldStops$Marks" "purse" "I" ∈ Ts) (hdg : decode cc pc = .ok (.getfield index, 3)) (kk : W p l e R s m args below meth c H locs cells slots Q (F0 m (pc + 3) ls (.int (sG σ 0 o) :: rest))) : W p l e R s m args below meth c H locs cells slots Q (F0 m pc ls (.ref (A 0 1 o) :: rest)) := rg hx hb hts hown hW hk hin rfl 0 (by decide) hlink rfl hdg kk
theorem cgf_X2_purse {v : Int32} {o : Nat} (_h : o = o) : ∀ j ∈ kS w, j ≠ (0, 1, o) → cE Y A (sGu σ 0 o v) j = cE Y A σ j := cg_O (fun c' o' => match c' with
  | 0 => fun _ => rfl
  | 1 => fun h => by have h2 : ¬ o' = o := fun q => h ⟨rfl, q⟩; simp [cO, sG, sGu, sL, h2]
  | 2 => fun _ => rfl
  | 3 => fun _ => rfl
  | 4 => fun _ => rfl
  | 5 => fun _ => rfl
  | 6 => fun _ => rfl
  | 7 => fun _ => rfl
  | (_ + 8) => fun _ => rfl)
theorem pf_X2_purse (hx : p.tables.exec = Jvm.exec) (hb : c.code = cc) (hts : ∀ q ∈ Ts, q.before args s = true) (hown : s.vm.findClass own = some m.cls) (hW : sW w D Y A σ s H0 H locs) {o : Nat} (hk : (0, 1, o) ∈ kS w) (hin : ∀ q ∈ wsX20, q ∈ Ts) {index : Nat} (hlink : Cond.fieldLink own index "SoldStops$Marks" "purse" "I" ∈ Ts) {v : Int32} (hdg : decode cc pc = .ok (.putfield index, 3)) (kk : ∀ (H1 : Heap) (locs1 : List Loc), sW w D Y A (sGu σ 0 o v) s H0 H1 locs1 → W p l e R s m args below meth c H1 locs1 cells slots Q (F0 m (pc + 3) ls rest)) : W p l e R s m args below meth c H locs cells slots Q (F0 m pc ls (.int v :: .ref (A 0 1 o) :: rest)) :=
  rp (ty := .int) hx hb hts hown hW hk hin tyX2 tyX2_ok nmX2 rfl 0 (by decide) hlink rfl (by decide +kernel) rfl rfl (by simp [cO]) (by simp [cO, sG, sGu, sL]) (cgf_X2_purse rfl) hdg kk
theorem gf_X2_week (hx : p.tables.exec = Jvm.exec) (hb : c.code = cc) (hts : ∀ q ∈ Ts, q.before args s = true) (hown : s.vm.findClass own = some m.cls) (hW : sW w D Y A σ s H0 H locs) {o : Nat} (hk : (0, 1, o) ∈ kS w) (hin : ∀ q ∈ wsX20, q ∈ Ts) {index : Nat} (hlink : Cond.fieldLink own index "SoldStops$Marks" "week" "I" ∈ Ts) (hdg : decode cc pc = .ok (.getfield index, 3)) (kk : W p l e R s m args below meth c H locs cells slots Q (F0 m (pc + 3) ls (.int (sG σ 1 o) :: rest))) : W p l e R s m args below meth c H locs cells slots Q (F0 m pc ls (.ref (A 0 1 o) :: rest)) := rg hx hb hts hown hW hk hin rfl 1 (by decide) hlink rfl hdg kk
theorem cgf_X2_week {v : Int32} {o : Nat} (_h : o = o) : ∀ j ∈ kS w, j ≠ (0, 1, o) → cE Y A (sGu σ 1 o v) j = cE Y A σ j := cg_O (fun c' o' => match c' with
  | 0 => fun _ => rfl
  | 1 => fun h => by have h2 : ¬ o' = o := fun q => h ⟨rfl, q⟩; simp [cO, sG, sGu, sL, h2]
  | 2 => fun _ => rfl
  | 3 => fun _ => rfl
  | 4 => fun _ => rfl
  | 5 => fun _ => rfl
  | 6 => fun _ => rfl
  | 7 => fun _ => rfl
  | (_ + 8) => fun _ => rfl)
theorem pf_X2_week (hx : p.tables.exec = Jvm.exec) (hb : c.code = cc) (hts : ∀ q ∈ Ts, q.before args s = true) (hown : s.vm.findClass own = some m.cls) (hW : sW w D Y A σ s H0 H locs) {o : Nat} (hk : (0, 1, o) ∈ kS w) (hin : ∀ q ∈ wsX20, q ∈ Ts) {index : Nat} (hlink : Cond.fieldLink own index "SoldStops$Marks" "week" "I" ∈ Ts) {v : Int32} (hdg : decode cc pc = .ok (.putfield index, 3)) (kk : ∀ (H1 : Heap) (locs1 : List Loc), sW w D Y A (sGu σ 1 o v) s H0 H1 locs1 → W p l e R s m args below meth c H1 locs1 cells slots Q (F0 m (pc + 3) ls rest)) : W p l e R s m args below meth c H locs cells slots Q (F0 m pc ls (.int v :: .ref (A 0 1 o) :: rest)) :=
  rp (ty := .int) hx hb hts hown hW hk hin tyX2 tyX2_ok nmX2 rfl 1 (by decide) hlink rfl (by decide +kernel) rfl rfl (by simp [cO]) (by simp [cO, sG, sGu, sL]) (cgf_X2_week rfl) hdg kk
theorem gf_X2_kinds (hx : p.tables.exec = Jvm.exec) (hb : c.code = cc) (hts : ∀ q ∈ Ts, q.before args s = true) (hown : s.vm.findClass own = some m.cls) (hW : sW w D Y A σ s H0 H locs) {o : Nat} (hk : (0, 1, o) ∈ kS w) (hin : ∀ q ∈ wsX20, q ∈ Ts) {index : Nat} (hlink : Cond.fieldLink own index "SoldStops$Marks" "kinds" "[I" ∈ Ts) (hdg : decode cc pc = .ok (.getfield index, 3)) (kk : W p l e R s m args below meth c H locs cells slots Q (F0 m (pc + 3) ls (.ref (A 1 0 o) :: rest))) : W p l e R s m args below meth c H locs cells slots Q (F0 m pc ls (.ref (A 0 1 o) :: rest)) := rg hx hb hts hown hW hk hin rfl 2 (by decide) hlink rfl hdg kk
theorem gf_X2_reads (hx : p.tables.exec = Jvm.exec) (hb : c.code = cc) (hts : ∀ q ∈ Ts, q.before args s = true) (hown : s.vm.findClass own = some m.cls) (hW : sW w D Y A σ s H0 H locs) {o : Nat} (hk : (0, 1, o) ∈ kS w) (hin : ∀ q ∈ wsX20, q ∈ Ts) {index : Nat} (hlink : Cond.fieldLink own index "SoldStops$Marks" "reads" "[I" ∈ Ts) (hdg : decode cc pc = .ok (.getfield index, 3)) (kk : W p l e R s m args below meth c H locs cells slots Q (F0 m (pc + 3) ls (.ref (A 1 1 o) :: rest))) : W p l e R s m args below meth c H locs cells slots Q (F0 m pc ls (.ref (A 0 1 o) :: rest)) := rg hx hb hts hown hW hk hin rfl 3 (by decide) hlink rfl hdg kk
theorem gf_X3_most (hx : p.tables.exec = Jvm.exec) (hb : c.code = cc) (hts : ∀ q ∈ Ts, q.before args s = true) (hown : s.vm.findClass own = some m.cls) (hW : sW w D Y A σ s H0 H locs) (hk : (0, 2, 0) ∈ kS w) (hin : ∀ q ∈ wsX30, q ∈ Ts) {index : Nat} (hlink : Cond.fieldLink own index "SoldStops$Order" "most" "I" ∈ Ts) (hdg : decode cc pc = .ok (.getfield index, 3)) (kk : W p l e R s m args below meth c H locs cells slots Q (F0 m (pc + 3) ls (.int (sG σ 2 0) :: rest))) : W p l e R s m args below meth c H locs cells slots Q (F0 m pc ls (.ref (A 0 2 0) :: rest)) := rg hx hb hts hown hW hk hin rfl 0 (by decide) hlink rfl hdg kk
theorem cgf_X3_most {v : Int32} {o : Nat} (h0 : o = 0) : ∀ j ∈ kS w, j ≠ (0, 2, o) → cE Y A (sGu σ 2 o v) j = cE Y A σ j := cg_O (fun c' o' => match c' with
  | 0 => fun _ => rfl
  | 1 => fun _ => rfl
  | 2 => fun h => by have h2 : ¬ o' = o := fun q => h ⟨rfl, q⟩; simp [cO, sG, sGu, sL, h2]
  | 3 => fun _ => rfl
  | 4 => fun _ => rfl
  | 5 => fun _ => rfl
  | 6 => fun _ => rfl
  | 7 => fun _ => rfl
  | (_ + 8) => fun _ => rfl)
theorem pf_X3_most (hx : p.tables.exec = Jvm.exec) (hb : c.code = cc) (hts : ∀ q ∈ Ts, q.before args s = true) (hown : s.vm.findClass own = some m.cls) (hW : sW w D Y A σ s H0 H locs) (hk : (0, 2, 0) ∈ kS w) (hin : ∀ q ∈ wsX30, q ∈ Ts) {index : Nat} (hlink : Cond.fieldLink own index "SoldStops$Order" "most" "I" ∈ Ts) {v : Int32} (hdg : decode cc pc = .ok (.putfield index, 3)) (kk : ∀ (H1 : Heap) (locs1 : List Loc), sW w D Y A (sGu σ 2 0 v) s H0 H1 locs1 → W p l e R s m args below meth c H1 locs1 cells slots Q (F0 m (pc + 3) ls rest)) : W p l e R s m args below meth c H locs cells slots Q (F0 m pc ls (.int v :: .ref (A 0 2 0) :: rest)) :=
  rp (ty := .int) hx hb hts hown hW hk hin tyX3 tyX3_ok nmX3 rfl 0 (by decide) hlink rfl (by decide +kernel) rfl rfl (by simp [cO]) (by simp [cO, sG, sGu, sL]) (cgf_X3_most rfl) hdg kk
theorem gf_X3_best (hx : p.tables.exec = Jvm.exec) (hb : c.code = cc) (hts : ∀ q ∈ Ts, q.before args s = true) (hown : s.vm.findClass own = some m.cls) (hW : sW w D Y A σ s H0 H locs) (hk : (0, 2, 0) ∈ kS w) (hin : ∀ q ∈ wsX30, q ∈ Ts) {index : Nat} (hlink : Cond.fieldLink own index "SoldStops$Order" "best" "[I" ∈ Ts) (hdg : decode cc pc = .ok (.getfield index, 3)) (kk : W p l e R s m args below meth c H locs cells slots Q (F0 m (pc + 3) ls (.ref (A 1 2 0) :: rest))) : W p l e R s m args below meth c H locs cells slots Q (F0 m pc ls (.ref (A 0 2 0) :: rest)) := rg hx hb hts hown hW hk hin rfl 1 (by decide) hlink rfl hdg kk
theorem gf_X3_row (hx : p.tables.exec = Jvm.exec) (hb : c.code = cc) (hts : ∀ q ∈ Ts, q.before args s = true) (hown : s.vm.findClass own = some m.cls) (hW : sW w D Y A σ s H0 H locs) (hk : (0, 2, 0) ∈ kS w) (hin : ∀ q ∈ wsX30, q ∈ Ts) {index : Nat} (hlink : Cond.fieldLink own index "SoldStops$Order" "row" "[I" ∈ Ts) (hdg : decode cc pc = .ok (.getfield index, 3)) (kk : W p l e R s m args below meth c H locs cells slots Q (F0 m (pc + 3) ls (.ref (A 1 3 0) :: rest))) : W p l e R s m args below meth c H locs cells slots Q (F0 m pc ls (.ref (A 0 2 0) :: rest)) := rg hx hb hts hown hW hk hin rfl 2 (by decide) hlink rfl hdg kk
theorem gf_X3_used (hx : p.tables.exec = Jvm.exec) (hb : c.code = cc) (hts : ∀ q ∈ Ts, q.before args s = true) (hown : s.vm.findClass own = some m.cls) (hW : sW w D Y A σ s H0 H locs) (hk : (0, 2, 0) ∈ kS w) (hin : ∀ q ∈ wsX30, q ∈ Ts) {index : Nat} (hlink : Cond.fieldLink own index "SoldStops$Order" "used" "[Z" ∈ Ts) (hdg : decode cc pc = .ok (.getfield index, 3)) (kk : W p l e R s m args below meth c H locs cells slots Q (F0 m (pc + 3) ls (.ref (A 2 0 0) :: rest))) : W p l e R s m args below meth c H locs cells slots Q (F0 m pc ls (.ref (A 0 2 0) :: rest)) := rg hx hb hts hown hW hk hin rfl 3 (by decide) hlink rfl hdg kk
theorem gf_X4_breath (hx : p.tables.exec = Jvm.exec) (hb : c.code = cc) (hts : ∀ q ∈ Ts, q.before args s = true) (hown : s.vm.findClass own = some m.cls) (hW : sW w D Y A σ s H0 H locs) {o : Nat} (hk : (0, 3, o) ∈ kS w) (hin : ∀ q ∈ wsX40, q ∈ Ts) {index : Nat} (hlink : Cond.fieldLink own index "SoldStops$Page" "breath" "I" ∈ Ts) (hdg : decode cc pc = .ok (.getfield index, 3)) (kk : W p l e R s m args below meth c H locs cells slots Q (F0 m (pc + 3) ls (.int (sG σ 3 o) :: rest))) : W p l e R s m args below meth c H locs cells slots Q (F0 m pc ls (.ref (A 0 3 o) :: rest)) := rg hx hb hts hown hW hk hin rfl 0 (by decide) hlink rfl hdg kk
theorem cgf_X4_breath {v : Int32} {o : Nat} (_h : o = o) : ∀ j ∈ kS w, j ≠ (0, 3, o) → cE Y A (sGu σ 3 o v) j = cE Y A σ j := cg_O (fun c' o' => match c' with
  | 0 => fun _ => rfl
  | 1 => fun _ => rfl
  | 2 => fun _ => rfl
  | 3 => fun h => by have h2 : ¬ o' = o := fun q => h ⟨rfl, q⟩; simp [cO, sG, sGu, sL, h2]
  | 4 => fun _ => rfl
  | 5 => fun _ => rfl
  | 6 => fun _ => rfl
  | 7 => fun _ => rfl
  | (_ + 8) => fun _ => rfl)
theorem pf_X4_breath (hx : p.tables.exec = Jvm.exec) (hb : c.code = cc) (hts : ∀ q ∈ Ts, q.before args s = true) (hown : s.vm.findClass own = some m.cls) (hW : sW w D Y A σ s H0 H locs) {o : Nat} (hk : (0, 3, o) ∈ kS w) (hin : ∀ q ∈ wsX40, q ∈ Ts) {index : Nat} (hlink : Cond.fieldLink own index "SoldStops$Page" "breath" "I" ∈ Ts) {v : Int32} (hdg : decode cc pc = .ok (.putfield index, 3)) (kk : ∀ (H1 : Heap) (locs1 : List Loc), sW w D Y A (sGu σ 3 o v) s H0 H1 locs1 → W p l e R s m args below meth c H1 locs1 cells slots Q (F0 m (pc + 3) ls rest)) : W p l e R s m args below meth c H locs cells slots Q (F0 m pc ls (.int v :: .ref (A 0 3 o) :: rest)) :=
  rp (ty := .int) hx hb hts hown hW hk hin tyX4 tyX4_ok nmX4 rfl 0 (by decide) hlink rfl (by decide +kernel) rfl rfl (by simp [cO]) (by simp [cO, sG, sGu, sL]) (cgf_X4_breath rfl) hdg kk
theorem gf_X4_price (hx : p.tables.exec = Jvm.exec) (hb : c.code = cc) (hts : ∀ q ∈ Ts, q.before args s = true) (hown : s.vm.findClass own = some m.cls) (hW : sW w D Y A σ s H0 H locs) {o : Nat} (hk : (0, 3, o) ∈ kS w) (hin : ∀ q ∈ wsX40, q ∈ Ts) {index : Nat} (hlink : Cond.fieldLink own index "SoldStops$Page" "price" "I" ∈ Ts) (hdg : decode cc pc = .ok (.getfield index, 3)) (kk : W p l e R s m args below meth c H locs cells slots Q (F0 m (pc + 3) ls (.int (sG σ 4 o) :: rest))) : W p l e R s m args below meth c H locs cells slots Q (F0 m pc ls (.ref (A 0 3 o) :: rest)) := rg hx hb hts hown hW hk hin rfl 1 (by decide) hlink rfl hdg kk
theorem cgf_X4_price {v : Int32} {o : Nat} (_h : o = o) : ∀ j ∈ kS w, j ≠ (0, 3, o) → cE Y A (sGu σ 4 o v) j = cE Y A σ j := cg_O (fun c' o' => match c' with
  | 0 => fun _ => rfl
  | 1 => fun _ => rfl
  | 2 => fun _ => rfl
  | 3 => fun h => by have h2 : ¬ o' = o := fun q => h ⟨rfl, q⟩; simp [cO, sG, sGu, sL, h2]
  | 4 => fun _ => rfl
  | 5 => fun _ => rfl
  | 6 => fun _ => rfl
  | 7 => fun _ => rfl
  | (_ + 8) => fun _ => rfl)
theorem pf_X4_price (hx : p.tables.exec = Jvm.exec) (hb : c.code = cc) (hts : ∀ q ∈ Ts, q.before args s = true) (hown : s.vm.findClass own = some m.cls) (hW : sW w D Y A σ s H0 H locs) {o : Nat} (hk : (0, 3, o) ∈ kS w) (hin : ∀ q ∈ wsX40, q ∈ Ts) {index : Nat} (hlink : Cond.fieldLink own index "SoldStops$Page" "price" "I" ∈ Ts) {v : Int32} (hdg : decode cc pc = .ok (.putfield index, 3)) (kk : ∀ (H1 : Heap) (locs1 : List Loc), sW w D Y A (sGu σ 4 o v) s H0 H1 locs1 → W p l e R s m args below meth c H1 locs1 cells slots Q (F0 m (pc + 3) ls rest)) : W p l e R s m args below meth c H locs cells slots Q (F0 m pc ls (.int v :: .ref (A 0 3 o) :: rest)) :=
  rp (ty := .int) hx hb hts hown hW hk hin tyX4 tyX4_ok nmX4 rfl 1 (by decide) hlink rfl (by decide +kernel) rfl rfl (by simp [cO]) (by simp [cO, sG, sGu, sL]) (cgf_X4_price rfl) hdg kk
theorem gf_X4_words (hx : p.tables.exec = Jvm.exec) (hb : c.code = cc) (hts : ∀ q ∈ Ts, q.before args s = true) (hown : s.vm.findClass own = some m.cls) (hW : sW w D Y A σ s H0 H locs) {o : Nat} (hk : (0, 3, o) ∈ kS w) (hin : ∀ q ∈ wsX40, q ∈ Ts) {index : Nat} (hlink : Cond.fieldLink own index "SoldStops$Page" "words" "I" ∈ Ts) (hdg : decode cc pc = .ok (.getfield index, 3)) (kk : W p l e R s m args below meth c H locs cells slots Q (F0 m (pc + 3) ls (.int (sG σ 5 o) :: rest))) : W p l e R s m args below meth c H locs cells slots Q (F0 m pc ls (.ref (A 0 3 o) :: rest)) := rg hx hb hts hown hW hk hin rfl 2 (by decide) hlink rfl hdg kk
theorem cgf_X4_words {v : Int32} {o : Nat} (_h : o = o) : ∀ j ∈ kS w, j ≠ (0, 3, o) → cE Y A (sGu σ 5 o v) j = cE Y A σ j := cg_O (fun c' o' => match c' with
  | 0 => fun _ => rfl
  | 1 => fun _ => rfl
  | 2 => fun _ => rfl
  | 3 => fun h => by have h2 : ¬ o' = o := fun q => h ⟨rfl, q⟩; simp [cO, sG, sGu, sL, h2]
  | 4 => fun _ => rfl
  | 5 => fun _ => rfl
  | 6 => fun _ => rfl
  | 7 => fun _ => rfl
  | (_ + 8) => fun _ => rfl)
theorem pf_X4_words (hx : p.tables.exec = Jvm.exec) (hb : c.code = cc) (hts : ∀ q ∈ Ts, q.before args s = true) (hown : s.vm.findClass own = some m.cls) (hW : sW w D Y A σ s H0 H locs) {o : Nat} (hk : (0, 3, o) ∈ kS w) (hin : ∀ q ∈ wsX40, q ∈ Ts) {index : Nat} (hlink : Cond.fieldLink own index "SoldStops$Page" "words" "I" ∈ Ts) {v : Int32} (hdg : decode cc pc = .ok (.putfield index, 3)) (kk : ∀ (H1 : Heap) (locs1 : List Loc), sW w D Y A (sGu σ 5 o v) s H0 H1 locs1 → W p l e R s m args below meth c H1 locs1 cells slots Q (F0 m (pc + 3) ls rest)) : W p l e R s m args below meth c H locs cells slots Q (F0 m pc ls (.int v :: .ref (A 0 3 o) :: rest)) :=
  rp (ty := .int) hx hb hts hown hW hk hin tyX4 tyX4_ok nmX4 rfl 2 (by decide) hlink rfl (by decide +kernel) rfl rfl (by simp [cO]) (by simp [cO, sG, sGu, sL]) (cgf_X4_words rfl) hdg kk
theorem gf_X4_heards (hx : p.tables.exec = Jvm.exec) (hb : c.code = cc) (hts : ∀ q ∈ Ts, q.before args s = true) (hown : s.vm.findClass own = some m.cls) (hW : sW w D Y A σ s H0 H locs) {o : Nat} (hk : (0, 3, o) ∈ kS w) (hin : ∀ q ∈ wsX40, q ∈ Ts) {index : Nat} (hlink : Cond.fieldLink own index "SoldStops$Page" "heards" "I" ∈ Ts) (hdg : decode cc pc = .ok (.getfield index, 3)) (kk : W p l e R s m args below meth c H locs cells slots Q (F0 m (pc + 3) ls (.int (sG σ 6 o) :: rest))) : W p l e R s m args below meth c H locs cells slots Q (F0 m pc ls (.ref (A 0 3 o) :: rest)) := rg hx hb hts hown hW hk hin rfl 3 (by decide) hlink rfl hdg kk
theorem cgf_X4_heards {v : Int32} {o : Nat} (_h : o = o) : ∀ j ∈ kS w, j ≠ (0, 3, o) → cE Y A (sGu σ 6 o v) j = cE Y A σ j := cg_O (fun c' o' => match c' with
  | 0 => fun _ => rfl
  | 1 => fun _ => rfl
  | 2 => fun _ => rfl
  | 3 => fun h => by have h2 : ¬ o' = o := fun q => h ⟨rfl, q⟩; simp [cO, sG, sGu, sL, h2]
  | 4 => fun _ => rfl
  | 5 => fun _ => rfl
  | 6 => fun _ => rfl
  | 7 => fun _ => rfl
  | (_ + 8) => fun _ => rfl)
theorem pf_X4_heards (hx : p.tables.exec = Jvm.exec) (hb : c.code = cc) (hts : ∀ q ∈ Ts, q.before args s = true) (hown : s.vm.findClass own = some m.cls) (hW : sW w D Y A σ s H0 H locs) {o : Nat} (hk : (0, 3, o) ∈ kS w) (hin : ∀ q ∈ wsX40, q ∈ Ts) {index : Nat} (hlink : Cond.fieldLink own index "SoldStops$Page" "heards" "I" ∈ Ts) {v : Int32} (hdg : decode cc pc = .ok (.putfield index, 3)) (kk : ∀ (H1 : Heap) (locs1 : List Loc), sW w D Y A (sGu σ 6 o v) s H0 H1 locs1 → W p l e R s m args below meth c H1 locs1 cells slots Q (F0 m (pc + 3) ls rest)) : W p l e R s m args below meth c H locs cells slots Q (F0 m pc ls (.int v :: .ref (A 0 3 o) :: rest)) :=
  rp (ty := .int) hx hb hts hown hW hk hin tyX4 tyX4_ok nmX4 rfl 3 (by decide) hlink rfl (by decide +kernel) rfl rfl (by simp [cO]) (by simp [cO, sG, sGu, sL]) (cgf_X4_heards rfl) hdg kk
theorem gf_X4_pasts (hx : p.tables.exec = Jvm.exec) (hb : c.code = cc) (hts : ∀ q ∈ Ts, q.before args s = true) (hown : s.vm.findClass own = some m.cls) (hW : sW w D Y A σ s H0 H locs) {o : Nat} (hk : (0, 3, o) ∈ kS w) (hin : ∀ q ∈ wsX40, q ∈ Ts) {index : Nat} (hlink : Cond.fieldLink own index "SoldStops$Page" "pasts" "I" ∈ Ts) (hdg : decode cc pc = .ok (.getfield index, 3)) (kk : W p l e R s m args below meth c H locs cells slots Q (F0 m (pc + 3) ls (.int (sG σ 7 o) :: rest))) : W p l e R s m args below meth c H locs cells slots Q (F0 m pc ls (.ref (A 0 3 o) :: rest)) := rg hx hb hts hown hW hk hin rfl 4 (by decide) hlink rfl hdg kk
theorem cgf_X4_pasts {v : Int32} {o : Nat} (_h : o = o) : ∀ j ∈ kS w, j ≠ (0, 3, o) → cE Y A (sGu σ 7 o v) j = cE Y A σ j := cg_O (fun c' o' => match c' with
  | 0 => fun _ => rfl
  | 1 => fun _ => rfl
  | 2 => fun _ => rfl
  | 3 => fun h => by have h2 : ¬ o' = o := fun q => h ⟨rfl, q⟩; simp [cO, sG, sGu, sL, h2]
  | 4 => fun _ => rfl
  | 5 => fun _ => rfl
  | 6 => fun _ => rfl
  | 7 => fun _ => rfl
  | (_ + 8) => fun _ => rfl)
theorem pf_X4_pasts (hx : p.tables.exec = Jvm.exec) (hb : c.code = cc) (hts : ∀ q ∈ Ts, q.before args s = true) (hown : s.vm.findClass own = some m.cls) (hW : sW w D Y A σ s H0 H locs) {o : Nat} (hk : (0, 3, o) ∈ kS w) (hin : ∀ q ∈ wsX40, q ∈ Ts) {index : Nat} (hlink : Cond.fieldLink own index "SoldStops$Page" "pasts" "I" ∈ Ts) {v : Int32} (hdg : decode cc pc = .ok (.putfield index, 3)) (kk : ∀ (H1 : Heap) (locs1 : List Loc), sW w D Y A (sGu σ 7 o v) s H0 H1 locs1 → W p l e R s m args below meth c H1 locs1 cells slots Q (F0 m (pc + 3) ls rest)) : W p l e R s m args below meth c H locs cells slots Q (F0 m pc ls (.int v :: .ref (A 0 3 o) :: rest)) :=
  rp (ty := .int) hx hb hts hown hW hk hin tyX4 tyX4_ok nmX4 rfl 4 (by decide) hlink rfl (by decide +kernel) rfl rfl (by simp [cO]) (by simp [cO, sG, sGu, sL]) (cgf_X4_pasts rfl) hdg kk
theorem gf_X4_lengths (hx : p.tables.exec = Jvm.exec) (hb : c.code = cc) (hts : ∀ q ∈ Ts, q.before args s = true) (hown : s.vm.findClass own = some m.cls) (hW : sW w D Y A σ s H0 H locs) {o : Nat} (hk : (0, 3, o) ∈ kS w) (hin : ∀ q ∈ wsX40, q ∈ Ts) {index : Nat} (hlink : Cond.fieldLink own index "SoldStops$Page" "lengths" "[I" ∈ Ts) (hdg : decode cc pc = .ok (.getfield index, 3)) (kk : W p l e R s m args below meth c H locs cells slots Q (F0 m (pc + 3) ls (.ref (A 1 4 o) :: rest))) : W p l e R s m args below meth c H locs cells slots Q (F0 m pc ls (.ref (A 0 3 o) :: rest)) := rg hx hb hts hown hW hk hin rfl 5 (by decide) hlink rfl hdg kk
theorem gf_X4_marks (hx : p.tables.exec = Jvm.exec) (hb : c.code = cc) (hts : ∀ q ∈ Ts, q.before args s = true) (hown : s.vm.findClass own = some m.cls) (hW : sW w D Y A σ s H0 H locs) {o : Nat} (hk : (0, 3, o) ∈ kS w) (hin : ∀ q ∈ wsX40, q ∈ Ts) {index : Nat} (hlink : Cond.fieldLink own index "SoldStops$Page" "marks" "LSoldStops$Marks;" ∈ Ts) (hdg : decode cc pc = .ok (.getfield index, 3)) (kk : W p l e R s m args below meth c H locs cells slots Q (F0 m (pc + 3) ls (.ref (A 0 1 o) :: rest))) : W p l e R s m args below meth c H locs cells slots Q (F0 m pc ls (.ref (A 0 3 o) :: rest)) := rg hx hb hts hown hW hk hin rfl 6 (by decide) hlink rfl hdg kk
theorem gf_X4_heard (hx : p.tables.exec = Jvm.exec) (hb : c.code = cc) (hts : ∀ q ∈ Ts, q.before args s = true) (hown : s.vm.findClass own = some m.cls) (hW : sW w D Y A σ s H0 H locs) {o : Nat} (hk : (0, 3, o) ∈ kS w) (hin : ∀ q ∈ wsX40, q ∈ Ts) {index : Nat} (hlink : Cond.fieldLink own index "SoldStops$Page" "heard" "[I" ∈ Ts) (hdg : decode cc pc = .ok (.getfield index, 3)) (kk : W p l e R s m args below meth c H locs cells slots Q (F0 m (pc + 3) ls (.ref (A 1 5 o) :: rest))) : W p l e R s m args below meth c H locs cells slots Q (F0 m pc ls (.ref (A 0 3 o) :: rest)) := rg hx hb hts hown hW hk hin rfl 7 (by decide) hlink rfl hdg kk
theorem gf_X4_past (hx : p.tables.exec = Jvm.exec) (hb : c.code = cc) (hts : ∀ q ∈ Ts, q.before args s = true) (hown : s.vm.findClass own = some m.cls) (hW : sW w D Y A σ s H0 H locs) {o : Nat} (hk : (0, 3, o) ∈ kS w) (hin : ∀ q ∈ wsX40, q ∈ Ts) {index : Nat} (hlink : Cond.fieldLink own index "SoldStops$Page" "past" "[LSoldStops$Marks;" ∈ Ts) (hdg : decode cc pc = .ok (.getfield index, 3)) (kk : W p l e R s m args below meth c H locs cells slots Q (F0 m (pc + 3) ls (.ref (A 4 0 o) :: rest))) : W p l e R s m args below meth c H locs cells slots Q (F0 m pc ls (.ref (A 0 3 o) :: rest)) := rg hx hb hts hown hW hk hin rfl 8 (by decide) hlink rfl hdg kk
theorem gf_X5_costs (hx : p.tables.exec = Jvm.exec) (hb : c.code = cc) (hts : ∀ q ∈ Ts, q.before args s = true) (hown : s.vm.findClass own = some m.cls) (hW : sW w D Y A σ s H0 H locs) (hk : (0, 4, 0) ∈ kS w) (hin : ∀ q ∈ wsX50, q ∈ Ts) {index : Nat} (hlink : Cond.fieldLink own index "SoldStops$Plan" "costs" "[[I" ∈ Ts) (hdg : decode cc pc = .ok (.getfield index, 3)) (kk : W p l e R s m args below meth c H locs cells slots Q (F0 m (pc + 3) ls (.ref (A 4 2 0) :: rest))) : W p l e R s m args below meth c H locs cells slots Q (F0 m pc ls (.ref (A 0 4 0) :: rest)) := rg hx hb hts hown hW hk hin rfl 0 (by decide) hlink rfl hdg kk
theorem gf_X5_fewest (hx : p.tables.exec = Jvm.exec) (hb : c.code = cc) (hts : ∀ q ∈ Ts, q.before args s = true) (hown : s.vm.findClass own = some m.cls) (hW : sW w D Y A σ s H0 H locs) (hk : (0, 4, 0) ∈ kS w) (hin : ∀ q ∈ wsX50, q ∈ Ts) {index : Nat} (hlink : Cond.fieldLink own index "SoldStops$Plan" "fewest" "[[I" ∈ Ts) (hdg : decode cc pc = .ok (.getfield index, 3)) (kk : W p l e R s m args below meth c H locs cells slots Q (F0 m (pc + 3) ls (.ref (A 4 3 0) :: rest))) : W p l e R s m args below meth c H locs cells slots Q (F0 m pc ls (.ref (A 0 4 0) :: rest)) := rg hx hb hts hown hW hk hin rfl 1 (by decide) hlink rfl hdg kk
theorem gf_X5_choices (hx : p.tables.exec = Jvm.exec) (hb : c.code = cc) (hts : ∀ q ∈ Ts, q.before args s = true) (hown : s.vm.findClass own = some m.cls) (hW : sW w D Y A σ s H0 H locs) (hk : (0, 4, 0) ∈ kS w) (hin : ∀ q ∈ wsX50, q ∈ Ts) {index : Nat} (hlink : Cond.fieldLink own index "SoldStops$Plan" "choices" "[[I" ∈ Ts) (hdg : decode cc pc = .ok (.getfield index, 3)) (kk : W p l e R s m args below meth c H locs cells slots Q (F0 m (pc + 3) ls (.ref (A 4 4 0) :: rest))) : W p l e R s m args below meth c H locs cells slots Q (F0 m pc ls (.ref (A 0 4 0) :: rest)) := rg hx hb hts hown hW hk hin rfl 2 (by decide) hlink rfl hdg kk
theorem gf_X5_now (hx : p.tables.exec = Jvm.exec) (hb : c.code = cc) (hts : ∀ q ∈ Ts, q.before args s = true) (hown : s.vm.findClass own = some m.cls) (hW : sW w D Y A σ s H0 H locs) (hk : (0, 4, 0) ∈ kS w) (hin : ∀ q ∈ wsX50, q ∈ Ts) {index : Nat} (hlink : Cond.fieldLink own index "SoldStops$Plan" "now" "[I" ∈ Ts) (hdg : decode cc pc = .ok (.getfield index, 3)) (kk : W p l e R s m args below meth c H locs cells slots Q (F0 m (pc + 3) ls (.ref (A 1 9 0) :: rest))) : W p l e R s m args below meth c H locs cells slots Q (F0 m pc ls (.ref (A 0 4 0) :: rest)) := rg hx hb hts hown hW hk hin rfl 3 (by decide) hlink rfl hdg kk
theorem gf_X5_then (hx : p.tables.exec = Jvm.exec) (hb : c.code = cc) (hts : ∀ q ∈ Ts, q.before args s = true) (hown : s.vm.findClass own = some m.cls) (hW : sW w D Y A σ s H0 H locs) (hk : (0, 4, 0) ∈ kS w) (hin : ∀ q ∈ wsX50, q ∈ Ts) {index : Nat} (hlink : Cond.fieldLink own index "SoldStops$Plan" "then" "[I" ∈ Ts) (hdg : decode cc pc = .ok (.getfield index, 3)) (kk : W p l e R s m args below meth c H locs cells slots Q (F0 m (pc + 3) ls (.ref (A 1 10 0) :: rest))) : W p l e R s m args below meth c H locs cells slots Q (F0 m pc ls (.ref (A 0 4 0) :: rest)) := rg hx hb hts hown hW hk hin rfl 4 (by decide) hlink rfl hdg kk
theorem gf_X6_size (hx : p.tables.exec = Jvm.exec) (hb : c.code = cc) (hts : ∀ q ∈ Ts, q.before args s = true) (hown : s.vm.findClass own = some m.cls) (hW : sW w D Y A σ s H0 H locs) (hk : (0, 5, 0) ∈ kS w) (hin : ∀ q ∈ wsX60, q ∈ Ts) {index : Nat} (hlink : Cond.fieldLink own index "SoldStops$Text" "size" "I" ∈ Ts) (hdg : decode cc pc = .ok (.getfield index, 3)) (kk : W p l e R s m args below meth c H locs cells slots Q (F0 m (pc + 3) ls (.int (sG σ 8 0) :: rest))) : W p l e R s m args below meth c H locs cells slots Q (F0 m pc ls (.ref (A 0 5 0) :: rest)) := rg hx hb hts hown hW hk hin rfl 0 (by decide) hlink rfl hdg kk
theorem cgf_X6_size {v : Int32} {o : Nat} (h0 : o = 0) : ∀ j ∈ kS w, j ≠ (0, 5, o) → cE Y A (sGu σ 8 o v) j = cE Y A σ j := cg_O (fun c' o' => match c' with
  | 0 => fun _ => rfl
  | 1 => fun _ => rfl
  | 2 => fun _ => rfl
  | 3 => fun _ => rfl
  | 4 => fun _ => rfl
  | 5 => fun h => by have h2 : ¬ o' = o := fun q => h ⟨rfl, q⟩; simp [cO, sG, sGu, sL, h2]
  | 6 => fun _ => rfl
  | 7 => fun _ => rfl
  | (_ + 8) => fun _ => rfl)
theorem pf_X6_size (hx : p.tables.exec = Jvm.exec) (hb : c.code = cc) (hts : ∀ q ∈ Ts, q.before args s = true) (hown : s.vm.findClass own = some m.cls) (hW : sW w D Y A σ s H0 H locs) (hk : (0, 5, 0) ∈ kS w) (hin : ∀ q ∈ wsX60, q ∈ Ts) {index : Nat} (hlink : Cond.fieldLink own index "SoldStops$Text" "size" "I" ∈ Ts) {v : Int32} (hdg : decode cc pc = .ok (.putfield index, 3)) (kk : ∀ (H1 : Heap) (locs1 : List Loc), sW w D Y A (sGu σ 8 0 v) s H0 H1 locs1 → W p l e R s m args below meth c H1 locs1 cells slots Q (F0 m (pc + 3) ls rest)) : W p l e R s m args below meth c H locs cells slots Q (F0 m pc ls (.int v :: .ref (A 0 5 0) :: rest)) :=
  rp (ty := .int) hx hb hts hown hW hk hin tyX6 tyX6_ok nmX6 rfl 0 (by decide) hlink rfl (by decide +kernel) rfl rfl (by simp [cO]) (by simp [cO, sG, sGu, sL]) (cgf_X6_size rfl) hdg kk
theorem gf_X6_items (hx : p.tables.exec = Jvm.exec) (hb : c.code = cc) (hts : ∀ q ∈ Ts, q.before args s = true) (hown : s.vm.findClass own = some m.cls) (hW : sW w D Y A σ s H0 H locs) (hk : (0, 5, 0) ∈ kS w) (hin : ∀ q ∈ wsX60, q ∈ Ts) {index : Nat} (hlink : Cond.fieldLink own index "SoldStops$Text" "items" "I" ∈ Ts) (hdg : decode cc pc = .ok (.getfield index, 3)) (kk : W p l e R s m args below meth c H locs cells slots Q (F0 m (pc + 3) ls (.int (sG σ 9 0) :: rest))) : W p l e R s m args below meth c H locs cells slots Q (F0 m pc ls (.ref (A 0 5 0) :: rest)) := rg hx hb hts hown hW hk hin rfl 1 (by decide) hlink rfl hdg kk
theorem cgf_X6_items {v : Int32} {o : Nat} (h0 : o = 0) : ∀ j ∈ kS w, j ≠ (0, 5, o) → cE Y A (sGu σ 9 o v) j = cE Y A σ j := cg_O (fun c' o' => match c' with
  | 0 => fun _ => rfl
  | 1 => fun _ => rfl
  | 2 => fun _ => rfl
  | 3 => fun _ => rfl
  | 4 => fun _ => rfl
  | 5 => fun h => by have h2 : ¬ o' = o := fun q => h ⟨rfl, q⟩; simp [cO, sG, sGu, sL, h2]
  | 6 => fun _ => rfl
  | 7 => fun _ => rfl
  | (_ + 8) => fun _ => rfl)
theorem pf_X6_items (hx : p.tables.exec = Jvm.exec) (hb : c.code = cc) (hts : ∀ q ∈ Ts, q.before args s = true) (hown : s.vm.findClass own = some m.cls) (hW : sW w D Y A σ s H0 H locs) (hk : (0, 5, 0) ∈ kS w) (hin : ∀ q ∈ wsX60, q ∈ Ts) {index : Nat} (hlink : Cond.fieldLink own index "SoldStops$Text" "items" "I" ∈ Ts) {v : Int32} (hdg : decode cc pc = .ok (.putfield index, 3)) (kk : ∀ (H1 : Heap) (locs1 : List Loc), sW w D Y A (sGu σ 9 0 v) s H0 H1 locs1 → W p l e R s m args below meth c H1 locs1 cells slots Q (F0 m (pc + 3) ls rest)) : W p l e R s m args below meth c H locs cells slots Q (F0 m pc ls (.int v :: .ref (A 0 5 0) :: rest)) :=
  rp (ty := .int) hx hb hts hown hW hk hin tyX6 tyX6_ok nmX6 rfl 1 (by decide) hlink rfl (by decide +kernel) rfl rfl (by simp [cO]) (by simp [cO, sG, sGu, sL]) (cgf_X6_items rfl) hdg kk
theorem gf_X6_bytes (hx : p.tables.exec = Jvm.exec) (hb : c.code = cc) (hts : ∀ q ∈ Ts, q.before args s = true) (hown : s.vm.findClass own = some m.cls) (hW : sW w D Y A σ s H0 H locs) (hk : (0, 5, 0) ∈ kS w) (hin : ∀ q ∈ wsX60, q ∈ Ts) {index : Nat} (hlink : Cond.fieldLink own index "SoldStops$Text" "bytes" "[I" ∈ Ts) (hdg : decode cc pc = .ok (.getfield index, 3)) (kk : W p l e R s m args below meth c H locs cells slots Q (F0 m (pc + 3) ls (.ref (A 1 11 0) :: rest))) : W p l e R s m args below meth c H locs cells slots Q (F0 m pc ls (.ref (A 0 5 0) :: rest)) := rg hx hb hts hown hW hk hin rfl 2 (by decide) hlink rfl hdg kk
theorem gf_X6_whats (hx : p.tables.exec = Jvm.exec) (hb : c.code = cc) (hts : ∀ q ∈ Ts, q.before args s = true) (hown : s.vm.findClass own = some m.cls) (hW : sW w D Y A σ s H0 H locs) (hk : (0, 5, 0) ∈ kS w) (hin : ∀ q ∈ wsX60, q ∈ Ts) {index : Nat} (hlink : Cond.fieldLink own index "SoldStops$Text" "whats" "[I" ∈ Ts) (hdg : decode cc pc = .ok (.getfield index, 3)) (kk : W p l e R s m args below meth c H locs cells slots Q (F0 m (pc + 3) ls (.ref (A 1 12 0) :: rest))) : W p l e R s m args below meth c H locs cells slots Q (F0 m pc ls (.ref (A 0 5 0) :: rest)) := rg hx hb hts hown hW hk hin rfl 3 (by decide) hlink rfl hdg kk
theorem gf_X6_firsts (hx : p.tables.exec = Jvm.exec) (hb : c.code = cc) (hts : ∀ q ∈ Ts, q.before args s = true) (hown : s.vm.findClass own = some m.cls) (hW : sW w D Y A σ s H0 H locs) (hk : (0, 5, 0) ∈ kS w) (hin : ∀ q ∈ wsX60, q ∈ Ts) {index : Nat} (hlink : Cond.fieldLink own index "SoldStops$Text" "firsts" "[I" ∈ Ts) (hdg : decode cc pc = .ok (.getfield index, 3)) (kk : W p l e R s m args below meth c H locs cells slots Q (F0 m (pc + 3) ls (.ref (A 1 13 0) :: rest))) : W p l e R s m args below meth c H locs cells slots Q (F0 m pc ls (.ref (A 0 5 0) :: rest)) := rg hx hb hts hown hW hk hin rfl 4 (by decide) hlink rfl hdg kk
theorem gf_X6_seconds (hx : p.tables.exec = Jvm.exec) (hb : c.code = cc) (hts : ∀ q ∈ Ts, q.before args s = true) (hown : s.vm.findClass own = some m.cls) (hW : sW w D Y A σ s H0 H locs) (hk : (0, 5, 0) ∈ kS w) (hin : ∀ q ∈ wsX60, q ∈ Ts) {index : Nat} (hlink : Cond.fieldLink own index "SoldStops$Text" "seconds" "[I" ∈ Ts) (hdg : decode cc pc = .ok (.getfield index, 3)) (kk : W p l e R s m args below meth c H locs cells slots Q (F0 m (pc + 3) ls (.ref (A 1 14 0) :: rest))) : W p l e R s m args below meth c H locs cells slots Q (F0 m pc ls (.ref (A 0 5 0) :: rest)) := rg hx hb hts hown hW hk hin rfl 5 (by decide) hlink rfl hdg kk
theorem gf_X6_token (hx : p.tables.exec = Jvm.exec) (hb : c.code = cc) (hts : ∀ q ∈ Ts, q.before args s = true) (hown : s.vm.findClass own = some m.cls) (hW : sW w D Y A σ s H0 H locs) (hk : (0, 5, 0) ∈ kS w) (hin : ∀ q ∈ wsX60, q ∈ Ts) {index : Nat} (hlink : Cond.fieldLink own index "SoldStops$Text" "token" "I" ∈ Ts) (hdg : decode cc pc = .ok (.getfield index, 3)) (kk : W p l e R s m args below meth c H locs cells slots Q (F0 m (pc + 3) ls (.int (sG σ 10 0) :: rest))) : W p l e R s m args below meth c H locs cells slots Q (F0 m pc ls (.ref (A 0 5 0) :: rest)) := rg hx hb hts hown hW hk hin rfl 6 (by decide) hlink rfl hdg kk
theorem cgf_X6_token {v : Int32} {o : Nat} (h0 : o = 0) : ∀ j ∈ kS w, j ≠ (0, 5, o) → cE Y A (sGu σ 10 o v) j = cE Y A σ j := cg_O (fun c' o' => match c' with
  | 0 => fun _ => rfl
  | 1 => fun _ => rfl
  | 2 => fun _ => rfl
  | 3 => fun _ => rfl
  | 4 => fun _ => rfl
  | 5 => fun h => by have h2 : ¬ o' = o := fun q => h ⟨rfl, q⟩; simp [cO, sG, sGu, sL, h2]
  | 6 => fun _ => rfl
  | 7 => fun _ => rfl
  | (_ + 8) => fun _ => rfl)
theorem pf_X6_token (hx : p.tables.exec = Jvm.exec) (hb : c.code = cc) (hts : ∀ q ∈ Ts, q.before args s = true) (hown : s.vm.findClass own = some m.cls) (hW : sW w D Y A σ s H0 H locs) (hk : (0, 5, 0) ∈ kS w) (hin : ∀ q ∈ wsX60, q ∈ Ts) {index : Nat} (hlink : Cond.fieldLink own index "SoldStops$Text" "token" "I" ∈ Ts) {v : Int32} (hdg : decode cc pc = .ok (.putfield index, 3)) (kk : ∀ (H1 : Heap) (locs1 : List Loc), sW w D Y A (sGu σ 10 0 v) s H0 H1 locs1 → W p l e R s m args below meth c H1 locs1 cells slots Q (F0 m (pc + 3) ls rest)) : W p l e R s m args below meth c H locs cells slots Q (F0 m pc ls (.int v :: .ref (A 0 5 0) :: rest)) :=
  rp (ty := .int) hx hb hts hown hW hk hin tyX6 tyX6_ok nmX6 rfl 6 (by decide) hlink rfl (by decide +kernel) rfl rfl (by simp [cO]) (by simp [cO, sG, sGu, sL]) (cgf_X6_token rfl) hdg kk
theorem gf_X6_value (hx : p.tables.exec = Jvm.exec) (hb : c.code = cc) (hts : ∀ q ∈ Ts, q.before args s = true) (hown : s.vm.findClass own = some m.cls) (hW : sW w D Y A σ s H0 H locs) (hk : (0, 5, 0) ∈ kS w) (hin : ∀ q ∈ wsX60, q ∈ Ts) {index : Nat} (hlink : Cond.fieldLink own index "SoldStops$Text" "value" "I" ∈ Ts) (hdg : decode cc pc = .ok (.getfield index, 3)) (kk : W p l e R s m args below meth c H locs cells slots Q (F0 m (pc + 3) ls (.int (sG σ 11 0) :: rest))) : W p l e R s m args below meth c H locs cells slots Q (F0 m pc ls (.ref (A 0 5 0) :: rest)) := rg hx hb hts hown hW hk hin rfl 7 (by decide) hlink rfl hdg kk
theorem cgf_X6_value {v : Int32} {o : Nat} (h0 : o = 0) : ∀ j ∈ kS w, j ≠ (0, 5, o) → cE Y A (sGu σ 11 o v) j = cE Y A σ j := cg_O (fun c' o' => match c' with
  | 0 => fun _ => rfl
  | 1 => fun _ => rfl
  | 2 => fun _ => rfl
  | 3 => fun _ => rfl
  | 4 => fun _ => rfl
  | 5 => fun h => by have h2 : ¬ o' = o := fun q => h ⟨rfl, q⟩; simp [cO, sG, sGu, sL, h2]
  | 6 => fun _ => rfl
  | 7 => fun _ => rfl
  | (_ + 8) => fun _ => rfl)
theorem pf_X6_value (hx : p.tables.exec = Jvm.exec) (hb : c.code = cc) (hts : ∀ q ∈ Ts, q.before args s = true) (hown : s.vm.findClass own = some m.cls) (hW : sW w D Y A σ s H0 H locs) (hk : (0, 5, 0) ∈ kS w) (hin : ∀ q ∈ wsX60, q ∈ Ts) {index : Nat} (hlink : Cond.fieldLink own index "SoldStops$Text" "value" "I" ∈ Ts) {v : Int32} (hdg : decode cc pc = .ok (.putfield index, 3)) (kk : ∀ (H1 : Heap) (locs1 : List Loc), sW w D Y A (sGu σ 11 0 v) s H0 H1 locs1 → W p l e R s m args below meth c H1 locs1 cells slots Q (F0 m (pc + 3) ls rest)) : W p l e R s m args below meth c H locs cells slots Q (F0 m pc ls (.int v :: .ref (A 0 5 0) :: rest)) :=
  rp (ty := .int) hx hb hts hown hW hk hin tyX6 tyX6_ok nmX6 rfl 7 (by decide) hlink rfl (by decide +kernel) rfl rfl (by simp [cO]) (by simp [cO, sG, sGu, sL]) (cgf_X6_value rfl) hdg kk
theorem gf_X6_place (hx : p.tables.exec = Jvm.exec) (hb : c.code = cc) (hts : ∀ q ∈ Ts, q.before args s = true) (hown : s.vm.findClass own = some m.cls) (hW : sW w D Y A σ s H0 H locs) (hk : (0, 5, 0) ∈ kS w) (hin : ∀ q ∈ wsX60, q ∈ Ts) {index : Nat} (hlink : Cond.fieldLink own index "SoldStops$Text" "place" "I" ∈ Ts) (hdg : decode cc pc = .ok (.getfield index, 3)) (kk : W p l e R s m args below meth c H locs cells slots Q (F0 m (pc + 3) ls (.int (sG σ 12 0) :: rest))) : W p l e R s m args below meth c H locs cells slots Q (F0 m pc ls (.ref (A 0 5 0) :: rest)) := rg hx hb hts hown hW hk hin rfl 8 (by decide) hlink rfl hdg kk
theorem cgf_X6_place {v : Int32} {o : Nat} (h0 : o = 0) : ∀ j ∈ kS w, j ≠ (0, 5, o) → cE Y A (sGu σ 12 o v) j = cE Y A σ j := cg_O (fun c' o' => match c' with
  | 0 => fun _ => rfl
  | 1 => fun _ => rfl
  | 2 => fun _ => rfl
  | 3 => fun _ => rfl
  | 4 => fun _ => rfl
  | 5 => fun h => by have h2 : ¬ o' = o := fun q => h ⟨rfl, q⟩; simp [cO, sG, sGu, sL, h2]
  | 6 => fun _ => rfl
  | 7 => fun _ => rfl
  | (_ + 8) => fun _ => rfl)
theorem pf_X6_place (hx : p.tables.exec = Jvm.exec) (hb : c.code = cc) (hts : ∀ q ∈ Ts, q.before args s = true) (hown : s.vm.findClass own = some m.cls) (hW : sW w D Y A σ s H0 H locs) (hk : (0, 5, 0) ∈ kS w) (hin : ∀ q ∈ wsX60, q ∈ Ts) {index : Nat} (hlink : Cond.fieldLink own index "SoldStops$Text" "place" "I" ∈ Ts) {v : Int32} (hdg : decode cc pc = .ok (.putfield index, 3)) (kk : ∀ (H1 : Heap) (locs1 : List Loc), sW w D Y A (sGu σ 12 0 v) s H0 H1 locs1 → W p l e R s m args below meth c H1 locs1 cells slots Q (F0 m (pc + 3) ls rest)) : W p l e R s m args below meth c H locs cells slots Q (F0 m pc ls (.int v :: .ref (A 0 5 0) :: rest)) :=
  rp (ty := .int) hx hb hts hown hW hk hin tyX6 tyX6_ok nmX6 rfl 8 (by decide) hlink rfl (by decide +kernel) rfl rfl (by simp [cO]) (by simp [cO, sG, sGu, sL]) (cgf_X6_place rfl) hdg kk
theorem gf_X6_behind (hx : p.tables.exec = Jvm.exec) (hb : c.code = cc) (hts : ∀ q ∈ Ts, q.before args s = true) (hown : s.vm.findClass own = some m.cls) (hW : sW w D Y A σ s H0 H locs) (hk : (0, 5, 0) ∈ kS w) (hin : ∀ q ∈ wsX60, q ∈ Ts) {index : Nat} (hlink : Cond.fieldLink own index "SoldStops$Text" "behind" "I" ∈ Ts) (hdg : decode cc pc = .ok (.getfield index, 3)) (kk : W p l e R s m args below meth c H locs cells slots Q (F0 m (pc + 3) ls (.int (sG σ 13 0) :: rest))) : W p l e R s m args below meth c H locs cells slots Q (F0 m pc ls (.ref (A 0 5 0) :: rest)) := rg hx hb hts hown hW hk hin rfl 9 (by decide) hlink rfl hdg kk
theorem cgf_X6_behind {v : Int32} {o : Nat} (h0 : o = 0) : ∀ j ∈ kS w, j ≠ (0, 5, o) → cE Y A (sGu σ 13 o v) j = cE Y A σ j := cg_O (fun c' o' => match c' with
  | 0 => fun _ => rfl
  | 1 => fun _ => rfl
  | 2 => fun _ => rfl
  | 3 => fun _ => rfl
  | 4 => fun _ => rfl
  | 5 => fun h => by have h2 : ¬ o' = o := fun q => h ⟨rfl, q⟩; simp [cO, sG, sGu, sL, h2]
  | 6 => fun _ => rfl
  | 7 => fun _ => rfl
  | (_ + 8) => fun _ => rfl)
theorem pf_X6_behind (hx : p.tables.exec = Jvm.exec) (hb : c.code = cc) (hts : ∀ q ∈ Ts, q.before args s = true) (hown : s.vm.findClass own = some m.cls) (hW : sW w D Y A σ s H0 H locs) (hk : (0, 5, 0) ∈ kS w) (hin : ∀ q ∈ wsX60, q ∈ Ts) {index : Nat} (hlink : Cond.fieldLink own index "SoldStops$Text" "behind" "I" ∈ Ts) {v : Int32} (hdg : decode cc pc = .ok (.putfield index, 3)) (kk : ∀ (H1 : Heap) (locs1 : List Loc), sW w D Y A (sGu σ 13 0 v) s H0 H1 locs1 → W p l e R s m args below meth c H1 locs1 cells slots Q (F0 m (pc + 3) ls rest)) : W p l e R s m args below meth c H locs cells slots Q (F0 m pc ls (.int v :: .ref (A 0 5 0) :: rest)) :=
  rp (ty := .int) hx hb hts hown hW hk hin tyX6 tyX6_ok nmX6 rfl 9 (by decide) hlink rfl (by decide +kernel) rfl rfl (by simp [cO]) (by simp [cO, sG, sGu, sL]) (cgf_X6_behind rfl) hdg kk
theorem gf_X7_page (hx : p.tables.exec = Jvm.exec) (hb : c.code = cc) (hts : ∀ q ∈ Ts, q.before args s = true) (hown : s.vm.findClass own = some m.cls) (hW : sW w D Y A σ s H0 H locs) (hk : (0, 6, 0) ∈ kS w) (hin : ∀ q ∈ wsX70, q ∈ Ts) {index : Nat} (hlink : Cond.fieldLink own index "SoldStops" "page" "LSoldStops$Page;" ∈ Ts) (hdg : decode cc pc = .ok (.getfield index, 3)) (kk : W p l e R s m args below meth c H locs cells slots Q (F0 m (pc + 3) ls (.ref (A 0 3 0) :: rest))) : W p l e R s m args below meth c H locs cells slots Q (F0 m pc ls (.ref (A 0 6 0) :: rest)) := rg hx hb hts hown hW hk hin rfl 0 (by decide) hlink rfl hdg kk
theorem gf_X7_spare (hx : p.tables.exec = Jvm.exec) (hb : c.code = cc) (hts : ∀ q ∈ Ts, q.before args s = true) (hown : s.vm.findClass own = some m.cls) (hW : sW w D Y A σ s H0 H locs) (hk : (0, 6, 0) ∈ kS w) (hin : ∀ q ∈ wsX70, q ∈ Ts) {index : Nat} (hlink : Cond.fieldLink own index "SoldStops" "spare" "LSoldStops$Page;" ∈ Ts) (hdg : decode cc pc = .ok (.getfield index, 3)) (kk : W p l e R s m args below meth c H locs cells slots Q (F0 m (pc + 3) ls (.ref (A 0 3 1) :: rest))) : W p l e R s m args below meth c H locs cells slots Q (F0 m pc ls (.ref (A 0 6 0) :: rest)) := rg hx hb hts hown hW hk hin rfl 1 (by decide) hlink rfl hdg kk
theorem gf_X7_images (hx : p.tables.exec = Jvm.exec) (hb : c.code = cc) (hts : ∀ q ∈ Ts, q.before args s = true) (hown : s.vm.findClass own = some m.cls) (hW : sW w D Y A σ s H0 H locs) (hk : (0, 6, 0) ∈ kS w) (hin : ∀ q ∈ wsX70, q ∈ Ts) {index : Nat} (hlink : Cond.fieldLink own index "SoldStops" "images" "[LSoldStops$Page;" ∈ Ts) (hdg : decode cc pc = .ok (.getfield index, 3)) (kk : W p l e R s m args below meth c H locs cells slots Q (F0 m (pc + 3) ls (.ref (A 4 1 0) :: rest))) : W p l e R s m args below meth c H locs cells slots Q (F0 m pc ls (.ref (A 0 6 0) :: rest)) := rg hx hb hts hown hW hk hin rfl 2 (by decide) hlink rfl hdg kk
theorem gf_X7_kept (hx : p.tables.exec = Jvm.exec) (hb : c.code = cc) (hts : ∀ q ∈ Ts, q.before args s = true) (hown : s.vm.findClass own = some m.cls) (hW : sW w D Y A σ s H0 H locs) (hk : (0, 6, 0) ∈ kS w) (hin : ∀ q ∈ wsX70, q ∈ Ts) {index : Nat} (hlink : Cond.fieldLink own index "SoldStops" "kept" "[Z" ∈ Ts) (hdg : decode cc pc = .ok (.getfield index, 3)) (kk : W p l e R s m args below meth c H locs cells slots Q (F0 m (pc + 3) ls (.ref (A 2 1 0) :: rest))) : W p l e R s m args below meth c H locs cells slots Q (F0 m pc ls (.ref (A 0 6 0) :: rest)) := rg hx hb hts hown hW hk hin rfl 3 (by decide) hlink rfl hdg kk
theorem gf_X7_text (hx : p.tables.exec = Jvm.exec) (hb : c.code = cc) (hts : ∀ q ∈ Ts, q.before args s = true) (hown : s.vm.findClass own = some m.cls) (hW : sW w D Y A σ s H0 H locs) (hk : (0, 6, 0) ∈ kS w) (hin : ∀ q ∈ wsX70, q ∈ Ts) {index : Nat} (hlink : Cond.fieldLink own index "SoldStops" "text" "LSoldStops$Text;" ∈ Ts) (hdg : decode cc pc = .ok (.getfield index, 3)) (kk : W p l e R s m args below meth c H locs cells slots Q (F0 m (pc + 3) ls (.ref (A 0 5 0) :: rest))) : W p l e R s m args below meth c H locs cells slots Q (F0 m pc ls (.ref (A 0 6 0) :: rest)) := rg hx hb hts hown hW hk hin rfl 4 (by decide) hlink rfl hdg kk
theorem gf_X7_plan (hx : p.tables.exec = Jvm.exec) (hb : c.code = cc) (hts : ∀ q ∈ Ts, q.before args s = true) (hown : s.vm.findClass own = some m.cls) (hW : sW w D Y A σ s H0 H locs) (hk : (0, 6, 0) ∈ kS w) (hin : ∀ q ∈ wsX70, q ∈ Ts) {index : Nat} (hlink : Cond.fieldLink own index "SoldStops" "plan" "LSoldStops$Plan;" ∈ Ts) (hdg : decode cc pc = .ok (.getfield index, 3)) (kk : W p l e R s m args below meth c H locs cells slots Q (F0 m (pc + 3) ls (.ref (A 0 4 0) :: rest))) : W p l e R s m args below meth c H locs cells slots Q (F0 m pc ls (.ref (A 0 6 0) :: rest)) := rg hx hb hts hown hW hk hin rfl 5 (by decide) hlink rfl hdg kk
theorem gf_X7_order (hx : p.tables.exec = Jvm.exec) (hb : c.code = cc) (hts : ∀ q ∈ Ts, q.before args s = true) (hown : s.vm.findClass own = some m.cls) (hW : sW w D Y A σ s H0 H locs) (hk : (0, 6, 0) ∈ kS w) (hin : ∀ q ∈ wsX70, q ∈ Ts) {index : Nat} (hlink : Cond.fieldLink own index "SoldStops" "order" "LSoldStops$Order;" ∈ Ts) (hdg : decode cc pc = .ok (.getfield index, 3)) (kk : W p l e R s m args below meth c H locs cells slots Q (F0 m (pc + 3) ls (.ref (A 0 2 0) :: rest))) : W p l e R s m args below meth c H locs cells slots Q (F0 m pc ls (.ref (A 0 6 0) :: rest)) := rg hx hb hts hown hW hk hin rfl 6 (by decide) hlink rfl hdg kk
theorem gf_X7_chance (hx : p.tables.exec = Jvm.exec) (hb : c.code = cc) (hts : ∀ q ∈ Ts, q.before args s = true) (hown : s.vm.findClass own = some m.cls) (hW : sW w D Y A σ s H0 H locs) (hk : (0, 6, 0) ∈ kS w) (hin : ∀ q ∈ wsX70, q ∈ Ts) {index : Nat} (hlink : Cond.fieldLink own index "SoldStops" "chance" "LSoldStops$Chance;" ∈ Ts) (hdg : decode cc pc = .ok (.getfield index, 3)) (kk : W p l e R s m args below meth c H locs cells slots Q (F0 m (pc + 3) ls (.ref (A 0 0 0) :: rest))) : W p l e R s m args below meth c H locs cells slots Q (F0 m pc ls (.ref (A 0 6 0) :: rest)) := rg hx hb hts hown hW hk hin rfl 7 (by decide) hlink rfl hdg kk
theorem gf_X7_alike (hx : p.tables.exec = Jvm.exec) (hb : c.code = cc) (hts : ∀ q ∈ Ts, q.before args s = true) (hown : s.vm.findClass own = some m.cls) (hW : sW w D Y A σ s H0 H locs) (hk : (0, 6, 0) ∈ kS w) (hin : ∀ q ∈ wsX70, q ∈ Ts) {index : Nat} (hlink : Cond.fieldLink own index "SoldStops" "alike" "[I" ∈ Ts) (hdg : decode cc pc = .ok (.getfield index, 3)) (kk : W p l e R s m args below meth c H locs cells slots Q (F0 m (pc + 3) ls (.ref (A 1 15 0) :: rest))) : W p l e R s m args below meth c H locs cells slots Q (F0 m pc ls (.ref (A 0 6 0) :: rest)) := rg hx hb hts hown hW hk hin rfl 8 (by decide) hlink rfl hdg kk
theorem gf_X7_bads (hx : p.tables.exec = Jvm.exec) (hb : c.code = cc) (hts : ∀ q ∈ Ts, q.before args s = true) (hown : s.vm.findClass own = some m.cls) (hW : sW w D Y A σ s H0 H locs) (hk : (0, 6, 0) ∈ kS w) (hin : ∀ q ∈ wsX70, q ∈ Ts) {index : Nat} (hlink : Cond.fieldLink own index "SoldStops" "bads" "I" ∈ Ts) (hdg : decode cc pc = .ok (.getfield index, 3)) (kk : W p l e R s m args below meth c H locs cells slots Q (F0 m (pc + 3) ls (.int (sG σ 14 0) :: rest))) : W p l e R s m args below meth c H locs cells slots Q (F0 m pc ls (.ref (A 0 6 0) :: rest)) := rg hx hb hts hown hW hk hin rfl 9 (by decide) hlink rfl hdg kk
theorem cgf_X7_bads {v : Int32} {o : Nat} (h0 : o = 0) : ∀ j ∈ kS w, j ≠ (0, 6, o) → cE Y A (sGu σ 14 o v) j = cE Y A σ j := cg_O (fun c' o' => match c' with
  | 0 => fun _ => rfl
  | 1 => fun _ => rfl
  | 2 => fun _ => rfl
  | 3 => fun _ => rfl
  | 4 => fun _ => rfl
  | 5 => fun _ => rfl
  | 6 => fun h => by have h2 : ¬ o' = o := fun q => h ⟨rfl, q⟩; simp [cO, sG, sGu, sL, h2]
  | 7 => fun _ => rfl
  | (_ + 8) => fun _ => rfl)
theorem pf_X7_bads (hx : p.tables.exec = Jvm.exec) (hb : c.code = cc) (hts : ∀ q ∈ Ts, q.before args s = true) (hown : s.vm.findClass own = some m.cls) (hW : sW w D Y A σ s H0 H locs) (hk : (0, 6, 0) ∈ kS w) (hin : ∀ q ∈ wsX70, q ∈ Ts) {index : Nat} (hlink : Cond.fieldLink own index "SoldStops" "bads" "I" ∈ Ts) {v : Int32} (hdg : decode cc pc = .ok (.putfield index, 3)) (kk : ∀ (H1 : Heap) (locs1 : List Loc), sW w D Y A (sGu σ 14 0 v) s H0 H1 locs1 → W p l e R s m args below meth c H1 locs1 cells slots Q (F0 m (pc + 3) ls rest)) : W p l e R s m args below meth c H locs cells slots Q (F0 m pc ls (.int v :: .ref (A 0 6 0) :: rest)) :=
  rp (ty := .int) hx hb hts hown hW hk hin tyX7 tyX7_ok nmX7 rfl 9 (by decide) hlink rfl (by decide +kernel) rfl rfl (by simp [cO]) (by simp [cO, sG, sGu, sL]) (cgf_X7_bads rfl) hdg kk
theorem gf_X7_nos (hx : p.tables.exec = Jvm.exec) (hb : c.code = cc) (hts : ∀ q ∈ Ts, q.before args s = true) (hown : s.vm.findClass own = some m.cls) (hW : sW w D Y A σ s H0 H locs) (hk : (0, 6, 0) ∈ kS w) (hin : ∀ q ∈ wsX70, q ∈ Ts) {index : Nat} (hlink : Cond.fieldLink own index "SoldStops" "nos" "I" ∈ Ts) (hdg : decode cc pc = .ok (.getfield index, 3)) (kk : W p l e R s m args below meth c H locs cells slots Q (F0 m (pc + 3) ls (.int (sG σ 15 0) :: rest))) : W p l e R s m args below meth c H locs cells slots Q (F0 m pc ls (.ref (A 0 6 0) :: rest)) := rg hx hb hts hown hW hk hin rfl 10 (by decide) hlink rfl hdg kk
theorem cgf_X7_nos {v : Int32} {o : Nat} (h0 : o = 0) : ∀ j ∈ kS w, j ≠ (0, 6, o) → cE Y A (sGu σ 15 o v) j = cE Y A σ j := cg_O (fun c' o' => match c' with
  | 0 => fun _ => rfl
  | 1 => fun _ => rfl
  | 2 => fun _ => rfl
  | 3 => fun _ => rfl
  | 4 => fun _ => rfl
  | 5 => fun _ => rfl
  | 6 => fun h => by have h2 : ¬ o' = o := fun q => h ⟨rfl, q⟩; simp [cO, sG, sGu, sL, h2]
  | 7 => fun _ => rfl
  | (_ + 8) => fun _ => rfl)
theorem pf_X7_nos (hx : p.tables.exec = Jvm.exec) (hb : c.code = cc) (hts : ∀ q ∈ Ts, q.before args s = true) (hown : s.vm.findClass own = some m.cls) (hW : sW w D Y A σ s H0 H locs) (hk : (0, 6, 0) ∈ kS w) (hin : ∀ q ∈ wsX70, q ∈ Ts) {index : Nat} (hlink : Cond.fieldLink own index "SoldStops" "nos" "I" ∈ Ts) {v : Int32} (hdg : decode cc pc = .ok (.putfield index, 3)) (kk : ∀ (H1 : Heap) (locs1 : List Loc), sW w D Y A (sGu σ 15 0 v) s H0 H1 locs1 → W p l e R s m args below meth c H1 locs1 cells slots Q (F0 m (pc + 3) ls rest)) : W p l e R s m args below meth c H locs cells slots Q (F0 m pc ls (.int v :: .ref (A 0 6 0) :: rest)) :=
  rp (ty := .int) hx hb hts hown hW hk hin tyX7 tyX7_ok nmX7 rfl 10 (by decide) hlink rfl (by decide +kernel) rfl rfl (by simp [cO]) (by simp [cO, sG, sGu, sL]) (cgf_X7_nos rfl) hdg kk
theorem gf_X7_fulls (hx : p.tables.exec = Jvm.exec) (hb : c.code = cc) (hts : ∀ q ∈ Ts, q.before args s = true) (hown : s.vm.findClass own = some m.cls) (hW : sW w D Y A σ s H0 H locs) (hk : (0, 6, 0) ∈ kS w) (hin : ∀ q ∈ wsX70, q ∈ Ts) {index : Nat} (hlink : Cond.fieldLink own index "SoldStops" "fulls" "I" ∈ Ts) (hdg : decode cc pc = .ok (.getfield index, 3)) (kk : W p l e R s m args below meth c H locs cells slots Q (F0 m (pc + 3) ls (.int (sG σ 16 0) :: rest))) : W p l e R s m args below meth c H locs cells slots Q (F0 m pc ls (.ref (A 0 6 0) :: rest)) := rg hx hb hts hown hW hk hin rfl 11 (by decide) hlink rfl hdg kk
theorem cgf_X7_fulls {v : Int32} {o : Nat} (h0 : o = 0) : ∀ j ∈ kS w, j ≠ (0, 6, o) → cE Y A (sGu σ 16 o v) j = cE Y A σ j := cg_O (fun c' o' => match c' with
  | 0 => fun _ => rfl
  | 1 => fun _ => rfl
  | 2 => fun _ => rfl
  | 3 => fun _ => rfl
  | 4 => fun _ => rfl
  | 5 => fun _ => rfl
  | 6 => fun h => by have h2 : ¬ o' = o := fun q => h ⟨rfl, q⟩; simp [cO, sG, sGu, sL, h2]
  | 7 => fun _ => rfl
  | (_ + 8) => fun _ => rfl)
theorem pf_X7_fulls (hx : p.tables.exec = Jvm.exec) (hb : c.code = cc) (hts : ∀ q ∈ Ts, q.before args s = true) (hown : s.vm.findClass own = some m.cls) (hW : sW w D Y A σ s H0 H locs) (hk : (0, 6, 0) ∈ kS w) (hin : ∀ q ∈ wsX70, q ∈ Ts) {index : Nat} (hlink : Cond.fieldLink own index "SoldStops" "fulls" "I" ∈ Ts) {v : Int32} (hdg : decode cc pc = .ok (.putfield index, 3)) (kk : ∀ (H1 : Heap) (locs1 : List Loc), sW w D Y A (sGu σ 16 0 v) s H0 H1 locs1 → W p l e R s m args below meth c H1 locs1 cells slots Q (F0 m (pc + 3) ls rest)) : W p l e R s m args below meth c H locs cells slots Q (F0 m pc ls (.int v :: .ref (A 0 6 0) :: rest)) :=
  rp (ty := .int) hx hb hts hown hW hk hin tyX7 tyX7_ok nmX7 rfl 11 (by decide) hlink rfl (by decide +kernel) rfl rfl (by simp [cO]) (by simp [cO, sG, sGu, sL]) (cgf_X7_fulls rfl) hdg kk
theorem gf_X8_refused (hx : p.tables.exec = Jvm.exec) (hb : c.code = cc) (hts : ∀ q ∈ Ts, q.before args s = true) (hown : s.vm.findClass own = some m.cls) (hW : sW w D Y A σ s H0 H locs) (hk : (0, 7, 0) ∈ kS w) (hin : ∀ q ∈ wsX80, q ∈ Ts) {index : Nat} (hlink : Cond.fieldLink own index "SoldStopsModel" "refused" "[I" ∈ Ts) (hdg : decode cc pc = .ok (.getfield index, 3)) (kk : W p l e R s m args below meth c H locs cells slots Q (F0 m (pc + 3) ls (.ref (A 1 16 0) :: rest))) : W p l e R s m args below meth c H locs cells slots Q (F0 m pc ls (.ref (A 0 7 0) :: rest)) := rg hx hb hts hown hW hk hin rfl 0 (by decide) hlink rfl hdg kk
theorem gf_X8_many (hx : p.tables.exec = Jvm.exec) (hb : c.code = cc) (hts : ∀ q ∈ Ts, q.before args s = true) (hown : s.vm.findClass own = some m.cls) (hW : sW w D Y A σ s H0 H locs) (hk : (0, 7, 0) ∈ kS w) (hin : ∀ q ∈ wsX80, q ∈ Ts) {index : Nat} (hlink : Cond.fieldLink own index "SoldStopsModel" "many" "I" ∈ Ts) (hdg : decode cc pc = .ok (.getfield index, 3)) (kk : W p l e R s m args below meth c H locs cells slots Q (F0 m (pc + 3) ls (.int (sG σ 17 0) :: rest))) : W p l e R s m args below meth c H locs cells slots Q (F0 m pc ls (.ref (A 0 7 0) :: rest)) := rg hx hb hts hown hW hk hin rfl 1 (by decide) hlink rfl hdg kk
theorem cgf_X8_many {v : Int32} {o : Nat} (h0 : o = 0) : ∀ j ∈ kS w, j ≠ (0, 7, o) → cE Y A (sGu σ 17 o v) j = cE Y A σ j := cg_O (fun c' o' => match c' with
  | 0 => fun _ => rfl
  | 1 => fun _ => rfl
  | 2 => fun _ => rfl
  | 3 => fun _ => rfl
  | 4 => fun _ => rfl
  | 5 => fun _ => rfl
  | 6 => fun _ => rfl
  | 7 => fun h => by have h2 : ¬ o' = o := fun q => h ⟨rfl, q⟩; simp [cO, sG, sGu, sL, h2]
  | (_ + 8) => fun _ => rfl)
theorem pf_X8_many (hx : p.tables.exec = Jvm.exec) (hb : c.code = cc) (hts : ∀ q ∈ Ts, q.before args s = true) (hown : s.vm.findClass own = some m.cls) (hW : sW w D Y A σ s H0 H locs) (hk : (0, 7, 0) ∈ kS w) (hin : ∀ q ∈ wsX80, q ∈ Ts) {index : Nat} (hlink : Cond.fieldLink own index "SoldStopsModel" "many" "I" ∈ Ts) {v : Int32} (hdg : decode cc pc = .ok (.putfield index, 3)) (kk : ∀ (H1 : Heap) (locs1 : List Loc), sW w D Y A (sGu σ 17 0 v) s H0 H1 locs1 → W p l e R s m args below meth c H1 locs1 cells slots Q (F0 m (pc + 3) ls rest)) : W p l e R s m args below meth c H locs cells slots Q (F0 m pc ls (.int v :: .ref (A 0 7 0) :: rest)) :=
  rp (ty := .int) hx hb hts hown hW hk hin tyX8 tyX8_ok nmX8 rfl 1 (by decide) hlink rfl (by decide +kernel) rfl rfl (by simp [cO]) (by simp [cO, sG, sGu, sL]) (cgf_X8_many rfl) hdg kk
theorem gf_X8_breath (hx : p.tables.exec = Jvm.exec) (hb : c.code = cc) (hts : ∀ q ∈ Ts, q.before args s = true) (hown : s.vm.findClass own = some m.cls) (hW : sW w D Y A σ s H0 H locs) (hk : (0, 7, 0) ∈ kS w) (hin : ∀ q ∈ wsX80, q ∈ Ts) {index : Nat} (hlink : Cond.fieldLink own index "SoldStopsModel" "breath" "I" ∈ Ts) (hdg : decode cc pc = .ok (.getfield index, 3)) (kk : W p l e R s m args below meth c H locs cells slots Q (F0 m (pc + 3) ls (.int (sG σ 18 0) :: rest))) : W p l e R s m args below meth c H locs cells slots Q (F0 m pc ls (.ref (A 0 7 0) :: rest)) := rg hx hb hts hown hW hk hin rfl 2 (by decide) hlink rfl hdg kk
theorem cgf_X8_breath {v : Int32} {o : Nat} (h0 : o = 0) : ∀ j ∈ kS w, j ≠ (0, 7, o) → cE Y A (sGu σ 18 o v) j = cE Y A σ j := cg_O (fun c' o' => match c' with
  | 0 => fun _ => rfl
  | 1 => fun _ => rfl
  | 2 => fun _ => rfl
  | 3 => fun _ => rfl
  | 4 => fun _ => rfl
  | 5 => fun _ => rfl
  | 6 => fun _ => rfl
  | 7 => fun h => by have h2 : ¬ o' = o := fun q => h ⟨rfl, q⟩; simp [cO, sG, sGu, sL, h2]
  | (_ + 8) => fun _ => rfl)
theorem pf_X8_breath (hx : p.tables.exec = Jvm.exec) (hb : c.code = cc) (hts : ∀ q ∈ Ts, q.before args s = true) (hown : s.vm.findClass own = some m.cls) (hW : sW w D Y A σ s H0 H locs) (hk : (0, 7, 0) ∈ kS w) (hin : ∀ q ∈ wsX80, q ∈ Ts) {index : Nat} (hlink : Cond.fieldLink own index "SoldStopsModel" "breath" "I" ∈ Ts) {v : Int32} (hdg : decode cc pc = .ok (.putfield index, 3)) (kk : ∀ (H1 : Heap) (locs1 : List Loc), sW w D Y A (sGu σ 18 0 v) s H0 H1 locs1 → W p l e R s m args below meth c H1 locs1 cells slots Q (F0 m (pc + 3) ls rest)) : W p l e R s m args below meth c H locs cells slots Q (F0 m pc ls (.int v :: .ref (A 0 7 0) :: rest)) :=
  rp (ty := .int) hx hb hts hown hW hk hin tyX8 tyX8_ok nmX8 rfl 2 (by decide) hlink rfl (by decide +kernel) rfl rfl (by simp [cO]) (by simp [cO, sG, sGu, sL]) (cgf_X8_breath rfl) hdg kk
theorem gf_X8_price (hx : p.tables.exec = Jvm.exec) (hb : c.code = cc) (hts : ∀ q ∈ Ts, q.before args s = true) (hown : s.vm.findClass own = some m.cls) (hW : sW w D Y A σ s H0 H locs) (hk : (0, 7, 0) ∈ kS w) (hin : ∀ q ∈ wsX80, q ∈ Ts) {index : Nat} (hlink : Cond.fieldLink own index "SoldStopsModel" "price" "I" ∈ Ts) (hdg : decode cc pc = .ok (.getfield index, 3)) (kk : W p l e R s m args below meth c H locs cells slots Q (F0 m (pc + 3) ls (.int (sG σ 19 0) :: rest))) : W p l e R s m args below meth c H locs cells slots Q (F0 m pc ls (.ref (A 0 7 0) :: rest)) := rg hx hb hts hown hW hk hin rfl 3 (by decide) hlink rfl hdg kk
theorem cgf_X8_price {v : Int32} {o : Nat} (h0 : o = 0) : ∀ j ∈ kS w, j ≠ (0, 7, o) → cE Y A (sGu σ 19 o v) j = cE Y A σ j := cg_O (fun c' o' => match c' with
  | 0 => fun _ => rfl
  | 1 => fun _ => rfl
  | 2 => fun _ => rfl
  | 3 => fun _ => rfl
  | 4 => fun _ => rfl
  | 5 => fun _ => rfl
  | 6 => fun _ => rfl
  | 7 => fun h => by have h2 : ¬ o' = o := fun q => h ⟨rfl, q⟩; simp [cO, sG, sGu, sL, h2]
  | (_ + 8) => fun _ => rfl)
theorem pf_X8_price (hx : p.tables.exec = Jvm.exec) (hb : c.code = cc) (hts : ∀ q ∈ Ts, q.before args s = true) (hown : s.vm.findClass own = some m.cls) (hW : sW w D Y A σ s H0 H locs) (hk : (0, 7, 0) ∈ kS w) (hin : ∀ q ∈ wsX80, q ∈ Ts) {index : Nat} (hlink : Cond.fieldLink own index "SoldStopsModel" "price" "I" ∈ Ts) {v : Int32} (hdg : decode cc pc = .ok (.putfield index, 3)) (kk : ∀ (H1 : Heap) (locs1 : List Loc), sW w D Y A (sGu σ 19 0 v) s H0 H1 locs1 → W p l e R s m args below meth c H1 locs1 cells slots Q (F0 m (pc + 3) ls rest)) : W p l e R s m args below meth c H locs cells slots Q (F0 m pc ls (.int v :: .ref (A 0 7 0) :: rest)) :=
  rp (ty := .int) hx hb hts hown hW hk hin tyX8 tyX8_ok nmX8 rfl 3 (by decide) hlink rfl (by decide +kernel) rfl rfl (by simp [cO]) (by simp [cO, sG, sGu, sL]) (cgf_X8_price rfl) hdg kk
theorem gf_X8_purse (hx : p.tables.exec = Jvm.exec) (hb : c.code = cc) (hts : ∀ q ∈ Ts, q.before args s = true) (hown : s.vm.findClass own = some m.cls) (hW : sW w D Y A σ s H0 H locs) (hk : (0, 7, 0) ∈ kS w) (hin : ∀ q ∈ wsX80, q ∈ Ts) {index : Nat} (hlink : Cond.fieldLink own index "SoldStopsModel" "purse" "I" ∈ Ts) (hdg : decode cc pc = .ok (.getfield index, 3)) (kk : W p l e R s m args below meth c H locs cells slots Q (F0 m (pc + 3) ls (.int (sG σ 20 0) :: rest))) : W p l e R s m args below meth c H locs cells slots Q (F0 m pc ls (.ref (A 0 7 0) :: rest)) := rg hx hb hts hown hW hk hin rfl 4 (by decide) hlink rfl hdg kk
theorem cgf_X8_purse {v : Int32} {o : Nat} (h0 : o = 0) : ∀ j ∈ kS w, j ≠ (0, 7, o) → cE Y A (sGu σ 20 o v) j = cE Y A σ j := cg_O (fun c' o' => match c' with
  | 0 => fun _ => rfl
  | 1 => fun _ => rfl
  | 2 => fun _ => rfl
  | 3 => fun _ => rfl
  | 4 => fun _ => rfl
  | 5 => fun _ => rfl
  | 6 => fun _ => rfl
  | 7 => fun h => by have h2 : ¬ o' = o := fun q => h ⟨rfl, q⟩; simp [cO, sG, sGu, sL, h2]
  | (_ + 8) => fun _ => rfl)
theorem pf_X8_purse (hx : p.tables.exec = Jvm.exec) (hb : c.code = cc) (hts : ∀ q ∈ Ts, q.before args s = true) (hown : s.vm.findClass own = some m.cls) (hW : sW w D Y A σ s H0 H locs) (hk : (0, 7, 0) ∈ kS w) (hin : ∀ q ∈ wsX80, q ∈ Ts) {index : Nat} (hlink : Cond.fieldLink own index "SoldStopsModel" "purse" "I" ∈ Ts) {v : Int32} (hdg : decode cc pc = .ok (.putfield index, 3)) (kk : ∀ (H1 : Heap) (locs1 : List Loc), sW w D Y A (sGu σ 20 0 v) s H0 H1 locs1 → W p l e R s m args below meth c H1 locs1 cells slots Q (F0 m (pc + 3) ls rest)) : W p l e R s m args below meth c H locs cells slots Q (F0 m pc ls (.int v :: .ref (A 0 7 0) :: rest)) :=
  rp (ty := .int) hx hb hts hown hW hk hin tyX8 tyX8_ok nmX8 rfl 4 (by decide) hlink rfl (by decide +kernel) rfl rfl (by simp [cO]) (by simp [cO, sG, sGu, sL]) (cgf_X8_purse rfl) hdg kk
theorem gf_X8_week (hx : p.tables.exec = Jvm.exec) (hb : c.code = cc) (hts : ∀ q ∈ Ts, q.before args s = true) (hown : s.vm.findClass own = some m.cls) (hW : sW w D Y A σ s H0 H locs) (hk : (0, 7, 0) ∈ kS w) (hin : ∀ q ∈ wsX80, q ∈ Ts) {index : Nat} (hlink : Cond.fieldLink own index "SoldStopsModel" "week" "I" ∈ Ts) (hdg : decode cc pc = .ok (.getfield index, 3)) (kk : W p l e R s m args below meth c H locs cells slots Q (F0 m (pc + 3) ls (.int (sG σ 21 0) :: rest))) : W p l e R s m args below meth c H locs cells slots Q (F0 m pc ls (.ref (A 0 7 0) :: rest)) := rg hx hb hts hown hW hk hin rfl 5 (by decide) hlink rfl hdg kk
theorem cgf_X8_week {v : Int32} {o : Nat} (h0 : o = 0) : ∀ j ∈ kS w, j ≠ (0, 7, o) → cE Y A (sGu σ 21 o v) j = cE Y A σ j := cg_O (fun c' o' => match c' with
  | 0 => fun _ => rfl
  | 1 => fun _ => rfl
  | 2 => fun _ => rfl
  | 3 => fun _ => rfl
  | 4 => fun _ => rfl
  | 5 => fun _ => rfl
  | 6 => fun _ => rfl
  | 7 => fun h => by have h2 : ¬ o' = o := fun q => h ⟨rfl, q⟩; simp [cO, sG, sGu, sL, h2]
  | (_ + 8) => fun _ => rfl)
theorem pf_X8_week (hx : p.tables.exec = Jvm.exec) (hb : c.code = cc) (hts : ∀ q ∈ Ts, q.before args s = true) (hown : s.vm.findClass own = some m.cls) (hW : sW w D Y A σ s H0 H locs) (hk : (0, 7, 0) ∈ kS w) (hin : ∀ q ∈ wsX80, q ∈ Ts) {index : Nat} (hlink : Cond.fieldLink own index "SoldStopsModel" "week" "I" ∈ Ts) {v : Int32} (hdg : decode cc pc = .ok (.putfield index, 3)) (kk : ∀ (H1 : Heap) (locs1 : List Loc), sW w D Y A (sGu σ 21 0 v) s H0 H1 locs1 → W p l e R s m args below meth c H1 locs1 cells slots Q (F0 m (pc + 3) ls rest)) : W p l e R s m args below meth c H locs cells slots Q (F0 m pc ls (.int v :: .ref (A 0 7 0) :: rest)) :=
  rp (ty := .int) hx hb hts hown hW hk hin tyX8 tyX8_ok nmX8 rfl 5 (by decide) hlink rfl (by decide +kernel) rfl rfl (by simp [cO]) (by simp [cO, sG, sGu, sL]) (cgf_X8_week rfl) hdg kk
theorem gf_X8_lengths (hx : p.tables.exec = Jvm.exec) (hb : c.code = cc) (hts : ∀ q ∈ Ts, q.before args s = true) (hown : s.vm.findClass own = some m.cls) (hW : sW w D Y A σ s H0 H locs) (hk : (0, 7, 0) ∈ kS w) (hin : ∀ q ∈ wsX80, q ∈ Ts) {index : Nat} (hlink : Cond.fieldLink own index "SoldStopsModel" "lengths" "[I" ∈ Ts) (hdg : decode cc pc = .ok (.getfield index, 3)) (kk : W p l e R s m args below meth c H locs cells slots Q (F0 m (pc + 3) ls (.ref (A 1 17 0) :: rest))) : W p l e R s m args below meth c H locs cells slots Q (F0 m pc ls (.ref (A 0 7 0) :: rest)) := rg hx hb hts hown hW hk hin rfl 6 (by decide) hlink rfl hdg kk
theorem gf_X8_kinds (hx : p.tables.exec = Jvm.exec) (hb : c.code = cc) (hts : ∀ q ∈ Ts, q.before args s = true) (hown : s.vm.findClass own = some m.cls) (hW : sW w D Y A σ s H0 H locs) (hk : (0, 7, 0) ∈ kS w) (hin : ∀ q ∈ wsX80, q ∈ Ts) {index : Nat} (hlink : Cond.fieldLink own index "SoldStopsModel" "kinds" "[I" ∈ Ts) (hdg : decode cc pc = .ok (.getfield index, 3)) (kk : W p l e R s m args below meth c H locs cells slots Q (F0 m (pc + 3) ls (.ref (A 1 18 0) :: rest))) : W p l e R s m args below meth c H locs cells slots Q (F0 m pc ls (.ref (A 0 7 0) :: rest)) := rg hx hb hts hown hW hk hin rfl 7 (by decide) hlink rfl hdg kk
theorem gf_X8_reads (hx : p.tables.exec = Jvm.exec) (hb : c.code = cc) (hts : ∀ q ∈ Ts, q.before args s = true) (hown : s.vm.findClass own = some m.cls) (hW : sW w D Y A σ s H0 H locs) (hk : (0, 7, 0) ∈ kS w) (hin : ∀ q ∈ wsX80, q ∈ Ts) {index : Nat} (hlink : Cond.fieldLink own index "SoldStopsModel" "reads" "[I" ∈ Ts) (hdg : decode cc pc = .ok (.getfield index, 3)) (kk : W p l e R s m args below meth c H locs cells slots Q (F0 m (pc + 3) ls (.ref (A 1 19 0) :: rest))) : W p l e R s m args below meth c H locs cells slots Q (F0 m pc ls (.ref (A 0 7 0) :: rest)) := rg hx hb hts hown hW hk hin rfl 8 (by decide) hlink rfl hdg kk
theorem gf_X8_heardMany (hx : p.tables.exec = Jvm.exec) (hb : c.code = cc) (hts : ∀ q ∈ Ts, q.before args s = true) (hown : s.vm.findClass own = some m.cls) (hW : sW w D Y A σ s H0 H locs) (hk : (0, 7, 0) ∈ kS w) (hin : ∀ q ∈ wsX80, q ∈ Ts) {index : Nat} (hlink : Cond.fieldLink own index "SoldStopsModel" "heardMany" "I" ∈ Ts) (hdg : decode cc pc = .ok (.getfield index, 3)) (kk : W p l e R s m args below meth c H locs cells slots Q (F0 m (pc + 3) ls (.int (sG σ 22 0) :: rest))) : W p l e R s m args below meth c H locs cells slots Q (F0 m pc ls (.ref (A 0 7 0) :: rest)) := rg hx hb hts hown hW hk hin rfl 9 (by decide) hlink rfl hdg kk
theorem cgf_X8_heardMany {v : Int32} {o : Nat} (h0 : o = 0) : ∀ j ∈ kS w, j ≠ (0, 7, o) → cE Y A (sGu σ 22 o v) j = cE Y A σ j := cg_O (fun c' o' => match c' with
  | 0 => fun _ => rfl
  | 1 => fun _ => rfl
  | 2 => fun _ => rfl
  | 3 => fun _ => rfl
  | 4 => fun _ => rfl
  | 5 => fun _ => rfl
  | 6 => fun _ => rfl
  | 7 => fun h => by have h2 : ¬ o' = o := fun q => h ⟨rfl, q⟩; simp [cO, sG, sGu, sL, h2]
  | (_ + 8) => fun _ => rfl)
theorem pf_X8_heardMany (hx : p.tables.exec = Jvm.exec) (hb : c.code = cc) (hts : ∀ q ∈ Ts, q.before args s = true) (hown : s.vm.findClass own = some m.cls) (hW : sW w D Y A σ s H0 H locs) (hk : (0, 7, 0) ∈ kS w) (hin : ∀ q ∈ wsX80, q ∈ Ts) {index : Nat} (hlink : Cond.fieldLink own index "SoldStopsModel" "heardMany" "I" ∈ Ts) {v : Int32} (hdg : decode cc pc = .ok (.putfield index, 3)) (kk : ∀ (H1 : Heap) (locs1 : List Loc), sW w D Y A (sGu σ 22 0 v) s H0 H1 locs1 → W p l e R s m args below meth c H1 locs1 cells slots Q (F0 m (pc + 3) ls rest)) : W p l e R s m args below meth c H locs cells slots Q (F0 m pc ls (.int v :: .ref (A 0 7 0) :: rest)) :=
  rp (ty := .int) hx hb hts hown hW hk hin tyX8 tyX8_ok nmX8 rfl 9 (by decide) hlink rfl (by decide +kernel) rfl rfl (by simp [cO]) (by simp [cO, sG, sGu, sL]) (cgf_X8_heardMany rfl) hdg kk
theorem gf_X8_heards (hx : p.tables.exec = Jvm.exec) (hb : c.code = cc) (hts : ∀ q ∈ Ts, q.before args s = true) (hown : s.vm.findClass own = some m.cls) (hW : sW w D Y A σ s H0 H locs) (hk : (0, 7, 0) ∈ kS w) (hin : ∀ q ∈ wsX80, q ∈ Ts) {index : Nat} (hlink : Cond.fieldLink own index "SoldStopsModel" "heards" "[I" ∈ Ts) (hdg : decode cc pc = .ok (.getfield index, 3)) (kk : W p l e R s m args below meth c H locs cells slots Q (F0 m (pc + 3) ls (.ref (A 1 20 0) :: rest))) : W p l e R s m args below meth c H locs cells slots Q (F0 m pc ls (.ref (A 0 7 0) :: rest)) := rg hx hb hts hown hW hk hin rfl 10 (by decide) hlink rfl hdg kk
theorem gf_X8_text (hx : p.tables.exec = Jvm.exec) (hb : c.code = cc) (hts : ∀ q ∈ Ts, q.before args s = true) (hown : s.vm.findClass own = some m.cls) (hW : sW w D Y A σ s H0 H locs) (hk : (0, 7, 0) ∈ kS w) (hin : ∀ q ∈ wsX80, q ∈ Ts) {index : Nat} (hlink : Cond.fieldLink own index "SoldStopsModel" "text" "[I" ∈ Ts) (hdg : decode cc pc = .ok (.getfield index, 3)) (kk : W p l e R s m args below meth c H locs cells slots Q (F0 m (pc + 3) ls (.ref (A 1 21 0) :: rest))) : W p l e R s m args below meth c H locs cells slots Q (F0 m pc ls (.ref (A 0 7 0) :: rest)) := rg hx hb hts hown hW hk hin rfl 11 (by decide) hlink rfl hdg kk
theorem gf_X8_typed (hx : p.tables.exec = Jvm.exec) (hb : c.code = cc) (hts : ∀ q ∈ Ts, q.before args s = true) (hown : s.vm.findClass own = some m.cls) (hW : sW w D Y A σ s H0 H locs) (hk : (0, 7, 0) ∈ kS w) (hin : ∀ q ∈ wsX80, q ∈ Ts) {index : Nat} (hlink : Cond.fieldLink own index "SoldStopsModel" "typed" "I" ∈ Ts) (hdg : decode cc pc = .ok (.getfield index, 3)) (kk : W p l e R s m args below meth c H locs cells slots Q (F0 m (pc + 3) ls (.int (sG σ 23 0) :: rest))) : W p l e R s m args below meth c H locs cells slots Q (F0 m pc ls (.ref (A 0 7 0) :: rest)) := rg hx hb hts hown hW hk hin rfl 12 (by decide) hlink rfl hdg kk
theorem cgf_X8_typed {v : Int32} {o : Nat} (h0 : o = 0) : ∀ j ∈ kS w, j ≠ (0, 7, o) → cE Y A (sGu σ 23 o v) j = cE Y A σ j := cg_O (fun c' o' => match c' with
  | 0 => fun _ => rfl
  | 1 => fun _ => rfl
  | 2 => fun _ => rfl
  | 3 => fun _ => rfl
  | 4 => fun _ => rfl
  | 5 => fun _ => rfl
  | 6 => fun _ => rfl
  | 7 => fun h => by have h2 : ¬ o' = o := fun q => h ⟨rfl, q⟩; simp [cO, sG, sGu, sL, h2]
  | (_ + 8) => fun _ => rfl)
theorem pf_X8_typed (hx : p.tables.exec = Jvm.exec) (hb : c.code = cc) (hts : ∀ q ∈ Ts, q.before args s = true) (hown : s.vm.findClass own = some m.cls) (hW : sW w D Y A σ s H0 H locs) (hk : (0, 7, 0) ∈ kS w) (hin : ∀ q ∈ wsX80, q ∈ Ts) {index : Nat} (hlink : Cond.fieldLink own index "SoldStopsModel" "typed" "I" ∈ Ts) {v : Int32} (hdg : decode cc pc = .ok (.putfield index, 3)) (kk : ∀ (H1 : Heap) (locs1 : List Loc), sW w D Y A (sGu σ 23 0 v) s H0 H1 locs1 → W p l e R s m args below meth c H1 locs1 cells slots Q (F0 m (pc + 3) ls rest)) : W p l e R s m args below meth c H locs cells slots Q (F0 m pc ls (.int v :: .ref (A 0 7 0) :: rest)) :=
  rp (ty := .int) hx hb hts hown hW hk hin tyX8 tyX8_ok nmX8 rfl 12 (by decide) hlink rfl (by decide +kernel) rfl rfl (by simp [cO]) (by simp [cO, sG, sGu, sL]) (cgf_X8_typed rfl) hdg kk
theorem gf_X8_readAt (hx : p.tables.exec = Jvm.exec) (hb : c.code = cc) (hts : ∀ q ∈ Ts, q.before args s = true) (hown : s.vm.findClass own = some m.cls) (hW : sW w D Y A σ s H0 H locs) (hk : (0, 7, 0) ∈ kS w) (hin : ∀ q ∈ wsX80, q ∈ Ts) {index : Nat} (hlink : Cond.fieldLink own index "SoldStopsModel" "readAt" "I" ∈ Ts) (hdg : decode cc pc = .ok (.getfield index, 3)) (kk : W p l e R s m args below meth c H locs cells slots Q (F0 m (pc + 3) ls (.int (sG σ 24 0) :: rest))) : W p l e R s m args below meth c H locs cells slots Q (F0 m pc ls (.ref (A 0 7 0) :: rest)) := rg hx hb hts hown hW hk hin rfl 13 (by decide) hlink rfl hdg kk
theorem cgf_X8_readAt {v : Int32} {o : Nat} (h0 : o = 0) : ∀ j ∈ kS w, j ≠ (0, 7, o) → cE Y A (sGu σ 24 o v) j = cE Y A σ j := cg_O (fun c' o' => match c' with
  | 0 => fun _ => rfl
  | 1 => fun _ => rfl
  | 2 => fun _ => rfl
  | 3 => fun _ => rfl
  | 4 => fun _ => rfl
  | 5 => fun _ => rfl
  | 6 => fun _ => rfl
  | 7 => fun h => by have h2 : ¬ o' = o := fun q => h ⟨rfl, q⟩; simp [cO, sG, sGu, sL, h2]
  | (_ + 8) => fun _ => rfl)
theorem pf_X8_readAt (hx : p.tables.exec = Jvm.exec) (hb : c.code = cc) (hts : ∀ q ∈ Ts, q.before args s = true) (hown : s.vm.findClass own = some m.cls) (hW : sW w D Y A σ s H0 H locs) (hk : (0, 7, 0) ∈ kS w) (hin : ∀ q ∈ wsX80, q ∈ Ts) {index : Nat} (hlink : Cond.fieldLink own index "SoldStopsModel" "readAt" "I" ∈ Ts) {v : Int32} (hdg : decode cc pc = .ok (.putfield index, 3)) (kk : ∀ (H1 : Heap) (locs1 : List Loc), sW w D Y A (sGu σ 24 0 v) s H0 H1 locs1 → W p l e R s m args below meth c H1 locs1 cells slots Q (F0 m (pc + 3) ls rest)) : W p l e R s m args below meth c H locs cells slots Q (F0 m pc ls (.int v :: .ref (A 0 7 0) :: rest)) :=
  rp (ty := .int) hx hb hts hown hW hk hin tyX8 tyX8_ok nmX8 rfl 13 (by decide) hlink rfl (by decide +kernel) rfl rfl (by simp [cO]) (by simp [cO, sG, sGu, sL]) (cgf_X8_readAt rfl) hdg kk
theorem gf_X8_readNumber (hx : p.tables.exec = Jvm.exec) (hb : c.code = cc) (hts : ∀ q ∈ Ts, q.before args s = true) (hown : s.vm.findClass own = some m.cls) (hW : sW w D Y A σ s H0 H locs) (hk : (0, 7, 0) ∈ kS w) (hin : ∀ q ∈ wsX80, q ∈ Ts) {index : Nat} (hlink : Cond.fieldLink own index "SoldStopsModel" "readNumber" "I" ∈ Ts) (hdg : decode cc pc = .ok (.getfield index, 3)) (kk : W p l e R s m args below meth c H locs cells slots Q (F0 m (pc + 3) ls (.int (sG σ 25 0) :: rest))) : W p l e R s m args below meth c H locs cells slots Q (F0 m pc ls (.ref (A 0 7 0) :: rest)) := rg hx hb hts hown hW hk hin rfl 14 (by decide) hlink rfl hdg kk
theorem cgf_X8_readNumber {v : Int32} {o : Nat} (h0 : o = 0) : ∀ j ∈ kS w, j ≠ (0, 7, o) → cE Y A (sGu σ 25 o v) j = cE Y A σ j := cg_O (fun c' o' => match c' with
  | 0 => fun _ => rfl
  | 1 => fun _ => rfl
  | 2 => fun _ => rfl
  | 3 => fun _ => rfl
  | 4 => fun _ => rfl
  | 5 => fun _ => rfl
  | 6 => fun _ => rfl
  | 7 => fun h => by have h2 : ¬ o' = o := fun q => h ⟨rfl, q⟩; simp [cO, sG, sGu, sL, h2]
  | (_ + 8) => fun _ => rfl)
theorem pf_X8_readNumber (hx : p.tables.exec = Jvm.exec) (hb : c.code = cc) (hts : ∀ q ∈ Ts, q.before args s = true) (hown : s.vm.findClass own = some m.cls) (hW : sW w D Y A σ s H0 H locs) (hk : (0, 7, 0) ∈ kS w) (hin : ∀ q ∈ wsX80, q ∈ Ts) {index : Nat} (hlink : Cond.fieldLink own index "SoldStopsModel" "readNumber" "I" ∈ Ts) {v : Int32} (hdg : decode cc pc = .ok (.putfield index, 3)) (kk : ∀ (H1 : Heap) (locs1 : List Loc), sW w D Y A (sGu σ 25 0 v) s H0 H1 locs1 → W p l e R s m args below meth c H1 locs1 cells slots Q (F0 m (pc + 3) ls rest)) : W p l e R s m args below meth c H locs cells slots Q (F0 m pc ls (.int v :: .ref (A 0 7 0) :: rest)) :=
  rp (ty := .int) hx hb hts hown hW hk hin tyX8 tyX8_ok nmX8 rfl 14 (by decide) hlink rfl (by decide +kernel) rfl rfl (by simp [cO]) (by simp [cO, sG, sGu, sL]) (cgf_X8_readNumber rfl) hdg kk
theorem gf_X8_itemMany (hx : p.tables.exec = Jvm.exec) (hb : c.code = cc) (hts : ∀ q ∈ Ts, q.before args s = true) (hown : s.vm.findClass own = some m.cls) (hW : sW w D Y A σ s H0 H locs) (hk : (0, 7, 0) ∈ kS w) (hin : ∀ q ∈ wsX80, q ∈ Ts) {index : Nat} (hlink : Cond.fieldLink own index "SoldStopsModel" "itemMany" "I" ∈ Ts) (hdg : decode cc pc = .ok (.getfield index, 3)) (kk : W p l e R s m args below meth c H locs cells slots Q (F0 m (pc + 3) ls (.int (sG σ 26 0) :: rest))) : W p l e R s m args below meth c H locs cells slots Q (F0 m pc ls (.ref (A 0 7 0) :: rest)) := rg hx hb hts hown hW hk hin rfl 15 (by decide) hlink rfl hdg kk
theorem cgf_X8_itemMany {v : Int32} {o : Nat} (h0 : o = 0) : ∀ j ∈ kS w, j ≠ (0, 7, o) → cE Y A (sGu σ 26 o v) j = cE Y A σ j := cg_O (fun c' o' => match c' with
  | 0 => fun _ => rfl
  | 1 => fun _ => rfl
  | 2 => fun _ => rfl
  | 3 => fun _ => rfl
  | 4 => fun _ => rfl
  | 5 => fun _ => rfl
  | 6 => fun _ => rfl
  | 7 => fun h => by have h2 : ¬ o' = o := fun q => h ⟨rfl, q⟩; simp [cO, sG, sGu, sL, h2]
  | (_ + 8) => fun _ => rfl)
theorem pf_X8_itemMany (hx : p.tables.exec = Jvm.exec) (hb : c.code = cc) (hts : ∀ q ∈ Ts, q.before args s = true) (hown : s.vm.findClass own = some m.cls) (hW : sW w D Y A σ s H0 H locs) (hk : (0, 7, 0) ∈ kS w) (hin : ∀ q ∈ wsX80, q ∈ Ts) {index : Nat} (hlink : Cond.fieldLink own index "SoldStopsModel" "itemMany" "I" ∈ Ts) {v : Int32} (hdg : decode cc pc = .ok (.putfield index, 3)) (kk : ∀ (H1 : Heap) (locs1 : List Loc), sW w D Y A (sGu σ 26 0 v) s H0 H1 locs1 → W p l e R s m args below meth c H1 locs1 cells slots Q (F0 m (pc + 3) ls rest)) : W p l e R s m args below meth c H locs cells slots Q (F0 m pc ls (.int v :: .ref (A 0 7 0) :: rest)) :=
  rp (ty := .int) hx hb hts hown hW hk hin tyX8 tyX8_ok nmX8 rfl 15 (by decide) hlink rfl (by decide +kernel) rfl rfl (by simp [cO]) (by simp [cO, sG, sGu, sL]) (cgf_X8_itemMany rfl) hdg kk
theorem gf_X8_items (hx : p.tables.exec = Jvm.exec) (hb : c.code = cc) (hts : ∀ q ∈ Ts, q.before args s = true) (hown : s.vm.findClass own = some m.cls) (hW : sW w D Y A σ s H0 H locs) (hk : (0, 7, 0) ∈ kS w) (hin : ∀ q ∈ wsX80, q ∈ Ts) {index : Nat} (hlink : Cond.fieldLink own index "SoldStopsModel" "items" "[I" ∈ Ts) (hdg : decode cc pc = .ok (.getfield index, 3)) (kk : W p l e R s m args below meth c H locs cells slots Q (F0 m (pc + 3) ls (.ref (A 1 22 0) :: rest))) : W p l e R s m args below meth c H locs cells slots Q (F0 m pc ls (.ref (A 0 7 0) :: rest)) := rg hx hb hts hown hW hk hin rfl 16 (by decide) hlink rfl hdg kk
theorem gf_X8_ahead (hx : p.tables.exec = Jvm.exec) (hb : c.code = cc) (hts : ∀ q ∈ Ts, q.before args s = true) (hown : s.vm.findClass own = some m.cls) (hW : sW w D Y A σ s H0 H locs) (hk : (0, 7, 0) ∈ kS w) (hin : ∀ q ∈ wsX80, q ∈ Ts) {index : Nat} (hlink : Cond.fieldLink own index "SoldStopsModel" "ahead" "[I" ∈ Ts) (hdg : decode cc pc = .ok (.getfield index, 3)) (kk : W p l e R s m args below meth c H locs cells slots Q (F0 m (pc + 3) ls (.ref (A 1 23 0) :: rest))) : W p l e R s m args below meth c H locs cells slots Q (F0 m pc ls (.ref (A 0 7 0) :: rest)) := rg hx hb hts hown hW hk hin rfl 17 (by decide) hlink rfl hdg kk
theorem gf_X8_undoMany (hx : p.tables.exec = Jvm.exec) (hb : c.code = cc) (hts : ∀ q ∈ Ts, q.before args s = true) (hown : s.vm.findClass own = some m.cls) (hW : sW w D Y A σ s H0 H locs) (hk : (0, 7, 0) ∈ kS w) (hin : ∀ q ∈ wsX80, q ∈ Ts) {index : Nat} (hlink : Cond.fieldLink own index "SoldStopsModel" "undoMany" "I" ∈ Ts) (hdg : decode cc pc = .ok (.getfield index, 3)) (kk : W p l e R s m args below meth c H locs cells slots Q (F0 m (pc + 3) ls (.int (sG σ 27 0) :: rest))) : W p l e R s m args below meth c H locs cells slots Q (F0 m pc ls (.ref (A 0 7 0) :: rest)) := rg hx hb hts hown hW hk hin rfl 18 (by decide) hlink rfl hdg kk
theorem cgf_X8_undoMany {v : Int32} {o : Nat} (h0 : o = 0) : ∀ j ∈ kS w, j ≠ (0, 7, o) → cE Y A (sGu σ 27 o v) j = cE Y A σ j := cg_O (fun c' o' => match c' with
  | 0 => fun _ => rfl
  | 1 => fun _ => rfl
  | 2 => fun _ => rfl
  | 3 => fun _ => rfl
  | 4 => fun _ => rfl
  | 5 => fun _ => rfl
  | 6 => fun _ => rfl
  | 7 => fun h => by have h2 : ¬ o' = o := fun q => h ⟨rfl, q⟩; simp [cO, sG, sGu, sL, h2]
  | (_ + 8) => fun _ => rfl)
theorem pf_X8_undoMany (hx : p.tables.exec = Jvm.exec) (hb : c.code = cc) (hts : ∀ q ∈ Ts, q.before args s = true) (hown : s.vm.findClass own = some m.cls) (hW : sW w D Y A σ s H0 H locs) (hk : (0, 7, 0) ∈ kS w) (hin : ∀ q ∈ wsX80, q ∈ Ts) {index : Nat} (hlink : Cond.fieldLink own index "SoldStopsModel" "undoMany" "I" ∈ Ts) {v : Int32} (hdg : decode cc pc = .ok (.putfield index, 3)) (kk : ∀ (H1 : Heap) (locs1 : List Loc), sW w D Y A (sGu σ 27 0 v) s H0 H1 locs1 → W p l e R s m args below meth c H1 locs1 cells slots Q (F0 m (pc + 3) ls rest)) : W p l e R s m args below meth c H locs cells slots Q (F0 m pc ls (.int v :: .ref (A 0 7 0) :: rest)) :=
  rp (ty := .int) hx hb hts hown hW hk hin tyX8 tyX8_ok nmX8 rfl 18 (by decide) hlink rfl (by decide +kernel) rfl rfl (by simp [cO]) (by simp [cO, sG, sGu, sL]) (cgf_X8_undoMany rfl) hdg kk
theorem gf_X8_least (hx : p.tables.exec = Jvm.exec) (hb : c.code = cc) (hts : ∀ q ∈ Ts, q.before args s = true) (hown : s.vm.findClass own = some m.cls) (hW : sW w D Y A σ s H0 H locs) (hk : (0, 7, 0) ∈ kS w) (hin : ∀ q ∈ wsX80, q ∈ Ts) {index : Nat} (hlink : Cond.fieldLink own index "SoldStopsModel" "least" "[I" ∈ Ts) (hdg : decode cc pc = .ok (.getfield index, 3)) (kk : W p l e R s m args below meth c H locs cells slots Q (F0 m (pc + 3) ls (.ref (A 1 24 0) :: rest))) : W p l e R s m args below meth c H locs cells slots Q (F0 m pc ls (.ref (A 0 7 0) :: rest)) := rg hx hb hts hown hW hk hin rfl 19 (by decide) hlink rfl hdg kk
theorem gf_X8_bought (hx : p.tables.exec = Jvm.exec) (hb : c.code = cc) (hts : ∀ q ∈ Ts, q.before args s = true) (hown : s.vm.findClass own = some m.cls) (hW : sW w D Y A σ s H0 H locs) (hk : (0, 7, 0) ∈ kS w) (hin : ∀ q ∈ wsX80, q ∈ Ts) {index : Nat} (hlink : Cond.fieldLink own index "SoldStopsModel" "bought" "[I" ∈ Ts) (hdg : decode cc pc = .ok (.getfield index, 3)) (kk : W p l e R s m args below meth c H locs cells slots Q (F0 m (pc + 3) ls (.ref (A 1 25 0) :: rest))) : W p l e R s m args below meth c H locs cells slots Q (F0 m pc ls (.ref (A 0 7 0) :: rest)) := rg hx hb hts hown hW hk hin rfl 20 (by decide) hlink rfl hdg kk
theorem gf_X8_paid (hx : p.tables.exec = Jvm.exec) (hb : c.code = cc) (hts : ∀ q ∈ Ts, q.before args s = true) (hown : s.vm.findClass own = some m.cls) (hW : sW w D Y A σ s H0 H locs) (hk : (0, 7, 0) ∈ kS w) (hin : ∀ q ∈ wsX80, q ∈ Ts) {index : Nat} (hlink : Cond.fieldLink own index "SoldStopsModel" "paid" "[I" ∈ Ts) (hdg : decode cc pc = .ok (.getfield index, 3)) (kk : W p l e R s m args below meth c H locs cells slots Q (F0 m (pc + 3) ls (.ref (A 1 26 0) :: rest))) : W p l e R s m args below meth c H locs cells slots Q (F0 m pc ls (.ref (A 0 7 0) :: rest)) := rg hx hb hts hown hW hk hin rfl 21 (by decide) hlink rfl hdg kk
theorem gf_X8_then (hx : p.tables.exec = Jvm.exec) (hb : c.code = cc) (hts : ∀ q ∈ Ts, q.before args s = true) (hown : s.vm.findClass own = some m.cls) (hW : sW w D Y A σ s H0 H locs) (hk : (0, 7, 0) ∈ kS w) (hin : ∀ q ∈ wsX80, q ∈ Ts) {index : Nat} (hlink : Cond.fieldLink own index "SoldStopsModel" "then" "[I" ∈ Ts) (hdg : decode cc pc = .ok (.getfield index, 3)) (kk : W p l e R s m args below meth c H locs cells slots Q (F0 m (pc + 3) ls (.ref (A 1 27 0) :: rest))) : W p l e R s m args below meth c H locs cells slots Q (F0 m pc ls (.ref (A 0 7 0) :: rest)) := rg hx hb hts hown hW hk hin rfl 22 (by decide) hlink rfl hdg kk
theorem gf_X8_line (hx : p.tables.exec = Jvm.exec) (hb : c.code = cc) (hts : ∀ q ∈ Ts, q.before args s = true) (hown : s.vm.findClass own = some m.cls) (hW : sW w D Y A σ s H0 H locs) (hk : (0, 7, 0) ∈ kS w) (hin : ∀ q ∈ wsX80, q ∈ Ts) {index : Nat} (hlink : Cond.fieldLink own index "SoldStopsModel" "line" "[I" ∈ Ts) (hdg : decode cc pc = .ok (.getfield index, 3)) (kk : W p l e R s m args below meth c H locs cells slots Q (F0 m (pc + 3) ls (.ref (A 1 28 0) :: rest))) : W p l e R s m args below meth c H locs cells slots Q (F0 m pc ls (.ref (A 0 7 0) :: rest)) := rg hx hb hts hown hW hk hin rfl 23 (by decide) hlink rfl hdg kk
theorem gf_X8_bestLine (hx : p.tables.exec = Jvm.exec) (hb : c.code = cc) (hts : ∀ q ∈ Ts, q.before args s = true) (hown : s.vm.findClass own = some m.cls) (hW : sW w D Y A σ s H0 H locs) (hk : (0, 7, 0) ∈ kS w) (hin : ∀ q ∈ wsX80, q ∈ Ts) {index : Nat} (hlink : Cond.fieldLink own index "SoldStopsModel" "bestLine" "[I" ∈ Ts) (hdg : decode cc pc = .ok (.getfield index, 3)) (kk : W p l e R s m args below meth c H locs cells slots Q (F0 m (pc + 3) ls (.ref (A 1 29 0) :: rest))) : W p l e R s m args below meth c H locs cells slots Q (F0 m pc ls (.ref (A 0 7 0) :: rest)) := rg hx hb hts hown hW hk hin rfl 24 (by decide) hlink rfl hdg kk
theorem gf_X8_groups (hx : p.tables.exec = Jvm.exec) (hb : c.code = cc) (hts : ∀ q ∈ Ts, q.before args s = true) (hown : s.vm.findClass own = some m.cls) (hW : sW w D Y A σ s H0 H locs) (hk : (0, 7, 0) ∈ kS w) (hin : ∀ q ∈ wsX80, q ∈ Ts) {index : Nat} (hlink : Cond.fieldLink own index "SoldStopsModel" "groups" "[I" ∈ Ts) (hdg : decode cc pc = .ok (.getfield index, 3)) (kk : W p l e R s m args below meth c H locs cells slots Q (F0 m (pc + 3) ls (.ref (A 1 30 0) :: rest))) : W p l e R s m args below meth c H locs cells slots Q (F0 m pc ls (.ref (A 0 7 0) :: rest)) := rg hx hb hts hown hW hk hin rfl 25 (by decide) hlink rfl hdg kk
theorem gf_X8_above (hx : p.tables.exec = Jvm.exec) (hb : c.code = cc) (hts : ∀ q ∈ Ts, q.before args s = true) (hown : s.vm.findClass own = some m.cls) (hW : sW w D Y A σ s H0 H locs) (hk : (0, 7, 0) ∈ kS w) (hin : ∀ q ∈ wsX80, q ∈ Ts) {index : Nat} (hlink : Cond.fieldLink own index "SoldStopsModel" "above" "J" ∈ Ts) (hdg : decode cc pc = .ok (.getfield index, 3)) (kk : W p l e R s m args below meth c H locs cells slots Q (F0 m (pc + 3) ls (.long (sL σ 2) :: rest))) : W p l e R s m args below meth c H locs cells slots Q (F0 m pc ls (.ref (A 0 7 0) :: rest)) := rg hx hb hts hown hW hk hin rfl 26 (by decide) hlink rfl hdg kk
theorem pf_X8_above (hx : p.tables.exec = Jvm.exec) (hb : c.code = cc) (hts : ∀ q ∈ Ts, q.before args s = true) (hown : s.vm.findClass own = some m.cls) (hW : sW w D Y A σ s H0 H locs) (hk : (0, 7, 0) ∈ kS w) (hin : ∀ q ∈ wsX80, q ∈ Ts) {index : Nat} (hlink : Cond.fieldLink own index "SoldStopsModel" "above" "J" ∈ Ts) {v : Int64} (hdg : decode cc pc = .ok (.putfield index, 3)) (kk : ∀ (H1 : Heap) (locs1 : List Loc), sW w D Y A (sLu σ 2 v) s H0 H1 locs1 → W p l e R s m args below meth c H1 locs1 cells slots Q (F0 m (pc + 3) ls rest)) : W p l e R s m args below meth c H locs cells slots Q (F0 m pc ls (.long v :: .ref (A 0 7 0) :: rest)) :=
  rp (ty := .long) hx hb hts hown hW hk hin tyX8 tyX8_ok nmX8 rfl 26 (by decide) hlink rfl (by decide +kernel) rfl rfl (by simp [cO]) (by simp [cO, sL, sLu, sG]) (cg_J (fun c' o' => match c' with
  | 0 => fun h => rfl
  | 1 => fun h => rfl
  | 2 => fun h => rfl
  | 3 => fun h => rfl
  | 4 => fun h => rfl
  | 5 => fun h => rfl
  | 6 => fun h => rfl
  | 7 => fun h => absurd rfl h
  | (_ + 8) => fun _ => rfl) (fun o h => o1 h (by decide))) hdg kk
theorem gf_X8_below (hx : p.tables.exec = Jvm.exec) (hb : c.code = cc) (hts : ∀ q ∈ Ts, q.before args s = true) (hown : s.vm.findClass own = some m.cls) (hW : sW w D Y A σ s H0 H locs) (hk : (0, 7, 0) ∈ kS w) (hin : ∀ q ∈ wsX80, q ∈ Ts) {index : Nat} (hlink : Cond.fieldLink own index "SoldStopsModel" "below" "J" ∈ Ts) (hdg : decode cc pc = .ok (.getfield index, 3)) (kk : W p l e R s m args below meth c H locs cells slots Q (F0 m (pc + 3) ls (.long (sL σ 3) :: rest))) : W p l e R s m args below meth c H locs cells slots Q (F0 m pc ls (.ref (A 0 7 0) :: rest)) := rg hx hb hts hown hW hk hin rfl 27 (by decide) hlink rfl hdg kk
theorem pf_X8_below (hx : p.tables.exec = Jvm.exec) (hb : c.code = cc) (hts : ∀ q ∈ Ts, q.before args s = true) (hown : s.vm.findClass own = some m.cls) (hW : sW w D Y A σ s H0 H locs) (hk : (0, 7, 0) ∈ kS w) (hin : ∀ q ∈ wsX80, q ∈ Ts) {index : Nat} (hlink : Cond.fieldLink own index "SoldStopsModel" "below" "J" ∈ Ts) {v : Int64} (hdg : decode cc pc = .ok (.putfield index, 3)) (kk : ∀ (H1 : Heap) (locs1 : List Loc), sW w D Y A (sLu σ 3 v) s H0 H1 locs1 → W p l e R s m args below meth c H1 locs1 cells slots Q (F0 m (pc + 3) ls rest)) : W p l e R s m args below meth c H locs cells slots Q (F0 m pc ls (.long v :: .ref (A 0 7 0) :: rest)) :=
  rp (ty := .long) hx hb hts hown hW hk hin tyX8 tyX8_ok nmX8 rfl 27 (by decide) hlink rfl (by decide +kernel) rfl rfl (by simp [cO]) (by simp [cO, sL, sLu, sG]) (cg_J (fun c' o' => match c' with
  | 0 => fun h => rfl
  | 1 => fun h => rfl
  | 2 => fun h => rfl
  | 3 => fun h => rfl
  | 4 => fun h => rfl
  | 5 => fun h => rfl
  | 6 => fun h => rfl
  | 7 => fun h => absurd rfl h
  | (_ + 8) => fun _ => rfl) (fun o h => o1 h (by decide))) hdg kk
theorem gf_X8_ways (hx : p.tables.exec = Jvm.exec) (hb : c.code = cc) (hts : ∀ q ∈ Ts, q.before args s = true) (hown : s.vm.findClass own = some m.cls) (hW : sW w D Y A σ s H0 H locs) (hk : (0, 7, 0) ∈ kS w) (hin : ∀ q ∈ wsX80, q ∈ Ts) {index : Nat} (hlink : Cond.fieldLink own index "SoldStopsModel" "ways" "[J" ∈ Ts) (hdg : decode cc pc = .ok (.getfield index, 3)) (kk : W p l e R s m args below meth c H locs cells slots Q (F0 m (pc + 3) ls (.ref (A 3 2 0) :: rest))) : W p l e R s m args below meth c H locs cells slots Q (F0 m pc ls (.ref (A 0 7 0) :: rest)) := rg hx hb hts hown hW hk hin rfl 28 (by decide) hlink rfl hdg kk
theorem gf_X8_waysThen (hx : p.tables.exec = Jvm.exec) (hb : c.code = cc) (hts : ∀ q ∈ Ts, q.before args s = true) (hown : s.vm.findClass own = some m.cls) (hW : sW w D Y A σ s H0 H locs) (hk : (0, 7, 0) ∈ kS w) (hin : ∀ q ∈ wsX80, q ∈ Ts) {index : Nat} (hlink : Cond.fieldLink own index "SoldStopsModel" "waysThen" "[J" ∈ Ts) (hdg : decode cc pc = .ok (.getfield index, 3)) (kk : W p l e R s m args below meth c H locs cells slots Q (F0 m (pc + 3) ls (.ref (A 3 3 0) :: rest))) : W p l e R s m args below meth c H locs cells slots Q (F0 m pc ls (.ref (A 0 7 0) :: rest)) := rg hx hb hts hown hW hk hin rfl 29 (by decide) hlink rfl hdg kk
theorem gf_X8_images (hx : p.tables.exec = Jvm.exec) (hb : c.code = cc) (hts : ∀ q ∈ Ts, q.before args s = true) (hown : s.vm.findClass own = some m.cls) (hW : sW w D Y A σ s H0 H locs) (hk : (0, 7, 0) ∈ kS w) (hin : ∀ q ∈ wsX80, q ∈ Ts) {index : Nat} (hlink : Cond.fieldLink own index "SoldStopsModel" "images" "[I" ∈ Ts) (hdg : decode cc pc = .ok (.getfield index, 3)) (kk : W p l e R s m args below meth c H locs cells slots Q (F0 m (pc + 3) ls (.ref (A 1 31 0) :: rest))) : W p l e R s m args below meth c H locs cells slots Q (F0 m pc ls (.ref (A 0 7 0) :: rest)) := rg hx hb hts hown hW hk hin rfl 30 (by decide) hlink rfl hdg kk
theorem gf_X8_h0 (hx : p.tables.exec = Jvm.exec) (hb : c.code = cc) (hts : ∀ q ∈ Ts, q.before args s = true) (hown : s.vm.findClass own = some m.cls) (hW : sW w D Y A σ s H0 H locs) (hk : (0, 7, 0) ∈ kS w) (hin : ∀ q ∈ wsX80, q ∈ Ts) {index : Nat} (hlink : Cond.fieldLink own index "SoldStopsModel" "h0" "J" ∈ Ts) (hdg : decode cc pc = .ok (.getfield index, 3)) (kk : W p l e R s m args below meth c H locs cells slots Q (F0 m (pc + 3) ls (.long (sL σ 4) :: rest))) : W p l e R s m args below meth c H locs cells slots Q (F0 m pc ls (.ref (A 0 7 0) :: rest)) := rg hx hb hts hown hW hk hin rfl 31 (by decide) hlink rfl hdg kk
theorem pf_X8_h0 (hx : p.tables.exec = Jvm.exec) (hb : c.code = cc) (hts : ∀ q ∈ Ts, q.before args s = true) (hown : s.vm.findClass own = some m.cls) (hW : sW w D Y A σ s H0 H locs) (hk : (0, 7, 0) ∈ kS w) (hin : ∀ q ∈ wsX80, q ∈ Ts) {index : Nat} (hlink : Cond.fieldLink own index "SoldStopsModel" "h0" "J" ∈ Ts) {v : Int64} (hdg : decode cc pc = .ok (.putfield index, 3)) (kk : ∀ (H1 : Heap) (locs1 : List Loc), sW w D Y A (sLu σ 4 v) s H0 H1 locs1 → W p l e R s m args below meth c H1 locs1 cells slots Q (F0 m (pc + 3) ls rest)) : W p l e R s m args below meth c H locs cells slots Q (F0 m pc ls (.long v :: .ref (A 0 7 0) :: rest)) :=
  rp (ty := .long) hx hb hts hown hW hk hin tyX8 tyX8_ok nmX8 rfl 31 (by decide) hlink rfl (by decide +kernel) rfl rfl (by simp [cO]) (by simp [cO, sL, sLu, sG]) (cg_J (fun c' o' => match c' with
  | 0 => fun h => rfl
  | 1 => fun h => rfl
  | 2 => fun h => rfl
  | 3 => fun h => rfl
  | 4 => fun h => rfl
  | 5 => fun h => rfl
  | 6 => fun h => rfl
  | 7 => fun h => absurd rfl h
  | (_ + 8) => fun _ => rfl) (fun o h => o1 h (by decide))) hdg kk
theorem ra_i (hx : p.tables.exec = Jvm.exec) (hb : c.code = cc) (hW : sW w D Y A σ s H0 H locs) {k o : Nat} (hk : (1, k, o) ∈ kS w) {i : Int32} (hg : gd i (alen k) = true) (hdg : decode cc pc = .ok (.iaload, 1)) (kk : W p l e R s m args below meth c H locs cells slots Q (F0 m (pc + 1) ls (.int (sA σ k o i.toNatClampNeg) :: rest))) : W p l e R s m args below meth c H locs cells slots Q (F0 m pc ls (.int i :: .ref (A 1 k o) :: rest)) := by
  obtain ⟨q0, -, hq⟩ := ws_at (Y := Y) (A := A) σ hk
  exact va_iald hx hb hW.2.1 hW.2.2.1 q0 0 hq rfl (gd_in hg) hdg kk
theorem rs_i (hx : p.tables.exec = Jvm.exec) (hb : c.code = cc) (hW : sW w D Y A σ s H0 H locs) {k o : Nat} (hk : (1, k, o) ∈ kS w) {i v : Int32} (hg : gd i (alen k) = true) (hdg : decode cc pc = .ok (.iastore, 1)) (kk : ∀ (H1 : Heap) (locs1 : List Loc), sW w D Y A (sAu σ k o (upd (sA σ k o) i.toNatClampNeg v)) s H0 H1 locs1 → W p l e R s m args below meth c H1 locs1 cells slots Q (F0 m (pc + 1) ls rest)) : W p l e R s m args below meth c H locs cells slots Q (F0 m pc ls (.int v :: .int i :: .ref (A 1 k o) :: rest)) := by
  obtain ⟨q0, hqk, hq⟩ := ws_at (Y := Y) (A := A) σ hk
  refine va_iast hx hb hW.2.1 hW.2.2.1 (ws_D hW.1 Y σ) hW.2.2.2.1 q0 0 hq rfl (gd_in hg) hdg (fun H1 locs1 hP hD hS => kk H1 locs1 ⟨hW.1, hW.2.1, ?_, hS, hW.2.2.2.2⟩)
  rw [← ws_put (σ' := sAu σ k o (upd (sA σ k o) i.toNatClampNeg v)) hW.1.1 hqk rfl (cg_A hk _)]
  simpa [cE, cR, sAu, sA] using hP
theorem ra_z (hx : p.tables.exec = Jvm.exec) (hb : c.code = cc) (hW : sW w D Y A σ s H0 H locs) {k o : Nat} (hk : (2, k, o) ∈ kS w) {i : Int32} (hg : gd i (zlen k) = true) (hdg : decode cc pc = .ok (.baload, 1)) (kk : W p l e R s m args below meth c H locs cells slots Q (F0 m (pc + 1) ls (.int (sA σ (k + 100) o i.toNatClampNeg) :: rest))) : W p l e R s m args below meth c H locs cells slots Q (F0 m pc ls (.int i :: .ref (A 2 k o) :: rest)) := by
  obtain ⟨q0, -, hq⟩ := ws_at (Y := Y) (A := A) σ hk
  exact va_zald hx hb hW.2.1 hW.2.2.1 q0 2 hq rfl (gd_in hg) hdg kk
theorem rs_z (hx : p.tables.exec = Jvm.exec) (hb : c.code = cc) (hW : sW w D Y A σ s H0 H locs) {k o : Nat} (hk : (2, k, o) ∈ kS w) {i v : Int32} (hg : gd i (zlen k) = true) (hv : vp_nar .boolean v = v) (hdg : decode cc pc = .ok (.bastore, 1)) (kk : ∀ (H1 : Heap) (locs1 : List Loc), sW w D Y A (sAu σ (k + 100) o (upd (sA σ (k + 100) o) i.toNatClampNeg v)) s H0 H1 locs1 → W p l e R s m args below meth c H1 locs1 cells slots Q (F0 m (pc + 1) ls rest)) : W p l e R s m args below meth c H locs cells slots Q (F0 m pc ls (.int v :: .int i :: .ref (A 2 k o) :: rest)) := by
  obtain ⟨q0, hqk, hq⟩ := ws_at (Y := Y) (A := A) σ hk
  refine va_zast hx hb hW.2.1 hW.2.2.1 (ws_D hW.1 Y σ) hW.2.2.2.1 q0 2 hq rfl (gd_in hg) hdg (fun H1 locs1 hP hD hS => kk H1 locs1 ⟨hW.1, hW.2.1, ?_, hS, hW.2.2.2.2⟩)
  rw [hv] at hP
  rw [← ws_put (σ' := sAu σ (k + 100) o (upd (sA σ (k + 100) o) i.toNatClampNeg v)) hW.1.1 hqk rfl (cg_Z _)]
  simpa [cE, cR, sAu, sA] using hP
theorem ra_l (hx : p.tables.exec = Jvm.exec) (hb : c.code = cc) (hW : sW w D Y A σ s H0 H locs) {k : Nat} (hk : (3, k, 0) ∈ kS w) {i : Int32} (hg : gd i 31 = true) (hdg : decode cc pc = .ok (.laload, 1)) (kk : W p l e R s m args below meth c H locs cells slots Q (F0 m (pc + 1) ls (.long (sB σ k i.toNatClampNeg) :: rest))) : W p l e R s m args below meth c H locs cells slots Q (F0 m pc ls (.int i :: .ref (A 3 k 0) :: rest)) := by
  obtain ⟨q0, -, hq⟩ := ws_at (Y := Y) (A := A) σ hk
  exact va_lald hx hb hW.2.1 hW.2.2.1 q0 1 hq rfl (gd_in hg) hdg kk
theorem rs_l (hx : p.tables.exec = Jvm.exec) (hb : c.code = cc) (hW : sW w D Y A σ s H0 H locs) {k : Nat} (hk : (3, k, 0) ∈ kS w) {i : Int32} {v : Int64} (hg : gd i 31 = true) (hdg : decode cc pc = .ok (.lastore, 1)) (kk : ∀ (H1 : Heap) (locs1 : List Loc), sW w D Y A (sBu σ k (vp_updL (sB σ k) i.toNatClampNeg v)) s H0 H1 locs1 → W p l e R s m args below meth c H1 locs1 cells slots Q (F0 m (pc + 1) ls rest)) : W p l e R s m args below meth c H locs cells slots Q (F0 m pc ls (.long v :: .int i :: .ref (A 3 k 0) :: rest)) := by
  obtain ⟨q0, hqk, hq⟩ := ws_at (Y := Y) (A := A) σ hk
  refine va_last hx hb hW.2.1 hW.2.2.1 (ws_D hW.1 Y σ) hW.2.2.2.1 q0 1 hq rfl (gd_in hg) hdg (fun H1 locs1 hP hD hS => kk H1 locs1 ⟨hW.1, hW.2.1, ?_, hS, hW.2.2.2.2⟩)
  rw [← ws_put (σ' := sBu σ k (vp_updL (sB σ k) i.toNatClampNeg v)) hW.1.1 hqk rfl (cg_L _)]
  simpa [cE, cR, sBu, sB] using hP
theorem rl_i (hx : p.tables.exec = Jvm.exec) (hb : c.code = cc) (hW : sW w D Y A σ s H0 H locs) {k o : Nat} (hk : (1, k, o) ∈ kS w) {v : Int32} (hv : Int32.ofNat (alen k) = v) (hdg : decode cc pc = .ok (.arraylength, 1)) (kk : W p l e R s m args below meth c H locs cells slots Q (F0 m (pc + 1) ls (.int v :: rest))) : W p l e R s m args below meth c H locs cells slots Q (F0 m pc ls (.ref (A 1 k o) :: rest)) := by
  obtain ⟨q0, -, hq⟩ := ws_at (Y := Y) (A := A) σ hk
  exact va_alen hx hb hW.2.1 hW.2.2.1 q0 0 hq (ty := .int) rfl hv hdg kk
theorem rl_l (hx : p.tables.exec = Jvm.exec) (hb : c.code = cc) (hW : sW w D Y A σ s H0 H locs) {k : Nat} (hk : (3, k, 0) ∈ kS w) (hdg : decode cc pc = .ok (.arraylength, 1)) (kk : W p l e R s m args below meth c H locs cells slots Q (F0 m (pc + 1) ls (.int 31 :: rest))) : W p l e R s m args below meth c H locs cells slots Q (F0 m pc ls (.ref (A 3 k 0) :: rest)) := by
  obtain ⟨q0, -, hq⟩ := ws_at (Y := Y) (A := A) σ hk
  exact va_alen hx hb hW.2.1 hW.2.2.1 q0 1 hq (ty := .long) rfl rfl hdg kk
/-- a mark's object out of what may be undone -/
theorem ra_q (hx : p.tables.exec = Jvm.exec) (hb : c.code = cc) (hW : sW w D Y A σ s H0 H locs) {o : Nat} (hk : (4, 0, o) ∈ kS w) {i : Int32} (hg : gd i 8 = true) (hdg : decode cc pc = .ok (.aaload, 1)) (kk : W p l e R s m args below meth c H locs cells slots Q (F0 m (pc + 1) ls (.ref (A 0 1 (sR σ o i.toNatClampNeg)) :: rest))) : W p l e R s m args below meth c H locs cells slots Q (F0 m pc ls (.int i :: .ref (A 4 0 o) :: rest)) := by
  obtain ⟨q0, -, hq⟩ := ws_at (Y := Y) (A := A) σ hk
  exact va_aldq hx hb hW.2.1 hW.2.2.1 q0 3 hq rfl (gd_in hg) hdg kk
theorem ra_p (hx : p.tables.exec = Jvm.exec) (hb : c.code = cc) (hW : sW w D Y A σ s H0 H locs) (hk : (4, 1, 0) ∈ kS w) {i : Int32} (hg : gd i 2 = true) (hdg : decode cc pc = .ok (.aaload, 1)) (kk : W p l e R s m args below meth c H locs cells slots Q (F0 m (pc + 1) ls (.ref (A 0 3 (2 + i.toNatClampNeg)) :: rest))) : W p l e R s m args below meth c H locs cells slots Q (F0 m pc ls (.int i :: .ref (A 4 1 0) :: rest)) := by
  obtain ⟨q0, -, hq⟩ := ws_at (Y := Y) (A := A) σ hk
  exact va_aldq hx hb hW.2.1 hW.2.2.1 q0 4 hq rfl (gd_in hg) hdg kk
theorem aldg {cl : List vw_C} {tys : List (ClassId × FieldType)} {ws : va_W} {a : Nat} (hx : p.tables.exec = Jvm.exec) (hb : c.code = cc) (hK : va_K D cl tys s) (hP : va_P D cl ws H) (q0 t0 : Nat) {cA : ClassId} {ty : FieldType} {n : Nat} {f : Nat → Option Nat} (ha : ws[q0]? = some (a, .inl (cA, n, .inr (.inr (.inr (.inr f)))))) (ht : tys[t0]? = some (cA, .array ty)) {i : Int32} (hin : vp_in i n) (hdg : decode cc pc = .ok (.aaload, 1))
    (kk : W p l e R s m args below meth c H locs cells slots Q (F0 m (pc + 1) ls (va_rf (f i.toNatClampNeg) :: rest))) : W p l e R s m args below meth c H locs cells slots Q (F0 m pc ls (.int i :: .ref a :: rest)) := by
  have hlt : i.toNatClampNeg < n := Nat.not_le.mp fun q => hin (Or.inr q)
  exact W.aald (v := va_rf (f i.toNatClampNeg)) (ty := .array ty) hx hb (hP q0 _ ha) ((hK.2 t0 _ ht).1 n (fun j => va_rf (f j))) rfl (fun q => by cases q) (by show ¬ (i < 0 ∨ (arrV _ _ _).slots.size ≤ _); rw [arrV_size]; exact hin) (by show (arrV _ _ _).slots[_]? = _; rw [arrV_read _ _ hlt]) rfl rfl hdg kk
theorem ra_g2 (hx : p.tables.exec = Jvm.exec) (hb : c.code = cc) (hW : sW w D Y A σ s H0 H locs) (hk : (4, 2, 0) ∈ kS w) {i : Int32} (hg : gd i 13 = true) (hdg : decode cc pc = .ok (.aaload, 1)) (kk : W p l e R s m args below meth c H locs cells slots Q (F0 m (pc + 1) ls (.ref (A 1 6 i.toNatClampNeg) :: rest))) : W p l e R s m args below meth c H locs cells slots Q (F0 m pc ls (.int i :: .ref (A 4 2 0) :: rest)) := by
  obtain ⟨q0, -, hq⟩ := ws_at (Y := Y) (A := A) σ hk
  exact aldg hx hb hW.2.1 hW.2.2.1 q0 5 hq rfl (gd_in hg) hdg kk
theorem ra_g3 (hx : p.tables.exec = Jvm.exec) (hb : c.code = cc) (hW : sW w D Y A σ s H0 H locs) (hk : (4, 3, 0) ∈ kS w) {i : Int32} (hg : gd i 13 = true) (hdg : decode cc pc = .ok (.aaload, 1)) (kk : W p l e R s m args below meth c H locs cells slots Q (F0 m (pc + 1) ls (.ref (A 1 7 i.toNatClampNeg) :: rest))) : W p l e R s m args below meth c H locs cells slots Q (F0 m pc ls (.int i :: .ref (A 4 3 0) :: rest)) := by
  obtain ⟨q0, -, hq⟩ := ws_at (Y := Y) (A := A) σ hk
  exact aldg hx hb hW.2.1 hW.2.2.1 q0 5 hq rfl (gd_in hg) hdg kk
theorem ra_g4 (hx : p.tables.exec = Jvm.exec) (hb : c.code = cc) (hW : sW w D Y A σ s H0 H locs) (hk : (4, 4, 0) ∈ kS w) {i : Int32} (hg : gd i 12 = true) (hdg : decode cc pc = .ok (.aaload, 1)) (kk : W p l e R s m args below meth c H locs cells slots Q (F0 m (pc + 1) ls (.ref (A 1 8 i.toNatClampNeg) :: rest))) : W p l e R s m args below meth c H locs cells slots Q (F0 m pc ls (.int i :: .ref (A 4 4 0) :: rest)) := by
  obtain ⟨q0, -, hq⟩ := ws_at (Y := Y) (A := A) σ hk
  exact aldg hx hb hW.2.1 hW.2.2.1 q0 5 hq rfl (gd_in hg) hdg kk
theorem rs_q (hx : p.tables.exec = Jvm.exec) (hb : c.code = cc) (hW : sW w D Y A σ s H0 H locs) {o k : Nat} (hk : (4, 0, o) ∈ kS w) (hv : (0, 1, k) ∈ kS w) {i : Int32} (hg : gd i 8 = true) (hdg : decode cc pc = .ok (.aastore, 1)) (kk : ∀ (H1 : Heap) (locs1 : List Loc), sW w D Y A (sRu σ o (sUp (sR σ o) i.toNatClampNeg k)) s H0 H1 locs1 → W p l e R s m args below meth c H1 locs1 cells slots Q (F0 m (pc + 1) ls rest)) : W p l e R s m args below meth c H locs cells slots Q (F0 m pc ls (.ref (A 0 1 k) :: .int i :: .ref (A 4 0 o) :: rest)) := by
  obtain ⟨q0, hqk, hq⟩ := ws_at (Y := Y) (A := A) σ hk
  obtain ⟨q1, -, hq1⟩ := ws_at (Y := Y) (A := A) σ hv
  refine va_astq hx hb hW.2.1 hW.2.2.1 (ws_D hW.1 Y σ) hW.2.2.2.1 q0 3 q1 1 hq (r := (RX2, TX2, 4)) rfl hq1 rfl (gd_in hg) hdg (fun H1 locs1 hP hD hS => kk H1 locs1 ⟨hW.1, hW.2.1, ?_, hS, hW.2.2.2.2⟩)
  rw [← ws_put (σ' := sRu σ o (sUp (sR σ o) i.toNatClampNeg k)) hW.1.1 hqk rfl (cg_R _)]
  have : va_up (fun j => some (A 0 1 (sR σ o j))) i.toNatClampNeg (some (A 0 1 k)) = fun j => some (A 0 1 (sUp (sR σ o) i.toNatClampNeg k j)) := by
    funext j
    unfold va_up sUp
    by_cases hj : j = i.toNatClampNeg
    · rw [if_pos hj, if_pos hj]
    · rw [if_neg hj, if_neg hj]
  have e2 : cE Y A (sRu σ o (sUp (sR σ o) i.toNatClampNeg k)) (4, 0, o) = .inl (Y 3, 8, .inr (.inr (.inr (.inr (va_up (fun j => some (A 0 1 (sR σ o j))) i.toNatClampNeg (some (A 0 1 k))))))) := by
    rw [this, cE_r _ _ _ (by decide)]
    simp [cR, sRu]
  rw [e2]
  exact hP
theorem rcp (hx : p.tables.exec = Jvm.exec) (hb : c.code = cc) (hts : ∀ q ∈ Ts, q.before args s = true) (hown : s.vm.findClass own = some m.cls) (hml : c.maxLocals = ls.size) {index : Nat} (hlink : Cond.methodLink own index arraycopyName ∈ Ts) (hnat : Cond.native arraycopyName ∈ Ts) (hstat : Cond.static arraycopyName ∈ Ts) (hini : Cond.initialized "java/lang/System" ∈ Ts) (hW : sW w D Y A σ s H0 H locs) {k o k1 o1 : Nat} (hk : (1, k, o) ∈ kS w) (hk1 : (1, k1, o1) ∈ kS w) {sp dp n : Int32} (hg : gdc sp dp n (alen k) (alen k1) = true) (hframes : 1 ≤ R.frames) (hlocals : (rest.map fun v => v.category).sum + (nativeFrameWords "java/lang/System" "arraycopy" 5 + 11) ≤ R.locals) (hdg : decode cc pc = .ok (.invokestatic index, 3)) (kk : ∀ (H1 : Heap) (locs1 : List Loc), sW w D Y A (sAu σ k1 o1 (va_cpy (sA σ k o) (sA σ k1 o1) sp.toNatClampNeg dp.toNatClampNeg n.toNatClampNeg)) s H0 H1 locs1 → W p l e R s m args below meth c H1 locs1 cells slots Q (F0 m (pc + 3) ls rest)) : W p l e R s m args below meth c H locs cells slots Q (F0 m pc ls (.int n :: .int dp :: .ref (A 1 k1 o1) :: .int sp :: .ref (A 1 k o) :: rest)) := by
  obtain ⟨q0, -, hq⟩ := ws_at (Y := Y) (A := A) σ hk
  obtain ⟨q1, hqk, hq1⟩ := ws_at (Y := Y) (A := A) σ hk1
  obtain ⟨g1, g2, g3, g4, g5⟩ := gdc_in hg
  refine va_copyi hx hb hml hown (hts _ hlink) (hts _ hnat) (hts _ hstat) (hts _ hini) hW.2.1 hW.2.2.1 (ws_D hW.1 Y σ) hW.2.2.2.1 q0 q1 0 0 hq hq1 (ty := .int) rfl rfl rfl g1 g2 g3 g4 g5 (fun i _ => rfl) hframes hlocals hdg (fun H1 locs1 hP hD hS => kk H1 locs1 ⟨hW.1, hW.2.1, ?_, hS, hW.2.2.2.2⟩)
  rw [← ws_put (σ' := sAu σ k1 o1 (va_cpy (sA σ k o) (sA σ k1 o1) sp.toNatClampNeg dp.toNatClampNeg n.toNatClampNeg)) hW.1.1 hqk rfl (cg_A hk1 _)]
  simpa [cE, cR, sAu, sA] using hP
theorem rcpl (hx : p.tables.exec = Jvm.exec) (hb : c.code = cc) (hts : ∀ q ∈ Ts, q.before args s = true) (hown : s.vm.findClass own = some m.cls) (hml : c.maxLocals = ls.size) {index : Nat} (hlink : Cond.methodLink own index arraycopyName ∈ Ts) (hnat : Cond.native arraycopyName ∈ Ts) (hstat : Cond.static arraycopyName ∈ Ts) (hini : Cond.initialized "java/lang/System" ∈ Ts) (hW : sW w D Y A σ s H0 H locs) {k k1 : Nat} (hk : (3, k, 0) ∈ kS w) (hk1 : (3, k1, 0) ∈ kS w) {sp dp n : Int32} (hg : gdc sp dp n 31 31 = true) (hframes : 1 ≤ R.frames) (hlocals : (rest.map fun v => v.category).sum + (nativeFrameWords "java/lang/System" "arraycopy" 5 + 11) ≤ R.locals) (hdg : decode cc pc = .ok (.invokestatic index, 3)) (kk : ∀ (H1 : Heap) (locs1 : List Loc), sW w D Y A (sBu σ k1 (va_cpy (sB σ k) (sB σ k1) sp.toNatClampNeg dp.toNatClampNeg n.toNatClampNeg)) s H0 H1 locs1 → W p l e R s m args below meth c H1 locs1 cells slots Q (F0 m (pc + 3) ls rest)) : W p l e R s m args below meth c H locs cells slots Q (F0 m pc ls (.int n :: .int dp :: .ref (A 3 k1 0) :: .int sp :: .ref (A 3 k 0) :: rest)) := by
  obtain ⟨q0, -, hq⟩ := ws_at (Y := Y) (A := A) σ hk
  obtain ⟨q1, hqk, hq1⟩ := ws_at (Y := Y) (A := A) σ hk1
  obtain ⟨g1, g2, g3, g4, g5⟩ := gdc_in hg
  refine va_copyl hx hb hml hown (hts _ hlink) (hts _ hnat) (hts _ hstat) (hts _ hini) hW.2.1 hW.2.2.1 (ws_D hW.1 Y σ) hW.2.2.2.1 q0 q1 1 1 hq hq1 (ty := .long) rfl rfl rfl g1 g2 g3 g4 g5 (fun i _ => rfl) hframes hlocals hdg (fun H1 locs1 hP hD hS => kk H1 locs1 ⟨hW.1, hW.2.1, ?_, hS, hW.2.2.2.2⟩)
  rw [← ws_put (σ' := sBu σ k1 (va_cpy (sB σ k) (sB σ k1) sp.toNatClampNeg dp.toNatClampNeg n.toNatClampNeg)) hW.1.1 hqk rfl (cg_L _)]
  simpa [cE, cR, sBu, sB] using hP
theorem EX.calling {U : State} {g : JFrame} {mk : MethodId} {a : Array Value} (h : EX w A U) : EX w A (U.calling g mk a) := h
theorem ss_blind {av : List Value} : FrameBlind (Pc0 w D Y A σ av) := fun a U g mk q => ⟨q.1, va_K.moved (u := U) (U := U.calling g mk a) (Vm.Alike.refl U.vm) q.2.1, q.2.2.1, q.2.2.2.calling⟩
theorem ss_pre {av : List Value} (hW : sW w D Y A σ s s.heap H locs) : ∀ U : State, U.heap = H → s.WarmedH U.vm → Pc0 w D Y A σ av av.toArray U := fun U hU hw => ⟨rfl, va_K.moved hw.alike hW.2.1, by rw [hU]; exact hW.2.2.1, hW.2.2.2.2.next hw (by rw [hU]; exact hW.2.2.2.1)⟩
theorem ss_recv {ci o : Nat} {q : vw_C} (hW : sW w D Y A σ s H0 H locs) (hk : (0, ci, o) ∈ kS w) (hc : vwCl[ci]? = some q) : ∃ cell : Cell, H[A 0 ci o]? = some cell ∧ cell.vm.isStatics = false ∧ s.vm.findClass q.1 = some cell.cls := by
  obtain ⟨q0, -, hq⟩ := ws_at (Y := Y) (A := A) σ hk
  rw [cE_o] at hq
  exact va_recv hW.2.1 hW.2.2.1 hc hq
theorem ss_back {σ' : ss_M} {t : State} {H1 : Heap} {locs1 : List Loc} (hW : sW w D Y A σ s H0 H locs) (ht : t.heap = H1) (hvm : s.vm.Alike t.vm) (hB : WB w D Y A σ' t) (hS : va_S (FA w A) H0 H1 locs1) : sW w D Y A σ' s H0 H1 locs1 := ⟨hW.1, va_K.moved hvm.symm hB.1, by rw [← ht]; exact hB.2.1, hS, hW.2.2.2.2⟩
theorem rv_i {nL n index maxL : Nat} {y : MethodName} {bytes : ByteArray} {ret : Option FieldType} {ws : List Cond} {rm : Room} {C : String} {T : u_T} {N ci o : Nat} {As st0 : List Value} {σ' : ss_M} {r : Int32} (S : CallFix p m c cc nL s args Ts own) (hM : Met l y ws rm (Pc0 w D Y A σ (.ref (A 0 ci o) :: As)) (Qi0 w D Y A r σ') 0 0 (FA w A)) (cw : CallW R s args own C index y bytes maxL ret ws rm 0 0 n) (hW : sW w D Y A σ s s.heap H locs) (hk : (0, ci, o) ∈ kS w) (hc : vwCl[ci]? = some (C, T, N)) (hst : st0 = As.reverse ++ .ref (A 0 ci o) :: rest) (hn : As.length = n) (hsz : ls.size = nL) (hR : (rest.map fun v => v.category).sum ≤ 8) (hcs : cells ≤ R.cells ∧ slots ≤ R.slots) (hdg : decode cc pc = .ok (.invokevirtual index, 3)) (kk : ∀ (H1 : Heap) (locs1 : List Loc), sW w D Y A σ' s s.heap H1 locs1 → W p l e R s m args below meth c H1 locs1 cells slots Q (F0 m (pc + 3) ls (.int r :: rest))) : W p l e R s m args below meth c H locs cells slots Q (F0 m pc ls st0) :=
  va_calli (va_runV (As := As) (rest := rest) (b := A 0 ci o) (g := F0 m pc ls st0) S hM cw ⟨ss_blind, ss_recv hW hk hc, ss_pre hW⟩ rfl hn hsz hst (lv_room hR) hdg hcs) hW.2.2.2.1 (fun q _ h => h) (fun q h => h) (fun r1 u t H1 locs1 ht hvm hp hB _ _ hS => by obtain ⟨rfl, rfl⟩ := hp; exact kk H1 locs1 (ss_back hW ht hvm hB hS))
theorem rt_i {nL n index maxL : Nat} {y : MethodName} {bytes : ByteArray} {ret : Option FieldType} {ws : List Cond} {rm : Room} {As st0 : List Value} {σ' : ss_M} {r : Int32} (S : CallFix p m c cc nL s args Ts own) (hM : Met l y ws rm (Pc0 w D Y A σ As) (Qi0 w D Y A r σ') 0 0 (FA w A)) (cw : CallB R s args own index y bytes maxL ret ws rm 0 0 n ∧ (Cond.static y).before args s = true) (hW : sW w D Y A σ s s.heap H locs) (hst : st0 = As.reverse ++ rest) (hn : As.length = n) (hsz : ls.size = nL) (hR : (rest.map fun v => v.category).sum ≤ 8) (hcs : cells ≤ R.cells ∧ slots ≤ R.slots) (hdg : decode cc pc = .ok (.invokestatic index, 3)) (kk : ∀ (H1 : Heap) (locs1 : List Loc), sW w D Y A σ' s s.heap H1 locs1 → W p l e R s m args below meth c H1 locs1 cells slots Q (F0 m (pc + 3) ls (.int r :: rest))) : W p l e R s m args below meth c H locs cells slots Q (F0 m pc ls st0) :=
  va_calli (va_runS (As := As) (rest := rest) (g := F0 m pc ls st0) S hM cw ⟨ss_blind, ss_pre hW⟩ rfl hn hsz hst (lv_room hR) hdg hcs) hW.2.2.2.1 (fun q _ h => h) (fun q h => h) (fun r1 u t H1 locs1 ht hvm hp hB _ _ hS => by obtain ⟨rfl, rfl⟩ := hp; exact kk H1 locs1 (ss_back hW ht hvm hB hS))
theorem rv_l {nL n index maxL : Nat} {y : MethodName} {bytes : ByteArray} {ret : Option FieldType} {ws : List Cond} {rm : Room} {C : String} {T : u_T} {N ci o : Nat} {As st0 : List Value} {σ' : ss_M} {r : Int64} (S : CallFix p m c cc nL s args Ts own) (hM : Met l y ws rm (Pc0 w D Y A σ (.ref (A 0 ci o) :: As)) (Ql0 w D Y A r σ') 0 0 (FA w A)) (cw : CallW R s args own C index y bytes maxL ret ws rm 0 0 n) (hW : sW w D Y A σ s s.heap H locs) (hk : (0, ci, o) ∈ kS w) (hc : vwCl[ci]? = some (C, T, N)) (hst : st0 = As.reverse ++ .ref (A 0 ci o) :: rest) (hn : As.length = n) (hsz : ls.size = nL) (hR : (rest.map fun v => v.category).sum ≤ 8) (hcs : cells ≤ R.cells ∧ slots ≤ R.slots) (hdg : decode cc pc = .ok (.invokevirtual index, 3)) (kk : ∀ (H1 : Heap) (locs1 : List Loc), sW w D Y A σ' s s.heap H1 locs1 → W p l e R s m args below meth c H1 locs1 cells slots Q (F0 m (pc + 3) ls (.long r :: rest))) : W p l e R s m args below meth c H locs cells slots Q (F0 m pc ls st0) :=
  va_calll (va_runV (As := As) (rest := rest) (b := A 0 ci o) (g := F0 m pc ls st0) S hM cw ⟨ss_blind, ss_recv hW hk hc, ss_pre hW⟩ rfl hn hsz hst (lv_room hR) hdg hcs) hW.2.2.2.1 (fun q _ h => h) (fun q h => h) (fun r1 u t H1 locs1 ht hvm hp hB _ _ hS => by obtain ⟨rfl, rfl⟩ := hp; exact kk H1 locs1 (ss_back hW ht hvm hB hS))
theorem rt_l {nL n index maxL : Nat} {y : MethodName} {bytes : ByteArray} {ret : Option FieldType} {ws : List Cond} {rm : Room} {As st0 : List Value} {σ' : ss_M} {r : Int64} (S : CallFix p m c cc nL s args Ts own) (hM : Met l y ws rm (Pc0 w D Y A σ As) (Ql0 w D Y A r σ') 0 0 (FA w A)) (cw : CallB R s args own index y bytes maxL ret ws rm 0 0 n ∧ (Cond.static y).before args s = true) (hW : sW w D Y A σ s s.heap H locs) (hst : st0 = As.reverse ++ rest) (hn : As.length = n) (hsz : ls.size = nL) (hR : (rest.map fun v => v.category).sum ≤ 8) (hcs : cells ≤ R.cells ∧ slots ≤ R.slots) (hdg : decode cc pc = .ok (.invokestatic index, 3)) (kk : ∀ (H1 : Heap) (locs1 : List Loc), sW w D Y A σ' s s.heap H1 locs1 → W p l e R s m args below meth c H1 locs1 cells slots Q (F0 m (pc + 3) ls (.long r :: rest))) : W p l e R s m args below meth c H locs cells slots Q (F0 m pc ls st0) :=
  va_calll (va_runS (As := As) (rest := rest) (g := F0 m pc ls st0) S hM cw ⟨ss_blind, ss_pre hW⟩ rfl hn hsz hst (lv_room hR) hdg hcs) hW.2.2.2.1 (fun q _ h => h) (fun q h => h) (fun r1 u t H1 locs1 ht hvm hp hB _ _ hS => by obtain ⟨rfl, rfl⟩ := hp; exact kk H1 locs1 (ss_back hW ht hvm hB hS))
theorem rv_v {nL n index maxL : Nat} {y : MethodName} {bytes : ByteArray} {ret : Option FieldType} {ws : List Cond} {rm : Room} {C : String} {T : u_T} {N ci o : Nat} {As st0 : List Value} {σ' : ss_M}  (S : CallFix p m c cc nL s args Ts own) (hM : Met l y ws rm (Pc0 w D Y A σ (.ref (A 0 ci o) :: As)) (Qv0 w D Y A σ') 0 0 (FA w A)) (cw : CallW R s args own C index y bytes maxL ret ws rm 0 0 n) (hW : sW w D Y A σ s s.heap H locs) (hk : (0, ci, o) ∈ kS w) (hc : vwCl[ci]? = some (C, T, N)) (hst : st0 = As.reverse ++ .ref (A 0 ci o) :: rest) (hn : As.length = n) (hsz : ls.size = nL) (hR : (rest.map fun v => v.category).sum ≤ 8) (hcs : cells ≤ R.cells ∧ slots ≤ R.slots) (hdg : decode cc pc = .ok (.invokevirtual index, 3)) (kk : ∀ (H1 : Heap) (locs1 : List Loc), sW w D Y A σ' s s.heap H1 locs1 → W p l e R s m args below meth c H1 locs1 cells slots Q (F0 m (pc + 3) ls (rest))) : W p l e R s m args below meth c H locs cells slots Q (F0 m pc ls st0) :=
  va_callv (va_runV (As := As) (rest := rest) (b := A 0 ci o) (g := F0 m pc ls st0) S hM cw ⟨ss_blind, ss_recv hW hk hc, ss_pre hW⟩ rfl hn hsz hst (lv_room hR) hdg hcs) hW.2.2.2.1 (fun q _ h => h) (fun q h => h) (fun u t H1 locs1 ht hvm hp hB _ _ hS => by subst hp; exact kk H1 locs1 (ss_back hW ht hvm hB hS))
theorem rt_v {nL n index maxL : Nat} {y : MethodName} {bytes : ByteArray} {ret : Option FieldType} {ws : List Cond} {rm : Room} {As st0 : List Value} {σ' : ss_M}  (S : CallFix p m c cc nL s args Ts own) (hM : Met l y ws rm (Pc0 w D Y A σ As) (Qv0 w D Y A σ') 0 0 (FA w A)) (cw : CallB R s args own index y bytes maxL ret ws rm 0 0 n ∧ (Cond.static y).before args s = true) (hW : sW w D Y A σ s s.heap H locs) (hst : st0 = As.reverse ++ rest) (hn : As.length = n) (hsz : ls.size = nL) (hR : (rest.map fun v => v.category).sum ≤ 8) (hcs : cells ≤ R.cells ∧ slots ≤ R.slots) (hdg : decode cc pc = .ok (.invokestatic index, 3)) (kk : ∀ (H1 : Heap) (locs1 : List Loc), sW w D Y A σ' s s.heap H1 locs1 → W p l e R s m args below meth c H1 locs1 cells slots Q (F0 m (pc + 3) ls (rest))) : W p l e R s m args below meth c H locs cells slots Q (F0 m pc ls st0) :=
  va_callv (va_runS (As := As) (rest := rest) (g := F0 m pc ls st0) S hM cw ⟨ss_blind, ss_pre hW⟩ rfl hn hsz hst (lv_room hR) hdg hcs) hW.2.2.2.1 (fun q _ h => h) (fun q h => h) (fun u t H1 locs1 ht hvm hp hB _ _ hS => by subst hp; exact kk H1 locs1 (ss_back hW ht hvm hB hS))
theorem ss_end {t : State} {σ' : ss_M} (hW : sW w D Y A σ s s.heap H locs) (hσ : σ = σ') (ht : t.heap = H) (hw : s.WarmedH t.vm) : WB w D Y A σ' t := by
  subst hσ
  exact ⟨va_K.moved hw.alike hW.2.1, by rw [ht]; exact hW.2.2.1, hW.2.2.2.2.next hw (by rw [ht]; exact hW.2.2.2.1)⟩
theorem re_i (hx : p.tables.exec = Jvm.exec) (hb : c.code = cc) (hr : meth.sig.returnType = some .int) (hlocks : meth.locks = false) (hW : sW w D Y A σ s s.heap H locs) {v r : Int32} {σ' : ss_M} (hf : (v, σ) = (r, σ')) (hdg : decode cc pc = .ok (.ireturn, 1)) : W p l e R s m args below meth c H locs 0 0 (MQ below (Qi0 w D Y A r σ') args s 0 0 (FA w A)) (F0 m pc ls [.int v]) :=
  W.iret hx hb hr (fun t ht hw => ⟨⟨v, σ', rfl, ⟨congrArg Prod.fst hf, rfl⟩, ss_end hW (congrArg Prod.snd hf) ht hw⟩, hW.2.2.2.1.F ht⟩) hW.2.2.2.1.2.2 hdg hlocks
theorem re_z (hx : p.tables.exec = Jvm.exec) (hb : c.code = cc) (hr : meth.sig.returnType = some .boolean) (hlocks : meth.locks = false) (hW : sW w D Y A σ s s.heap H locs) {v r : Int32} {σ' : ss_M} (hv : v &&& 1 = v) (hf : (v, σ) = (r, σ')) (hdg : decode cc pc = .ok (.ireturn, 1)) : W p l e R s m args below meth c H locs 0 0 (MQ below (Qi0 w D Y A r σ') args s 0 0 (FA w A)) (F0 m pc ls [.int v]) :=
  W.zret hx hb hr (show Value.int (v &&& 1) = Value.int v by rw [hv]) (fun t ht hw => ⟨⟨v, σ', rfl, ⟨congrArg Prod.fst hf, rfl⟩, ss_end hW (congrArg Prod.snd hf) ht hw⟩, hW.2.2.2.1.F ht⟩) hW.2.2.2.1.2.2 hdg hlocks
theorem re_l (hx : p.tables.exec = Jvm.exec) (hb : c.code = cc) (hr : meth.sig.returnType = some .long) (hlocks : meth.locks = false) (hW : sW w D Y A σ s s.heap H locs) {v r : Int64} {σ' : ss_M} (hf : (v, σ) = (r, σ')) (hdg : decode cc pc = .ok (.lreturn, 1)) : W p l e R s m args below meth c H locs 0 0 (MQ below (Ql0 w D Y A r σ') args s 0 0 (FA w A)) (F0 m pc ls [.long v]) :=
  W.lret hx hb hr (fun t ht hw => ⟨⟨v, σ', rfl, ⟨congrArg Prod.fst hf, rfl⟩, ss_end hW (congrArg Prod.snd hf) ht hw⟩, hW.2.2.2.1.F ht⟩) hW.2.2.2.1.2.2 hdg hlocks
theorem re_v (hx : p.tables.exec = Jvm.exec) (hb : c.code = cc) (hr : meth.sig.returnType = none) (hlocks : meth.locks = false) (hW : sW w D Y A σ s s.heap H locs) {σ' : ss_M} (hf : σ = σ') (hdg : decode cc pc = .ok (.return_, 1)) : W p l e R s m args below meth c H locs 0 0 (MQ below (Qv0 w D Y A σ') args s 0 0 (FA w A)) (F0 m pc ls []) :=
  W.vret hx hb hr (fun t ht hw => ⟨⟨σ', rfl, rfl, ss_end hW hf ht hw⟩, hW.2.2.2.1.F ht⟩) hW.2.2.2.1.2.2 hdg hlocks
/-- a contract out of a walk of the body -/
theorem Met0 {y : MethodName} {ws ws' : List Cond} {rm : Room} {av : List Value} {Qc : Array Value → State → Outcome → State → Prop} {maxL : Nat} {ret : Option FieldType} (hy : plainName y.cls = true) (hw : ws = Cond.code y cc maxL ret :: ws') (hAD : AD w A) (hcls : y.cls = own) (hlen : (lg_sl av).length ≤ maxL)
    (body : ∀ (p : Program) (e : Env) (s : State) (m : MethodId) (args : Array Value) (below : List Frame) (meth : Method) (c : Code), CallFix p m c cc maxL s args ws own → meth.sig.returnType = ret → meth.locks = false → sW w D Y A σ s s.heap s.heap [] → ∀ ls, lv_has ls maxL (lv_args 0 av) → W p l e rm s m args below meth c s.heap [] 0 0 (MQ below Qc args s 0 0 (FA w A)) (F0 m 0 ls [])) : Met l y ws rm (Pc0 w D Y A σ av) Qc 0 0 (FA w A) := by
  refine Met.ofW (cc := cc) (maxL := maxL) (ret := ret) hy hw ?_
  intro p e s m args below meth c s₁ B hml hv
  obtain ⟨rfl, hK, hP, hE⟩ := hv
  have hts := atoms_spec (ws := ws) B.pre
  have hown : s.vm.findClass own = some m.cls := by rw [← hcls]; exact findClass_of_methodNamed B.named
  have hl := lv_entry av (n := maxL) hlen
  rw [lg_entry_eq]
  exact body p e s m _ below meth c ⟨B.exec, B.bytes, hml, hown, hts⟩ B.returns B.notSynchronized ⟨hAD, hK, hP, va_S.rf, hE⟩ _ hl
end SSR
end
section
theorem gw_J7_fill_d0a16 : wsJ7_fill_d0a16.all goodWord = true := by decide +kernel
theorem gw_X0_step : wsX0_step.all goodWord = true := by decide +kernel
theorem gw_X0_setLowest : wsX0_setLowest.all goodWord = true := by decide +kernel
theorem gw_X1_breathBehind : wsX1_breathBehind.all goodWord = true := by decide +kernel
theorem gw_X1_lasts : wsX1_lasts.all goodWord = true := by decide +kernel
theorem gw_X2_set : wsX2_set.all goodWord = true := by decide +kernel
theorem gw_X3_extend : wsX3_extend.all goodWord = true := by decide +kernel
theorem gw_X3_keepRow : wsX3_keepRow.all goodWord = true := by decide +kernel
theorem gw_X4_leftBehind : wsX4_leftBehind.all goodWord = true := by decide +kernel
theorem gw_X2_init : wsX2_init.all goodWord = true := by decide +kernel
theorem gw_X2_copy : wsX2_copy.all goodWord = true := by decide +kernel
theorem gw_X1_cost : wsX1_cost.all goodWord = true := by decide +kernel
theorem gw_X4_dropOldest : wsX4_dropOldest.all goodWord = true := by decide +kernel
theorem gw_X2_readOnce : wsX2_readOnce.all goodWord = true := by decide +kernel
theorem gw_X4_stuckAt : wsX4_stuckAt.all goodWord = true := by decide +kernel
theorem gw_X1_ends : wsX1_ends.all goodWord = true := by decide +kernel
theorem gw_X4_lastIsEnded : wsX4_lastIsEnded.all goodWord = true := by decide +kernel
theorem gw_J7_fill_53178 : wsJ7_fill_53178.all goodWord = true := by decide +kernel
theorem gw_X5_choose : wsX5_choose.all goodWord = true := by decide +kernel
theorem gw_X4_costOf : wsX4_costOf.all goodWord = true := by decide +kernel
theorem gw_X5_spread : wsX5_spread.all goodWord = true := by decide +kernel
theorem gw_X6_next : wsX6_next.all goodWord = true := by decide +kernel
theorem gw_X6_mayBegin : wsX6_mayBegin.all goodWord = true := by decide +kernel
theorem gw_X6_takeItem : wsX6_takeItem.all goodWord = true := by decide +kernel
theorem gw_X6_runEnd : wsX6_runEnd.all goodWord = true := by decide +kernel
theorem gw_X6_wordHere : wsX6_wordHere.all goodWord = true := by decide +kernel
theorem gw_X6_numberHere : wsX6_numberHere.all goodWord = true := by decide +kernel
theorem gw_X6_isHere : wsX6_isHere.all goodWord = true := by decide +kernel
theorem gw_J0_length_8abf5 : wsJ0_length_8abf5.all goodWord = true := by decide +kernel
theorem gw_J0_charAt_5068e : wsJ0_charAt_5068e.all goodWord = true := by decide +kernel
theorem gw_X4_init : wsX4_init.all goodWord = true := by decide +kernel
theorem gw_X6_init : wsX6_init.all goodWord = true := by decide +kernel
theorem gw_X5_init : wsX5_init.all goodWord = true := by decide +kernel
theorem gw_X3_init : wsX3_init.all goodWord = true := by decide +kernel
theorem gw_X0_init : wsX0_init.all goodWord = true := by decide +kernel
theorem gw_X7_isBreath : wsX7_isBreath.all goodWord = true := by decide +kernel
theorem gw_X7_isPrice : wsX7_isPrice.all goodWord = true := by decide +kernel
theorem gw_X7_bad : wsX7_bad.all goodWord = true := by decide +kernel
theorem gw_X4_begin : wsX4_begin.all goodWord = true := by decide +kernel
theorem gw_X7_isLength : wsX7_isLength.all goodWord = true := by decide +kernel
theorem gw_X4_hasRoom : wsX4_hasRoom.all goodWord = true := by decide +kernel
theorem gw_X7_full : wsX7_full.all goodWord = true := by decide +kernel
theorem gw_X4_addWord : wsX4_addWord.all goodWord = true := by decide +kernel
theorem gw_X7_isWithin : wsX7_isWithin.all goodWord = true := by decide +kernel
theorem gw_X4_has : wsX4_has.all goodWord = true := by decide +kernel
theorem gw_X1_isOne : wsX1_isOne.all goodWord = true := by decide +kernel
theorem gw_X4_setMark : wsX4_setMark.all goodWord = true := by decide +kernel
theorem gw_X6_add : wsX6_add.all goodWord = true := by decide +kernel
theorem gw_X6_findFault : wsX6_findFault.all goodWord = true := by decide +kernel
theorem gw_X7_tellItem : wsX7_tellItem.all goodWord = true := by decide +kernel
theorem gw_X4_copy : wsX4_copy.all goodWord = true := by decide +kernel
theorem gw_X7_no : wsX7_no.all goodWord = true := by decide +kernel
theorem gw_X4_remember : wsX4_remember.all goodWord = true := by decide +kernel
theorem gw_X4_say : wsX4_say.all goodWord = true := by decide +kernel
theorem gw_X4_goBack : wsX4_goBack.all goodWord = true := by decide +kernel
theorem gw_X4_howManySentences : wsX4_howManySentences.all goodWord = true := by decide +kernel
theorem gw_X4_longestSentence : wsX4_longestSentence.all goodWord = true := by decide +kernel
theorem gw_X5_make : wsX5_make.all goodWord = true := by decide +kernel
theorem gw_X5_isThere : wsX5_isThere.all goodWord = true := by decide +kernel
theorem gw_X5_cost : wsX5_cost.all goodWord = true := by decide +kernel
theorem gw_X5_kindBehind : wsX5_kindBehind.all goodWord = true := by decide +kernel
theorem gw_X5_reachFor : wsX5_reachFor.all goodWord = true := by decide +kernel
theorem gw_X3_search : wsX3_search.all goodWord = true := by decide +kernel
theorem gw_X4_breathsStuckAt : wsX4_breathsStuckAt.all goodWord = true := by decide +kernel
theorem gw_X4_addHeard : wsX4_addHeard.all goodWord = true := by decide +kernel
theorem gw_X4_breathsHeard : wsX4_breathsHeard.all goodWord = true := by decide +kernel
theorem gw_X7_mostAlike : wsX7_mostAlike.all goodWord = true := by decide +kernel
theorem gw_X7_isBest : wsX7_isBest.all goodWord = true := by decide +kernel
theorem gw_X0_reckon : wsX0_reckon.all goodWord = true := by decide +kernel
theorem gw_X7_countOf : wsX7_countOf.all goodWord = true := by decide +kernel
theorem gw_X4_howManyMarks : wsX4_howManyMarks.all goodWord = true := by decide +kernel
theorem gw_X7_gain : wsX7_gain.all goodWord = true := by decide +kernel
theorem gw_X8_begin : wsX8_begin.all goodWord = true := by decide +kernel
theorem gw_X8_in : wsX8_in.all goodWord = true := by decide +kernel
theorem gw_X8_isPage : wsX8_isPage.all goodWord = true := by decide +kernel
theorem gw_X8_bad : wsX8_bad.all goodWord = true := by decide +kernel
theorem gw_X8_full : wsX8_full.all goodWord = true := by decide +kernel
theorem gw_X8_add : wsX8_add.all goodWord = true := by decide +kernel
theorem gw_X8_isPiece : wsX8_isPiece.all goodWord = true := by decide +kernel
theorem gw_X8_isKind : wsX8_isKind.all goodWord = true := by decide +kernel
theorem gw_X8_ten : wsX8_ten.all goodWord = true := by decide +kernel
theorem gw_X8_mark : wsX8_mark.all goodWord = true := by decide +kernel
theorem gw_X8_here : wsX8_here.all goodWord = true := by decide +kernel
theorem gw_X8_isLetter : wsX8_isLetter.all goodWord = true := by decide +kernel
theorem gw_X8_wordSize : wsX8_wordSize.all goodWord = true := by decide +kernel
theorem gw_X8_letter : wsX8_letter.all goodWord = true := by decide +kernel
theorem gw_X8_skip : wsX8_skip.all goodWord = true := by decide +kernel
theorem gw_X8_isFigure : wsX8_isFigure.all goodWord = true := by decide +kernel
theorem gw_X8_wordHere : wsX8_wordHere.all goodWord = true := by decide +kernel
theorem gw_X8_number : wsX8_number.all goodWord = true := by decide +kernel
theorem gw_X8_readsItem : wsX8_readsItem.all goodWord = true := by decide +kernel
theorem gw_X8_readsPage : wsX8_readsPage.all goodWord = true := by decide +kernel
theorem gw_X8_refusedItem : wsX8_refusedItem.all goodWord = true := by decide +kernel
theorem gw_X8_lesser : wsX8_lesser.all goodWord = true := by decide +kernel
theorem gw_X8_greater : wsX8_greater.all goodWord = true := by decide +kernel
theorem gw_X8_costOf : wsX8_costOf.all goodWord = true := by decide +kernel
theorem gw_X8_no : wsX8_no.all goodWord = true := by decide +kernel
theorem gw_X8_notes : wsX8_notes.all goodWord = true := by decide +kernel
theorem gw_X8_givenBy : wsX8_givenBy.all goodWord = true := by decide +kernel
theorem gw_X8_dries : wsX8_dries.all goodWord = true := by decide +kernel
theorem gw_X8_stuckBy : wsX8_stuckBy.all goodWord = true := by decide +kernel
theorem gw_X8_ends : wsX8_ends.all goodWord = true := by decide +kernel
theorem gw_X8_cellOf : wsX8_cellOf.all goodWord = true := by decide +kernel
theorem gw_X8_optionsAt : wsX8_optionsAt.all goodWord = true := by decide +kernel
theorem gw_X8_costBy : wsX8_costBy.all goodWord = true := by decide +kernel
theorem gw_X8_setLeast : wsX8_setLeast.all goodWord = true := by decide +kernel
theorem gw_X8_twenty : wsX8_twenty.all goodWord = true := by decide +kernel
theorem gw_X8_readBy : wsX8_readBy.all goodWord = true := by decide +kernel
theorem gw_X8_nextLine : wsX8_nextLine.all goodWord = true := by decide +kernel
theorem gw_X8_breathSet : wsX8_breathSet.all goodWord = true := by decide +kernel
theorem gw_X8_alike : wsX8_alike.all goodWord = true := by decide +kernel
theorem gw_X8_gain : wsX8_gain.all goodWord = true := by decide +kernel
theorem gw_X8_rests : wsX8_rests.all goodWord = true := by decide +kernel
theorem gw_X8_lay : wsX8_lay.all goodWord = true := by decide +kernel
theorem gw_X8_countOf : wsX8_countOf.all goodWord = true := by decide +kernel
theorem gw_X8_mix : wsX8_mix.all goodWord = true := by decide +kernel
theorem gw_J0_coder_7d493 : wsJ0_coder_7d493.all goodWord = true := by decide +kernel
theorem gw_J0_isLatin1_aae02 : wsJ0_isLatin1_aae02.all goodWord = true := by decide +kernel
theorem gw_J1_charAt_3b067 : wsJ1_charAt_3b067.all goodWord = true := by decide +kernel
theorem gw_J2_charAt_3b067 : wsJ2_charAt_3b067.all goodWord = true := by decide +kernel
theorem gw_J3_checkIndex_8e157 : wsJ3_checkIndex_8e157.all goodWord = true := by decide +kernel
theorem gw_J0_checkIndex_df160 : wsJ0_checkIndex_df160.all goodWord = true := by decide +kernel
theorem gw_J2_length_9d52b : wsJ2_length_9d52b.all goodWord = true := by decide +kernel
theorem gw_J2_checkIndex_2214a : wsJ2_checkIndex_2214a.all goodWord = true := by decide +kernel
theorem gw_J2_getChar_3b067 : wsJ2_getChar_3b067.all goodWord = true := by decide +kernel
theorem gw_X7_init : wsX7_init.all goodWord = true := by decide +kernel
theorem gw_X8_init : wsX8_init.all goodWord = true := by decide +kernel
theorem gw_X7_page : wsX7_page.all goodWord = true := by decide +kernel
theorem gw_X8_page : wsX8_page.all goodWord = true := by decide +kernel
theorem gw_X7_word : wsX7_word.all goodWord = true := by decide +kernel
theorem gw_X8_word : wsX8_word.all goodWord = true := by decide +kernel
theorem gw_X7_breath : wsX7_breath.all goodWord = true := by decide +kernel
theorem gw_X8_breath : wsX8_breath.all goodWord = true := by decide +kernel
theorem gw_X7_price : wsX7_price.all goodWord = true := by decide +kernel
theorem gw_X8_price : wsX8_price.all goodWord = true := by decide +kernel
theorem gw_X7_purse : wsX7_purse.all goodWord = true := by decide +kernel
theorem gw_X8_purse : wsX8_purse.all goodWord = true := by decide +kernel
theorem gw_X7_put : wsX7_put.all goodWord = true := by decide +kernel
theorem gw_X8_put : wsX8_put.all goodWord = true := by decide +kernel
theorem gw_X7_type : wsX7_type.all goodWord = true := by decide +kernel
theorem gw_X8_type : wsX8_type.all goodWord = true := by decide +kernel
theorem gw_X7_clear : wsX7_clear.all goodWord = true := by decide +kernel
theorem gw_X8_clear : wsX8_clear.all goodWord = true := by decide +kernel
theorem gw_X7_read : wsX7_read.all goodWord = true := by decide +kernel
theorem gw_X8_read : wsX8_read.all goodWord = true := by decide +kernel
theorem gw_X7_buy : wsX7_buy.all goodWord = true := by decide +kernel
theorem gw_X8_buy : wsX8_buy.all goodWord = true := by decide +kernel
theorem gw_X7_sell : wsX7_sell.all goodWord = true := by decide +kernel
theorem gw_X8_sell : wsX8_sell.all goodWord = true := by decide +kernel
theorem gw_X7_readOut : wsX7_readOut.all goodWord = true := by decide +kernel
theorem gw_X8_readOut : wsX8_readOut.all goodWord = true := by decide +kernel
theorem gw_X7_week : wsX7_week.all goodWord = true := by decide +kernel
theorem gw_X8_week : wsX8_week.all goodWord = true := by decide +kernel
theorem gw_X7_undo : wsX7_undo.all goodWord = true := by decide +kernel
theorem gw_X8_undo : wsX8_undo.all goodWord = true := by decide +kernel
theorem gw_X7_of : wsX7_of.all goodWord = true := by decide +kernel
theorem gw_X8_of : wsX8_of.all goodWord = true := by decide +kernel
theorem gw_X7_costs : wsX7_costs.all goodWord = true := by decide +kernel
theorem gw_X8_costs : wsX8_costs.all goodWord = true := by decide +kernel
theorem gw_X7_gives : wsX7_gives.all goodWord = true := by decide +kernel
theorem gw_X8_gives : wsX8_gives.all goodWord = true := by decide +kernel
theorem gw_X7_stuck : wsX7_stuck.all goodWord = true := by decide +kernel
theorem gw_X8_stuck : wsX8_stuck.all goodWord = true := by decide +kernel
theorem gw_X7_sentences : wsX7_sentences.all goodWord = true := by decide +kernel
theorem gw_X8_sentences : wsX8_sentences.all goodWord = true := by decide +kernel
theorem gw_X7_cheapest : wsX7_cheapest.all goodWord = true := by decide +kernel
theorem gw_X8_cheapest : wsX8_cheapest.all goodWord = true := by decide +kernel
theorem gw_X7_reach : wsX7_reach.all goodWord = true := by decide +kernel
theorem gw_X8_reach : wsX8_reach.all goodWord = true := by decide +kernel
theorem gw_X7_order : wsX7_order.all goodWord = true := by decide +kernel
theorem gw_X8_order : wsX8_order.all goodWord = true := by decide +kernel
theorem gw_X7_heard : wsX7_heard.all goodWord = true := by decide +kernel
theorem gw_X8_heard : wsX8_heard.all goodWord = true := by decide +kernel
theorem gw_X7_forget : wsX7_forget.all goodWord = true := by decide +kernel
theorem gw_X8_forget : wsX8_forget.all goodWord = true := by decide +kernel
theorem gw_X7_breaths : wsX7_breaths.all goodWord = true := by decide +kernel
theorem gw_X8_breaths : wsX8_breaths.all goodWord = true := by decide +kernel
theorem gw_X7_shorter : wsX7_shorter.all goodWord = true := by decide +kernel
theorem gw_X8_shorter : wsX8_shorter.all goodWord = true := by decide +kernel
theorem gw_X7_bid : wsX7_bid.all goodWord = true := by decide +kernel
theorem gw_X8_bid : wsX8_bid.all goodWord = true := by decide +kernel
theorem gw_X7_odds : wsX7_odds.all goodWord = true := by decide +kernel
theorem gw_X8_odds : wsX8_odds.all goodWord = true := by decide +kernel
theorem gw_X7_drawn : wsX7_drawn.all goodWord = true := by decide +kernel
theorem gw_X8_drawn : wsX8_drawn.all goodWord = true := by decide +kernel
theorem gw_X7_part : wsX7_part.all goodWord = true := by decide +kernel
theorem gw_X8_part : wsX8_part.all goodWord = true := by decide +kernel
theorem gw_X7_image : wsX7_image.all goodWord = true := by decide +kernel
theorem gw_X8_image : wsX8_image.all goodWord = true := by decide +kernel
theorem gw_X7_from : wsX7_from.all goodWord = true := by decide +kernel
theorem gw_X8_from : wsX8_from.all goodWord = true := by decide +kernel
theorem gw_X7_status : wsX7_status.all goodWord = true := by decide +kernel
theorem gw_X8_status : wsX8_status.all goodWord = true := by decide +kernel
theorem gw_X7_count : wsX7_count.all goodWord = true := by decide +kernel
theorem gw_X8_count : wsX8_count.all goodWord = true := by decide +kernel
theorem gw_X7_digest : wsX7_digest.all goodWord = true := by decide +kernel
theorem gw_X8_digest : wsX8_digest.all goodWord = true := by decide +kernel
set_option maxRecDepth 20000 in
theorem ggX0_reckon_J7_fill_d0a16 : GoodIn wsX0_reckon wsJ7_fill_d0a16 := goodIn_r _ [10] rfl gw_J7_fill_d0a16
set_option maxRecDepth 20000 in
theorem gX0_reckon_J7_fill_d0a16 : GoodIn wsX0_reckon (va_wsS RX0 25 yJ7_fill_d0a16 wsJ7_fill_d0a16) := goodIn_app (goodIn_r _ [7, 8, 9] rfl (by decide +kernel)) ggX0_reckon_J7_fill_d0a16
set_option maxRecDepth 20000 in
theorem ggX0_reckon_X0_step : GoodIn wsX0_reckon wsX0_step := goodIn_r _ [15, 16, 17, 2, 4, 5, 1, 18, 19, 20, 21, 7, 8, 9, 10, 22, 23, 24, 25, 26, 27, 28, 29, 30, 31, 32, 39, 40, 41, 42, 43, 44, 45, 46, 47, 48, 49, 50, 51, 52, 53, 54, 55] rfl gw_X0_step
set_option maxRecDepth 20000 in
theorem gX0_reckon_X0_step : GoodIn wsX0_reckon (wsV RX0 50 RX0 yX0_step wsX0_step) := goodIn_app (goodIn_r _ [11, 12, 13, 14] rfl (by decide +kernel)) ggX0_reckon_X0_step
set_option maxRecDepth 20000 in
theorem ggX0_reckon_X0_setLowest : GoodIn wsX0_reckon wsX0_setLowest := goodIn_r _ [36, 37, 38, 39, 40, 41, 42] rfl gw_X0_setLowest
set_option maxRecDepth 20000 in
theorem gX0_reckon_X0_setLowest : GoodIn wsX0_reckon (wsV RX0 56 RX0 yX0_setLowest wsX0_setLowest) := goodIn_app (goodIn_r _ [33, 34, 35, 14] rfl (by decide +kernel)) ggX0_reckon_X0_setLowest
set_option maxRecDepth 20000 in
theorem ggX0_step_J7_fill_d0a16 : GoodIn wsX0_step wsJ7_fill_d0a16 := goodIn_r _ [14] rfl gw_J7_fill_d0a16
set_option maxRecDepth 20000 in
theorem gX0_step_J7_fill_d0a16 : GoodIn wsX0_step (va_wsS RX0 25 yJ7_fill_d0a16 wsJ7_fill_d0a16) := goodIn_app (goodIn_r _ [11, 12, 13] rfl (by decide +kernel)) ggX0_step_J7_fill_d0a16
set_option maxRecDepth 20000 in
theorem ggX0_step_X1_breathBehind : GoodIn wsX0_step wsX1_breathBehind := goodIn_r _ [18, 19, 20, 21, 22, 23, 24, 25] rfl gw_X1_breathBehind
set_option maxRecDepth 20000 in
theorem gX0_step_X1_breathBehind : GoodIn wsX0_step (va_wsS RX0 63 yX1_breathBehind wsX1_breathBehind) := goodIn_app (goodIn_r _ [15, 16, 17] rfl (by decide +kernel)) ggX0_step_X1_breathBehind
set_option maxRecDepth 20000 in
theorem ggX2_readOnce_X1_lasts : GoodIn wsX2_readOnce wsX1_lasts := goodIn_r _ [6] rfl gw_X1_lasts
set_option maxRecDepth 20000 in
theorem gX2_readOnce_X1_lasts : GoodIn wsX2_readOnce (va_wsS RX2 18 yX1_lasts wsX1_lasts) := goodIn_app (goodIn_r _ [3, 4, 5] rfl (by decide +kernel)) ggX2_readOnce_X1_lasts
set_option maxRecDepth 20000 in
theorem ggX2_readOnce_X2_set : GoodIn wsX2_readOnce wsX2_set := goodIn_r _ [11, 1, 2, 12, 13, 14, 15] rfl gw_X2_set
set_option maxRecDepth 20000 in
theorem gX2_readOnce_X2_set : GoodIn wsX2_readOnce (wsV RX2 24 RX2 yX2_set wsX2_set) := goodIn_app (goodIn_r _ [7, 8, 9, 10] rfl (by decide +kernel)) ggX2_readOnce_X2_set
set_option maxRecDepth 20000 in
theorem ggX3_search_X3_extend : GoodIn wsX3_search wsX3_extend := goodIn_r _ [8, 1, 9, 10, 4, 3, 11, 12, 13, 14, 7, 15, 2, 16, 17, 18, 19, 20, 21, 22, 23, 24, 25, 26, 27, 28, 29, 30, 31, 32, 33, 34, 35, 36, 37, 5, 6, 38, 39, 40, 41, 42, 43, 44, 45, 46, 47, 48, 49, 50, 51, 52, 53, 54] rfl gw_X3_extend
set_option maxRecDepth 20000 in
theorem gX3_search_X3_extend : GoodIn wsX3_search (va_wsS RX3 31 yX3_extend wsX3_extend) := goodIn_app (goodIn_r _ [5, 6, 7] rfl (by decide +kernel)) ggX3_search_X3_extend
set_option maxRecDepth 20000 in
theorem ggX3_extend_X3_keepRow : GoodIn wsX3_extend wsX3_keepRow := goodIn_r _ [11, 1, 6, 12, 13, 14, 15, 16, 5, 37, 38, 39, 40] rfl gw_X3_keepRow
set_option maxRecDepth 20000 in
theorem gX3_extend_X3_keepRow : GoodIn wsX3_extend (wsV RX3 38 RX3 yX3_keepRow wsX3_keepRow) := goodIn_app (goodIn_r _ [7, 8, 9, 10] rfl (by decide +kernel)) ggX3_extend_X3_keepRow
set_option maxRecDepth 20000 in
theorem ggX3_extend_X4_leftBehind : GoodIn wsX3_extend wsX4_leftBehind := goodIn_r _ [21, 22, 23, 24, 25, 26, 27, 28, 29, 30, 31, 32, 33, 34, 41, 42, 43, 44, 45, 46, 47, 48, 49, 50, 51, 52, 53] rfl gw_X4_leftBehind
set_option maxRecDepth 20000 in
theorem gX3_extend_X4_leftBehind : GoodIn wsX3_extend (wsV RX3 45 RX4 yX4_leftBehind wsX4_leftBehind) := goodIn_app (goodIn_r _ [17, 18, 19, 20] rfl (by decide +kernel)) ggX3_extend_X4_leftBehind
set_option maxRecDepth 20000 in
theorem ggX3_extend_X3_extend : GoodIn wsX3_extend wsX3_extend := goodIn_r _ [0, 1, 2, 3, 4, 5, 6, 7, 8, 9, 10, 11, 12, 13, 14, 15, 16, 17, 18, 19, 20, 21, 22, 23, 24, 25, 26, 27, 28, 29, 30, 31, 32, 33, 34, 35, 36, 37, 38, 39, 40, 41, 42, 43, 44, 45, 46, 47, 48, 49, 50, 51, 52, 53] rfl gw_X3_extend
set_option maxRecDepth 20000 in
theorem gX3_extend_X3_extend : GoodIn wsX3_extend (va_wsS RX3 31 yX3_extend wsX3_extend) := goodIn_app (goodIn_r _ [35, 36, 10] rfl (by decide +kernel)) ggX3_extend_X3_extend
set_option maxRecDepth 20000 in
theorem ggX4_init_X2_init : GoodIn wsX4_init wsX2_init := goodIn_r _ [15, 16, 2, 3, 6, 17, 18, 28, 29, 30, 31] rfl gw_X2_init
set_option maxRecDepth 20000 in
theorem gX4_init_X2_init_n24 : GoodIn wsX4_init (wsX2_init) := ggX4_init_X2_init
set_option maxRecDepth 20000 in
theorem ggX4_copy_X2_copy : GoodIn wsX4_copy wsX2_copy := goodIn_r _ [18, 19, 20, 21, 22, 8, 9, 10, 23, 33, 34, 35, 36] rfl gw_X2_copy
set_option maxRecDepth 20000 in
theorem gX4_copy_X2_copy : GoodIn wsX4_copy (wsV RX4 57 RX2 yX2_copy wsX2_copy) := goodIn_app (goodIn_r _ [14, 15, 16, 17] rfl (by decide +kernel)) ggX4_copy_X2_copy
set_option maxRecDepth 20000 in
theorem ggX4_addWord_X2_set : GoodIn wsX4_addWord wsX2_set := goodIn_r _ [9, 10, 11, 21, 22, 23, 24] rfl gw_X2_set
set_option maxRecDepth 20000 in
theorem gX4_addWord_X2_set : GoodIn wsX4_addWord (wsV RX4 61 RX2 yX2_set wsX2_set) := goodIn_app (goodIn_r _ [5, 6, 7, 8] rfl (by decide +kernel)) ggX4_addWord_X2_set
set_option maxRecDepth 20000 in
theorem ggX4_setMark_X2_set : GoodIn wsX4_setMark wsX2_set := goodIn_r _ [7, 8, 9, 19, 20, 21, 22] rfl gw_X2_set
set_option maxRecDepth 20000 in
theorem gX4_setMark_X2_set : GoodIn wsX4_setMark (wsV RX4 61 RX2 yX2_set wsX2_set) := goodIn_app (goodIn_r _ [3, 4, 5, 6] rfl (by decide +kernel)) ggX4_setMark_X2_set
set_option maxRecDepth 20000 in
theorem ggX4_costOf_X1_cost : GoodIn wsX4_costOf wsX1_cost := goodIn_r _ [7] rfl gw_X1_cost
set_option maxRecDepth 20000 in
theorem gX4_costOf_X1_cost : GoodIn wsX4_costOf (va_wsS RX4 65 yX1_cost wsX1_cost) := goodIn_app (goodIn_r _ [4, 5, 6] rfl (by decide +kernel)) ggX4_costOf_X1_cost
set_option maxRecDepth 20000 in
theorem ggX4_remember_X4_dropOldest : GoodIn wsX4_remember wsX4_dropOldest := goodIn_r _ [8, 2, 1, 22, 23, 24, 25, 26, 27, 28, 29, 30] rfl gw_X4_dropOldest
set_option maxRecDepth 20000 in
theorem gX4_remember_X4_dropOldest : GoodIn wsX4_remember (wsV RX4 74 RX4 yX4_dropOldest wsX4_dropOldest) := goodIn_app (goodIn_r _ [4, 5, 6, 7] rfl (by decide +kernel)) ggX4_remember_X4_dropOldest
set_option maxRecDepth 20000 in
theorem ggX4_remember_X2_copy : GoodIn wsX4_remember wsX2_copy := goodIn_r _ [13, 14, 15, 16, 17, 18, 19, 20, 21, 31, 32, 33, 34] rfl gw_X2_copy
set_option maxRecDepth 20000 in
theorem gX4_remember_X2_copy : GoodIn wsX4_remember (wsV RX4 57 RX2 yX2_copy wsX2_copy) := goodIn_app (goodIn_r _ [9, 10, 11, 12] rfl (by decide +kernel)) ggX4_remember_X2_copy
set_option maxRecDepth 20000 in
theorem ggX4_goBack_X2_copy : GoodIn wsX4_goBack wsX2_copy := goodIn_r _ [8, 9, 10, 11, 12, 13, 14, 15, 16, 26, 27, 28, 29] rfl gw_X2_copy
set_option maxRecDepth 20000 in
theorem gX4_goBack_X2_copy : GoodIn wsX4_goBack (wsV RX4 57 RX2 yX2_copy wsX2_copy) := goodIn_app (goodIn_r _ [4, 5, 6, 7] rfl (by decide +kernel)) ggX4_goBack_X2_copy
set_option maxRecDepth 20000 in
theorem ggX4_leftBehind_X1_breathBehind : GoodIn wsX4_leftBehind wsX1_breathBehind := goodIn_r _ [6, 7, 8, 9, 10, 11, 12, 13] rfl gw_X1_breathBehind
set_option maxRecDepth 20000 in
theorem gX4_leftBehind_X1_breathBehind : GoodIn wsX4_leftBehind (va_wsS RX4 77 yX1_breathBehind wsX1_breathBehind) := goodIn_app (goodIn_r _ [3, 4, 5] rfl (by decide +kernel)) ggX4_leftBehind_X1_breathBehind
set_option maxRecDepth 20000 in
theorem ggX4_say_X4_leftBehind : GoodIn wsX4_say wsX4_leftBehind := goodIn_r _ [9, 4, 10, 11, 12, 13, 14, 15, 16, 17, 18, 19, 20, 21, 36, 37, 38, 39, 40, 41, 42, 43, 44, 45, 46, 47, 48] rfl gw_X4_leftBehind
set_option maxRecDepth 20000 in
theorem gX4_say_X4_leftBehind : GoodIn wsX4_say (wsV RX4 80 RX4 yX4_leftBehind wsX4_leftBehind) := goodIn_app (goodIn_r _ [5, 6, 7, 8] rfl (by decide +kernel)) ggX4_say_X4_leftBehind
set_option maxRecDepth 20000 in
theorem ggX4_say_X2_readOnce : GoodIn wsX4_say wsX2_readOnce := goodIn_r _ [26, 27, 28, 29, 30, 13, 31, 32, 33, 34, 25, 35, 45, 46, 47, 48] rfl gw_X2_readOnce
set_option maxRecDepth 20000 in
theorem gX4_say_X2_readOnce : GoodIn wsX4_say (wsV RX4 84 RX2 yX2_readOnce wsX2_readOnce) := goodIn_app (goodIn_r _ [22, 23, 24, 25] rfl (by decide +kernel)) ggX4_say_X2_readOnce
set_option maxRecDepth 20000 in
theorem ggX4_stuckAt_X4_leftBehind : GoodIn wsX4_stuckAt wsX4_leftBehind := goodIn_r _ [7, 8, 9, 10, 11, 12, 13, 14, 15, 16, 17, 18, 19, 20, 21, 22, 23, 24, 25, 26, 27, 28, 29, 30, 31, 32, 33] rfl gw_X4_leftBehind
set_option maxRecDepth 20000 in
theorem gX4_stuckAt_X4_leftBehind : GoodIn wsX4_stuckAt (wsV RX4 80 RX4 yX4_leftBehind wsX4_leftBehind) := goodIn_app (goodIn_r _ [3, 4, 5, 6] rfl (by decide +kernel)) ggX4_stuckAt_X4_leftBehind
set_option maxRecDepth 20000 in
theorem ggX4_breathsStuckAt_X4_stuckAt : GoodIn wsX4_breathsStuckAt wsX4_stuckAt := goodIn_r _ [5, 6, 7, 8, 9, 10, 4, 11, 12, 13, 14, 15, 16, 17, 18, 19, 20, 21, 22, 23, 24, 25, 26, 27, 28, 29, 30, 31, 32, 33, 34, 35, 36, 37] rfl gw_X4_stuckAt
set_option maxRecDepth 20000 in
theorem gX4_breathsStuckAt_X4_stuckAt : GoodIn wsX4_breathsStuckAt (wsV RX4 88 RX4 yX4_stuckAt wsX4_stuckAt) := goodIn_app (goodIn_r _ [1, 2, 3, 4] rfl (by decide +kernel)) ggX4_breathsStuckAt_X4_stuckAt
set_option maxRecDepth 20000 in
theorem ggX4_lastIsEnded_X1_ends : GoodIn wsX4_lastIsEnded wsX1_ends := goodIn_r _ [7] rfl gw_X1_ends
set_option maxRecDepth 20000 in
theorem gX4_lastIsEnded_X1_ends : GoodIn wsX4_lastIsEnded (va_wsS RX4 93 yX1_ends wsX1_ends) := goodIn_app (goodIn_r _ [4, 5, 6] rfl (by decide +kernel)) ggX4_lastIsEnded_X1_ends
set_option maxRecDepth 20000 in
theorem ggX4_howManySentences_X1_ends : GoodIn wsX4_howManySentences wsX1_ends := goodIn_r _ [7] rfl gw_X1_ends
set_option maxRecDepth 20000 in
theorem gX4_howManySentences_X1_ends : GoodIn wsX4_howManySentences (va_wsS RX4 93 yX1_ends wsX1_ends) := goodIn_app (goodIn_r _ [4, 5, 6] rfl (by decide +kernel)) ggX4_howManySentences_X1_ends
set_option maxRecDepth 20000 in
theorem ggX4_howManySentences_X4_lastIsEnded : GoodIn wsX4_howManySentences wsX4_lastIsEnded := goodIn_r _ [12, 1, 2, 3, 4, 5, 6, 7, 13, 14, 15, 16, 17, 18, 19, 20, 21, 22, 23, 24, 25] rfl gw_X4_lastIsEnded
set_option maxRecDepth 20000 in
theorem gX4_howManySentences_X4_lastIsEnded : GoodIn wsX4_howManySentences (wsV RX4 97 RX4 yX4_lastIsEnded wsX4_lastIsEnded) := goodIn_app (goodIn_r _ [8, 9, 10, 11] rfl (by decide +kernel)) ggX4_howManySentences_X4_lastIsEnded
set_option maxRecDepth 20000 in
theorem ggX4_longestSentence_X1_ends : GoodIn wsX4_longestSentence wsX1_ends := goodIn_r _ [7] rfl gw_X1_ends
set_option maxRecDepth 20000 in
theorem gX4_longestSentence_X1_ends : GoodIn wsX4_longestSentence (va_wsS RX4 93 yX1_ends wsX1_ends) := goodIn_app (goodIn_r _ [4, 5, 6] rfl (by decide +kernel)) ggX4_longestSentence_X1_ends
set_option maxRecDepth 20000 in
theorem ggX5_make_J7_fill_53178 : GoodIn wsX5_make wsJ7_fill_53178 := goodIn_r _ [10] rfl gw_J7_fill_53178
set_option maxRecDepth 20000 in
theorem gX5_make_J7_fill_53178 : GoodIn wsX5_make (va_wsS RX5 35 yJ7_fill_53178 wsJ7_fill_53178) := goodIn_app (goodIn_r _ [7, 8, 9] rfl (by decide +kernel)) ggX5_make_J7_fill_53178
set_option maxRecDepth 20000 in
theorem ggX5_make_X5_choose : GoodIn wsX5_make wsX5_choose := goodIn_r _ [15, 16, 17, 6, 2, 3, 4, 5, 18, 19, 20, 21, 22, 23, 24, 25, 26, 27, 28, 29, 30, 31, 32, 33, 34, 35, 36, 37, 38, 39, 40, 41, 42, 43, 44, 45, 46, 47, 48, 49, 50, 51, 57, 58, 59, 60, 52, 53, 54, 55, 56] rfl gw_X5_choose
set_option maxRecDepth 20000 in
theorem gX5_make_X5_choose : GoodIn wsX5_make (wsV RX5 45 RX5 yX5_choose wsX5_choose) := goodIn_app (goodIn_r _ [11, 12, 13, 14] rfl (by decide +kernel)) ggX5_make_X5_choose
set_option maxRecDepth 20000 in
theorem ggX5_choose_X1_breathBehind : GoodIn wsX5_choose wsX1_breathBehind := goodIn_r _ [11, 12, 13, 14, 15, 16, 17, 18] rfl gw_X1_breathBehind
set_option maxRecDepth 20000 in
theorem gX5_choose_X1_breathBehind : GoodIn wsX5_choose (va_wsS RX5 60 yX1_breathBehind wsX1_breathBehind) := goodIn_app (goodIn_r _ [8, 9, 10] rfl (by decide +kernel)) ggX5_choose_X1_breathBehind
set_option maxRecDepth 20000 in
theorem ggX5_choose_X4_costOf : GoodIn wsX5_choose wsX4_costOf := goodIn_r _ [23, 24, 25, 26, 27, 28, 10, 29, 33, 34, 35, 36, 37, 38, 39, 40, 41, 42, 43, 44, 45] rfl gw_X4_costOf
set_option maxRecDepth 20000 in
theorem gX5_choose_X4_costOf : GoodIn wsX5_choose (wsV RX5 64 RX4 yX4_costOf wsX4_costOf) := goodIn_app (goodIn_r _ [19, 20, 21, 22] rfl (by decide +kernel)) ggX5_choose_X4_costOf
set_option maxRecDepth 20000 in
theorem ggX5_choose_X1_ends : GoodIn wsX5_choose wsX1_ends := goodIn_r _ [32] rfl gw_X1_ends
set_option maxRecDepth 20000 in
theorem gX5_choose_X1_ends : GoodIn wsX5_choose (va_wsS RX5 68 yX1_ends wsX1_ends) := goodIn_app (goodIn_r _ [30, 31, 10] rfl (by decide +kernel)) ggX5_choose_X1_ends
set_option maxRecDepth 20000 in
theorem ggX5_kindBehind_X1_breathBehind : GoodIn wsX5_kindBehind wsX1_breathBehind := goodIn_r _ [8, 9, 10, 11, 12, 13, 14, 15] rfl gw_X1_breathBehind
set_option maxRecDepth 20000 in
theorem gX5_kindBehind_X1_breathBehind : GoodIn wsX5_kindBehind (va_wsS RX5 60 yX1_breathBehind wsX1_breathBehind) := goodIn_app (goodIn_r _ [5, 6, 7] rfl (by decide +kernel)) ggX5_kindBehind_X1_breathBehind
set_option maxRecDepth 20000 in
theorem ggX5_reachFor_J7_fill_53178 : GoodIn wsX5_reachFor wsJ7_fill_53178 := goodIn_r _ [14] rfl gw_J7_fill_53178
set_option maxRecDepth 20000 in
theorem gX5_reachFor_J7_fill_53178 : GoodIn wsX5_reachFor (va_wsS RX5 35 yJ7_fill_53178 wsJ7_fill_53178) := goodIn_app (goodIn_r _ [11, 12, 13] rfl (by decide +kernel)) ggX5_reachFor_J7_fill_53178
set_option maxRecDepth 20000 in
theorem ggX5_reachFor_X5_spread : GoodIn wsX5_reachFor wsX5_spread := goodIn_r _ [19, 20, 21, 6, 3, 5, 1, 22, 23, 24, 25, 26, 27, 28, 29, 30, 31, 32, 33, 34, 35, 36, 37, 38, 39, 40, 41, 42, 43, 44, 50, 51, 52, 53, 54, 55, 56, 57, 58, 59, 60, 61, 62, 45, 46, 47, 48, 49] rfl gw_X5_spread
set_option maxRecDepth 20000 in
theorem gX5_reachFor_X5_spread : GoodIn wsX5_reachFor (wsV RX5 75 RX5 yX5_spread wsX5_spread) := goodIn_app (goodIn_r _ [15, 16, 17, 18] rfl (by decide +kernel)) ggX5_reachFor_X5_spread
set_option maxRecDepth 20000 in
theorem ggX5_spread_X1_breathBehind : GoodIn wsX5_spread wsX1_breathBehind := goodIn_r _ [14, 15, 8, 9, 10, 16, 17, 18] rfl gw_X1_breathBehind
set_option maxRecDepth 20000 in
theorem gX5_spread_X1_breathBehind : GoodIn wsX5_spread (va_wsS RX5 60 yX1_breathBehind wsX1_breathBehind) := goodIn_app (goodIn_r _ [11, 12, 13] rfl (by decide +kernel)) ggX5_spread_X1_breathBehind
set_option maxRecDepth 20000 in
theorem ggX5_spread_X4_costOf : GoodIn wsX5_spread wsX4_costOf := goodIn_r _ [23, 24, 25, 26, 27, 28, 13, 29, 30, 31, 32, 33, 34, 35, 36, 37, 38, 39, 40, 41, 42] rfl gw_X4_costOf
set_option maxRecDepth 20000 in
theorem gX5_spread_X4_costOf : GoodIn wsX5_spread (wsV RX5 64 RX4 yX4_costOf wsX4_costOf) := goodIn_app (goodIn_r _ [19, 20, 21, 22] rfl (by decide +kernel)) ggX5_spread_X4_costOf
set_option maxRecDepth 20000 in
theorem ggX6_findFault_X6_next : GoodIn wsX6_findFault wsX6_next := goodIn_r _ [10, 1, 4, 5, 3, 11, 12, 13, 14, 9, 15, 16, 17, 18, 19, 20, 21, 22, 23, 24, 25, 26, 27, 28, 29, 30, 31, 32, 33, 34, 35, 36, 37, 38, 39, 40, 41, 42, 43, 44, 45, 46, 47, 48, 49, 50, 51, 52, 53, 54, 55, 56, 57, 58, 59, 60, 61, 62, 63, 64, 65, 66, 67, 68, 69, 70, 71, 72, 73, 74, 75, 76, 77, 89, 90, 91, 92, 93, 94, 95, 96, 97, 98] rfl gw_X6_next
set_option maxRecDepth 20000 in
theorem gX6_findFault_X6_next : GoodIn wsX6_findFault (wsV RX6 31 RX6 yX6_next wsX6_next) := goodIn_app (goodIn_r _ [6, 7, 8, 9] rfl (by decide +kernel)) ggX6_findFault_X6_next
set_option maxRecDepth 20000 in
theorem ggX6_findFault_X6_mayBegin : GoodIn wsX6_findFault wsX6_mayBegin := goodIn_r _ [81, 2, 3, 89, 90, 91, 92, 93, 94, 95, 96, 97, 98] rfl gw_X6_mayBegin
set_option maxRecDepth 20000 in
theorem gX6_findFault_X6_mayBegin : GoodIn wsX6_findFault (wsV RX6 40 RX6 yX6_mayBegin wsX6_mayBegin) := goodIn_app (goodIn_r _ [78, 79, 80, 9] rfl (by decide +kernel)) ggX6_findFault_X6_mayBegin
set_option maxRecDepth 20000 in
theorem ggX6_findFault_X6_takeItem : GoodIn wsX6_findFault wsX6_takeItem := goodIn_r _ [85, 86, 2, 3, 87, 77, 88, 6, 7, 8, 9, 10, 1, 4, 5, 11, 12, 13, 14, 15, 16, 17, 18, 19, 20, 21, 22, 23, 24, 25, 26, 27, 28, 29, 30, 31, 32, 33, 34, 35, 36, 37, 38, 39, 40, 41, 42, 43, 44, 45, 46, 47, 48, 49, 50, 51, 52, 53, 54, 55, 56, 57, 58, 59, 60, 61, 62, 63, 64, 65, 66, 67, 68, 69, 70, 71, 72, 73, 74, 75, 76, 89, 90, 91, 92, 93, 94, 95, 96, 97, 98] rfl gw_X6_takeItem
set_option maxRecDepth 20000 in
theorem gX6_findFault_X6_takeItem : GoodIn wsX6_findFault (wsV RX6 44 RX6 yX6_takeItem wsX6_takeItem) := goodIn_app (goodIn_r _ [82, 83, 84, 9] rfl (by decide +kernel)) ggX6_findFault_X6_takeItem
set_option maxRecDepth 20000 in
theorem ggX6_takeItem_X6_next : GoodIn wsX6_takeItem wsX6_next := goodIn_r _ [11, 12, 13, 14, 3, 15, 16, 17, 18, 10, 19, 20, 21, 22, 23, 24, 25, 26, 27, 28, 29, 30, 31, 32, 33, 34, 35, 36, 37, 38, 39, 40, 41, 42, 43, 44, 45, 46, 47, 48, 49, 50, 51, 52, 53, 54, 55, 56, 57, 58, 59, 60, 61, 62, 63, 64, 65, 66, 67, 68, 69, 70, 71, 72, 73, 74, 75, 76, 77, 78, 79, 80, 5, 81, 82, 83, 84, 85, 86, 87, 88, 89, 90] rfl gw_X6_next
set_option maxRecDepth 20000 in
theorem gX6_takeItem_X6_next : GoodIn wsX6_takeItem (wsV RX6 31 RX6 yX6_next wsX6_next) := goodIn_app (goodIn_r _ [7, 8, 9, 10] rfl (by decide +kernel)) ggX6_takeItem_X6_next
set_option maxRecDepth 20000 in
theorem ggX6_next_X6_runEnd : GoodIn wsX6_next wsX6_runEnd := goodIn_r _ [10, 3, 5, 73, 74, 75, 76, 77, 78, 79, 80, 81, 82] rfl gw_X6_runEnd
set_option maxRecDepth 20000 in
theorem gX6_next_X6_runEnd : GoodIn wsX6_next (wsV RX6 53 RX6 yX6_runEnd wsX6_runEnd) := goodIn_app (goodIn_r _ [6, 7, 8, 9] rfl (by decide +kernel)) ggX6_next_X6_runEnd
set_option maxRecDepth 20000 in
theorem ggX6_next_X6_wordHere : GoodIn wsX6_next wsX6_wordHere := goodIn_r _ [14, 15, 16, 17, 9, 18, 1, 2, 5, 19, 20, 21, 22, 23, 24, 25, 26, 27, 28, 29, 30, 31, 32, 33, 34, 35, 36, 37, 38, 39, 40, 41, 42, 43, 44, 45, 46, 47, 48, 49, 50, 51, 52, 53, 54, 55, 56, 57, 58, 59, 60, 61, 62, 63, 64, 65, 66, 67, 73, 74, 75, 76, 77, 78, 79, 80, 81, 82] rfl gw_X6_wordHere
set_option maxRecDepth 20000 in
theorem gX6_next_X6_wordHere : GoodIn wsX6_next (wsV RX6 57 RX6 yX6_wordHere wsX6_wordHere) := goodIn_app (goodIn_r _ [11, 12, 13, 9] rfl (by decide +kernel)) ggX6_next_X6_wordHere
set_option maxRecDepth 20000 in
theorem ggX6_next_X6_numberHere : GoodIn wsX6_next wsX6_numberHere := goodIn_r _ [71, 1, 2, 72, 5, 73, 74, 75, 76, 77, 78, 79, 80, 81, 82] rfl gw_X6_numberHere
set_option maxRecDepth 20000 in
theorem gX6_next_X6_numberHere : GoodIn wsX6_next (wsV RX6 61 RX6 yX6_numberHere wsX6_numberHere) := goodIn_app (goodIn_r _ [68, 69, 70, 9] rfl (by decide +kernel)) ggX6_next_X6_numberHere
set_option maxRecDepth 20000 in
theorem ggX6_wordHere_X6_isHere : GoodIn wsX6_wordHere wsX6_isHere := goodIn_r _ [5, 6, 7, 8, 9, 10, 11, 12, 13, 14, 15, 16, 17, 18, 19, 20, 21, 22, 23, 24, 25, 26, 27, 28, 29, 30, 31, 32, 33, 34, 35, 36, 37, 38, 39, 40, 41, 42, 43, 44, 45, 46, 47, 48, 49, 50, 51, 52, 53, 54, 55, 56, 57, 58, 59, 60, 61, 62, 63, 64, 65, 66, 67] rfl gw_X6_isHere
set_option maxRecDepth 20000 in
theorem gX6_wordHere_X6_isHere : GoodIn wsX6_wordHere (wsV RX6 66 RX6 yX6_isHere wsX6_isHere) := goodIn_app (goodIn_r _ [1, 2, 3, 4] rfl (by decide +kernel)) ggX6_wordHere_X6_isHere
set_option maxRecDepth 20000 in
theorem ggX6_isHere_J0_length_8abf5 : GoodIn wsX6_isHere wsJ0_length_8abf5 := goodIn_r _ [8, 9, 10, 11, 12, 7, 13, 14, 15] rfl gw_J0_length_8abf5
set_option maxRecDepth 20000 in
theorem gX6_isHere_J0_length_8abf5 : GoodIn wsX6_isHere (wsV RX6 74 RJ0 yJ0_length_8abf5 wsJ0_length_8abf5) := goodIn_app (goodIn_r _ [4, 5, 6, 7] rfl (by decide +kernel)) ggX6_isHere_J0_length_8abf5
set_option maxRecDepth 20000 in
theorem ggX6_isHere_J0_charAt_5068e : GoodIn wsX6_isHere wsJ0_charAt_5068e := goodIn_r _ [19, 9, 20, 21, 22, 7, 23, 14, 15, 24, 25, 26, 27, 28, 29, 30, 31, 32, 33, 34, 35, 36, 37, 38, 39, 40, 41, 42, 43, 44, 45, 46, 47, 48, 49, 50, 51, 52] rfl gw_J0_charAt_5068e
set_option maxRecDepth 20000 in
theorem gX6_isHere_J0_charAt_5068e : GoodIn wsX6_isHere (wsV RX6 79 RJ0 yJ0_charAt_5068e wsJ0_charAt_5068e) := goodIn_app (goodIn_r _ [16, 17, 18, 7] rfl (by decide +kernel)) ggX6_isHere_J0_charAt_5068e
set_option maxRecDepth 20000 in
theorem ggX7_init_X4_init : GoodIn wsX7_init wsX4_init := goodIn_r _ [32, 33, 2, 3, 34, 35, 28, 36, 37, 38, 39, 40, 41, 42, 43, 44, 45, 46, 47, 78, 79, 80, 81, 82, 83, 84, 85, 86, 122, 123, 124, 125] rfl gw_X4_init
set_option maxRecDepth 20000 in
theorem gX7_init_X4_init : GoodIn wsX7_init (wsX4_init) := ggX7_init_X4_init
set_option maxRecDepth 20000 in
theorem ggX7_init_X6_init : GoodIn wsX7_init wsX6_init := goodIn_r _ [49, 50, 2, 3, 28, 51, 52, 53, 54, 99, 100, 101, 102, 103, 104, 105, 106, 107, 108] rfl gw_X6_init
set_option maxRecDepth 20000 in
theorem gX7_init_X6_init_n29 : GoodIn wsX7_init (wsX6_init) := ggX7_init_X6_init
set_option maxRecDepth 20000 in
theorem ggX7_init_X5_init : GoodIn wsX7_init wsX5_init := goodIn_r _ [56, 57, 2, 3, 58, 28, 59, 60, 61, 62, 63, 109, 110, 111, 112, 113] rfl gw_X5_init
set_option maxRecDepth 20000 in
theorem gX7_init_X5_init_n36 : GoodIn wsX7_init (wsX5_init) := ggX7_init_X5_init
set_option maxRecDepth 20000 in
theorem ggX7_init_X3_init : GoodIn wsX7_init wsX3_init := goodIn_r _ [65, 66, 2, 3, 28, 67, 68, 10, 69, 114, 115, 116, 117] rfl gw_X3_init
set_option maxRecDepth 20000 in
theorem gX7_init_X3_init_n43 : GoodIn wsX7_init (wsX3_init) := ggX7_init_X3_init
set_option maxRecDepth 20000 in
theorem ggX7_init_X0_init : GoodIn wsX7_init wsX0_init := goodIn_r _ [71, 72, 2, 3, 73, 74, 75, 76, 77, 118, 119, 120, 121] rfl gw_X0_init
set_option maxRecDepth 20000 in
theorem gX7_init_X0_init_n50 : GoodIn wsX7_init (wsX0_init) := ggX7_init_X0_init
set_option maxRecDepth 20000 in
theorem ggX7_page_X7_isBreath : GoodIn wsX7_page wsX7_isBreath := goodIn_r _ [6, 7, 8, 5, 9] rfl gw_X7_isBreath
set_option maxRecDepth 20000 in
theorem gX7_page_X7_isBreath : GoodIn wsX7_page (va_wsS RX7 59 yX7_isBreath wsX7_isBreath) := goodIn_app (goodIn_r _ [3, 4, 5] rfl (by decide +kernel)) ggX7_page_X7_isBreath
set_option maxRecDepth 20000 in
theorem ggX7_page_X7_isPrice : GoodIn wsX7_page wsX7_isPrice := goodIn_r _ [12, 7, 8, 5, 9] rfl gw_X7_isPrice
set_option maxRecDepth 20000 in
theorem gX7_page_X7_isPrice : GoodIn wsX7_page (va_wsS RX7 63 yX7_isPrice wsX7_isPrice) := goodIn_app (goodIn_r _ [10, 11, 5] rfl (by decide +kernel)) ggX7_page_X7_isPrice
set_option maxRecDepth 20000 in
theorem ggX7_page_X7_bad : GoodIn wsX7_page wsX7_bad := goodIn_r _ [16, 17, 31, 32, 33, 34, 35, 36, 37, 38, 39, 40, 41, 42] rfl gw_X7_bad
set_option maxRecDepth 20000 in
theorem gX7_page_X7_bad : GoodIn wsX7_page (wsV RX7 66 RX7 yX7_bad wsX7_bad) := goodIn_app (goodIn_r _ [13, 14, 15, 5] rfl (by decide +kernel)) ggX7_page_X7_bad
set_option maxRecDepth 20000 in
theorem ggX7_page_X4_begin : GoodIn wsX7_page wsX4_begin := goodIn_r _ [22, 23, 24, 25, 26, 27, 28, 29, 30, 43, 44, 45, 46, 47, 48, 49, 50, 51, 52, 53, 54, 55] rfl gw_X4_begin
set_option maxRecDepth 20000 in
theorem gX7_page_X4_begin : GoodIn wsX7_page (wsV RX7 74 RX4 yX4_begin wsX4_begin) := goodIn_app (goodIn_r _ [18, 19, 20, 21] rfl (by decide +kernel)) ggX7_page_X4_begin
set_option maxRecDepth 20000 in
theorem ggX7_word_X7_isLength : GoodIn wsX7_word wsX7_isLength := goodIn_r _ [6, 7, 8, 5, 9] rfl gw_X7_isLength
set_option maxRecDepth 20000 in
theorem gX7_word_X7_isLength : GoodIn wsX7_word (va_wsS RX7 78 yX7_isLength wsX7_isLength) := goodIn_app (goodIn_r _ [3, 4, 5] rfl (by decide +kernel)) ggX7_word_X7_isLength
set_option maxRecDepth 20000 in
theorem ggX7_word_X7_bad : GoodIn wsX7_word wsX7_bad := goodIn_r _ [13, 14, 40, 41, 42, 43, 44, 45, 46, 47, 48, 49, 50, 51] rfl gw_X7_bad
set_option maxRecDepth 20000 in
theorem gX7_word_X7_bad : GoodIn wsX7_word (wsV RX7 66 RX7 yX7_bad wsX7_bad) := goodIn_app (goodIn_r _ [10, 11, 12, 5] rfl (by decide +kernel)) ggX7_word_X7_bad
set_option maxRecDepth 20000 in
theorem ggX7_word_X4_hasRoom : GoodIn wsX7_word wsX4_hasRoom := goodIn_r _ [19, 20, 52, 53, 54, 55, 56, 57, 58, 59, 60] rfl gw_X4_hasRoom
set_option maxRecDepth 20000 in
theorem gX7_word_X4_hasRoom : GoodIn wsX7_word (wsV RX7 81 RX4 yX4_hasRoom wsX4_hasRoom) := goodIn_app (goodIn_r _ [15, 16, 17, 18] rfl (by decide +kernel)) ggX7_word_X4_hasRoom
set_option maxRecDepth 20000 in
theorem ggX7_word_X7_full : GoodIn wsX7_word wsX7_full := goodIn_r _ [24, 25, 40, 41, 42, 43, 44, 45, 46, 47, 48, 49, 50, 51] rfl gw_X7_full
set_option maxRecDepth 20000 in
theorem gX7_word_X7_full : GoodIn wsX7_word (wsV RX7 85 RX7 yX7_full wsX7_full) := goodIn_app (goodIn_r _ [21, 22, 23, 5] rfl (by decide +kernel)) ggX7_word_X7_full
set_option maxRecDepth 20000 in
theorem ggX7_word_X4_addWord : GoodIn wsX7_word wsX4_addWord := goodIn_r _ [29, 30, 20, 31, 32, 33, 34, 35, 36, 37, 38, 39, 52, 53, 54, 55, 56, 57, 58, 59, 60, 61, 62, 63, 64] rfl gw_X4_addWord
set_option maxRecDepth 20000 in
theorem gX7_word_X4_addWord : GoodIn wsX7_word (wsV RX7 88 RX4 yX4_addWord wsX4_addWord) := goodIn_app (goodIn_r _ [26, 27, 28, 18] rfl (by decide +kernel)) ggX7_word_X4_addWord
set_option maxRecDepth 20000 in
theorem ggX7_breath_X7_isBreath : GoodIn wsX7_breath wsX7_isBreath := goodIn_r _ [6, 7, 8, 5, 9] rfl gw_X7_isBreath
set_option maxRecDepth 20000 in
theorem gX7_breath_X7_isBreath : GoodIn wsX7_breath (va_wsS RX7 59 yX7_isBreath wsX7_isBreath) := goodIn_app (goodIn_r _ [3, 4, 5] rfl (by decide +kernel)) ggX7_breath_X7_isBreath
set_option maxRecDepth 20000 in
theorem ggX7_breath_X7_bad : GoodIn wsX7_breath wsX7_bad := goodIn_r _ [13, 14, 15, 16, 17, 18, 19, 20, 21, 22, 23, 24, 25, 26] rfl gw_X7_bad
set_option maxRecDepth 20000 in
theorem gX7_breath_X7_bad : GoodIn wsX7_breath (wsV RX7 66 RX7 yX7_bad wsX7_bad) := goodIn_app (goodIn_r _ [10, 11, 12, 5] rfl (by decide +kernel)) ggX7_breath_X7_bad
set_option maxRecDepth 20000 in
theorem ggX7_price_X7_isPrice : GoodIn wsX7_price wsX7_isPrice := goodIn_r _ [6, 7, 8, 5, 9] rfl gw_X7_isPrice
set_option maxRecDepth 20000 in
theorem gX7_price_X7_isPrice : GoodIn wsX7_price (va_wsS RX7 63 yX7_isPrice wsX7_isPrice) := goodIn_app (goodIn_r _ [3, 4, 5] rfl (by decide +kernel)) ggX7_price_X7_isPrice
set_option maxRecDepth 20000 in
theorem ggX7_price_X7_bad : GoodIn wsX7_price wsX7_bad := goodIn_r _ [13, 14, 15, 16, 17, 18, 19, 20, 21, 22, 23, 24, 25, 26] rfl gw_X7_bad
set_option maxRecDepth 20000 in
theorem gX7_price_X7_bad : GoodIn wsX7_price (wsV RX7 66 RX7 yX7_bad wsX7_bad) := goodIn_app (goodIn_r _ [10, 11, 12, 5] rfl (by decide +kernel)) ggX7_price_X7_bad
set_option maxRecDepth 20000 in
theorem ggX7_purse_X7_isWithin : GoodIn wsX7_purse wsX7_isWithin := goodIn_r _ [7] rfl gw_X7_isWithin
set_option maxRecDepth 20000 in
theorem gX7_purse_X7_isWithin : GoodIn wsX7_purse (va_wsS RX7 98 yX7_isWithin wsX7_isWithin) := goodIn_app (goodIn_r _ [4, 5, 6] rfl (by decide +kernel)) ggX7_purse_X7_isWithin
set_option maxRecDepth 20000 in
theorem ggX7_purse_X7_bad : GoodIn wsX7_purse wsX7_bad := goodIn_r _ [11, 12, 13, 14, 15, 16, 17, 18, 19, 20, 21, 22, 23, 24] rfl gw_X7_bad
set_option maxRecDepth 20000 in
theorem gX7_purse_X7_bad : GoodIn wsX7_purse (wsV RX7 66 RX7 yX7_bad wsX7_bad) := goodIn_app (goodIn_r _ [8, 9, 10, 6] rfl (by decide +kernel)) ggX7_purse_X7_bad
set_option maxRecDepth 20000 in
theorem ggX7_put_X4_has : GoodIn wsX7_put wsX4_has := goodIn_r _ [8, 9, 45, 46, 47, 48, 49, 50, 51, 52, 53] rfl gw_X4_has
set_option maxRecDepth 20000 in
theorem gX7_put_X4_has : GoodIn wsX7_put (wsV RX7 111 RX4 yX4_has wsX4_has) := goodIn_app (goodIn_r _ [4, 5, 6, 7] rfl (by decide +kernel)) ggX7_put_X4_has
set_option maxRecDepth 20000 in
theorem ggX7_put_X1_isOne : GoodIn wsX7_put wsX1_isOne := goodIn_r _ [13] rfl gw_X1_isOne
set_option maxRecDepth 20000 in
theorem gX7_put_X1_isOne : GoodIn wsX7_put (va_wsS RX7 114 yX1_isOne wsX1_isOne) := goodIn_app (goodIn_r _ [10, 11, 12] rfl (by decide +kernel)) ggX7_put_X1_isOne
set_option maxRecDepth 20000 in
theorem ggX7_put_X7_bad : GoodIn wsX7_put wsX7_bad := goodIn_r _ [18, 19, 33, 34, 35, 36, 37, 38, 39, 40, 41, 42, 43, 44] rfl gw_X7_bad
set_option maxRecDepth 20000 in
theorem gX7_put_X7_bad : GoodIn wsX7_put (wsV RX7 66 RX7 yX7_bad wsX7_bad) := goodIn_app (goodIn_r _ [14, 15, 16, 17] rfl (by decide +kernel)) ggX7_put_X7_bad
set_option maxRecDepth 20000 in
theorem ggX7_put_X4_setMark : GoodIn wsX7_put wsX4_setMark := goodIn_r _ [23, 24, 25, 26, 27, 28, 29, 30, 31, 32, 45, 46, 47, 48, 49, 50, 51, 52, 53, 54, 55, 56, 57] rfl gw_X4_setMark
set_option maxRecDepth 20000 in
theorem gX7_put_X4_setMark : GoodIn wsX7_put (wsV RX7 122 RX4 yX4_setMark wsX4_setMark) := goodIn_app (goodIn_r _ [20, 21, 22, 7] rfl (by decide +kernel)) ggX7_put_X4_setMark
set_option maxRecDepth 20000 in
theorem ggX7_type_X7_isWithin : GoodIn wsX7_type wsX7_isWithin := goodIn_r _ [6] rfl gw_X7_isWithin
set_option maxRecDepth 20000 in
theorem gX7_type_X7_isWithin : GoodIn wsX7_type (va_wsS RX7 98 yX7_isWithin wsX7_isWithin) := goodIn_app (goodIn_r _ [3, 4, 5] rfl (by decide +kernel)) ggX7_type_X7_isWithin
set_option maxRecDepth 20000 in
theorem ggX7_type_X7_bad : GoodIn wsX7_type wsX7_bad := goodIn_r _ [10, 11, 24, 25, 26, 27, 28, 29, 30, 31, 32, 33, 34, 35] rfl gw_X7_bad
set_option maxRecDepth 20000 in
theorem gX7_type_X7_bad : GoodIn wsX7_type (wsV RX7 66 RX7 yX7_bad wsX7_bad) := goodIn_app (goodIn_r _ [7, 8, 9, 5] rfl (by decide +kernel)) ggX7_type_X7_bad
set_option maxRecDepth 20000 in
theorem ggX7_type_X7_full : GoodIn wsX7_type wsX7_full := goodIn_r _ [15, 16, 24, 25, 26, 27, 28, 29, 30, 31, 32, 33, 34, 35] rfl gw_X7_full
set_option maxRecDepth 20000 in
theorem gX7_type_X7_full : GoodIn wsX7_type (wsV RX7 85 RX7 yX7_full wsX7_full) := goodIn_app (goodIn_r _ [12, 13, 14, 5] rfl (by decide +kernel)) ggX7_type_X7_full
set_option maxRecDepth 20000 in
theorem ggX7_type_X6_add : GoodIn wsX7_type wsX6_add := goodIn_r _ [21, 22, 23, 36, 37, 38, 39, 40, 41, 42, 43, 44, 45] rfl gw_X6_add
set_option maxRecDepth 20000 in
theorem gX7_type_X6_add : GoodIn wsX7_type (wsV RX7 128 RX6 yX6_add wsX6_add) := goodIn_app (goodIn_r _ [17, 18, 19, 20] rfl (by decide +kernel)) ggX7_type_X6_add
set_option maxRecDepth 20000 in
theorem ggX7_read_X6_findFault : GoodIn wsX7_read wsX6_findFault := goodIn_r _ [9, 10, 11, 12, 13, 14, 15, 16, 17, 8, 18, 19, 20, 21, 22, 23, 24, 25, 26, 27, 28, 29, 30, 31, 32, 33, 34, 35, 36, 37, 38, 39, 40, 41, 42, 43, 44, 45, 46, 47, 48, 49, 50, 51, 52, 53, 54, 55, 56, 57, 58, 59, 60, 61, 62, 63, 64, 65, 66, 67, 68, 69, 70, 71, 72, 73, 74, 75, 76, 77, 78, 79, 80, 81, 82, 83, 84, 85, 86, 87, 88, 89, 90, 91, 92, 93, 94, 95, 96, 187, 188, 189, 190, 191, 192, 193, 194, 195, 196] rfl gw_X6_findFault
set_option maxRecDepth 20000 in
theorem gX7_read_X6_findFault : GoodIn wsX7_read (wsV RX7 131 RX6 yX6_findFault wsX6_findFault) := goodIn_app (goodIn_r _ [5, 6, 7, 8] rfl (by decide +kernel)) ggX7_read_X6_findFault
set_option maxRecDepth 20000 in
theorem ggX7_read_X7_tellItem : GoodIn wsX7_read wsX7_tellItem := goodIn_r _ [101, 1, 102, 103, 104, 4, 105, 106, 100, 107, 108, 109, 110, 111, 112, 113, 114, 115, 116, 117, 118, 119, 120, 121, 122, 123, 124, 125, 126, 127, 128, 129, 130, 131, 132, 133, 134, 135, 136, 137, 138, 139, 140, 141, 142, 143, 144, 145, 146, 147, 148, 149, 150, 151, 152, 153, 154, 155, 156, 157, 175, 176, 177, 178, 179, 180, 181, 182, 183, 184, 185, 186, 187, 188, 189, 190, 191, 192, 193, 194, 195, 196, 197, 198, 199, 200, 201, 202, 203, 204, 205, 206, 207, 208, 209] rfl gw_X7_tellItem
set_option maxRecDepth 20000 in
theorem gX7_read_X7_tellItem : GoodIn wsX7_read (wsV RX7 138 RX7 yX7_tellItem wsX7_tellItem) := goodIn_app (goodIn_r _ [97, 98, 99, 100] rfl (by decide +kernel)) ggX7_read_X7_tellItem
set_option maxRecDepth 20000 in
theorem ggX7_read_X4_copy : GoodIn wsX7_read wsX4_copy := goodIn_r _ [161, 119, 120, 124, 125, 126, 138, 162, 163, 164, 165, 166, 121, 167, 168, 169, 170, 142, 171, 172, 173, 144, 174, 145, 197, 198, 199, 200, 201, 202, 203, 204, 205, 206, 207, 208, 209] rfl gw_X4_copy
set_option maxRecDepth 20000 in
theorem gX7_read_X4_copy : GoodIn wsX7_read (wsV RX7 141 RX4 yX4_copy wsX4_copy) := goodIn_app (goodIn_r _ [158, 159, 160, 117] rfl (by decide +kernel)) ggX7_read_X4_copy
set_option maxRecDepth 20000 in
theorem ggX7_buy_X4_has : GoodIn wsX7_buy wsX4_has := goodIn_r _ [9, 10, 75, 76, 77, 78, 79, 80, 81, 82, 83] rfl gw_X4_has
set_option maxRecDepth 20000 in
theorem gX7_buy_X4_has : GoodIn wsX7_buy (wsV RX7 111 RX4 yX4_has wsX4_has) := goodIn_app (goodIn_r _ [5, 6, 7, 8] rfl (by decide +kernel)) ggX7_buy_X4_has
set_option maxRecDepth 20000 in
theorem ggX7_buy_X1_isOne : GoodIn wsX7_buy wsX1_isOne := goodIn_r _ [14] rfl gw_X1_isOne
set_option maxRecDepth 20000 in
theorem gX7_buy_X1_isOne : GoodIn wsX7_buy (va_wsS RX7 114 yX1_isOne wsX1_isOne) := goodIn_app (goodIn_r _ [11, 12, 13] rfl (by decide +kernel)) ggX7_buy_X1_isOne
set_option maxRecDepth 20000 in
theorem ggX7_buy_X7_bad : GoodIn wsX7_buy wsX7_bad := goodIn_r _ [19, 20, 63, 64, 65, 66, 67, 68, 69, 70, 71, 72, 73, 74] rfl gw_X7_bad
set_option maxRecDepth 20000 in
theorem gX7_buy_X7_bad : GoodIn wsX7_buy (wsV RX7 66 RX7 yX7_bad wsX7_bad) := goodIn_app (goodIn_r _ [15, 16, 17, 18] rfl (by decide +kernel)) ggX7_buy_X7_bad
set_option maxRecDepth 20000 in
theorem ggX7_buy_X4_costOf : GoodIn wsX7_buy wsX4_costOf := goodIn_r _ [24, 25, 26, 27, 28, 29, 13, 30, 75, 76, 77, 78, 79, 80, 81, 82, 83, 84, 85, 86, 87] rfl gw_X4_costOf
set_option maxRecDepth 20000 in
theorem gX7_buy_X4_costOf : GoodIn wsX7_buy (wsV RX7 145 RX4 yX4_costOf wsX4_costOf) := goodIn_app (goodIn_r _ [21, 22, 23, 8] rfl (by decide +kernel)) ggX7_buy_X4_costOf
set_option maxRecDepth 20000 in
theorem ggX7_buy_X7_no : GoodIn wsX7_buy wsX7_no := goodIn_r _ [34, 35, 63, 64, 65, 66, 67, 68, 69, 70, 71, 72, 73, 74] rfl gw_X7_no
set_option maxRecDepth 20000 in
theorem gX7_buy_X7_no : GoodIn wsX7_buy (wsV RX7 148 RX7 yX7_no wsX7_no) := goodIn_app (goodIn_r _ [31, 32, 33, 18] rfl (by decide +kernel)) ggX7_buy_X7_no
set_option maxRecDepth 20000 in
theorem ggX7_buy_X4_remember : GoodIn wsX7_buy wsX4_remember := goodIn_r _ [39, 40, 41, 26, 42, 43, 44, 8, 45, 46, 47, 48, 49, 50, 51, 52, 53, 54, 55, 56, 57, 58, 75, 76, 77, 78, 79, 80, 81, 82, 83, 84, 85, 86, 87] rfl gw_X4_remember
set_option maxRecDepth 20000 in
theorem gX7_buy_X4_remember : GoodIn wsX7_buy (wsV RX7 151 RX4 yX4_remember wsX4_remember) := goodIn_app (goodIn_r _ [36, 37, 38, 8] rfl (by decide +kernel)) ggX7_buy_X4_remember
set_option maxRecDepth 20000 in
theorem ggX7_buy_X2_set : GoodIn wsX7_buy wsX2_set := goodIn_r _ [62, 53, 58, 84, 85, 86, 87] rfl gw_X2_set
set_option maxRecDepth 20000 in
theorem gX7_buy_X2_set : GoodIn wsX7_buy (wsV RX7 154 RX2 yX2_set wsX2_set) := goodIn_app (goodIn_r _ [59, 60, 61, 49] rfl (by decide +kernel)) ggX7_buy_X2_set
set_option maxRecDepth 20000 in
theorem ggX7_sell_X4_has : GoodIn wsX7_sell wsX4_has := goodIn_r _ [13, 14, 76, 77, 78, 79, 80, 81, 82, 83, 84] rfl gw_X4_has
set_option maxRecDepth 20000 in
theorem gX7_sell_X4_has : GoodIn wsX7_sell (wsV RX7 111 RX4 yX4_has wsX4_has) := goodIn_app (goodIn_r _ [9, 10, 11, 12] rfl (by decide +kernel)) ggX7_sell_X4_has
set_option maxRecDepth 20000 in
theorem ggX7_sell_X7_bad : GoodIn wsX7_sell wsX7_bad := goodIn_r _ [19, 20, 64, 65, 66, 67, 68, 69, 70, 71, 72, 73, 74, 75] rfl gw_X7_bad
set_option maxRecDepth 20000 in
theorem gX7_sell_X7_bad : GoodIn wsX7_sell (wsV RX7 66 RX7 yX7_bad wsX7_bad) := goodIn_app (goodIn_r _ [15, 16, 17, 18] rfl (by decide +kernel)) ggX7_sell_X7_bad
set_option maxRecDepth 20000 in
theorem ggX7_sell_X7_no : GoodIn wsX7_sell wsX7_no := goodIn_r _ [24, 25, 64, 65, 66, 67, 68, 69, 70, 71, 72, 73, 74, 75] rfl gw_X7_no
set_option maxRecDepth 20000 in
theorem gX7_sell_X7_no : GoodIn wsX7_sell (wsV RX7 148 RX7 yX7_no wsX7_no) := goodIn_app (goodIn_r _ [21, 22, 23, 18] rfl (by decide +kernel)) ggX7_sell_X7_no
set_option maxRecDepth 20000 in
theorem ggX7_sell_X4_costOf : GoodIn wsX7_sell wsX4_costOf := goodIn_r _ [29, 30, 31, 32, 33, 34, 35, 36, 76, 77, 78, 79, 80, 81, 82, 83, 84, 85, 86, 87, 88] rfl gw_X4_costOf
set_option maxRecDepth 20000 in
theorem gX7_sell_X4_costOf : GoodIn wsX7_sell (wsV RX7 145 RX4 yX4_costOf wsX4_costOf) := goodIn_app (goodIn_r _ [26, 27, 28, 12] rfl (by decide +kernel)) ggX7_sell_X4_costOf
set_option maxRecDepth 20000 in
theorem ggX7_sell_X4_remember : GoodIn wsX7_sell wsX4_remember := goodIn_r _ [40, 41, 42, 31, 43, 44, 45, 12, 46, 47, 48, 49, 50, 51, 52, 53, 54, 55, 56, 57, 58, 59, 76, 77, 78, 79, 80, 81, 82, 83, 84, 85, 86, 87, 88] rfl gw_X4_remember
set_option maxRecDepth 20000 in
theorem gX7_sell_X4_remember : GoodIn wsX7_sell (wsV RX7 151 RX4 yX4_remember wsX4_remember) := goodIn_app (goodIn_r _ [37, 38, 39, 12] rfl (by decide +kernel)) ggX7_sell_X4_remember
set_option maxRecDepth 20000 in
theorem ggX7_sell_X2_set : GoodIn wsX7_sell wsX2_set := goodIn_r _ [63, 54, 59, 85, 86, 87, 88] rfl gw_X2_set
set_option maxRecDepth 20000 in
theorem gX7_sell_X2_set : GoodIn wsX7_sell (wsV RX7 154 RX2 yX2_set wsX2_set) := goodIn_app (goodIn_r _ [60, 61, 62, 50] rfl (by decide +kernel)) ggX7_sell_X2_set
set_option maxRecDepth 20000 in
theorem ggX7_readOut_X4_remember : GoodIn wsX7_readOut wsX4_remember := goodIn_r _ [6, 7, 8, 9, 10, 11, 12, 5, 13, 14, 15, 16, 17, 18, 19, 20, 21, 22, 23, 24, 25, 26, 73, 74, 75, 76, 77, 78, 79, 80, 81, 82, 83, 84, 85] rfl gw_X4_remember
set_option maxRecDepth 20000 in
theorem gX7_readOut_X4_remember : GoodIn wsX7_readOut (wsV RX7 151 RX4 yX4_remember wsX4_remember) := goodIn_app (goodIn_r _ [2, 3, 4, 5] rfl (by decide +kernel)) ggX7_readOut_X4_remember
set_option maxRecDepth 20000 in
theorem ggX7_readOut_X4_say : GoodIn wsX7_readOut wsX4_say := goodIn_r _ [30, 31, 32, 33, 9, 34, 35, 36, 5, 37, 38, 39, 40, 41, 42, 43, 44, 45, 46, 47, 48, 49, 50, 51, 52, 17, 53, 21, 26, 54, 55, 56, 57, 58, 59, 60, 73, 74, 75, 76, 77, 78, 79, 80, 81, 82, 83, 84, 85] rfl gw_X4_say
set_option maxRecDepth 20000 in
theorem gX7_readOut_X4_say : GoodIn wsX7_readOut (wsV RX7 163 RX4 yX4_say wsX4_say) := goodIn_app (goodIn_r _ [27, 28, 29, 5] rfl (by decide +kernel)) ggX7_readOut_X4_say
set_option maxRecDepth 20000 in
theorem ggX7_week_X7_isWithin : GoodIn wsX7_week wsX7_isWithin := goodIn_r _ [7] rfl gw_X7_isWithin
set_option maxRecDepth 20000 in
theorem gX7_week_X7_isWithin : GoodIn wsX7_week (va_wsS RX7 98 yX7_isWithin wsX7_isWithin) := goodIn_app (goodIn_r _ [4, 5, 6] rfl (by decide +kernel)) ggX7_week_X7_isWithin
set_option maxRecDepth 20000 in
theorem ggX7_week_X7_bad : GoodIn wsX7_week wsX7_bad := goodIn_r _ [11, 12, 38, 39, 40, 41, 42, 43, 44, 45, 46, 47, 48, 49] rfl gw_X7_bad
set_option maxRecDepth 20000 in
theorem gX7_week_X7_bad : GoodIn wsX7_week (wsV RX7 66 RX7 yX7_bad wsX7_bad) := goodIn_app (goodIn_r _ [8, 9, 10, 6] rfl (by decide +kernel)) ggX7_week_X7_bad
set_option maxRecDepth 20000 in
theorem ggX7_week_X4_remember : GoodIn wsX7_week wsX4_remember := goodIn_r _ [17, 18, 19, 20, 21, 22, 23, 16, 24, 25, 26, 27, 28, 29, 30, 31, 32, 33, 34, 35, 36, 37, 50, 51, 52, 53, 54, 55, 56, 57, 58, 59, 60, 61, 62] rfl gw_X4_remember
set_option maxRecDepth 20000 in
theorem gX7_week_X4_remember : GoodIn wsX7_week (wsV RX7 151 RX4 yX4_remember wsX4_remember) := goodIn_app (goodIn_r _ [13, 14, 15, 16] rfl (by decide +kernel)) ggX7_week_X4_remember
set_option maxRecDepth 20000 in
theorem ggX7_undo_X7_no : GoodIn wsX7_undo wsX7_no := goodIn_r _ [9, 10, 32, 33, 34, 35, 36, 37, 38, 39, 40, 41, 42, 43] rfl gw_X7_no
set_option maxRecDepth 20000 in
theorem gX7_undo_X7_no : GoodIn wsX7_undo (wsV RX7 148 RX7 yX7_no wsX7_no) := goodIn_app (goodIn_r _ [5, 6, 7, 8] rfl (by decide +kernel)) ggX7_undo_X7_no
set_option maxRecDepth 20000 in
theorem ggX7_undo_X4_goBack : GoodIn wsX7_undo wsX4_goBack := goodIn_r _ [15, 16, 17, 18, 19, 20, 21, 22, 23, 24, 25, 26, 27, 28, 29, 30, 31, 44, 45, 46, 47, 48, 49, 50, 51, 52, 53, 54, 55, 56] rfl gw_X4_goBack
set_option maxRecDepth 20000 in
theorem gX7_undo_X4_goBack : GoodIn wsX7_undo (wsV RX7 172 RX4 yX4_goBack wsX4_goBack) := goodIn_app (goodIn_r _ [11, 12, 13, 14] rfl (by decide +kernel)) ggX7_undo_X4_goBack
set_option maxRecDepth 20000 in
theorem ggX7_of_X4_has : GoodIn wsX7_of wsX4_has := goodIn_r _ [10, 11, 41, 42, 43, 44, 45, 46, 47, 48, 49] rfl gw_X4_has
set_option maxRecDepth 20000 in
theorem gX7_of_X4_has : GoodIn wsX7_of (wsV RX7 111 RX4 yX4_has wsX4_has) := goodIn_app (goodIn_r _ [6, 7, 8, 9] rfl (by decide +kernel)) ggX7_of_X4_has
set_option maxRecDepth 20000 in
theorem ggX7_of_X7_bad : GoodIn wsX7_of wsX7_bad := goodIn_r _ [16, 17, 29, 30, 31, 32, 33, 34, 35, 36, 37, 38, 39, 40] rfl gw_X7_bad
set_option maxRecDepth 20000 in
theorem gX7_of_X7_bad : GoodIn wsX7_of (wsV RX7 66 RX7 yX7_bad wsX7_bad) := goodIn_app (goodIn_r _ [12, 13, 14, 15] rfl (by decide +kernel)) ggX7_of_X7_bad
set_option maxRecDepth 20000 in
theorem ggX7_of_X4_costOf : GoodIn wsX7_of wsX4_costOf := goodIn_r _ [21, 22, 23, 24, 25, 26, 27, 28, 41, 42, 43, 44, 45, 46, 47, 48, 49, 50, 51, 52, 53] rfl gw_X4_costOf
set_option maxRecDepth 20000 in
theorem gX7_of_X4_costOf : GoodIn wsX7_of (wsV RX7 145 RX4 yX4_costOf wsX4_costOf) := goodIn_app (goodIn_r _ [18, 19, 20, 9] rfl (by decide +kernel)) ggX7_of_X4_costOf
set_option maxRecDepth 20000 in
theorem ggX7_costs_X1_isOne : GoodIn wsX7_costs wsX1_isOne := goodIn_r _ [5] rfl gw_X1_isOne
set_option maxRecDepth 20000 in
theorem gX7_costs_X1_isOne : GoodIn wsX7_costs (va_wsS RX7 114 yX1_isOne wsX1_isOne) := goodIn_app (goodIn_r _ [2, 3, 4] rfl (by decide +kernel)) ggX7_costs_X1_isOne
set_option maxRecDepth 20000 in
theorem ggX7_costs_X4_costOf : GoodIn wsX7_costs wsX4_costOf := goodIn_r _ [10, 11, 12, 13, 14, 15, 4, 16, 35, 36, 37, 38, 39, 40, 41, 42, 43, 44, 45, 46, 47] rfl gw_X4_costOf
set_option maxRecDepth 20000 in
theorem gX7_costs_X4_costOf : GoodIn wsX7_costs (wsV RX7 145 RX4 yX4_costOf wsX4_costOf) := goodIn_app (goodIn_r _ [6, 7, 8, 9] rfl (by decide +kernel)) ggX7_costs_X4_costOf
set_option maxRecDepth 20000 in
theorem ggX7_costs_X7_bad : GoodIn wsX7_costs wsX7_bad := goodIn_r _ [21, 22, 23, 24, 25, 26, 27, 28, 29, 30, 31, 32, 33, 34] rfl gw_X7_bad
set_option maxRecDepth 20000 in
theorem gX7_costs_X7_bad : GoodIn wsX7_costs (wsV RX7 66 RX7 yX7_bad wsX7_bad) := goodIn_app (goodIn_r _ [17, 18, 19, 20] rfl (by decide +kernel)) ggX7_costs_X7_bad
set_option maxRecDepth 20000 in
theorem ggX7_gives_X1_isOne : GoodIn wsX7_gives wsX1_isOne := goodIn_r _ [6] rfl gw_X1_isOne
set_option maxRecDepth 20000 in
theorem gX7_gives_X1_isOne : GoodIn wsX7_gives (va_wsS RX7 114 yX1_isOne wsX1_isOne) := goodIn_app (goodIn_r _ [3, 4, 5] rfl (by decide +kernel)) ggX7_gives_X1_isOne
set_option maxRecDepth 20000 in
theorem ggX7_gives_X7_isWithin : GoodIn wsX7_gives wsX7_isWithin := goodIn_r _ [10] rfl gw_X7_isWithin
set_option maxRecDepth 20000 in
theorem gX7_gives_X7_isWithin : GoodIn wsX7_gives (va_wsS RX7 98 yX7_isWithin wsX7_isWithin) := goodIn_app (goodIn_r _ [7, 8, 9] rfl (by decide +kernel)) ggX7_gives_X7_isWithin
set_option maxRecDepth 20000 in
theorem ggX7_gives_X7_bad : GoodIn wsX7_gives wsX7_bad := goodIn_r _ [14, 15, 26, 27, 28, 29, 30, 31, 32, 33, 34, 35, 36, 37] rfl gw_X7_bad
set_option maxRecDepth 20000 in
theorem gX7_gives_X7_bad : GoodIn wsX7_gives (wsV RX7 66 RX7 yX7_bad wsX7_bad) := goodIn_app (goodIn_r _ [11, 12, 13, 9] rfl (by decide +kernel)) ggX7_gives_X7_bad
set_option maxRecDepth 20000 in
theorem ggX7_gives_X1_breathBehind : GoodIn wsX7_gives wsX1_breathBehind := goodIn_r _ [18, 19, 20, 21, 22, 23, 24, 25] rfl gw_X1_breathBehind
set_option maxRecDepth 20000 in
theorem gX7_gives_X1_breathBehind : GoodIn wsX7_gives (va_wsS RX7 181 yX1_breathBehind wsX1_breathBehind) := goodIn_app (goodIn_r _ [16, 17, 5] rfl (by decide +kernel)) ggX7_gives_X1_breathBehind
set_option maxRecDepth 20000 in
theorem ggX7_stuck_X4_stuckAt : GoodIn wsX7_stuck wsX4_stuckAt := goodIn_r _ [7, 8, 9, 10, 11, 12, 6, 13, 14, 15, 16, 17, 18, 19, 20, 21, 22, 23, 24, 25, 26, 39, 40, 41, 42, 43, 44, 45, 46, 47, 48, 49, 50, 51] rfl gw_X4_stuckAt
set_option maxRecDepth 20000 in
theorem gX7_stuck_X4_stuckAt : GoodIn wsX7_stuck (wsV RX7 185 RX4 yX4_stuckAt wsX4_stuckAt) := goodIn_app (goodIn_r _ [3, 4, 5, 6] rfl (by decide +kernel)) ggX7_stuck_X4_stuckAt
set_option maxRecDepth 20000 in
theorem ggX7_sentences_X4_howManySentences : GoodIn wsX7_sentences wsX4_howManySentences := goodIn_r _ [6, 7, 8, 9, 10, 11, 12, 13, 14, 15, 16, 5, 17, 41, 42, 43, 44, 45, 46, 47, 48, 49, 50, 51, 52, 53] rfl gw_X4_howManySentences
set_option maxRecDepth 20000 in
theorem gX7_sentences_X4_howManySentences : GoodIn wsX7_sentences (wsV RX7 188 RX4 yX4_howManySentences wsX4_howManySentences) := goodIn_app (goodIn_r _ [2, 3, 4, 5] rfl (by decide +kernel)) ggX7_sentences_X4_howManySentences
set_option maxRecDepth 20000 in
theorem ggX7_sentences_X4_lastIsEnded : GoodIn wsX7_sentences wsX4_lastIsEnded := goodIn_r _ [17, 7, 8, 9, 10, 11, 12, 13, 41, 42, 43, 44, 45, 46, 47, 48, 49, 50, 51, 52, 53] rfl gw_X4_lastIsEnded
set_option maxRecDepth 20000 in
theorem gX7_sentences_X4_lastIsEnded : GoodIn wsX7_sentences (wsV RX7 191 RX4 yX4_lastIsEnded wsX4_lastIsEnded) := goodIn_app (goodIn_r _ [18, 15, 16, 5] rfl (by decide +kernel)) ggX7_sentences_X4_lastIsEnded
set_option maxRecDepth 20000 in
theorem ggX7_sentences_X4_longestSentence : GoodIn wsX7_sentences wsX4_longestSentence := goodIn_r _ [22, 7, 8, 9, 10, 11, 12, 13, 41, 42, 43, 44, 45, 46, 47, 48, 49, 50, 51, 52, 53] rfl gw_X4_longestSentence
set_option maxRecDepth 20000 in
theorem gX7_sentences_X4_longestSentence : GoodIn wsX7_sentences (wsV RX7 194 RX4 yX4_longestSentence wsX4_longestSentence) := goodIn_app (goodIn_r _ [19, 20, 21, 5] rfl (by decide +kernel)) ggX7_sentences_X4_longestSentence
set_option maxRecDepth 20000 in
theorem ggX7_sentences_X7_bad : GoodIn wsX7_sentences wsX7_bad := goodIn_r _ [27, 28, 29, 30, 31, 32, 33, 34, 35, 36, 37, 38, 39, 40] rfl gw_X7_bad
set_option maxRecDepth 20000 in
theorem gX7_sentences_X7_bad : GoodIn wsX7_sentences (wsV RX7 66 RX7 yX7_bad wsX7_bad) := goodIn_app (goodIn_r _ [23, 24, 25, 26] rfl (by decide +kernel)) ggX7_sentences_X7_bad
set_option maxRecDepth 20000 in
theorem ggX7_cheapest_X7_isBreath : GoodIn wsX7_cheapest wsX7_isBreath := goodIn_r _ [7, 8, 9, 6, 10] rfl gw_X7_isBreath
set_option maxRecDepth 20000 in
theorem gX7_cheapest_X7_isBreath : GoodIn wsX7_cheapest (va_wsS RX7 59 yX7_isBreath wsX7_isBreath) := goodIn_app (goodIn_r _ [4, 5, 6] rfl (by decide +kernel)) ggX7_cheapest_X7_isBreath
set_option maxRecDepth 20000 in
theorem ggX7_cheapest_X7_isWithin : GoodIn wsX7_cheapest wsX7_isWithin := goodIn_r _ [10] rfl gw_X7_isWithin
set_option maxRecDepth 20000 in
theorem gX7_cheapest_X7_isWithin : GoodIn wsX7_cheapest (va_wsS RX7 98 yX7_isWithin wsX7_isWithin) := goodIn_app (goodIn_r _ [8, 9, 6] rfl (by decide +kernel)) ggX7_cheapest_X7_isWithin
set_option maxRecDepth 20000 in
theorem ggX7_cheapest_X7_bad : GoodIn wsX7_cheapest wsX7_bad := goodIn_r _ [14, 15, 74, 75, 76, 77, 78, 79, 80, 81, 82, 83, 84, 85] rfl gw_X7_bad
set_option maxRecDepth 20000 in
theorem gX7_cheapest_X7_bad : GoodIn wsX7_cheapest (wsV RX7 66 RX7 yX7_bad wsX7_bad) := goodIn_app (goodIn_r _ [11, 12, 13, 6] rfl (by decide +kernel)) ggX7_cheapest_X7_bad
set_option maxRecDepth 20000 in
theorem ggX7_cheapest_X5_make : GoodIn wsX7_cheapest wsX5_make := goodIn_r _ [20, 21, 22, 23, 24, 25, 26, 27, 28, 29, 30, 31, 32, 33, 19, 34, 35, 36, 37, 38, 39, 40, 41, 42, 43, 44, 45, 46, 47, 48, 49, 50, 51, 52, 53, 54, 55, 56, 57, 58, 59, 60, 61, 86, 87, 88, 89, 90, 91, 92, 93, 94, 95, 96, 97, 98, 99, 100, 101, 102, 103] rfl gw_X5_make
set_option maxRecDepth 20000 in
theorem gX7_cheapest_X5_make : GoodIn wsX7_cheapest (wsV RX7 198 RX5 yX5_make wsX5_make) := goodIn_app (goodIn_r _ [16, 17, 18, 19] rfl (by decide +kernel)) ggX7_cheapest_X5_make
set_option maxRecDepth 20000 in
theorem ggX7_cheapest_X5_isThere : GoodIn wsX7_cheapest wsX5_isThere := goodIn_r _ [65, 22, 24, 95, 96, 97, 98, 99] rfl gw_X5_isThere
set_option maxRecDepth 20000 in
theorem gX7_cheapest_X5_isThere : GoodIn wsX7_cheapest (wsV RX7 202 RX5 yX5_isThere wsX5_isThere) := goodIn_app (goodIn_r _ [62, 63, 64, 19] rfl (by decide +kernel)) ggX7_cheapest_X5_isThere
set_option maxRecDepth 20000 in
theorem ggX7_cheapest_X5_cost : GoodIn wsX7_cheapest wsX5_cost := goodIn_r _ [69, 22, 95, 96, 97, 98, 99] rfl gw_X5_cost
set_option maxRecDepth 20000 in
theorem gX7_cheapest_X5_cost : GoodIn wsX7_cheapest (wsV RX7 205 RX5 yX5_cost wsX5_cost) := goodIn_app (goodIn_r _ [66, 67, 68, 19] rfl (by decide +kernel)) ggX7_cheapest_X5_cost
set_option maxRecDepth 20000 in
theorem ggX7_cheapest_X5_kindBehind : GoodIn wsX7_cheapest wsX5_kindBehind := goodIn_r _ [73, 35, 36, 25, 26, 37, 38, 39, 40, 41, 42, 43, 44, 45, 46, 47, 86, 87, 88, 89, 90, 91, 92, 93, 94, 100, 101, 102, 103, 95, 96, 97, 98, 99] rfl gw_X5_kindBehind
set_option maxRecDepth 20000 in
theorem gX7_cheapest_X5_kindBehind : GoodIn wsX7_cheapest (wsV RX7 208 RX5 yX5_kindBehind wsX5_kindBehind) := goodIn_app (goodIn_r _ [70, 71, 72, 19] rfl (by decide +kernel)) ggX7_cheapest_X5_kindBehind
set_option maxRecDepth 20000 in
theorem ggX7_reach_X7_isWithin : GoodIn wsX7_reach wsX7_isWithin := goodIn_r _ [6] rfl gw_X7_isWithin
set_option maxRecDepth 20000 in
theorem gX7_reach_X7_isWithin : GoodIn wsX7_reach (va_wsS RX7 98 yX7_isWithin wsX7_isWithin) := goodIn_app (goodIn_r _ [3, 4, 5] rfl (by decide +kernel)) ggX7_reach_X7_isWithin
set_option maxRecDepth 20000 in
theorem ggX7_reach_X5_reachFor : GoodIn wsX7_reach wsX5_reachFor := goodIn_r _ [11, 12, 13, 14, 15, 16, 17, 18, 19, 20, 21, 22, 23, 24, 25, 26, 27, 28, 10, 29, 30, 31, 32, 33, 34, 35, 36, 37, 38, 39, 40, 41, 42, 43, 44, 45, 46, 47, 48, 49, 50, 51, 52, 53, 54, 72, 73, 74, 75, 76, 77, 78, 79, 80, 81, 82, 83, 84, 85, 86, 87, 88, 89] rfl gw_X5_reachFor
set_option maxRecDepth 20000 in
theorem gX7_reach_X5_reachFor : GoodIn wsX7_reach (wsV RX7 212 RX5 yX5_reachFor wsX5_reachFor) := goodIn_app (goodIn_r _ [7, 8, 9, 10] rfl (by decide +kernel)) ggX7_reach_X5_reachFor
set_option maxRecDepth 20000 in
theorem ggX7_reach_X7_bad : GoodIn wsX7_reach wsX7_bad := goodIn_r _ [58, 59, 60, 61, 62, 63, 64, 65, 66, 67, 68, 69, 70, 71] rfl gw_X7_bad
set_option maxRecDepth 20000 in
theorem gX7_reach_X7_bad : GoodIn wsX7_reach (wsV RX7 66 RX7 yX7_bad wsX7_bad) := goodIn_app (goodIn_r _ [55, 56, 57, 5] rfl (by decide +kernel)) ggX7_reach_X7_bad
set_option maxRecDepth 20000 in
theorem ggX7_order_X7_bad : GoodIn wsX7_order wsX7_bad := goodIn_r _ [10, 11, 58, 59, 60, 61, 62, 63, 64, 65, 66, 67, 68, 69] rfl gw_X7_bad
set_option maxRecDepth 20000 in
theorem gX7_order_X7_bad : GoodIn wsX7_order (wsV RX7 66 RX7 yX7_bad wsX7_bad) := goodIn_app (goodIn_r _ [6, 7, 8, 9] rfl (by decide +kernel)) ggX7_order_X7_bad
set_option maxRecDepth 20000 in
theorem ggX7_order_X7_no : GoodIn wsX7_order wsX7_no := goodIn_r _ [15, 16, 58, 59, 60, 61, 62, 63, 64, 65, 66, 67, 68, 69] rfl gw_X7_no
set_option maxRecDepth 20000 in
theorem gX7_order_X7_no : GoodIn wsX7_order (wsV RX7 148 RX7 yX7_no wsX7_no) := goodIn_app (goodIn_r _ [12, 13, 14, 9] rfl (by decide +kernel)) ggX7_order_X7_no
set_option maxRecDepth 20000 in
theorem ggX7_order_X3_search : GoodIn wsX7_order wsX3_search := goodIn_r _ [21, 22, 23, 24, 25, 26, 27, 20, 28, 29, 30, 31, 32, 33, 34, 35, 36, 37, 38, 39, 40, 41, 42, 43, 44, 45, 46, 47, 48, 49, 50, 51, 52, 53, 54, 55, 56, 57, 79, 80, 81, 82, 70, 71, 72, 73, 74, 75, 76, 77, 78, 83, 84, 85, 86] rfl gw_X3_search
set_option maxRecDepth 20000 in
theorem gX7_order_X3_search : GoodIn wsX7_order (wsV RX7 216 RX3 yX3_search wsX3_search) := goodIn_app (goodIn_r _ [17, 18, 19, 20] rfl (by decide +kernel)) ggX7_order_X3_search
set_option maxRecDepth 20000 in
theorem ggX7_heard_X4_has : GoodIn wsX7_heard wsX4_has := goodIn_r _ [7, 8, 64, 65, 66, 67, 68, 69, 70, 71, 72] rfl gw_X4_has
set_option maxRecDepth 20000 in
theorem gX7_heard_X4_has : GoodIn wsX7_heard (wsV RX7 111 RX4 yX4_has wsX4_has) := goodIn_app (goodIn_r _ [3, 4, 5, 6] rfl (by decide +kernel)) ggX7_heard_X4_has
set_option maxRecDepth 20000 in
theorem ggX7_heard_X7_bad : GoodIn wsX7_heard wsX7_bad := goodIn_r _ [13, 14, 52, 53, 54, 55, 56, 57, 58, 59, 60, 61, 62, 63] rfl gw_X7_bad
set_option maxRecDepth 20000 in
theorem gX7_heard_X7_bad : GoodIn wsX7_heard (wsV RX7 66 RX7 yX7_bad wsX7_bad) := goodIn_app (goodIn_r _ [9, 10, 11, 12] rfl (by decide +kernel)) ggX7_heard_X7_bad
set_option maxRecDepth 20000 in
theorem ggX7_heard_X7_full : GoodIn wsX7_heard wsX7_full := goodIn_r _ [18, 19, 52, 53, 54, 55, 56, 57, 58, 59, 60, 61, 62, 63] rfl gw_X7_full
set_option maxRecDepth 20000 in
theorem gX7_heard_X7_full : GoodIn wsX7_heard (wsV RX7 85 RX7 yX7_full wsX7_full) := goodIn_app (goodIn_r _ [15, 16, 17, 12] rfl (by decide +kernel)) ggX7_heard_X7_full
set_option maxRecDepth 20000 in
theorem ggX7_heard_X4_breathsStuckAt : GoodIn wsX7_heard wsX4_breathsStuckAt := goodIn_r _ [23, 24, 25, 26, 6, 27, 8, 28, 29, 30, 31, 32, 33, 34, 35, 36, 37, 38, 39, 40, 41, 42, 43, 44, 45, 64, 65, 66, 67, 68, 69, 70, 71, 72, 73, 74, 75, 76] rfl gw_X4_breathsStuckAt
set_option maxRecDepth 20000 in
theorem gX7_heard_X4_breathsStuckAt : GoodIn wsX7_heard (wsV RX7 228 RX4 yX4_breathsStuckAt wsX4_breathsStuckAt) := goodIn_app (goodIn_r _ [20, 21, 22, 6] rfl (by decide +kernel)) ggX7_heard_X4_breathsStuckAt
set_option maxRecDepth 20000 in
theorem ggX7_heard_X4_addHeard : GoodIn wsX7_heard wsX4_addHeard := goodIn_r _ [49, 50, 51, 64, 65, 66, 67, 68, 69, 70, 71, 72] rfl gw_X4_addHeard
set_option maxRecDepth 20000 in
theorem gX7_heard_X4_addHeard : GoodIn wsX7_heard (wsV RX7 231 RX4 yX4_addHeard wsX4_addHeard) := goodIn_app (goodIn_r _ [46, 47, 48, 6] rfl (by decide +kernel)) ggX7_heard_X4_addHeard
set_option maxRecDepth 20000 in
theorem ggX7_breaths_X4_breathsHeard : GoodIn wsX7_breaths wsX4_breathsHeard := goodIn_r _ [6, 7, 8, 9, 22, 23, 24, 25, 26, 27, 28, 29, 30] rfl gw_X4_breathsHeard
set_option maxRecDepth 20000 in
theorem gX7_breaths_X4_breathsHeard : GoodIn wsX7_breaths (wsV RX7 234 RX4 yX4_breathsHeard wsX4_breathsHeard) := goodIn_app (goodIn_r _ [2, 3, 4, 5] rfl (by decide +kernel)) ggX7_breaths_X4_breathsHeard
set_option maxRecDepth 20000 in
theorem ggX7_shorter_X4_breathsHeard : GoodIn wsX7_shorter wsX4_breathsHeard := goodIn_r _ [7, 8, 9, 10, 57, 58, 59, 60, 61, 62, 63, 64, 65] rfl gw_X4_breathsHeard
set_option maxRecDepth 20000 in
theorem gX7_shorter_X4_breathsHeard : GoodIn wsX7_shorter (wsV RX7 234 RX4 yX4_breathsHeard wsX4_breathsHeard) := goodIn_app (goodIn_r _ [3, 4, 5, 6] rfl (by decide +kernel)) ggX7_shorter_X4_breathsHeard
set_option maxRecDepth 20000 in
theorem ggX7_shorter_X7_mostAlike : GoodIn wsX7_shorter wsX7_mostAlike := goodIn_r _ [15, 16, 1, 17, 18, 19, 20, 21, 22, 23, 24, 25, 26, 27, 6, 28, 29, 30, 31, 32, 33, 34, 35, 36, 37, 38, 39, 40, 41, 42, 43, 44, 45, 46, 47, 48, 49, 50, 51, 52, 53, 54, 55, 56, 57, 58, 59, 60, 61, 62, 63, 64, 65, 66, 67, 68, 69] rfl gw_X7_mostAlike
set_option maxRecDepth 20000 in
theorem gX7_shorter_X7_mostAlike : GoodIn wsX7_shorter (wsV RX7 237 RX7 yX7_mostAlike wsX7_mostAlike) := goodIn_app (goodIn_r _ [11, 12, 13, 14] rfl (by decide +kernel)) ggX7_shorter_X7_mostAlike
set_option maxRecDepth 20000 in
theorem ggX7_bid_X7_isWithin : GoodIn wsX7_bid wsX7_isWithin := goodIn_r _ [5] rfl gw_X7_isWithin
set_option maxRecDepth 20000 in
theorem gX7_bid_X7_isWithin : GoodIn wsX7_bid (va_wsS RX7 98 yX7_isWithin wsX7_isWithin) := goodIn_app (goodIn_r _ [2, 3, 4] rfl (by decide +kernel)) ggX7_bid_X7_isWithin
set_option maxRecDepth 20000 in
theorem ggX7_bid_X1_isOne : GoodIn wsX7_bid wsX1_isOne := goodIn_r _ [9] rfl gw_X1_isOne
set_option maxRecDepth 20000 in
theorem gX7_bid_X1_isOne : GoodIn wsX7_bid (va_wsS RX7 114 yX1_isOne wsX1_isOne) := goodIn_app (goodIn_r _ [6, 7, 8] rfl (by decide +kernel)) ggX7_bid_X1_isOne
set_option maxRecDepth 20000 in
theorem ggX7_bid_X7_bad : GoodIn wsX7_bid wsX7_bad := goodIn_r _ [13, 14, 32, 33, 34, 35, 36, 37, 38, 39, 40, 41, 42, 43] rfl gw_X7_bad
set_option maxRecDepth 20000 in
theorem gX7_bid_X7_bad : GoodIn wsX7_bid (wsV RX7 66 RX7 yX7_bad wsX7_bad) := goodIn_app (goodIn_r _ [10, 11, 12, 4] rfl (by decide +kernel)) ggX7_bid_X7_bad
set_option maxRecDepth 20000 in
theorem ggX7_bid_X4_costOf : GoodIn wsX7_bid wsX4_costOf := goodIn_r _ [19, 20, 21, 22, 23, 24, 8, 25, 44, 45, 46, 47, 48, 49, 50, 51, 52, 53, 54, 55, 56] rfl gw_X4_costOf
set_option maxRecDepth 20000 in
theorem gX7_bid_X4_costOf : GoodIn wsX7_bid (wsV RX7 145 RX4 yX4_costOf wsX4_costOf) := goodIn_app (goodIn_r _ [15, 16, 17, 18] rfl (by decide +kernel)) ggX7_bid_X4_costOf
set_option maxRecDepth 20000 in
theorem ggX7_bid_X7_isBest : GoodIn wsX7_bid wsX7_isBest := goodIn_r _ [28, 29, 30, 4, 31] rfl gw_X7_isBest
set_option maxRecDepth 20000 in
theorem gX7_bid_X7_isBest : GoodIn wsX7_bid (va_wsS RX7 240 yX7_isBest wsX7_isBest) := goodIn_app (goodIn_r _ [26, 27, 4] rfl (by decide +kernel)) ggX7_bid_X7_isBest
set_option maxRecDepth 20000 in
theorem ggX7_odds_X7_isWithin : GoodIn wsX7_odds wsX7_isWithin := goodIn_r _ [6] rfl gw_X7_isWithin
set_option maxRecDepth 20000 in
theorem gX7_odds_X7_isWithin : GoodIn wsX7_odds (va_wsS RX7 98 yX7_isWithin wsX7_isWithin) := goodIn_app (goodIn_r _ [3, 4, 5] rfl (by decide +kernel)) ggX7_odds_X7_isWithin
set_option maxRecDepth 20000 in
theorem ggX7_odds_X7_bad : GoodIn wsX7_odds wsX7_bad := goodIn_r _ [10, 11, 54, 55, 56, 57, 58, 59, 60, 61, 62, 63, 64, 65] rfl gw_X7_bad
set_option maxRecDepth 20000 in
theorem gX7_odds_X7_bad : GoodIn wsX7_odds (wsV RX7 66 RX7 yX7_bad wsX7_bad) := goodIn_app (goodIn_r _ [7, 8, 9, 5] rfl (by decide +kernel)) ggX7_odds_X7_bad
set_option maxRecDepth 20000 in
theorem ggX7_odds_X0_reckon : GoodIn wsX7_odds wsX0_reckon := goodIn_r _ [16, 17, 18, 19, 20, 21, 22, 23, 24, 25, 26, 27, 28, 29, 15, 30, 31, 32, 33, 34, 35, 36, 37, 38, 39, 40, 41, 42, 43, 44, 45, 46, 47, 48, 49, 50, 51, 52, 53, 66, 67, 68, 69, 70, 71, 72, 73, 74, 75, 76, 77, 78, 79, 80, 81, 82] rfl gw_X0_reckon
set_option maxRecDepth 20000 in
theorem gX7_odds_X0_reckon : GoodIn wsX7_odds (wsV RX7 244 RX0 yX0_reckon wsX0_reckon) := goodIn_app (goodIn_r _ [12, 13, 14, 15] rfl (by decide +kernel)) ggX7_odds_X0_reckon
set_option maxRecDepth 20000 in
theorem ggX7_drawn_X7_isWithin : GoodIn wsX7_drawn wsX7_isWithin := goodIn_r _ [13] rfl gw_X7_isWithin
set_option maxRecDepth 20000 in
theorem gX7_drawn_X7_isWithin : GoodIn wsX7_drawn (va_wsS RX7 98 yX7_isWithin wsX7_isWithin) := goodIn_app (goodIn_r _ [10, 11, 12] rfl (by decide +kernel)) ggX7_drawn_X7_isWithin
set_option maxRecDepth 20000 in
theorem ggX7_drawn_X7_bad : GoodIn wsX7_drawn wsX7_bad := goodIn_r _ [17, 18, 37, 38, 39, 40, 41, 42, 43, 44, 45, 46, 47, 48] rfl gw_X7_bad
set_option maxRecDepth 20000 in
theorem gX7_drawn_X7_bad : GoodIn wsX7_drawn (wsV RX7 66 RX7 yX7_bad wsX7_bad) := goodIn_app (goodIn_r _ [14, 15, 16, 12] rfl (by decide +kernel)) ggX7_drawn_X7_bad
set_option maxRecDepth 20000 in
theorem ggX7_drawn_X4_leftBehind : GoodIn wsX7_drawn wsX4_leftBehind := goodIn_r _ [23, 24, 25, 26, 27, 28, 29, 30, 31, 32, 33, 34, 35, 36, 49, 50, 51, 52, 53, 54, 55, 56, 57, 58, 59, 60, 61] rfl gw_X4_leftBehind
set_option maxRecDepth 20000 in
theorem gX7_drawn_X4_leftBehind : GoodIn wsX7_drawn (wsV RX7 259 RX4 yX4_leftBehind wsX4_leftBehind) := goodIn_app (goodIn_r _ [19, 20, 21, 22] rfl (by decide +kernel)) ggX7_drawn_X4_leftBehind
set_option maxRecDepth 20000 in
theorem ggX7_part_X7_isWithin : GoodIn wsX7_part wsX7_isWithin := goodIn_r _ [7] rfl gw_X7_isWithin
set_option maxRecDepth 20000 in
theorem gX7_part_X7_isWithin : GoodIn wsX7_part (va_wsS RX7 98 yX7_isWithin wsX7_isWithin) := goodIn_app (goodIn_r _ [4, 5, 6] rfl (by decide +kernel)) ggX7_part_X7_isWithin
set_option maxRecDepth 20000 in
theorem ggX7_part_X7_bad : GoodIn wsX7_part wsX7_bad := goodIn_r _ [11, 12, 13, 14, 15, 16, 17, 18, 19, 20, 21, 22, 23, 24] rfl gw_X7_bad
set_option maxRecDepth 20000 in
theorem gX7_part_X7_bad : GoodIn wsX7_part (wsV RX7 66 RX7 yX7_bad wsX7_bad) := goodIn_app (goodIn_r _ [8, 9, 10, 6] rfl (by decide +kernel)) ggX7_part_X7_bad
set_option maxRecDepth 20000 in
theorem ggX7_image_X7_isWithin : GoodIn wsX7_image wsX7_isWithin := goodIn_r _ [7] rfl gw_X7_isWithin
set_option maxRecDepth 20000 in
theorem gX7_image_X7_isWithin : GoodIn wsX7_image (va_wsS RX7 98 yX7_isWithin wsX7_isWithin) := goodIn_app (goodIn_r _ [4, 5, 6] rfl (by decide +kernel)) ggX7_image_X7_isWithin
set_option maxRecDepth 20000 in
theorem ggX7_image_X7_bad : GoodIn wsX7_image wsX7_bad := goodIn_r _ [11, 12, 41, 42, 43, 44, 45, 46, 47, 48, 49, 50, 51, 52] rfl gw_X7_bad
set_option maxRecDepth 20000 in
theorem gX7_image_X7_bad : GoodIn wsX7_image (wsV RX7 66 RX7 yX7_bad wsX7_bad) := goodIn_app (goodIn_r _ [8, 9, 10, 6] rfl (by decide +kernel)) ggX7_image_X7_bad
set_option maxRecDepth 20000 in
theorem ggX7_image_X4_copy : GoodIn wsX7_image wsX4_copy := goodIn_r _ [17, 18, 19, 20, 21, 22, 23, 24, 25, 26, 27, 28, 29, 30, 31, 32, 33, 34, 35, 36, 37, 38, 39, 40, 53, 54, 55, 56, 57, 58, 59, 60, 61, 62, 63, 64, 65] rfl gw_X4_copy
set_option maxRecDepth 20000 in
theorem gX7_image_X4_copy : GoodIn wsX7_image (wsV RX7 141 RX4 yX4_copy wsX4_copy) := goodIn_app (goodIn_r _ [13, 14, 15, 16] rfl (by decide +kernel)) ggX7_image_X4_copy
set_option maxRecDepth 20000 in
theorem ggX7_from_X7_isWithin : GoodIn wsX7_from wsX7_isWithin := goodIn_r _ [7] rfl gw_X7_isWithin
set_option maxRecDepth 20000 in
theorem gX7_from_X7_isWithin : GoodIn wsX7_from (va_wsS RX7 98 yX7_isWithin wsX7_isWithin) := goodIn_app (goodIn_r _ [4, 5, 6] rfl (by decide +kernel)) ggX7_from_X7_isWithin
set_option maxRecDepth 20000 in
theorem ggX7_from_X7_bad : GoodIn wsX7_from wsX7_bad := goodIn_r _ [11, 12, 46, 47, 48, 49, 50, 51, 52, 53, 54, 55, 56, 57] rfl gw_X7_bad
set_option maxRecDepth 20000 in
theorem gX7_from_X7_bad : GoodIn wsX7_from (wsV RX7 66 RX7 yX7_bad wsX7_bad) := goodIn_app (goodIn_r _ [8, 9, 10, 6] rfl (by decide +kernel)) ggX7_from_X7_bad
set_option maxRecDepth 20000 in
theorem ggX7_from_X7_no : GoodIn wsX7_from wsX7_no := goodIn_r _ [16, 17, 46, 47, 48, 49, 50, 51, 52, 53, 54, 55, 56, 57] rfl gw_X7_no
set_option maxRecDepth 20000 in
theorem gX7_from_X7_no : GoodIn wsX7_from (wsV RX7 148 RX7 yX7_no wsX7_no) := goodIn_app (goodIn_r _ [13, 14, 15, 6] rfl (by decide +kernel)) ggX7_from_X7_no
set_option maxRecDepth 20000 in
theorem ggX7_from_X4_copy : GoodIn wsX7_from wsX4_copy := goodIn_r _ [22, 23, 24, 25, 26, 27, 28, 29, 30, 31, 32, 33, 34, 35, 36, 37, 38, 39, 40, 41, 42, 43, 44, 45, 58, 59, 60, 61, 62, 63, 64, 65, 66, 67, 68, 69, 70] rfl gw_X4_copy
set_option maxRecDepth 20000 in
theorem gX7_from_X4_copy : GoodIn wsX7_from (wsV RX7 141 RX4 yX4_copy wsX4_copy) := goodIn_app (goodIn_r _ [18, 19, 20, 21] rfl (by decide +kernel)) ggX7_from_X4_copy
set_option maxRecDepth 20000 in
theorem ggX7_status_X7_bad : GoodIn wsX7_status wsX7_bad := goodIn_r _ [8, 1, 9, 10, 11, 12, 13, 14, 15, 16, 17, 18, 19, 20] rfl gw_X7_bad
set_option maxRecDepth 20000 in
theorem gX7_status_X7_bad : GoodIn wsX7_status (wsV RX7 66 RX7 yX7_bad wsX7_bad) := goodIn_app (goodIn_r _ [4, 5, 6, 7] rfl (by decide +kernel)) ggX7_status_X7_bad
set_option maxRecDepth 20000 in
theorem ggX7_count_X7_isWithin : GoodIn wsX7_count wsX7_isWithin := goodIn_r _ [4] rfl gw_X7_isWithin
set_option maxRecDepth 20000 in
theorem gX7_count_X7_isWithin : GoodIn wsX7_count (va_wsS RX7 98 yX7_isWithin wsX7_isWithin) := goodIn_app (goodIn_r _ [1, 2, 3] rfl (by decide +kernel)) ggX7_count_X7_isWithin
set_option maxRecDepth 20000 in
theorem ggX7_count_X7_countOf : GoodIn wsX7_count wsX7_countOf := goodIn_r _ [8, 9, 10, 11, 12, 13, 14, 15, 16, 17, 18, 19, 20, 21, 22, 23, 24, 25, 26, 27, 33, 34, 35, 36, 37, 38, 39, 40, 41, 42, 43, 44, 45, 46, 47, 48, 49, 50, 51, 52, 53, 54, 55, 56, 57, 58, 59, 60, 61, 62, 63, 64, 65, 66, 67] rfl gw_X7_countOf
set_option maxRecDepth 20000 in
theorem gX7_count_X7_countOf : GoodIn wsX7_count (wsV RX7 279 RX7 yX7_countOf wsX7_countOf) := goodIn_app (goodIn_r _ [5, 6, 7, 3] rfl (by decide +kernel)) ggX7_count_X7_countOf
set_option maxRecDepth 20000 in
theorem ggX7_count_X7_bad : GoodIn wsX7_count wsX7_bad := goodIn_r _ [31, 32, 33, 34, 35, 36, 37, 38, 39, 40, 41, 42, 43, 44] rfl gw_X7_bad
set_option maxRecDepth 20000 in
theorem gX7_count_X7_bad : GoodIn wsX7_count (wsV RX7 66 RX7 yX7_bad wsX7_bad) := goodIn_app (goodIn_r _ [28, 29, 30, 3] rfl (by decide +kernel)) ggX7_count_X7_bad
set_option maxRecDepth 20000 in
theorem ggX7_digest_X7_countOf : GoodIn wsX7_digest wsX7_countOf := goodIn_r _ [18, 3, 4, 19, 20, 6, 21, 22, 9, 23, 24, 25, 26, 27, 28, 29, 30, 31, 32, 33, 34, 35, 36, 37, 38, 39, 40, 41, 42, 43, 44, 45, 46, 47, 48, 49, 50, 51, 52, 53, 54, 55, 56, 57, 58, 63, 64, 65, 66, 67, 68, 69, 70, 71, 72] rfl gw_X7_countOf
set_option maxRecDepth 20000 in
theorem gX7_digest_X7_countOf : GoodIn wsX7_digest (wsV RX7 279 RX7 yX7_countOf wsX7_countOf) := goodIn_app (goodIn_r _ [14, 15, 16, 17] rfl (by decide +kernel)) ggX7_digest_X7_countOf
set_option maxRecDepth 20000 in
theorem ggX7_isBreath_X7_isWithin : GoodIn wsX7_isBreath wsX7_isWithin := goodIn_r _ [4] rfl gw_X7_isWithin
set_option maxRecDepth 20000 in
theorem gX7_isBreath_X7_isWithin : GoodIn wsX7_isBreath (va_wsS RX7 98 yX7_isWithin wsX7_isWithin) := goodIn_app (goodIn_r _ [1, 2, 3] rfl (by decide +kernel)) ggX7_isBreath_X7_isWithin
set_option maxRecDepth 20000 in
theorem ggX7_isPrice_X7_isWithin : GoodIn wsX7_isPrice wsX7_isWithin := goodIn_r _ [4] rfl gw_X7_isWithin
set_option maxRecDepth 20000 in
theorem gX7_isPrice_X7_isWithin : GoodIn wsX7_isPrice (va_wsS RX7 98 yX7_isWithin wsX7_isWithin) := goodIn_app (goodIn_r _ [1, 2, 3] rfl (by decide +kernel)) ggX7_isPrice_X7_isWithin
set_option maxRecDepth 20000 in
theorem ggX7_isLength_X7_isWithin : GoodIn wsX7_isLength wsX7_isWithin := goodIn_r _ [4] rfl gw_X7_isWithin
set_option maxRecDepth 20000 in
theorem gX7_isLength_X7_isWithin : GoodIn wsX7_isLength (va_wsS RX7 98 yX7_isWithin wsX7_isWithin) := goodIn_app (goodIn_r _ [1, 2, 3] rfl (by decide +kernel)) ggX7_isLength_X7_isWithin
set_option maxRecDepth 20000 in
theorem ggX7_countOf_X4_howManyMarks : GoodIn wsX7_countOf wsX4_howManyMarks := goodIn_r _ [16, 17, 18, 19, 32, 33, 34, 35, 36, 37, 38, 39, 40, 41, 42, 43, 44] rfl gw_X4_howManyMarks
set_option maxRecDepth 20000 in
theorem gX7_countOf_X4_howManyMarks : GoodIn wsX7_countOf (wsV RX7 289 RX4 yX4_howManyMarks wsX4_howManyMarks) := goodIn_app (goodIn_r _ [12, 13, 14, 15] rfl (by decide +kernel)) ggX7_countOf_X4_howManyMarks
set_option maxRecDepth 20000 in
theorem ggX7_tellItem_X7_isBreath : GoodIn wsX7_tellItem wsX7_isBreath := goodIn_r _ [9, 10, 11, 8, 12] rfl gw_X7_isBreath
set_option maxRecDepth 20000 in
theorem gX7_tellItem_X7_isBreath : GoodIn wsX7_tellItem (va_wsS RX7 59 yX7_isBreath wsX7_isBreath) := goodIn_app (goodIn_r _ [6, 7, 8] rfl (by decide +kernel)) ggX7_tellItem_X7_isBreath
set_option maxRecDepth 20000 in
theorem ggX7_tellItem_X7_isPrice : GoodIn wsX7_tellItem wsX7_isPrice := goodIn_r _ [15, 10, 11, 8, 12] rfl gw_X7_isPrice
set_option maxRecDepth 20000 in
theorem gX7_tellItem_X7_isPrice : GoodIn wsX7_tellItem (va_wsS RX7 63 yX7_isPrice wsX7_isPrice) := goodIn_app (goodIn_r _ [13, 14, 8] rfl (by decide +kernel)) ggX7_tellItem_X7_isPrice
set_option maxRecDepth 20000 in
theorem ggX7_tellItem_X4_begin : GoodIn wsX7_tellItem wsX4_begin := goodIn_r _ [20, 21, 22, 23, 24, 25, 26, 27, 28, 82, 83, 84, 85, 86, 87, 88, 89, 90, 91, 92, 93, 94] rfl gw_X4_begin
set_option maxRecDepth 20000 in
theorem gX7_tellItem_X4_begin : GoodIn wsX7_tellItem (wsV RX7 74 RX4 yX4_begin wsX4_begin) := goodIn_app (goodIn_r _ [16, 17, 18, 19] rfl (by decide +kernel)) ggX7_tellItem_X4_begin
set_option maxRecDepth 20000 in
theorem ggX7_tellItem_X7_isLength : GoodIn wsX7_tellItem wsX7_isLength := goodIn_r _ [31, 10, 11, 8, 12] rfl gw_X7_isLength
set_option maxRecDepth 20000 in
theorem gX7_tellItem_X7_isLength : GoodIn wsX7_tellItem (va_wsS RX7 78 yX7_isLength wsX7_isLength) := goodIn_app (goodIn_r _ [29, 30, 8] rfl (by decide +kernel)) ggX7_tellItem_X7_isLength
set_option maxRecDepth 20000 in
theorem ggX7_tellItem_X4_hasRoom : GoodIn wsX7_tellItem wsX4_hasRoom := goodIn_r _ [35, 26, 82, 83, 84, 85, 86, 87, 88, 89, 90] rfl gw_X4_hasRoom
set_option maxRecDepth 20000 in
theorem gX7_tellItem_X4_hasRoom : GoodIn wsX7_tellItem (wsV RX7 81 RX4 yX4_hasRoom wsX4_hasRoom) := goodIn_app (goodIn_r _ [32, 33, 34, 19] rfl (by decide +kernel)) ggX7_tellItem_X4_hasRoom
set_option maxRecDepth 20000 in
theorem ggX7_tellItem_X4_addWord : GoodIn wsX7_tellItem wsX4_addWord := goodIn_r _ [39, 40, 26, 23, 28, 41, 42, 43, 44, 45, 46, 47, 82, 83, 84, 85, 86, 87, 88, 89, 90, 91, 92, 93, 94] rfl gw_X4_addWord
set_option maxRecDepth 20000 in
theorem gX7_tellItem_X4_addWord : GoodIn wsX7_tellItem (wsV RX7 88 RX4 yX4_addWord wsX4_addWord) := goodIn_app (goodIn_r _ [36, 37, 38, 19] rfl (by decide +kernel)) ggX7_tellItem_X4_addWord
set_option maxRecDepth 20000 in
theorem ggX7_tellItem_X4_has : GoodIn wsX7_tellItem wsX4_has := goodIn_r _ [51, 26, 82, 83, 84, 85, 86, 87, 88, 89, 90] rfl gw_X4_has
set_option maxRecDepth 20000 in
theorem gX7_tellItem_X4_has : GoodIn wsX7_tellItem (wsV RX7 111 RX4 yX4_has wsX4_has) := goodIn_app (goodIn_r _ [48, 49, 50, 19] rfl (by decide +kernel)) ggX7_tellItem_X4_has
set_option maxRecDepth 20000 in
theorem ggX7_tellItem_X1_isOne : GoodIn wsX7_tellItem wsX1_isOne := goodIn_r _ [55] rfl gw_X1_isOne
set_option maxRecDepth 20000 in
theorem gX7_tellItem_X1_isOne : GoodIn wsX7_tellItem (va_wsS RX7 114 yX1_isOne wsX1_isOne) := goodIn_app (goodIn_r _ [52, 53, 54] rfl (by decide +kernel)) ggX7_tellItem_X1_isOne
set_option maxRecDepth 20000 in
theorem ggX7_tellItem_X4_setMark : GoodIn wsX7_tellItem wsX4_setMark := goodIn_r _ [59, 23, 28, 41, 42, 43, 44, 45, 46, 47, 82, 83, 84, 85, 86, 87, 88, 89, 90, 91, 92, 93, 94] rfl gw_X4_setMark
set_option maxRecDepth 20000 in
theorem gX7_tellItem_X4_setMark : GoodIn wsX7_tellItem (wsV RX7 122 RX4 yX4_setMark wsX4_setMark) := goodIn_app (goodIn_r _ [56, 57, 58, 19] rfl (by decide +kernel)) ggX7_tellItem_X4_setMark
set_option maxRecDepth 20000 in
theorem ggX7_mostAlike_J7_fill_53178 : GoodIn wsX7_mostAlike wsJ7_fill_53178 := goodIn_r _ [10] rfl gw_J7_fill_53178
set_option maxRecDepth 20000 in
theorem gX7_mostAlike_J7_fill_53178 : GoodIn wsX7_mostAlike (va_wsS RX7 301 yJ7_fill_53178 wsJ7_fill_53178) := goodIn_app (goodIn_r _ [7, 8, 9] rfl (by decide +kernel)) ggX7_mostAlike_J7_fill_53178
set_option maxRecDepth 20000 in
theorem ggX7_mostAlike_X4_stuckAt : GoodIn wsX7_mostAlike wsX4_stuckAt := goodIn_r _ [15, 16, 17, 18, 19, 20, 14, 21, 22, 23, 24, 25, 26, 27, 28, 29, 5, 30, 31, 4, 6, 44, 45, 46, 47, 48, 49, 50, 51, 52, 53, 54, 55, 56] rfl gw_X4_stuckAt
set_option maxRecDepth 20000 in
theorem gX7_mostAlike_X4_stuckAt : GoodIn wsX7_mostAlike (wsV RX7 185 RX4 yX4_stuckAt wsX4_stuckAt) := goodIn_app (goodIn_r _ [11, 12, 13, 14] rfl (by decide +kernel)) ggX7_mostAlike_X4_stuckAt
set_option maxRecDepth 20000 in
theorem ggX7_isBest_X7_gain : GoodIn wsX7_isBest wsX7_gain := goodIn_r _ [4] rfl gw_X7_gain
set_option maxRecDepth 20000 in
theorem gX7_isBest_X7_gain : GoodIn wsX7_isBest (va_wsS RX7 310 yX7_gain wsX7_gain) := goodIn_app (goodIn_r _ [1, 2, 3] rfl (by decide +kernel)) ggX7_isBest_X7_gain
set_option maxRecDepth 20000 in
theorem ggX8_init_X8_begin : GoodIn wsX8_init wsX8_begin := goodIn_r _ [31, 6, 7, 32, 33, 34, 35, 36, 37, 38, 39, 40, 41, 42, 43, 44, 45, 46, 47, 48, 49, 50, 51, 52, 53, 54, 55, 56, 57, 58, 59, 60, 61, 62, 63, 64, 65, 66, 67, 68] rfl gw_X8_begin
set_option maxRecDepth 20000 in
theorem gX8_init_X8_begin : GoodIn wsX8_init (wsV RX8 76 RX8 yX8_begin wsX8_begin) := goodIn_app (goodIn_r _ [27, 28, 29, 30] rfl (by decide +kernel)) ggX8_init_X8_begin
set_option maxRecDepth 20000 in
theorem ggX8_isPiece_X8_in : GoodIn wsX8_isPiece wsX8_in := goodIn_r _ [5] rfl gw_X8_in
set_option maxRecDepth 20000 in
theorem gX8_isPiece_X8_in : GoodIn wsX8_isPiece (va_wsS RX8 95 yX8_in wsX8_in) := goodIn_app (goodIn_r _ [2, 3, 4] rfl (by decide +kernel)) ggX8_isPiece_X8_in
set_option maxRecDepth 20000 in
theorem ggX8_isKind_X8_in : GoodIn wsX8_isKind wsX8_in := goodIn_r _ [4] rfl gw_X8_in
set_option maxRecDepth 20000 in
theorem gX8_isKind_X8_in : GoodIn wsX8_isKind (va_wsS RX8 95 yX8_in wsX8_in) := goodIn_app (goodIn_r _ [1, 2, 3] rfl (by decide +kernel)) ggX8_isKind_X8_in
set_option maxRecDepth 20000 in
theorem ggX8_isPage_X8_in : GoodIn wsX8_isPage wsX8_in := goodIn_r _ [4] rfl gw_X8_in
set_option maxRecDepth 20000 in
theorem gX8_isPage_X8_in : GoodIn wsX8_isPage (va_wsS RX8 95 yX8_in wsX8_in) := goodIn_app (goodIn_r _ [1, 2, 3] rfl (by decide +kernel)) ggX8_isPage_X8_in
set_option maxRecDepth 20000 in
theorem ggX8_page_X8_isPage : GoodIn wsX8_page wsX8_isPage := goodIn_r _ [5, 6, 7, 4, 8] rfl gw_X8_isPage
set_option maxRecDepth 20000 in
theorem gX8_page_X8_isPage : GoodIn wsX8_page (va_wsS RX8 99 yX8_isPage wsX8_isPage) := goodIn_app (goodIn_r _ [2, 3, 4] rfl (by decide +kernel)) ggX8_page_X8_isPage
set_option maxRecDepth 20000 in
theorem ggX8_page_X8_bad : GoodIn wsX8_page wsX8_bad := goodIn_r _ [12, 13, 24, 25, 26, 27, 28, 29, 30, 31, 32, 33, 34, 35, 36, 37, 38, 39, 40, 41, 42, 43, 44, 45, 46, 47, 48, 49, 50, 51, 52, 53, 54, 55] rfl gw_X8_bad
set_option maxRecDepth 20000 in
theorem gX8_page_X8_bad : GoodIn wsX8_page (wsV RX8 103 RX8 yX8_bad wsX8_bad) := goodIn_app (goodIn_r _ [9, 10, 11, 4] rfl (by decide +kernel)) ggX8_page_X8_bad
set_option maxRecDepth 20000 in
theorem ggX8_page_X8_begin : GoodIn wsX8_page wsX8_begin := goodIn_r _ [17, 18, 19, 1, 20, 21, 22, 23, 24, 25, 26, 27, 28, 29, 30, 31, 32, 33, 34, 35, 36, 37, 38, 39, 40, 41, 42, 43, 44, 45, 46, 47, 48, 49, 50, 51, 52, 53, 54, 55] rfl gw_X8_begin
set_option maxRecDepth 20000 in
theorem gX8_page_X8_begin : GoodIn wsX8_page (wsV RX8 76 RX8 yX8_begin wsX8_begin) := goodIn_app (goodIn_r _ [14, 15, 16, 4] rfl (by decide +kernel)) ggX8_page_X8_begin
set_option maxRecDepth 20000 in
theorem ggX8_word_X8_in : GoodIn wsX8_word wsX8_in := goodIn_r _ [5] rfl gw_X8_in
set_option maxRecDepth 20000 in
theorem gX8_word_X8_in : GoodIn wsX8_word (va_wsS RX8 95 yX8_in wsX8_in) := goodIn_app (goodIn_r _ [2, 3, 4] rfl (by decide +kernel)) ggX8_word_X8_in
set_option maxRecDepth 20000 in
theorem ggX8_word_X8_bad : GoodIn wsX8_word wsX8_bad := goodIn_r _ [9, 10, 23, 24, 25, 26, 27, 28, 29, 30, 31, 32, 33, 34, 35, 36, 37, 38, 39, 40, 41, 42, 43, 44, 45, 46, 47, 48, 49, 50, 51, 52, 53, 54] rfl gw_X8_bad
set_option maxRecDepth 20000 in
theorem gX8_word_X8_bad : GoodIn wsX8_word (wsV RX8 103 RX8 yX8_bad wsX8_bad) := goodIn_app (goodIn_r _ [6, 7, 8, 4] rfl (by decide +kernel)) ggX8_word_X8_bad
set_option maxRecDepth 20000 in
theorem ggX8_word_X8_full : GoodIn wsX8_word wsX8_full := goodIn_r _ [14, 10, 23, 24, 25, 26, 27, 28, 29, 30, 31, 32, 33, 34, 35, 36, 37, 38, 39, 40, 41, 42, 43, 44, 45, 46, 47, 48, 49, 50, 51, 52, 53, 54] rfl gw_X8_full
set_option maxRecDepth 20000 in
theorem gX8_word_X8_full : GoodIn wsX8_word (wsV RX8 107 RX8 yX8_full wsX8_full) := goodIn_app (goodIn_r _ [11, 12, 13, 4] rfl (by decide +kernel)) ggX8_word_X8_full
set_option maxRecDepth 20000 in
theorem ggX8_word_X8_add : GoodIn wsX8_word wsX8_add := goodIn_r _ [18, 19, 1, 20, 21, 22, 23, 24, 25, 26, 27, 28, 29, 30, 31, 32, 33, 34, 35, 36, 37, 38, 39, 40, 41, 42, 43, 44, 45, 46, 47, 48, 49, 50, 51, 52, 53, 54] rfl gw_X8_add
set_option maxRecDepth 20000 in
theorem gX8_word_X8_add : GoodIn wsX8_word (wsV RX8 110 RX8 yX8_add wsX8_add) := goodIn_app (goodIn_r _ [15, 16, 17, 4] rfl (by decide +kernel)) ggX8_word_X8_add
set_option maxRecDepth 20000 in
theorem ggX8_breath_X8_in : GoodIn wsX8_breath wsX8_in := goodIn_r _ [5] rfl gw_X8_in
set_option maxRecDepth 20000 in
theorem gX8_breath_X8_in : GoodIn wsX8_breath (va_wsS RX8 95 yX8_in wsX8_in) := goodIn_app (goodIn_r _ [2, 3, 4] rfl (by decide +kernel)) ggX8_breath_X8_in
set_option maxRecDepth 20000 in
theorem ggX8_breath_X8_bad : GoodIn wsX8_breath wsX8_bad := goodIn_r _ [9, 10, 11, 12, 13, 14, 15, 16, 17, 18, 19, 20, 21, 22, 23, 24, 25, 26, 27, 28, 29, 30, 31, 32, 33, 34, 35, 36, 37, 38, 39, 40, 41, 42] rfl gw_X8_bad
set_option maxRecDepth 20000 in
theorem gX8_breath_X8_bad : GoodIn wsX8_breath (wsV RX8 103 RX8 yX8_bad wsX8_bad) := goodIn_app (goodIn_r _ [6, 7, 8, 4] rfl (by decide +kernel)) ggX8_breath_X8_bad
set_option maxRecDepth 20000 in
theorem ggX8_price_X8_in : GoodIn wsX8_price wsX8_in := goodIn_r _ [5] rfl gw_X8_in
set_option maxRecDepth 20000 in
theorem gX8_price_X8_in : GoodIn wsX8_price (va_wsS RX8 95 yX8_in wsX8_in) := goodIn_app (goodIn_r _ [2, 3, 4] rfl (by decide +kernel)) ggX8_price_X8_in
set_option maxRecDepth 20000 in
theorem ggX8_price_X8_bad : GoodIn wsX8_price wsX8_bad := goodIn_r _ [9, 10, 11, 12, 13, 14, 15, 16, 17, 18, 19, 20, 21, 22, 23, 24, 25, 26, 27, 28, 29, 30, 31, 32, 33, 34, 35, 36, 37, 38, 39, 40, 41, 42] rfl gw_X8_bad
set_option maxRecDepth 20000 in
theorem gX8_price_X8_bad : GoodIn wsX8_price (wsV RX8 103 RX8 yX8_bad wsX8_bad) := goodIn_app (goodIn_r _ [6, 7, 8, 4] rfl (by decide +kernel)) ggX8_price_X8_bad
set_option maxRecDepth 20000 in
theorem ggX8_purse_X8_in : GoodIn wsX8_purse wsX8_in := goodIn_r _ [5] rfl gw_X8_in
set_option maxRecDepth 20000 in
theorem gX8_purse_X8_in : GoodIn wsX8_purse (va_wsS RX8 95 yX8_in wsX8_in) := goodIn_app (goodIn_r _ [2, 3, 4] rfl (by decide +kernel)) ggX8_purse_X8_in
set_option maxRecDepth 20000 in
theorem ggX8_purse_X8_bad : GoodIn wsX8_purse wsX8_bad := goodIn_r _ [9, 10, 11, 12, 13, 14, 15, 16, 17, 18, 19, 20, 21, 22, 23, 24, 25, 26, 27, 28, 29, 30, 31, 32, 33, 34, 35, 36, 37, 38, 39, 40, 41, 42] rfl gw_X8_bad
set_option maxRecDepth 20000 in
theorem gX8_purse_X8_bad : GoodIn wsX8_purse (wsV RX8 103 RX8 yX8_bad wsX8_bad) := goodIn_app (goodIn_r _ [6, 7, 8, 4] rfl (by decide +kernel)) ggX8_purse_X8_bad
set_option maxRecDepth 20000 in
theorem ggX8_put_X8_isPiece : GoodIn wsX8_put wsX8_isPiece := goodIn_r _ [7, 8, 9, 10, 6, 11, 25, 26, 27, 28, 29, 30, 31, 32, 33, 34, 35, 36, 37, 38, 39, 40, 41, 42, 43, 44, 45, 46, 47, 48, 49, 50, 51, 52, 53, 54, 55, 56] rfl gw_X8_isPiece
set_option maxRecDepth 20000 in
theorem gX8_put_X8_isPiece : GoodIn wsX8_put (wsV RX8 114 RX8 yX8_isPiece wsX8_isPiece) := goodIn_app (goodIn_r _ [3, 4, 5, 6] rfl (by decide +kernel)) ggX8_put_X8_isPiece
set_option maxRecDepth 20000 in
theorem ggX8_put_X8_isKind : GoodIn wsX8_put wsX8_isKind := goodIn_r _ [14, 9, 10, 6, 11] rfl gw_X8_isKind
set_option maxRecDepth 20000 in
theorem gX8_put_X8_isKind : GoodIn wsX8_put (va_wsS RX8 118 yX8_isKind wsX8_isKind) := goodIn_app (goodIn_r _ [12, 13, 6] rfl (by decide +kernel)) ggX8_put_X8_isKind
set_option maxRecDepth 20000 in
theorem ggX8_put_X8_ten : GoodIn wsX8_put wsX8_ten := goodIn_r _ [18, 19, 25, 26, 27, 28, 29, 30, 31, 32, 33, 34, 35, 36, 37, 38, 39, 40, 41, 42, 43, 44, 45, 46, 47, 48, 49, 50, 51, 52, 53, 54, 55, 56] rfl gw_X8_ten
set_option maxRecDepth 20000 in
theorem gX8_put_X8_ten : GoodIn wsX8_put (wsV RX8 121 RX8 yX8_ten wsX8_ten) := goodIn_app (goodIn_r _ [15, 16, 17, 6] rfl (by decide +kernel)) ggX8_put_X8_ten
set_option maxRecDepth 20000 in
theorem ggX8_put_X8_mark : GoodIn wsX8_put wsX8_mark := goodIn_r _ [23, 1, 24, 25, 26, 27, 28, 29, 30, 31, 32, 33, 34, 35, 36, 37, 38, 39, 40, 41, 42, 43, 44, 45, 46, 47, 48, 49, 50, 51, 52, 53, 54, 55, 56] rfl gw_X8_mark
set_option maxRecDepth 20000 in
theorem gX8_put_X8_mark : GoodIn wsX8_put (wsV RX8 124 RX8 yX8_mark wsX8_mark) := goodIn_app (goodIn_r _ [20, 21, 22, 6] rfl (by decide +kernel)) ggX8_put_X8_mark
set_option maxRecDepth 20000 in
theorem ggX8_type_X8_in : GoodIn wsX8_type wsX8_in := goodIn_r _ [6] rfl gw_X8_in
set_option maxRecDepth 20000 in
theorem gX8_type_X8_in : GoodIn wsX8_type (va_wsS RX8 95 yX8_in wsX8_in) := goodIn_app (goodIn_r _ [3, 4, 5] rfl (by decide +kernel)) ggX8_type_X8_in
set_option maxRecDepth 20000 in
theorem ggX8_type_X8_bad : GoodIn wsX8_type wsX8_bad := goodIn_r _ [10, 11, 16, 17, 18, 19, 20, 21, 22, 23, 24, 25, 26, 27, 28, 29, 30, 31, 32, 33, 34, 35, 36, 37, 38, 39, 40, 41, 42, 43, 44, 45, 46, 47] rfl gw_X8_bad
set_option maxRecDepth 20000 in
theorem gX8_type_X8_bad : GoodIn wsX8_type (wsV RX8 103 RX8 yX8_bad wsX8_bad) := goodIn_app (goodIn_r _ [7, 8, 9, 5] rfl (by decide +kernel)) ggX8_type_X8_bad
set_option maxRecDepth 20000 in
theorem ggX8_type_X8_full : GoodIn wsX8_type wsX8_full := goodIn_r _ [15, 11, 16, 17, 18, 19, 20, 21, 22, 23, 24, 25, 26, 27, 28, 29, 30, 31, 32, 33, 34, 35, 36, 37, 38, 39, 40, 41, 42, 43, 44, 45, 46, 47] rfl gw_X8_full
set_option maxRecDepth 20000 in
theorem gX8_type_X8_full : GoodIn wsX8_type (wsV RX8 107 RX8 yX8_full wsX8_full) := goodIn_app (goodIn_r _ [12, 13, 14, 5] rfl (by decide +kernel)) ggX8_type_X8_full
set_option maxRecDepth 20000 in
theorem ggX8_skip_X8_here : GoodIn wsX8_skip wsX8_here := goodIn_r _ [6, 1, 7, 8, 9, 10, 11, 12, 13, 14, 15, 16, 17, 18, 19, 20, 21, 22, 23, 24, 25, 26, 27, 28, 29, 30, 31, 32, 33, 34, 35, 36, 37, 38, 39, 40] rfl gw_X8_here
set_option maxRecDepth 20000 in
theorem gX8_skip_X8_here : GoodIn wsX8_skip (wsV RX8 133 RX8 yX8_here wsX8_here) := goodIn_app (goodIn_r _ [2, 3, 4, 5] rfl (by decide +kernel)) ggX8_skip_X8_here
set_option maxRecDepth 20000 in
theorem ggX8_isLetter_X8_in : GoodIn wsX8_isLetter wsX8_in := goodIn_r _ [4] rfl gw_X8_in
set_option maxRecDepth 20000 in
theorem gX8_isLetter_X8_in : GoodIn wsX8_isLetter (va_wsS RX8 95 yX8_in wsX8_in) := goodIn_app (goodIn_r _ [1, 2, 3] rfl (by decide +kernel)) ggX8_isLetter_X8_in
set_option maxRecDepth 20000 in
theorem ggX8_isFigure_X8_in : GoodIn wsX8_isFigure wsX8_in := goodIn_r _ [4] rfl gw_X8_in
set_option maxRecDepth 20000 in
theorem gX8_isFigure_X8_in : GoodIn wsX8_isFigure (va_wsS RX8 95 yX8_in wsX8_in) := goodIn_app (goodIn_r _ [1, 2, 3] rfl (by decide +kernel)) ggX8_isFigure_X8_in
set_option maxRecDepth 20000 in
theorem ggX8_wordSize_X8_isLetter : GoodIn wsX8_wordSize wsX8_isLetter := goodIn_r _ [7, 8, 9, 6, 10] rfl gw_X8_isLetter
set_option maxRecDepth 20000 in
theorem gX8_wordSize_X8_isLetter : GoodIn wsX8_wordSize (va_wsS RX8 136 yX8_isLetter wsX8_isLetter) := goodIn_app (goodIn_r _ [4, 5, 6] rfl (by decide +kernel)) ggX8_wordSize_X8_isLetter
set_option maxRecDepth 20000 in
theorem ggX8_wordHere_X8_wordSize : GoodIn wsX8_wordHere wsX8_wordSize := goodIn_r _ [5, 6, 7, 8, 9, 10, 4, 11, 12, 13, 14, 19, 20, 21, 22, 23, 24, 25, 26, 27, 28, 29, 30, 31, 32, 33, 34, 35, 36, 37, 38, 39, 40, 41, 42, 43, 44, 45, 46, 47, 48, 49, 50] rfl gw_X8_wordSize
set_option maxRecDepth 20000 in
theorem gX8_wordHere_X8_wordSize : GoodIn wsX8_wordHere (wsV RX8 139 RX8 yX8_wordSize wsX8_wordSize) := goodIn_app (goodIn_r _ [1, 2, 3, 4] rfl (by decide +kernel)) ggX8_wordHere_X8_wordSize
set_option maxRecDepth 20000 in
theorem ggX8_wordHere_X8_letter : GoodIn wsX8_wordHere wsX8_letter := goodIn_r _ [18, 8, 6, 19, 20, 21, 22, 23, 24, 25, 26, 27, 28, 29, 30, 31, 32, 33, 34, 35, 36, 37, 38, 39, 40, 41, 42, 43, 44, 45, 46, 47, 48, 49, 50] rfl gw_X8_letter
set_option maxRecDepth 20000 in
theorem gX8_wordHere_X8_letter : GoodIn wsX8_wordHere (wsV RX8 142 RX8 yX8_letter wsX8_letter) := goodIn_app (goodIn_r _ [15, 16, 17, 4] rfl (by decide +kernel)) ggX8_wordHere_X8_letter
set_option maxRecDepth 20000 in
theorem ggX8_number_X8_skip : GoodIn wsX8_number wsX8_skip := goodIn_r _ [9, 1, 10, 11, 12, 8, 13, 2, 3, 20, 21, 22, 23, 24, 25, 26, 27, 28, 29, 30, 31, 32, 33, 34, 35, 36, 37, 38, 39, 40, 41, 42, 43, 44, 45, 46, 47, 48, 49, 50, 51] rfl gw_X8_skip
set_option maxRecDepth 20000 in
theorem gX8_number_X8_skip : GoodIn wsX8_number (wsV RX8 145 RX8 yX8_skip wsX8_skip) := goodIn_app (goodIn_r _ [5, 6, 7, 8] rfl (by decide +kernel)) ggX8_number_X8_skip
set_option maxRecDepth 20000 in
theorem ggX8_number_X8_isFigure : GoodIn wsX8_number wsX8_isFigure := goodIn_r _ [16, 17, 18, 8, 19] rfl gw_X8_isFigure
set_option maxRecDepth 20000 in
theorem gX8_number_X8_isFigure : GoodIn wsX8_number (va_wsS RX8 148 yX8_isFigure wsX8_isFigure) := goodIn_app (goodIn_r _ [14, 15, 8] rfl (by decide +kernel)) ggX8_number_X8_isFigure
set_option maxRecDepth 20000 in
theorem ggX8_number_X8_in : GoodIn wsX8_number wsX8_in := goodIn_r _ [19] rfl gw_X8_in
set_option maxRecDepth 20000 in
theorem gX8_number_X8_in : GoodIn wsX8_number (va_wsS RX8 95 yX8_in wsX8_in) := goodIn_app (goodIn_r _ [17, 18, 8] rfl (by decide +kernel)) ggX8_number_X8_in
set_option maxRecDepth 20000 in
theorem ggX8_readsItem_X8_wordHere : GoodIn wsX8_readsItem wsX8_wordHere := goodIn_r _ [9, 10, 11, 12, 8, 13, 2, 14, 15, 16, 17, 18, 19, 20, 21, 22, 23, 24, 25, 41, 42, 43, 44, 45, 46, 47, 48, 49, 50, 51, 52, 53, 54, 55, 56, 57, 58, 59, 60, 61, 62, 63, 64, 65, 66, 67, 68, 69, 70, 71, 72] rfl gw_X8_wordHere
set_option maxRecDepth 20000 in
theorem gX8_readsItem_X8_wordHere : GoodIn wsX8_readsItem (wsV RX8 154 RX8 yX8_wordHere wsX8_wordHere) := goodIn_app (goodIn_r _ [5, 6, 7, 8] rfl (by decide +kernel)) ggX8_readsItem_X8_wordHere
set_option maxRecDepth 20000 in
theorem ggX8_readsItem_X8_number : GoodIn wsX8_readsItem wsX8_number := goodIn_r _ [29, 2, 14, 15, 4, 30, 31, 32, 8, 33, 34, 35, 36, 37, 38, 39, 40, 19, 20, 21, 41, 42, 43, 44, 45, 46, 47, 48, 49, 50, 51, 52, 53, 54, 55, 56, 57, 58, 59, 60, 61, 62, 63, 64, 65, 66, 67, 68, 69, 70, 71, 72] rfl gw_X8_number
set_option maxRecDepth 20000 in
theorem gX8_readsItem_X8_number : GoodIn wsX8_readsItem (wsV RX8 160 RX8 yX8_number wsX8_number) := goodIn_app (goodIn_r _ [26, 27, 28, 8] rfl (by decide +kernel)) ggX8_readsItem_X8_number
set_option maxRecDepth 20000 in
theorem ggX8_readsItem_X8_skip : GoodIn wsX8_readsItem wsX8_skip := goodIn_r _ [33, 2, 34, 35, 36, 8, 37, 14, 15, 41, 42, 43, 44, 45, 46, 47, 48, 49, 50, 51, 52, 53, 54, 55, 56, 57, 58, 59, 60, 61, 62, 63, 64, 65, 66, 67, 68, 69, 70, 71, 72] rfl gw_X8_skip
set_option maxRecDepth 20000 in
theorem gX8_readsItem_X8_skip : GoodIn wsX8_readsItem (wsV RX8 145 RX8 yX8_skip wsX8_skip) := goodIn_app (goodIn_r _ [30, 31, 32, 8] rfl (by decide +kernel)) ggX8_readsItem_X8_skip
set_option maxRecDepth 20000 in
theorem ggX8_readsItem_X8_here : GoodIn wsX8_readsItem wsX8_here := goodIn_r _ [37, 2, 14, 15, 41, 42, 43, 44, 45, 46, 47, 48, 49, 50, 51, 52, 53, 54, 55, 56, 57, 58, 59, 60, 61, 62, 63, 64, 65, 66, 67, 68, 69, 70, 71, 72] rfl gw_X8_here
set_option maxRecDepth 20000 in
theorem gX8_readsItem_X8_here : GoodIn wsX8_readsItem (wsV RX8 133 RX8 yX8_here wsX8_here) := goodIn_app (goodIn_r _ [34, 35, 36, 8] rfl (by decide +kernel)) ggX8_readsItem_X8_here
set_option maxRecDepth 20000 in
theorem ggX8_readsPage_X8_skip : GoodIn wsX8_readsPage wsX8_skip := goodIn_r _ [8, 1, 9, 10, 11, 7, 12, 3, 13, 45, 46, 47, 48, 49, 50, 51, 52, 53, 54, 55, 56, 57, 58, 59, 60, 61, 62, 63, 64, 65, 66, 67, 68, 69, 70, 71, 72, 73, 74, 75, 76] rfl gw_X8_skip
set_option maxRecDepth 20000 in
theorem gX8_readsPage_X8_skip : GoodIn wsX8_readsPage (wsV RX8 145 RX8 yX8_skip wsX8_skip) := goodIn_app (goodIn_r _ [4, 5, 6, 7] rfl (by decide +kernel)) ggX8_readsPage_X8_skip
set_option maxRecDepth 20000 in
theorem ggX8_readsPage_X8_readsItem : GoodIn wsX8_readsPage wsX8_readsItem := goodIn_r _ [17, 2, 1, 18, 19, 20, 21, 22, 7, 23, 24, 25, 26, 27, 3, 13, 28, 29, 30, 31, 32, 33, 34, 35, 36, 37, 38, 39, 40, 41, 4, 5, 6, 8, 9, 10, 11, 12, 42, 43, 44, 45, 46, 47, 48, 49, 50, 51, 52, 53, 54, 55, 56, 57, 58, 59, 60, 61, 62, 63, 64, 65, 66, 67, 68, 69, 70, 71, 72, 73, 74, 75, 76] rfl gw_X8_readsItem
set_option maxRecDepth 20000 in
theorem gX8_readsPage_X8_readsItem : GoodIn wsX8_readsPage (wsV RX8 164 RX8 yX8_readsItem wsX8_readsItem) := goodIn_app (goodIn_r _ [14, 15, 16, 7] rfl (by decide +kernel)) ggX8_readsPage_X8_readsItem
set_option maxRecDepth 20000 in
theorem ggX8_refusedItem_X8_isPage : GoodIn wsX8_refusedItem wsX8_isPage := goodIn_r _ [6, 7, 8, 5, 9] rfl gw_X8_isPage
set_option maxRecDepth 20000 in
theorem gX8_refusedItem_X8_isPage : GoodIn wsX8_refusedItem (va_wsS RX8 99 yX8_isPage wsX8_isPage) := goodIn_app (goodIn_r _ [3, 4, 5] rfl (by decide +kernel)) ggX8_refusedItem_X8_isPage
set_option maxRecDepth 20000 in
theorem ggX8_refusedItem_X8_in : GoodIn wsX8_refusedItem wsX8_in := goodIn_r _ [9] rfl gw_X8_in
set_option maxRecDepth 20000 in
theorem gX8_refusedItem_X8_in : GoodIn wsX8_refusedItem (va_wsS RX8 95 yX8_in wsX8_in) := goodIn_app (goodIn_r _ [7, 8, 5] rfl (by decide +kernel)) ggX8_refusedItem_X8_in
set_option maxRecDepth 20000 in
theorem ggX8_refusedItem_X8_isKind : GoodIn wsX8_refusedItem wsX8_isKind := goodIn_r _ [12, 7, 8, 5, 9] rfl gw_X8_isKind
set_option maxRecDepth 20000 in
theorem gX8_refusedItem_X8_isKind : GoodIn wsX8_refusedItem (va_wsS RX8 118 yX8_isKind wsX8_isKind) := goodIn_app (goodIn_r _ [10, 11, 5] rfl (by decide +kernel)) ggX8_refusedItem_X8_isKind
set_option maxRecDepth 20000 in
theorem ggX8_read_X8_readsPage : GoodIn wsX8_read wsX8_readsPage := goodIn_r _ [8, 1, 3, 9, 10, 11, 12, 7, 13, 14, 15, 16, 17, 18, 19, 20, 21, 22, 2, 23, 24, 25, 26, 27, 28, 29, 30, 31, 32, 33, 34, 35, 36, 37, 38, 39, 40, 41, 42, 43, 44, 45, 46, 47, 48, 81, 82, 83, 84, 85, 86, 87, 88, 89, 90, 91, 92, 93, 94, 95, 96, 97, 98, 99, 100, 101, 102, 103, 104, 105, 106, 107, 108, 109, 110, 111, 112] rfl gw_X8_readsPage
set_option maxRecDepth 20000 in
theorem gX8_read_X8_readsPage : GoodIn wsX8_read (wsV RX8 167 RX8 yX8_readsPage wsX8_readsPage) := goodIn_app (goodIn_r _ [4, 5, 6, 7] rfl (by decide +kernel)) ggX8_read_X8_readsPage
set_option maxRecDepth 20000 in
theorem ggX8_read_X8_refusedItem : GoodIn wsX8_read wsX8_refusedItem := goodIn_r _ [52, 3, 2, 53, 54, 7, 55, 35, 36, 37, 56, 57, 58, 81, 82, 83, 84, 85, 86, 87, 88, 89, 90, 91, 92, 93, 94, 95, 96, 97, 98, 99, 100, 101, 102, 103, 104, 105, 106, 107, 108, 109, 110, 111, 112] rfl gw_X8_refusedItem
set_option maxRecDepth 20000 in
theorem gX8_read_X8_refusedItem : GoodIn wsX8_read (wsV RX8 170 RX8 yX8_refusedItem wsX8_refusedItem) := goodIn_app (goodIn_r _ [49, 50, 51, 7] rfl (by decide +kernel)) ggX8_read_X8_refusedItem
set_option maxRecDepth 20000 in
theorem ggX8_read_X8_begin : GoodIn wsX8_read wsX8_begin := goodIn_r _ [62, 63, 64, 65, 66, 67, 68, 69, 81, 82, 83, 84, 85, 86, 87, 88, 89, 90, 91, 92, 93, 94, 95, 96, 97, 98, 99, 100, 101, 102, 103, 104, 105, 106, 107, 108, 109, 110, 111, 112] rfl gw_X8_begin
set_option maxRecDepth 20000 in
theorem gX8_read_X8_begin : GoodIn wsX8_read (wsV RX8 76 RX8 yX8_begin wsX8_begin) := goodIn_app (goodIn_r _ [59, 60, 61, 7] rfl (by decide +kernel)) ggX8_read_X8_begin
set_option maxRecDepth 20000 in
theorem ggX8_read_X8_add : GoodIn wsX8_read wsX8_add := goodIn_r _ [73, 74, 65, 75, 76, 69, 81, 82, 83, 84, 85, 86, 87, 88, 89, 90, 91, 92, 93, 94, 95, 96, 97, 98, 99, 100, 101, 102, 103, 104, 105, 106, 107, 108, 109, 110, 111, 112] rfl gw_X8_add
set_option maxRecDepth 20000 in
theorem gX8_read_X8_add : GoodIn wsX8_read (wsV RX8 110 RX8 yX8_add wsX8_add) := goodIn_app (goodIn_r _ [70, 71, 72, 7] rfl (by decide +kernel)) ggX8_read_X8_add
set_option maxRecDepth 20000 in
theorem ggX8_read_X8_mark : GoodIn wsX8_read wsX8_mark := goodIn_r _ [80, 75, 76, 81, 82, 83, 84, 85, 86, 87, 88, 89, 90, 91, 92, 93, 94, 95, 96, 97, 98, 99, 100, 101, 102, 103, 104, 105, 106, 107, 108, 109, 110, 111, 112] rfl gw_X8_mark
set_option maxRecDepth 20000 in
theorem gX8_read_X8_mark : GoodIn wsX8_read (wsV RX8 124 RX8 yX8_mark wsX8_mark) := goodIn_app (goodIn_r _ [77, 78, 79, 7] rfl (by decide +kernel)) ggX8_read_X8_mark
set_option maxRecDepth 20000 in
theorem ggX8_givenBy_X8_lesser : GoodIn wsX8_givenBy wsX8_lesser := goodIn_r _ [4] rfl gw_X8_lesser
set_option maxRecDepth 20000 in
theorem gX8_givenBy_X8_lesser : GoodIn wsX8_givenBy (va_wsS RX8 173 yX8_lesser wsX8_lesser) := goodIn_app (goodIn_r _ [1, 2, 3] rfl (by decide +kernel)) ggX8_givenBy_X8_lesser
set_option maxRecDepth 20000 in
theorem ggX8_givenBy_X8_greater : GoodIn wsX8_givenBy wsX8_greater := goodIn_r _ [7] rfl gw_X8_greater
set_option maxRecDepth 20000 in
theorem gX8_givenBy_X8_greater : GoodIn wsX8_givenBy (va_wsS RX8 177 yX8_greater wsX8_greater) := goodIn_app (goodIn_r _ [5, 6, 3] rfl (by decide +kernel)) ggX8_givenBy_X8_greater
set_option maxRecDepth 20000 in
theorem ggX8_ends_X8_in : GoodIn wsX8_ends wsX8_in := goodIn_r _ [4] rfl gw_X8_in
set_option maxRecDepth 20000 in
theorem gX8_ends_X8_in : GoodIn wsX8_ends (va_wsS RX8 95 yX8_in wsX8_in) := goodIn_app (goodIn_r _ [1, 2, 3] rfl (by decide +kernel)) ggX8_ends_X8_in
set_option maxRecDepth 20000 in
theorem ggX8_buy_X8_isPiece : GoodIn wsX8_buy wsX8_isPiece := goodIn_r _ [7, 8, 9, 10, 6, 11, 41, 42, 43, 44, 45, 46, 47, 48, 49, 50, 51, 52, 53, 54, 55, 56, 57, 58, 59, 60, 61, 62, 63, 64, 65, 66, 67, 68, 69, 70, 71, 72] rfl gw_X8_isPiece
set_option maxRecDepth 20000 in
theorem gX8_buy_X8_isPiece : GoodIn wsX8_buy (wsV RX8 114 RX8 yX8_isPiece wsX8_isPiece) := goodIn_app (goodIn_r _ [3, 4, 5, 6] rfl (by decide +kernel)) ggX8_buy_X8_isPiece
set_option maxRecDepth 20000 in
theorem ggX8_buy_X8_isKind : GoodIn wsX8_buy wsX8_isKind := goodIn_r _ [14, 9, 10, 6, 11] rfl gw_X8_isKind
set_option maxRecDepth 20000 in
theorem gX8_buy_X8_isKind : GoodIn wsX8_buy (va_wsS RX8 118 yX8_isKind wsX8_isKind) := goodIn_app (goodIn_r _ [12, 13, 6] rfl (by decide +kernel)) ggX8_buy_X8_isKind
set_option maxRecDepth 20000 in
theorem ggX8_buy_X8_bad : GoodIn wsX8_buy wsX8_bad := goodIn_r _ [18, 19, 41, 42, 43, 44, 45, 46, 47, 48, 49, 50, 51, 52, 53, 54, 55, 56, 57, 58, 59, 60, 61, 62, 63, 64, 65, 66, 67, 68, 69, 70, 71, 72] rfl gw_X8_bad
set_option maxRecDepth 20000 in
theorem gX8_buy_X8_bad : GoodIn wsX8_buy (wsV RX8 103 RX8 yX8_bad wsX8_bad) := goodIn_app (goodIn_r _ [15, 16, 17, 6] rfl (by decide +kernel)) ggX8_buy_X8_bad
set_option maxRecDepth 20000 in
theorem ggX8_buy_X8_costOf : GoodIn wsX8_buy wsX8_costOf := goodIn_r _ [23, 24, 25, 41, 42, 43, 44, 45, 46, 47, 48, 49, 50, 51, 52, 53, 54, 55, 56, 57, 58, 59, 60, 61, 62, 63, 64, 65, 66, 67, 68, 69, 70, 71, 72] rfl gw_X8_costOf
set_option maxRecDepth 20000 in
theorem gX8_buy_X8_costOf : GoodIn wsX8_buy (wsV RX8 180 RX8 yX8_costOf wsX8_costOf) := goodIn_app (goodIn_r _ [20, 21, 22, 6] rfl (by decide +kernel)) ggX8_buy_X8_costOf
set_option maxRecDepth 20000 in
theorem ggX8_buy_X8_no : GoodIn wsX8_buy wsX8_no := goodIn_r _ [29, 19, 41, 42, 43, 44, 45, 46, 47, 48, 49, 50, 51, 52, 53, 54, 55, 56, 57, 58, 59, 60, 61, 62, 63, 64, 65, 66, 67, 68, 69, 70, 71, 72] rfl gw_X8_no
set_option maxRecDepth 20000 in
theorem gX8_buy_X8_no : GoodIn wsX8_buy (wsV RX8 183 RX8 yX8_no wsX8_no) := goodIn_app (goodIn_r _ [26, 27, 28, 6] rfl (by decide +kernel)) ggX8_buy_X8_no
set_option maxRecDepth 20000 in
theorem ggX8_buy_X8_notes : GoodIn wsX8_buy wsX8_notes := goodIn_r _ [33, 34, 35, 2, 25, 1, 36, 41, 42, 43, 44, 45, 46, 47, 48, 49, 50, 51, 52, 53, 54, 55, 56, 57, 58, 59, 60, 61, 62, 63, 64, 65, 66, 67, 68, 69, 70, 71, 72] rfl gw_X8_notes
set_option maxRecDepth 20000 in
theorem gX8_buy_X8_notes : GoodIn wsX8_buy (wsV RX8 186 RX8 yX8_notes wsX8_notes) := goodIn_app (goodIn_r _ [30, 31, 32, 6] rfl (by decide +kernel)) ggX8_buy_X8_notes
set_option maxRecDepth 20000 in
theorem ggX8_buy_X8_mark : GoodIn wsX8_buy wsX8_mark := goodIn_r _ [40, 1, 36, 41, 42, 43, 44, 45, 46, 47, 48, 49, 50, 51, 52, 53, 54, 55, 56, 57, 58, 59, 60, 61, 62, 63, 64, 65, 66, 67, 68, 69, 70, 71, 72] rfl gw_X8_mark
set_option maxRecDepth 20000 in
theorem gX8_buy_X8_mark : GoodIn wsX8_buy (wsV RX8 124 RX8 yX8_mark wsX8_mark) := goodIn_app (goodIn_r _ [37, 38, 39, 6] rfl (by decide +kernel)) ggX8_buy_X8_mark
set_option maxRecDepth 20000 in
theorem ggX8_sell_X8_isPiece : GoodIn wsX8_sell wsX8_isPiece := goodIn_r _ [7, 8, 9, 10, 6, 11, 41, 42, 43, 44, 45, 46, 47, 48, 49, 50, 51, 52, 53, 54, 55, 56, 57, 58, 59, 60, 61, 62, 63, 64, 65, 66, 67, 68, 69, 70, 71, 72] rfl gw_X8_isPiece
set_option maxRecDepth 20000 in
theorem gX8_sell_X8_isPiece : GoodIn wsX8_sell (wsV RX8 114 RX8 yX8_isPiece wsX8_isPiece) := goodIn_app (goodIn_r _ [3, 4, 5, 6] rfl (by decide +kernel)) ggX8_sell_X8_isPiece
set_option maxRecDepth 20000 in
theorem ggX8_sell_X8_bad : GoodIn wsX8_sell wsX8_bad := goodIn_r _ [15, 16, 41, 42, 43, 44, 45, 46, 47, 48, 49, 50, 51, 52, 53, 54, 55, 56, 57, 58, 59, 60, 61, 62, 63, 64, 65, 66, 67, 68, 69, 70, 71, 72] rfl gw_X8_bad
set_option maxRecDepth 20000 in
theorem gX8_sell_X8_bad : GoodIn wsX8_sell (wsV RX8 103 RX8 yX8_bad wsX8_bad) := goodIn_app (goodIn_r _ [12, 13, 14, 6] rfl (by decide +kernel)) ggX8_sell_X8_bad
set_option maxRecDepth 20000 in
theorem ggX8_sell_X8_no : GoodIn wsX8_sell wsX8_no := goodIn_r _ [20, 16, 41, 42, 43, 44, 45, 46, 47, 48, 49, 50, 51, 52, 53, 54, 55, 56, 57, 58, 59, 60, 61, 62, 63, 64, 65, 66, 67, 68, 69, 70, 71, 72] rfl gw_X8_no
set_option maxRecDepth 20000 in
theorem gX8_sell_X8_no : GoodIn wsX8_sell (wsV RX8 183 RX8 yX8_no wsX8_no) := goodIn_app (goodIn_r _ [17, 18, 19, 6] rfl (by decide +kernel)) ggX8_sell_X8_no
set_option maxRecDepth 20000 in
theorem ggX8_sell_X8_notes : GoodIn wsX8_sell wsX8_notes := goodIn_r _ [24, 25, 26, 2, 27, 1, 28, 41, 42, 43, 44, 45, 46, 47, 48, 49, 50, 51, 52, 53, 54, 55, 56, 57, 58, 59, 60, 61, 62, 63, 64, 65, 66, 67, 68, 69, 70, 71, 72] rfl gw_X8_notes
set_option maxRecDepth 20000 in
theorem gX8_sell_X8_notes : GoodIn wsX8_sell (wsV RX8 186 RX8 yX8_notes wsX8_notes) := goodIn_app (goodIn_r _ [21, 22, 23, 6] rfl (by decide +kernel)) ggX8_sell_X8_notes
set_option maxRecDepth 20000 in
theorem ggX8_sell_X8_costOf : GoodIn wsX8_sell wsX8_costOf := goodIn_r _ [32, 33, 27, 41, 42, 43, 44, 45, 46, 47, 48, 49, 50, 51, 52, 53, 54, 55, 56, 57, 58, 59, 60, 61, 62, 63, 64, 65, 66, 67, 68, 69, 70, 71, 72] rfl gw_X8_costOf
set_option maxRecDepth 20000 in
theorem gX8_sell_X8_costOf : GoodIn wsX8_sell (wsV RX8 180 RX8 yX8_costOf wsX8_costOf) := goodIn_app (goodIn_r _ [29, 30, 31, 6] rfl (by decide +kernel)) ggX8_sell_X8_costOf
set_option maxRecDepth 20000 in
theorem ggX8_sell_X8_mark : GoodIn wsX8_sell wsX8_mark := goodIn_r _ [37, 1, 28, 41, 42, 43, 44, 45, 46, 47, 48, 49, 50, 51, 52, 53, 54, 55, 56, 57, 58, 59, 60, 61, 62, 63, 64, 65, 66, 67, 68, 69, 70, 71, 72] rfl gw_X8_mark
set_option maxRecDepth 20000 in
theorem gX8_sell_X8_mark : GoodIn wsX8_sell (wsV RX8 124 RX8 yX8_mark wsX8_mark) := goodIn_app (goodIn_r _ [34, 35, 36, 6] rfl (by decide +kernel)) ggX8_sell_X8_mark
set_option maxRecDepth 20000 in
theorem ggX8_sell_X8_lesser : GoodIn wsX8_sell wsX8_lesser := goodIn_r _ [40] rfl gw_X8_lesser
set_option maxRecDepth 20000 in
theorem gX8_sell_X8_lesser : GoodIn wsX8_sell (va_wsS RX8 173 yX8_lesser wsX8_lesser) := goodIn_app (goodIn_r _ [38, 39, 6] rfl (by decide +kernel)) ggX8_sell_X8_lesser
set_option maxRecDepth 20000 in
theorem ggX8_readOut_X8_notes : GoodIn wsX8_readOut wsX8_notes := goodIn_r _ [10, 11, 12, 13, 14, 4, 5, 31, 32, 33, 34, 35, 36, 37, 38, 39, 40, 41, 42, 43, 44, 45, 46, 47, 48, 49, 50, 51, 52, 53, 54, 55, 56, 57, 58, 59, 60, 61, 62] rfl gw_X8_notes
set_option maxRecDepth 20000 in
theorem gX8_readOut_X8_notes : GoodIn wsX8_readOut (wsV RX8 186 RX8 yX8_notes wsX8_notes) := goodIn_app (goodIn_r _ [6, 7, 8, 9] rfl (by decide +kernel)) ggX8_readOut_X8_notes
set_option maxRecDepth 20000 in
theorem ggX8_readOut_X8_givenBy : GoodIn wsX8_readOut wsX8_givenBy := goodIn_r _ [17, 18, 19, 9, 20, 21, 22, 23] rfl gw_X8_givenBy
set_option maxRecDepth 20000 in
theorem gX8_readOut_X8_givenBy : GoodIn wsX8_readOut (va_wsS RX8 189 yX8_givenBy wsX8_givenBy) := goodIn_app (goodIn_r _ [15, 16, 9] rfl (by decide +kernel)) ggX8_readOut_X8_givenBy
set_option maxRecDepth 20000 in
theorem ggX8_readOut_X8_dries : GoodIn wsX8_readOut wsX8_dries := goodIn_r _ [26] rfl gw_X8_dries
set_option maxRecDepth 20000 in
theorem gX8_readOut_X8_dries : GoodIn wsX8_readOut (va_wsS RX8 193 yX8_dries wsX8_dries) := goodIn_app (goodIn_r _ [24, 25, 9] rfl (by decide +kernel)) ggX8_readOut_X8_dries
set_option maxRecDepth 20000 in
theorem ggX8_readOut_X8_mark : GoodIn wsX8_readOut wsX8_mark := goodIn_r _ [30, 4, 5, 31, 32, 33, 34, 35, 36, 37, 38, 39, 40, 41, 42, 43, 44, 45, 46, 47, 48, 49, 50, 51, 52, 53, 54, 55, 56, 57, 58, 59, 60, 61, 62] rfl gw_X8_mark
set_option maxRecDepth 20000 in
theorem gX8_readOut_X8_mark : GoodIn wsX8_readOut (wsV RX8 124 RX8 yX8_mark wsX8_mark) := goodIn_app (goodIn_r _ [27, 28, 29, 9] rfl (by decide +kernel)) ggX8_readOut_X8_mark
set_option maxRecDepth 20000 in
theorem ggX8_week_X8_in : GoodIn wsX8_week wsX8_in := goodIn_r _ [5] rfl gw_X8_in
set_option maxRecDepth 20000 in
theorem gX8_week_X8_in : GoodIn wsX8_week (va_wsS RX8 95 yX8_in wsX8_in) := goodIn_app (goodIn_r _ [2, 3, 4] rfl (by decide +kernel)) ggX8_week_X8_in
set_option maxRecDepth 20000 in
theorem ggX8_week_X8_bad : GoodIn wsX8_week wsX8_bad := goodIn_r _ [9, 10, 20, 21, 22, 23, 24, 25, 26, 27, 28, 29, 30, 31, 32, 33, 34, 35, 36, 37, 38, 39, 40, 41, 42, 43, 44, 45, 46, 47, 48, 49, 50, 51] rfl gw_X8_bad
set_option maxRecDepth 20000 in
theorem gX8_week_X8_bad : GoodIn wsX8_week (wsV RX8 103 RX8 yX8_bad wsX8_bad) := goodIn_app (goodIn_r _ [6, 7, 8, 4] rfl (by decide +kernel)) ggX8_week_X8_bad
set_option maxRecDepth 20000 in
theorem ggX8_week_X8_notes : GoodIn wsX8_week wsX8_notes := goodIn_r _ [14, 15, 16, 17, 1, 18, 19, 20, 21, 22, 23, 24, 25, 26, 27, 28, 29, 30, 31, 32, 33, 34, 35, 36, 37, 38, 39, 40, 41, 42, 43, 44, 45, 46, 47, 48, 49, 50, 51] rfl gw_X8_notes
set_option maxRecDepth 20000 in
theorem gX8_week_X8_notes : GoodIn wsX8_week (wsV RX8 186 RX8 yX8_notes wsX8_notes) := goodIn_app (goodIn_r _ [11, 12, 13, 4] rfl (by decide +kernel)) ggX8_week_X8_notes
set_option maxRecDepth 20000 in
theorem ggX8_undo_X8_no : GoodIn wsX8_undo wsX8_no := goodIn_r _ [11, 12, 13, 14, 15, 16, 17, 18, 19, 20, 21, 22, 23, 24, 25, 26, 27, 28, 29, 30, 31, 32, 33, 34, 35, 36, 37, 38, 39, 40, 41, 42, 43, 44] rfl gw_X8_no
set_option maxRecDepth 20000 in
theorem gX8_undo_X8_no : GoodIn wsX8_undo (wsV RX8 183 RX8 yX8_no wsX8_no) := goodIn_app (goodIn_r _ [7, 8, 9, 10] rfl (by decide +kernel)) ggX8_undo_X8_no
set_option maxRecDepth 20000 in
theorem ggX8_of_X8_isPiece : GoodIn wsX8_of wsX8_isPiece := goodIn_r _ [8, 9, 10, 11, 7, 12, 24, 25, 26, 27, 28, 29, 30, 31, 32, 33, 34, 35, 36, 37, 38, 39, 40, 41, 42, 43, 44, 45, 46, 47, 48, 49, 50, 51, 52, 53, 54, 55] rfl gw_X8_isPiece
set_option maxRecDepth 20000 in
theorem gX8_of_X8_isPiece : GoodIn wsX8_of (wsV RX8 114 RX8 yX8_isPiece wsX8_isPiece) := goodIn_app (goodIn_r _ [4, 5, 6, 7] rfl (by decide +kernel)) ggX8_of_X8_isPiece
set_option maxRecDepth 20000 in
theorem ggX8_of_X8_in : GoodIn wsX8_of wsX8_in := goodIn_r _ [12] rfl gw_X8_in
set_option maxRecDepth 20000 in
theorem gX8_of_X8_in : GoodIn wsX8_of (va_wsS RX8 95 yX8_in wsX8_in) := goodIn_app (goodIn_r _ [10, 11, 7] rfl (by decide +kernel)) ggX8_of_X8_in
set_option maxRecDepth 20000 in
theorem ggX8_of_X8_ten : GoodIn wsX8_of wsX8_ten := goodIn_r _ [16, 17, 24, 25, 26, 27, 28, 29, 30, 31, 32, 33, 34, 35, 36, 37, 38, 39, 40, 41, 42, 43, 44, 45, 46, 47, 48, 49, 50, 51, 52, 53, 54, 55] rfl gw_X8_ten
set_option maxRecDepth 20000 in
theorem gX8_of_X8_ten : GoodIn wsX8_of (wsV RX8 121 RX8 yX8_ten wsX8_ten) := goodIn_app (goodIn_r _ [13, 14, 15, 7] rfl (by decide +kernel)) ggX8_of_X8_ten
set_option maxRecDepth 20000 in
theorem ggX8_of_X8_costOf : GoodIn wsX8_of wsX8_costOf := goodIn_r _ [21, 22, 23, 24, 25, 26, 27, 28, 29, 30, 31, 32, 33, 34, 35, 36, 37, 38, 39, 40, 41, 42, 43, 44, 45, 46, 47, 48, 49, 50, 51, 52, 53, 54, 55] rfl gw_X8_costOf
set_option maxRecDepth 20000 in
theorem gX8_of_X8_costOf : GoodIn wsX8_of (wsV RX8 180 RX8 yX8_costOf wsX8_costOf) := goodIn_app (goodIn_r _ [18, 19, 20, 7] rfl (by decide +kernel)) ggX8_of_X8_costOf
set_option maxRecDepth 20000 in
theorem ggX8_costs_X8_isKind : GoodIn wsX8_costs wsX8_isKind := goodIn_r _ [4, 5, 6, 3, 7] rfl gw_X8_isKind
set_option maxRecDepth 20000 in
theorem gX8_costs_X8_isKind : GoodIn wsX8_costs (va_wsS RX8 118 yX8_isKind wsX8_isKind) := goodIn_app (goodIn_r _ [1, 2, 3] rfl (by decide +kernel)) ggX8_costs_X8_isKind
set_option maxRecDepth 20000 in
theorem ggX8_costs_X8_costOf : GoodIn wsX8_costs wsX8_costOf := goodIn_r _ [11, 12, 13, 19, 20, 21, 22, 23, 24, 25, 26, 27, 28, 29, 30, 31, 32, 33, 34, 35, 36, 37, 38, 39, 40, 41, 42, 43, 44, 45, 46, 47, 48, 49, 50] rfl gw_X8_costOf
set_option maxRecDepth 20000 in
theorem gX8_costs_X8_costOf : GoodIn wsX8_costs (wsV RX8 180 RX8 yX8_costOf wsX8_costOf) := goodIn_app (goodIn_r _ [8, 9, 10, 3] rfl (by decide +kernel)) ggX8_costs_X8_costOf
set_option maxRecDepth 20000 in
theorem ggX8_costs_X8_bad : GoodIn wsX8_costs wsX8_bad := goodIn_r _ [17, 18, 19, 20, 21, 22, 23, 24, 25, 26, 27, 28, 29, 30, 31, 32, 33, 34, 35, 36, 37, 38, 39, 40, 41, 42, 43, 44, 45, 46, 47, 48, 49, 50] rfl gw_X8_bad
set_option maxRecDepth 20000 in
theorem gX8_costs_X8_bad : GoodIn wsX8_costs (wsV RX8 103 RX8 yX8_bad wsX8_bad) := goodIn_app (goodIn_r _ [14, 15, 16, 3] rfl (by decide +kernel)) ggX8_costs_X8_bad
set_option maxRecDepth 20000 in
theorem ggX8_gives_X8_isKind : GoodIn wsX8_gives wsX8_isKind := goodIn_r _ [5, 6, 7, 4, 8] rfl gw_X8_isKind
set_option maxRecDepth 20000 in
theorem gX8_gives_X8_isKind : GoodIn wsX8_gives (va_wsS RX8 118 yX8_isKind wsX8_isKind) := goodIn_app (goodIn_r _ [2, 3, 4] rfl (by decide +kernel)) ggX8_gives_X8_isKind
set_option maxRecDepth 20000 in
theorem ggX8_gives_X8_in : GoodIn wsX8_gives wsX8_in := goodIn_r _ [8] rfl gw_X8_in
set_option maxRecDepth 20000 in
theorem gX8_gives_X8_in : GoodIn wsX8_gives (va_wsS RX8 95 yX8_in wsX8_in) := goodIn_app (goodIn_r _ [6, 7, 4] rfl (by decide +kernel)) ggX8_gives_X8_in
set_option maxRecDepth 20000 in
theorem ggX8_gives_X8_givenBy : GoodIn wsX8_gives wsX8_givenBy := goodIn_r _ [11, 12, 13, 4, 14, 15, 16, 17] rfl gw_X8_givenBy
set_option maxRecDepth 20000 in
theorem gX8_gives_X8_givenBy : GoodIn wsX8_gives (va_wsS RX8 189 yX8_givenBy wsX8_givenBy) := goodIn_app (goodIn_r _ [9, 10, 4] rfl (by decide +kernel)) ggX8_gives_X8_givenBy
set_option maxRecDepth 20000 in
theorem ggX8_gives_X8_bad : GoodIn wsX8_gives wsX8_bad := goodIn_r _ [21, 22, 23, 24, 25, 26, 27, 28, 29, 30, 31, 32, 33, 34, 35, 36, 37, 38, 39, 40, 41, 42, 43, 44, 45, 46, 47, 48, 49, 50, 51, 52, 53, 54] rfl gw_X8_bad
set_option maxRecDepth 20000 in
theorem gX8_gives_X8_bad : GoodIn wsX8_gives (wsV RX8 103 RX8 yX8_bad wsX8_bad) := goodIn_app (goodIn_r _ [18, 19, 20, 4] rfl (by decide +kernel)) ggX8_gives_X8_bad
set_option maxRecDepth 20000 in
theorem ggX8_stuckBy_X8_givenBy : GoodIn wsX8_stuckBy wsX8_givenBy := goodIn_r _ [7, 8, 9, 6, 10, 11, 12, 13] rfl gw_X8_givenBy
set_option maxRecDepth 20000 in
theorem gX8_stuckBy_X8_givenBy : GoodIn wsX8_stuckBy (va_wsS RX8 189 yX8_givenBy wsX8_givenBy) := goodIn_app (goodIn_r _ [4, 5, 6] rfl (by decide +kernel)) ggX8_stuckBy_X8_givenBy
set_option maxRecDepth 20000 in
theorem ggX8_stuck_X8_stuckBy : GoodIn wsX8_stuck wsX8_stuckBy := goodIn_r _ [7, 2, 8, 9, 10, 11, 6, 12, 13, 14, 15, 16, 17, 18, 19, 20, 21, 22, 23, 24, 25, 26, 27, 28, 29, 30, 31, 32, 33, 34, 35, 36, 37, 38, 39, 40, 41, 42, 43, 44, 45, 46, 47, 48, 49, 50] rfl gw_X8_stuckBy
set_option maxRecDepth 20000 in
theorem gX8_stuck_X8_stuckBy : GoodIn wsX8_stuck (wsV RX8 196 RX8 yX8_stuckBy wsX8_stuckBy) := goodIn_app (goodIn_r _ [3, 4, 5, 6] rfl (by decide +kernel)) ggX8_stuck_X8_stuckBy
set_option maxRecDepth 20000 in
theorem ggX8_sentences_X8_in : GoodIn wsX8_sentences wsX8_in := goodIn_r _ [6] rfl gw_X8_in
set_option maxRecDepth 20000 in
theorem gX8_sentences_X8_in : GoodIn wsX8_sentences (va_wsS RX8 95 yX8_in wsX8_in) := goodIn_app (goodIn_r _ [3, 4, 5] rfl (by decide +kernel)) ggX8_sentences_X8_in
set_option maxRecDepth 20000 in
theorem ggX8_sentences_X8_bad : GoodIn wsX8_sentences wsX8_bad := goodIn_r _ [10, 11, 18, 19, 20, 21, 22, 23, 24, 25, 26, 27, 28, 29, 30, 31, 32, 33, 34, 35, 36, 37, 38, 39, 40, 41, 42, 43, 44, 45, 46, 47, 48, 49] rfl gw_X8_bad
set_option maxRecDepth 20000 in
theorem gX8_sentences_X8_bad : GoodIn wsX8_sentences (wsV RX8 103 RX8 yX8_bad wsX8_bad) := goodIn_app (goodIn_r _ [7, 8, 9, 5] rfl (by decide +kernel)) ggX8_sentences_X8_bad
set_option maxRecDepth 20000 in
theorem ggX8_sentences_X8_ends : GoodIn wsX8_sentences wsX8_ends := goodIn_r _ [14, 3, 4, 5, 6] rfl gw_X8_ends
set_option maxRecDepth 20000 in
theorem gX8_sentences_X8_ends : GoodIn wsX8_sentences (va_wsS RX8 199 yX8_ends wsX8_ends) := goodIn_app (goodIn_r _ [12, 13, 5] rfl (by decide +kernel)) ggX8_sentences_X8_ends
set_option maxRecDepth 20000 in
theorem ggX8_sentences_X8_greater : GoodIn wsX8_sentences wsX8_greater := goodIn_r _ [17] rfl gw_X8_greater
set_option maxRecDepth 20000 in
theorem gX8_sentences_X8_greater : GoodIn wsX8_sentences (va_wsS RX8 177 yX8_greater wsX8_greater) := goodIn_app (goodIn_r _ [15, 16, 5] rfl (by decide +kernel)) ggX8_sentences_X8_greater
set_option maxRecDepth 20000 in
theorem ggX8_costBy_X8_ends : GoodIn wsX8_costBy wsX8_ends := goodIn_r _ [9, 10, 11, 8, 12] rfl gw_X8_ends
set_option maxRecDepth 20000 in
theorem gX8_costBy_X8_ends : GoodIn wsX8_costBy (va_wsS RX8 199 yX8_ends wsX8_ends) := goodIn_app (goodIn_r _ [6, 7, 8] rfl (by decide +kernel)) ggX8_costBy_X8_ends
set_option maxRecDepth 20000 in
theorem ggX8_costBy_X8_givenBy : GoodIn wsX8_costBy wsX8_givenBy := goodIn_r _ [15, 16, 17, 8, 18, 19, 20, 21] rfl gw_X8_givenBy
set_option maxRecDepth 20000 in
theorem gX8_costBy_X8_givenBy : GoodIn wsX8_costBy (va_wsS RX8 189 yX8_givenBy wsX8_givenBy) := goodIn_app (goodIn_r _ [13, 14, 8] rfl (by decide +kernel)) ggX8_costBy_X8_givenBy
set_option maxRecDepth 20000 in
theorem ggX8_costBy_X8_cellOf : GoodIn wsX8_costBy wsX8_cellOf := goodIn_r _ [24] rfl gw_X8_cellOf
set_option maxRecDepth 20000 in
theorem gX8_costBy_X8_cellOf : GoodIn wsX8_costBy (va_wsS RX8 203 yX8_cellOf wsX8_cellOf) := goodIn_app (goodIn_r _ [22, 23, 8] rfl (by decide +kernel)) ggX8_costBy_X8_cellOf
set_option maxRecDepth 20000 in
theorem ggX8_costBy_X8_costOf : GoodIn wsX8_costBy wsX8_costOf := goodIn_r _ [28, 29, 30, 31, 32, 33, 34, 35, 36, 37, 38, 39, 40, 41, 42, 43, 44, 45, 46, 47, 48, 49, 50, 51, 52, 53, 54, 55, 56, 57, 58, 59, 60, 61, 62] rfl gw_X8_costOf
set_option maxRecDepth 20000 in
theorem gX8_costBy_X8_costOf : GoodIn wsX8_costBy (wsV RX8 180 RX8 yX8_costOf wsX8_costOf) := goodIn_app (goodIn_r _ [25, 26, 27, 8] rfl (by decide +kernel)) ggX8_costBy_X8_costOf
set_option maxRecDepth 20000 in
theorem ggX8_setLeast_X8_cellOf : GoodIn wsX8_setLeast wsX8_cellOf := goodIn_r _ [7] rfl gw_X8_cellOf
set_option maxRecDepth 20000 in
theorem gX8_setLeast_X8_cellOf : GoodIn wsX8_setLeast (va_wsS RX8 203 yX8_cellOf wsX8_cellOf) := goodIn_app (goodIn_r _ [4, 5, 6] rfl (by decide +kernel)) ggX8_setLeast_X8_cellOf
set_option maxRecDepth 20000 in
theorem ggX8_setLeast_X8_optionsAt : GoodIn wsX8_setLeast wsX8_optionsAt := goodIn_r _ [11, 12, 39, 40, 41, 42, 43, 44, 45, 46, 47, 48, 49, 50, 51, 52, 53, 54, 55, 56, 57, 58, 59, 60, 61, 62, 63, 64, 65, 66, 67, 68, 69, 70] rfl gw_X8_optionsAt
set_option maxRecDepth 20000 in
theorem gX8_setLeast_X8_optionsAt : GoodIn wsX8_setLeast (wsV RX8 206 RX8 yX8_optionsAt wsX8_optionsAt) := goodIn_app (goodIn_r _ [8, 9, 10, 6] rfl (by decide +kernel)) ggX8_setLeast_X8_optionsAt
set_option maxRecDepth 20000 in
theorem ggX8_setLeast_X8_costBy : GoodIn wsX8_setLeast wsX8_costBy := goodIn_r _ [16, 17, 3, 12, 2, 1, 18, 19, 6, 20, 21, 22, 23, 24, 25, 26, 27, 28, 29, 30, 31, 32, 4, 5, 7, 33, 34, 35, 36, 37, 38, 39, 40, 41, 42, 43, 44, 45, 46, 47, 48, 49, 50, 51, 52, 53, 54, 55, 56, 57, 58, 59, 60, 61, 62, 63, 64, 65, 66, 67, 68, 69, 70] rfl gw_X8_costBy
set_option maxRecDepth 20000 in
theorem gX8_setLeast_X8_costBy : GoodIn wsX8_setLeast (wsV RX8 209 RX8 yX8_costBy wsX8_costBy) := goodIn_app (goodIn_r _ [13, 14, 15, 6] rfl (by decide +kernel)) ggX8_setLeast_X8_costBy
set_option maxRecDepth 20000 in
theorem ggX8_setLeast_X8_lesser : GoodIn wsX8_setLeast wsX8_lesser := goodIn_r _ [29] rfl gw_X8_lesser
set_option maxRecDepth 20000 in
theorem gX8_setLeast_X8_lesser : GoodIn wsX8_setLeast (va_wsS RX8 173 yX8_lesser wsX8_lesser) := goodIn_app (goodIn_r _ [27, 28, 6] rfl (by decide +kernel)) ggX8_setLeast_X8_lesser
set_option maxRecDepth 20000 in
theorem ggX8_cheapest_X8_in : GoodIn wsX8_cheapest wsX8_in := goodIn_r _ [10] rfl gw_X8_in
set_option maxRecDepth 20000 in
theorem gX8_cheapest_X8_in : GoodIn wsX8_cheapest (va_wsS RX8 95 yX8_in wsX8_in) := goodIn_app (goodIn_r _ [7, 8, 9] rfl (by decide +kernel)) ggX8_cheapest_X8_in
set_option maxRecDepth 20000 in
theorem ggX8_cheapest_X8_ten : GoodIn wsX8_cheapest wsX8_ten := goodIn_r _ [14, 15, 49, 50, 51, 52, 53, 54, 55, 56, 57, 58, 59, 60, 61, 62, 63, 64, 65, 66, 67, 68, 69, 70, 71, 72, 73, 74, 75, 76, 77, 78, 79, 80] rfl gw_X8_ten
set_option maxRecDepth 20000 in
theorem gX8_cheapest_X8_ten : GoodIn wsX8_cheapest (wsV RX8 121 RX8 yX8_ten wsX8_ten) := goodIn_app (goodIn_r _ [11, 12, 13, 9] rfl (by decide +kernel)) ggX8_cheapest_X8_ten
set_option maxRecDepth 20000 in
theorem ggX8_cheapest_X8_setLeast : GoodIn wsX8_cheapest wsX8_setLeast := goodIn_r _ [19, 1, 3, 2, 20, 21, 9, 22, 23, 24, 25, 26, 5, 27, 28, 29, 30, 6, 31, 32, 33, 7, 8, 10, 34, 35, 36, 37, 38, 39, 40, 41, 42, 43, 44, 45, 46, 47, 48, 49, 50, 51, 52, 53, 54, 55, 56, 57, 58, 59, 60, 61, 62, 63, 64, 65, 66, 67, 68, 69, 70, 71, 72, 73, 74, 75, 76, 77, 78, 79, 80] rfl gw_X8_setLeast
set_option maxRecDepth 20000 in
theorem gX8_cheapest_X8_setLeast : GoodIn wsX8_cheapest (wsV RX8 213 RX8 yX8_setLeast wsX8_setLeast) := goodIn_app (goodIn_r _ [16, 17, 18, 9] rfl (by decide +kernel)) ggX8_cheapest_X8_setLeast
set_option maxRecDepth 20000 in
theorem ggX8_cheapest_X8_cellOf : GoodIn wsX8_cheapest wsX8_cellOf := goodIn_r _ [22] rfl gw_X8_cellOf
set_option maxRecDepth 20000 in
theorem gX8_cheapest_X8_cellOf : GoodIn wsX8_cheapest (va_wsS RX8 203 yX8_cellOf wsX8_cellOf) := goodIn_app (goodIn_r _ [20, 21, 9] rfl (by decide +kernel)) ggX8_cheapest_X8_cellOf
set_option maxRecDepth 20000 in
theorem ggX8_cheapest_X8_costBy : GoodIn wsX8_cheapest wsX8_costBy := goodIn_r _ [30, 6, 2, 5, 3, 1, 31, 32, 9, 33, 7, 8, 10, 34, 35, 36, 37, 38, 39, 40, 41, 42, 20, 21, 22, 43, 44, 45, 46, 47, 48, 49, 50, 51, 52, 53, 54, 55, 56, 57, 58, 59, 60, 61, 62, 63, 64, 65, 66, 67, 68, 69, 70, 71, 72, 73, 74, 75, 76, 77, 78, 79, 80] rfl gw_X8_costBy
set_option maxRecDepth 20000 in
theorem gX8_cheapest_X8_costBy : GoodIn wsX8_cheapest (wsV RX8 209 RX8 yX8_costBy wsX8_costBy) := goodIn_app (goodIn_r _ [27, 28, 29, 9] rfl (by decide +kernel)) ggX8_cheapest_X8_costBy
set_option maxRecDepth 20000 in
theorem ggX8_cheapest_X8_givenBy : GoodIn wsX8_cheapest wsX8_givenBy := goodIn_r _ [36, 37, 38, 9, 39, 40, 41, 42] rfl gw_X8_givenBy
set_option maxRecDepth 20000 in
theorem gX8_cheapest_X8_givenBy : GoodIn wsX8_cheapest (va_wsS RX8 189 yX8_givenBy wsX8_givenBy) := goodIn_app (goodIn_r _ [34, 35, 9] rfl (by decide +kernel)) ggX8_cheapest_X8_givenBy
set_option maxRecDepth 20000 in
theorem ggX8_reach_X8_in : GoodIn wsX8_reach wsX8_in := goodIn_r _ [11] rfl gw_X8_in
set_option maxRecDepth 20000 in
theorem gX8_reach_X8_in : GoodIn wsX8_reach (va_wsS RX8 95 yX8_in wsX8_in) := goodIn_app (goodIn_r _ [8, 9, 10] rfl (by decide +kernel)) ggX8_reach_X8_in
set_option maxRecDepth 20000 in
theorem ggX8_reach_X8_bad : GoodIn wsX8_reach wsX8_bad := goodIn_r _ [15, 16, 36, 37, 38, 39, 40, 41, 42, 43, 44, 45, 46, 47, 48, 49, 50, 51, 52, 53, 54, 55, 56, 57, 58, 59, 60, 61, 62, 63, 64, 65, 66, 67] rfl gw_X8_bad
set_option maxRecDepth 20000 in
theorem gX8_reach_X8_bad : GoodIn wsX8_reach (wsV RX8 103 RX8 yX8_bad wsX8_bad) := goodIn_app (goodIn_r _ [12, 13, 14, 10] rfl (by decide +kernel)) ggX8_reach_X8_bad
set_option maxRecDepth 20000 in
theorem ggX8_reach_X8_optionsAt : GoodIn wsX8_reach wsX8_optionsAt := goodIn_r _ [20, 7, 36, 37, 38, 39, 40, 41, 42, 43, 44, 45, 46, 47, 48, 49, 50, 51, 52, 53, 54, 55, 56, 57, 58, 59, 60, 61, 62, 63, 64, 65, 66, 67] rfl gw_X8_optionsAt
set_option maxRecDepth 20000 in
theorem gX8_reach_X8_optionsAt : GoodIn wsX8_reach (wsV RX8 206 RX8 yX8_optionsAt wsX8_optionsAt) := goodIn_app (goodIn_r _ [17, 18, 19, 10] rfl (by decide +kernel)) ggX8_reach_X8_optionsAt
set_option maxRecDepth 20000 in
theorem ggX8_reach_X8_givenBy : GoodIn wsX8_reach wsX8_givenBy := goodIn_r _ [23, 24, 25, 10, 26, 27, 28, 29] rfl gw_X8_givenBy
set_option maxRecDepth 20000 in
theorem gX8_reach_X8_givenBy : GoodIn wsX8_reach (va_wsS RX8 189 yX8_givenBy wsX8_givenBy) := goodIn_app (goodIn_r _ [21, 22, 10] rfl (by decide +kernel)) ggX8_reach_X8_givenBy
set_option maxRecDepth 20000 in
theorem ggX8_reach_X8_costOf : GoodIn wsX8_reach wsX8_costOf := goodIn_r _ [33, 34, 35, 36, 37, 38, 39, 40, 41, 42, 43, 44, 45, 46, 47, 48, 49, 50, 51, 52, 53, 54, 55, 56, 57, 58, 59, 60, 61, 62, 63, 64, 65, 66, 67] rfl gw_X8_costOf
set_option maxRecDepth 20000 in
theorem gX8_reach_X8_costOf : GoodIn wsX8_reach (wsV RX8 180 RX8 yX8_costOf wsX8_costOf) := goodIn_app (goodIn_r _ [30, 31, 32, 10] rfl (by decide +kernel)) ggX8_reach_X8_costOf
set_option maxRecDepth 20000 in
theorem ggX8_reach_X8_lesser : GoodIn wsX8_reach wsX8_lesser := goodIn_r _ [26] rfl gw_X8_lesser
set_option maxRecDepth 20000 in
theorem gX8_reach_X8_lesser : GoodIn wsX8_reach (va_wsS RX8 173 yX8_lesser wsX8_lesser) := goodIn_app (goodIn_r _ [24, 25, 10] rfl (by decide +kernel)) ggX8_reach_X8_lesser
set_option maxRecDepth 20000 in
theorem ggX8_readBy_X8_givenBy : GoodIn wsX8_readBy wsX8_givenBy := goodIn_r _ [9, 10, 11, 8, 12, 13, 14, 15] rfl gw_X8_givenBy
set_option maxRecDepth 20000 in
theorem gX8_readBy_X8_givenBy : GoodIn wsX8_readBy (va_wsS RX8 189 yX8_givenBy wsX8_givenBy) := goodIn_app (goodIn_r _ [6, 7, 8] rfl (by decide +kernel)) ggX8_readBy_X8_givenBy
set_option maxRecDepth 20000 in
theorem ggX8_order_X8_ten : GoodIn wsX8_order wsX8_ten := goodIn_r _ [8, 9, 34, 35, 36, 37, 38, 39, 40, 41, 42, 43, 44, 45, 46, 47, 48, 49, 50, 51, 52, 53, 54, 55, 56, 57, 58, 59, 60, 61, 62, 63, 64, 65] rfl gw_X8_ten
set_option maxRecDepth 20000 in
theorem gX8_order_X8_ten : GoodIn wsX8_order (wsV RX8 121 RX8 yX8_ten wsX8_ten) := goodIn_app (goodIn_r _ [4, 5, 6, 7] rfl (by decide +kernel)) ggX8_order_X8_ten
set_option maxRecDepth 20000 in
theorem ggX8_order_X8_twenty : GoodIn wsX8_order wsX8_twenty := goodIn_r _ [13, 9, 34, 35, 36, 37, 38, 39, 40, 41, 42, 43, 44, 45, 46, 47, 48, 49, 50, 51, 52, 53, 54, 55, 56, 57, 58, 59, 60, 61, 62, 63, 64, 65] rfl gw_X8_twenty
set_option maxRecDepth 20000 in
theorem gX8_order_X8_twenty : GoodIn wsX8_order (wsV RX8 217 RX8 yX8_twenty wsX8_twenty) := goodIn_app (goodIn_r _ [10, 11, 12, 7] rfl (by decide +kernel)) ggX8_order_X8_twenty
set_option maxRecDepth 20000 in
theorem ggX8_order_X8_readBy : GoodIn wsX8_order wsX8_readBy := goodIn_r _ [17, 18, 1, 19, 2, 20, 21, 22, 7, 23, 24, 25, 26, 27, 28, 29, 34, 35, 36, 37, 38, 39, 40, 41, 42, 43, 44, 45, 46, 47, 48, 49, 50, 51, 52, 53, 54, 55, 56, 57, 58, 59, 60, 61, 62, 63, 64, 65] rfl gw_X8_readBy
set_option maxRecDepth 20000 in
theorem gX8_order_X8_readBy : GoodIn wsX8_order (wsV RX8 220 RX8 yX8_readBy wsX8_readBy) := goodIn_app (goodIn_r _ [14, 15, 16, 7] rfl (by decide +kernel)) ggX8_order_X8_readBy
set_option maxRecDepth 20000 in
theorem ggX8_order_X8_greater : GoodIn wsX8_order wsX8_greater := goodIn_r _ [29] rfl gw_X8_greater
set_option maxRecDepth 20000 in
theorem gX8_order_X8_greater : GoodIn wsX8_order (va_wsS RX8 177 yX8_greater wsX8_greater) := goodIn_app (goodIn_r _ [27, 28, 7] rfl (by decide +kernel)) ggX8_order_X8_greater
set_option maxRecDepth 20000 in
theorem ggX8_order_X8_nextLine : GoodIn wsX8_order wsX8_nextLine := goodIn_r _ [33, 1, 2, 34, 35, 36, 37, 38, 39, 40, 41, 42, 43, 44, 45, 46, 47, 48, 49, 50, 51, 52, 53, 54, 55, 56, 57, 58, 59, 60, 61, 62, 63, 64, 65] rfl gw_X8_nextLine
set_option maxRecDepth 20000 in
theorem gX8_order_X8_nextLine : GoodIn wsX8_order (wsV RX8 223 RX8 yX8_nextLine wsX8_nextLine) := goodIn_app (goodIn_r _ [30, 31, 32, 7] rfl (by decide +kernel)) ggX8_order_X8_nextLine
set_option maxRecDepth 20000 in
theorem ggX8_heard_X8_isPiece : GoodIn wsX8_heard wsX8_isPiece := goodIn_r _ [8, 2, 9, 10, 7, 11, 36, 37, 38, 39, 40, 41, 42, 43, 44, 45, 46, 47, 48, 49, 50, 51, 52, 53, 54, 55, 56, 57, 58, 59, 60, 61, 62, 63, 64, 65, 66, 67] rfl gw_X8_isPiece
set_option maxRecDepth 20000 in
theorem gX8_heard_X8_isPiece : GoodIn wsX8_heard (wsV RX8 114 RX8 yX8_isPiece wsX8_isPiece) := goodIn_app (goodIn_r _ [4, 5, 6, 7] rfl (by decide +kernel)) ggX8_heard_X8_isPiece
set_option maxRecDepth 20000 in
theorem ggX8_heard_X8_bad : GoodIn wsX8_heard wsX8_bad := goodIn_r _ [15, 16, 36, 37, 38, 39, 40, 41, 42, 43, 44, 45, 46, 47, 48, 49, 50, 51, 52, 53, 54, 55, 56, 57, 58, 59, 60, 61, 62, 63, 64, 65, 66, 67] rfl gw_X8_bad
set_option maxRecDepth 20000 in
theorem gX8_heard_X8_bad : GoodIn wsX8_heard (wsV RX8 103 RX8 yX8_bad wsX8_bad) := goodIn_app (goodIn_r _ [12, 13, 14, 7] rfl (by decide +kernel)) ggX8_heard_X8_bad
set_option maxRecDepth 20000 in
theorem ggX8_heard_X8_full : GoodIn wsX8_heard wsX8_full := goodIn_r _ [20, 16, 36, 37, 38, 39, 40, 41, 42, 43, 44, 45, 46, 47, 48, 49, 50, 51, 52, 53, 54, 55, 56, 57, 58, 59, 60, 61, 62, 63, 64, 65, 66, 67] rfl gw_X8_full
set_option maxRecDepth 20000 in
theorem gX8_heard_X8_full : GoodIn wsX8_heard (wsV RX8 107 RX8 yX8_full wsX8_full) := goodIn_app (goodIn_r _ [17, 18, 19, 7] rfl (by decide +kernel)) ggX8_heard_X8_full
set_option maxRecDepth 20000 in
theorem ggX8_heard_X8_stuckBy : GoodIn wsX8_heard wsX8_stuckBy := goodIn_r _ [24, 2, 25, 26, 27, 28, 7, 29, 30, 31, 32, 33, 34, 35, 36, 37, 38, 39, 40, 41, 42, 43, 44, 45, 46, 47, 48, 49, 50, 51, 52, 53, 54, 55, 56, 57, 58, 59, 60, 61, 62, 63, 64, 65, 66, 67] rfl gw_X8_stuckBy
set_option maxRecDepth 20000 in
theorem gX8_heard_X8_stuckBy : GoodIn wsX8_heard (wsV RX8 196 RX8 yX8_stuckBy wsX8_stuckBy) := goodIn_app (goodIn_r _ [21, 22, 23, 7] rfl (by decide +kernel)) ggX8_heard_X8_stuckBy
set_option maxRecDepth 20000 in
theorem ggX8_breaths_X8_breathSet : GoodIn wsX8_breaths wsX8_breathSet := goodIn_r _ [5, 6, 7, 8, 9, 10, 11, 12, 13, 14, 15, 16, 17, 18, 19, 20, 21, 22, 23, 24, 25, 26, 27, 28, 29, 30, 31, 32, 33, 34, 35, 36, 37, 38, 39, 40] rfl gw_X8_breathSet
set_option maxRecDepth 20000 in
theorem gX8_breaths_X8_breathSet : GoodIn wsX8_breaths (wsV RX8 227 RX8 yX8_breathSet wsX8_breathSet) := goodIn_app (goodIn_r _ [1, 2, 3, 4] rfl (by decide +kernel)) ggX8_breaths_X8_breathSet
set_option maxRecDepth 20000 in
theorem ggX8_alike_X8_stuckBy : GoodIn wsX8_alike wsX8_stuckBy := goodIn_r _ [7, 1, 8, 9, 10, 11, 6, 12, 13, 14, 15, 16, 17, 18, 19, 20, 21, 22, 23, 24, 25, 26, 27, 28, 29, 30, 31, 32, 33, 34, 35, 36, 37, 38, 39, 40, 41, 42, 43, 44, 45, 46, 47, 48, 49, 50] rfl gw_X8_stuckBy
set_option maxRecDepth 20000 in
theorem gX8_alike_X8_stuckBy : GoodIn wsX8_alike (wsV RX8 196 RX8 yX8_stuckBy wsX8_stuckBy) := goodIn_app (goodIn_r _ [3, 4, 5, 6] rfl (by decide +kernel)) ggX8_alike_X8_stuckBy
set_option maxRecDepth 20000 in
theorem ggX8_alike_X8_greater : GoodIn wsX8_alike wsX8_greater := goodIn_r _ [18] rfl gw_X8_greater
set_option maxRecDepth 20000 in
theorem gX8_alike_X8_greater : GoodIn wsX8_alike (va_wsS RX8 177 yX8_greater wsX8_greater) := goodIn_app (goodIn_r _ [16, 17, 6] rfl (by decide +kernel)) ggX8_alike_X8_greater
set_option maxRecDepth 20000 in
theorem ggX8_shorter_X8_breathSet : GoodIn wsX8_shorter wsX8_breathSet := goodIn_r _ [7, 8, 9, 10, 31, 32, 33, 34, 35, 36, 37, 38, 39, 40, 41, 42, 43, 44, 45, 46, 47, 48, 49, 50, 51, 52, 53, 54, 55, 56, 57, 58, 59, 60, 61, 62] rfl gw_X8_breathSet
set_option maxRecDepth 20000 in
theorem gX8_shorter_X8_breathSet : GoodIn wsX8_shorter (wsV RX8 227 RX8 yX8_breathSet wsX8_breathSet) := goodIn_app (goodIn_r _ [3, 4, 5, 6] rfl (by decide +kernel)) ggX8_shorter_X8_breathSet
set_option maxRecDepth 20000 in
theorem ggX8_shorter_X8_alike : GoodIn wsX8_shorter wsX8_alike := goodIn_r _ [14, 2, 15, 16, 17, 18, 6, 19, 20, 21, 22, 23, 24, 25, 26, 27, 28, 29, 30, 31, 32, 33, 34, 35, 36, 37, 38, 39, 40, 41, 42, 43, 44, 45, 46, 47, 48, 49, 50, 51, 52, 53, 54, 55, 56, 57, 58, 59, 60, 61, 62] rfl gw_X8_alike
set_option maxRecDepth 20000 in
theorem gX8_shorter_X8_alike : GoodIn wsX8_shorter (wsV RX8 230 RX8 yX8_alike wsX8_alike) := goodIn_app (goodIn_r _ [11, 12, 13, 6] rfl (by decide +kernel)) ggX8_shorter_X8_alike
set_option maxRecDepth 20000 in
theorem ggX8_shorter_X8_lesser : GoodIn wsX8_shorter wsX8_lesser := goodIn_r _ [27] rfl gw_X8_lesser
set_option maxRecDepth 20000 in
theorem gX8_shorter_X8_lesser : GoodIn wsX8_shorter (va_wsS RX8 173 yX8_lesser wsX8_lesser) := goodIn_app (goodIn_r _ [25, 26, 6] rfl (by decide +kernel)) ggX8_shorter_X8_lesser
set_option maxRecDepth 20000 in
theorem ggX8_rests_X8_gain : GoodIn wsX8_rests wsX8_gain := goodIn_r _ [4] rfl gw_X8_gain
set_option maxRecDepth 20000 in
theorem gX8_rests_X8_gain : GoodIn wsX8_rests (va_wsS RX8 233 yX8_gain wsX8_gain) := goodIn_app (goodIn_r _ [1, 2, 3] rfl (by decide +kernel)) ggX8_rests_X8_gain
set_option maxRecDepth 20000 in
theorem ggX8_bid_X8_isKind : GoodIn wsX8_bid wsX8_isKind := goodIn_r _ [4, 5, 6, 3, 7] rfl gw_X8_isKind
set_option maxRecDepth 20000 in
theorem gX8_bid_X8_isKind : GoodIn wsX8_bid (va_wsS RX8 118 yX8_isKind wsX8_isKind) := goodIn_app (goodIn_r _ [1, 2, 3] rfl (by decide +kernel)) ggX8_bid_X8_isKind
set_option maxRecDepth 20000 in
theorem ggX8_bid_X8_in : GoodIn wsX8_bid wsX8_in := goodIn_r _ [7] rfl gw_X8_in
set_option maxRecDepth 20000 in
theorem gX8_bid_X8_in : GoodIn wsX8_bid (va_wsS RX8 95 yX8_in wsX8_in) := goodIn_app (goodIn_r _ [5, 6, 3] rfl (by decide +kernel)) ggX8_bid_X8_in
set_option maxRecDepth 20000 in
theorem ggX8_bid_X8_ten : GoodIn wsX8_bid wsX8_ten := goodIn_r _ [11, 12, 25, 26, 27, 28, 29, 30, 31, 32, 33, 34, 35, 36, 37, 38, 39, 40, 41, 42, 43, 44, 45, 46, 47, 48, 49, 50, 51, 52, 53, 54, 55, 56] rfl gw_X8_ten
set_option maxRecDepth 20000 in
theorem gX8_bid_X8_ten : GoodIn wsX8_bid (wsV RX8 121 RX8 yX8_ten wsX8_ten) := goodIn_app (goodIn_r _ [8, 9, 10, 3] rfl (by decide +kernel)) ggX8_bid_X8_ten
set_option maxRecDepth 20000 in
theorem ggX8_bid_X8_costOf : GoodIn wsX8_bid wsX8_costOf := goodIn_r _ [16, 17, 18, 25, 26, 27, 28, 29, 30, 31, 32, 33, 34, 35, 36, 37, 38, 39, 40, 41, 42, 43, 44, 45, 46, 47, 48, 49, 50, 51, 52, 53, 54, 55, 56] rfl gw_X8_costOf
set_option maxRecDepth 20000 in
theorem gX8_bid_X8_costOf : GoodIn wsX8_bid (wsV RX8 180 RX8 yX8_costOf wsX8_costOf) := goodIn_app (goodIn_r _ [13, 14, 15, 3] rfl (by decide +kernel)) ggX8_bid_X8_costOf
set_option maxRecDepth 20000 in
theorem ggX8_bid_X8_rests : GoodIn wsX8_bid wsX8_rests := goodIn_r _ [21, 22, 23, 3, 24] rfl gw_X8_rests
set_option maxRecDepth 20000 in
theorem gX8_bid_X8_rests : GoodIn wsX8_bid (va_wsS RX8 237 yX8_rests wsX8_rests) := goodIn_app (goodIn_r _ [19, 20, 3] rfl (by decide +kernel)) ggX8_bid_X8_rests
set_option maxRecDepth 20000 in
theorem ggX8_odds_X8_in : GoodIn wsX8_odds wsX8_in := goodIn_r _ [11] rfl gw_X8_in
set_option maxRecDepth 20000 in
theorem gX8_odds_X8_in : GoodIn wsX8_odds (va_wsS RX8 95 yX8_in wsX8_in) := goodIn_app (goodIn_r _ [8, 9, 10] rfl (by decide +kernel)) ggX8_odds_X8_in
set_option maxRecDepth 20000 in
theorem ggX8_odds_X8_bad : GoodIn wsX8_odds wsX8_bad := goodIn_r _ [15, 16, 32, 33, 34, 35, 36, 37, 38, 39, 40, 41, 42, 43, 44, 45, 46, 47, 48, 49, 50, 51, 52, 53, 54, 55, 56, 57, 58, 59, 60, 61, 62, 63] rfl gw_X8_bad
set_option maxRecDepth 20000 in
theorem gX8_odds_X8_bad : GoodIn wsX8_odds (wsV RX8 103 RX8 yX8_bad wsX8_bad) := goodIn_app (goodIn_r _ [12, 13, 14, 10] rfl (by decide +kernel)) ggX8_odds_X8_bad
set_option maxRecDepth 20000 in
theorem ggX8_odds_X8_givenBy : GoodIn wsX8_odds wsX8_givenBy := goodIn_r _ [19, 20, 21, 10, 22, 23, 24, 25] rfl gw_X8_givenBy
set_option maxRecDepth 20000 in
theorem gX8_odds_X8_givenBy : GoodIn wsX8_odds (va_wsS RX8 189 yX8_givenBy wsX8_givenBy) := goodIn_app (goodIn_r _ [17, 18, 10] rfl (by decide +kernel)) ggX8_odds_X8_givenBy
set_option maxRecDepth 20000 in
theorem ggX8_odds_X8_lay : GoodIn wsX8_odds wsX8_lay := goodIn_r _ [29, 30, 31, 32, 33, 34, 35, 36, 37, 38, 39, 40, 41, 42, 43, 44, 45, 46, 47, 48, 49, 50, 51, 52, 53, 54, 55, 56, 57, 58, 59, 60, 61, 62, 63] rfl gw_X8_lay
set_option maxRecDepth 20000 in
theorem gX8_odds_X8_lay : GoodIn wsX8_odds (wsV RX8 246 RX8 yX8_lay wsX8_lay) := goodIn_app (goodIn_r _ [26, 27, 28, 10] rfl (by decide +kernel)) ggX8_odds_X8_lay
set_option maxRecDepth 20000 in
theorem ggX8_drawn_X8_in : GoodIn wsX8_drawn wsX8_in := goodIn_r _ [13] rfl gw_X8_in
set_option maxRecDepth 20000 in
theorem gX8_drawn_X8_in : GoodIn wsX8_drawn (va_wsS RX8 95 yX8_in wsX8_in) := goodIn_app (goodIn_r _ [10, 11, 12] rfl (by decide +kernel)) ggX8_drawn_X8_in
set_option maxRecDepth 20000 in
theorem ggX8_drawn_X8_bad : GoodIn wsX8_drawn wsX8_bad := goodIn_r _ [17, 18, 28, 29, 30, 31, 32, 33, 34, 35, 36, 37, 38, 39, 40, 41, 42, 43, 44, 45, 46, 47, 48, 49, 50, 51, 52, 53, 54, 55, 56, 57, 58, 59] rfl gw_X8_bad
set_option maxRecDepth 20000 in
theorem gX8_drawn_X8_bad : GoodIn wsX8_drawn (wsV RX8 103 RX8 yX8_bad wsX8_bad) := goodIn_app (goodIn_r _ [14, 15, 16, 12] rfl (by decide +kernel)) ggX8_drawn_X8_bad
set_option maxRecDepth 20000 in
theorem ggX8_drawn_X8_givenBy : GoodIn wsX8_drawn wsX8_givenBy := goodIn_r _ [21, 22, 23, 12, 24, 25, 26, 27] rfl gw_X8_givenBy
set_option maxRecDepth 20000 in
theorem gX8_drawn_X8_givenBy : GoodIn wsX8_drawn (va_wsS RX8 189 yX8_givenBy wsX8_givenBy) := goodIn_app (goodIn_r _ [19, 20, 12] rfl (by decide +kernel)) ggX8_drawn_X8_givenBy
set_option maxRecDepth 20000 in
theorem ggX8_part_X8_bad : GoodIn wsX8_part wsX8_bad := goodIn_r _ [7, 8, 9, 10, 11, 12, 13, 14, 15, 16, 17, 18, 19, 20, 21, 22, 23, 24, 25, 26, 27, 28, 29, 30, 31, 32, 33, 34, 35, 36, 37, 38, 39, 40] rfl gw_X8_bad
set_option maxRecDepth 20000 in
theorem gX8_part_X8_bad : GoodIn wsX8_part (wsV RX8 103 RX8 yX8_bad wsX8_bad) := goodIn_app (goodIn_r _ [3, 4, 5, 6] rfl (by decide +kernel)) ggX8_part_X8_bad
set_option maxRecDepth 20000 in
theorem ggX8_image_X8_in : GoodIn wsX8_image wsX8_in := goodIn_r _ [17] rfl gw_X8_in
set_option maxRecDepth 20000 in
theorem gX8_image_X8_in : GoodIn wsX8_image (va_wsS RX8 95 yX8_in wsX8_in) := goodIn_app (goodIn_r _ [14, 15, 16] rfl (by decide +kernel)) ggX8_image_X8_in
set_option maxRecDepth 20000 in
theorem ggX8_image_X8_bad : GoodIn wsX8_image wsX8_bad := goodIn_r _ [21, 22, 23, 24, 25, 26, 27, 28, 29, 30, 31, 32, 33, 34, 35, 36, 37, 38, 39, 40, 41, 42, 43, 44, 45, 46, 47, 48, 49, 50, 51, 52, 53, 54] rfl gw_X8_bad
set_option maxRecDepth 20000 in
theorem gX8_image_X8_bad : GoodIn wsX8_image (wsV RX8 103 RX8 yX8_bad wsX8_bad) := goodIn_app (goodIn_r _ [18, 19, 20, 16] rfl (by decide +kernel)) ggX8_image_X8_bad
set_option maxRecDepth 20000 in
theorem ggX8_from_X8_in : GoodIn wsX8_from wsX8_in := goodIn_r _ [17] rfl gw_X8_in
set_option maxRecDepth 20000 in
theorem gX8_from_X8_in : GoodIn wsX8_from (va_wsS RX8 95 yX8_in wsX8_in) := goodIn_app (goodIn_r _ [14, 15, 16] rfl (by decide +kernel)) ggX8_from_X8_in
set_option maxRecDepth 20000 in
theorem ggX8_from_X8_bad : GoodIn wsX8_from wsX8_bad := goodIn_r _ [21, 22, 27, 28, 29, 30, 31, 32, 33, 34, 35, 36, 37, 38, 39, 40, 41, 42, 43, 44, 45, 46, 47, 48, 49, 50, 51, 52, 53, 54, 55, 56, 57, 58] rfl gw_X8_bad
set_option maxRecDepth 20000 in
theorem gX8_from_X8_bad : GoodIn wsX8_from (wsV RX8 103 RX8 yX8_bad wsX8_bad) := goodIn_app (goodIn_r _ [18, 19, 20, 16] rfl (by decide +kernel)) ggX8_from_X8_bad
set_option maxRecDepth 20000 in
theorem ggX8_from_X8_no : GoodIn wsX8_from wsX8_no := goodIn_r _ [26, 22, 27, 28, 29, 30, 31, 32, 33, 34, 35, 36, 37, 38, 39, 40, 41, 42, 43, 44, 45, 46, 47, 48, 49, 50, 51, 52, 53, 54, 55, 56, 57, 58] rfl gw_X8_no
set_option maxRecDepth 20000 in
theorem gX8_from_X8_no : GoodIn wsX8_from (wsV RX8 183 RX8 yX8_no wsX8_no) := goodIn_app (goodIn_r _ [23, 24, 25, 16] rfl (by decide +kernel)) ggX8_from_X8_no
set_option maxRecDepth 20000 in
theorem ggX8_status_X8_in : GoodIn wsX8_status wsX8_in := goodIn_r _ [5] rfl gw_X8_in
set_option maxRecDepth 20000 in
theorem gX8_status_X8_in : GoodIn wsX8_status (va_wsS RX8 95 yX8_in wsX8_in) := goodIn_app (goodIn_r _ [2, 3, 4] rfl (by decide +kernel)) ggX8_status_X8_in
set_option maxRecDepth 20000 in
theorem ggX8_count_X8_in : GoodIn wsX8_count wsX8_in := goodIn_r _ [4] rfl gw_X8_in
set_option maxRecDepth 20000 in
theorem gX8_count_X8_in : GoodIn wsX8_count (va_wsS RX8 95 yX8_in wsX8_in) := goodIn_app (goodIn_r _ [1, 2, 3] rfl (by decide +kernel)) ggX8_count_X8_in
set_option maxRecDepth 20000 in
theorem ggX8_count_X8_countOf : GoodIn wsX8_count wsX8_countOf := goodIn_r _ [8, 9, 10, 11, 12, 13, 14, 15, 16, 17, 23, 24, 25, 26, 27, 28, 29, 30, 31, 32, 33, 34, 35, 36, 37, 38, 39, 40, 41, 42, 43, 44, 45, 46, 47, 48, 49, 50, 51, 52, 53, 54] rfl gw_X8_countOf
set_option maxRecDepth 20000 in
theorem gX8_count_X8_countOf : GoodIn wsX8_count (wsV RX8 261 RX8 yX8_countOf wsX8_countOf) := goodIn_app (goodIn_r _ [5, 6, 7, 3] rfl (by decide +kernel)) ggX8_count_X8_countOf
set_option maxRecDepth 20000 in
theorem ggX8_count_X8_bad : GoodIn wsX8_count wsX8_bad := goodIn_r _ [21, 22, 23, 24, 25, 26, 27, 28, 29, 30, 31, 32, 33, 34, 35, 36, 37, 38, 39, 40, 41, 42, 43, 44, 45, 46, 47, 48, 49, 50, 51, 52, 53, 54] rfl gw_X8_bad
set_option maxRecDepth 20000 in
theorem gX8_count_X8_bad : GoodIn wsX8_count (wsV RX8 103 RX8 yX8_bad wsX8_bad) := goodIn_app (goodIn_r _ [18, 19, 20, 3] rfl (by decide +kernel)) ggX8_count_X8_bad
set_option maxRecDepth 20000 in
theorem ggX8_digest_X8_countOf : GoodIn wsX8_digest wsX8_countOf := goodIn_r _ [15, 3, 5, 16, 17, 18, 19, 7, 20, 21, 27, 28, 29, 30, 31, 32, 33, 34, 35, 36, 37, 38, 39, 40, 41, 42, 43, 44, 45, 46, 47, 48, 49, 50, 51, 52, 53, 54, 55, 56, 57, 58] rfl gw_X8_countOf
set_option maxRecDepth 20000 in
theorem gX8_digest_X8_countOf : GoodIn wsX8_digest (wsV RX8 261 RX8 yX8_countOf wsX8_countOf) := goodIn_app (goodIn_r _ [11, 12, 13, 14] rfl (by decide +kernel)) ggX8_digest_X8_countOf
set_option maxRecDepth 20000 in
theorem ggX8_digest_X8_mix : GoodIn wsX8_digest wsX8_mix := goodIn_r _ [25, 26, 2, 27, 28, 29, 30, 31, 32, 33, 34, 35, 36, 37, 38, 39, 40, 41, 42, 43, 44, 45, 46, 47, 48, 49, 50, 51, 52, 53, 54, 55, 56, 57, 58] rfl gw_X8_mix
set_option maxRecDepth 20000 in
theorem gX8_digest_X8_mix : GoodIn wsX8_digest (wsV RX8 271 RX8 yX8_mix wsX8_mix) := goodIn_app (goodIn_r _ [22, 23, 24, 14] rfl (by decide +kernel)) ggX8_digest_X8_mix
set_option maxRecDepth 20000 in
theorem ggJ0_length_8abf5_J0_coder_7d493 : GoodIn wsJ0_length_8abf5 wsJ0_coder_7d493 := goodIn_r _ [6, 7, 8] rfl gw_J0_coder_7d493
set_option maxRecDepth 20000 in
theorem gJ0_length_8abf5_J0_coder_7d493 : GoodIn wsJ0_length_8abf5 (wsV RJ0 335 RJ0 yJ0_coder_7d493 wsJ0_coder_7d493) := goodIn_app (goodIn_r _ [2, 3, 4, 5] rfl (by decide +kernel)) ggJ0_length_8abf5_J0_coder_7d493
set_option maxRecDepth 20000 in
theorem ggJ0_charAt_5068e_J0_isLatin1_aae02 : GoodIn wsJ0_charAt_5068e wsJ0_isLatin1_aae02 := goodIn_r _ [6, 7, 8] rfl gw_J0_isLatin1_aae02
set_option maxRecDepth 20000 in
theorem gJ0_charAt_5068e_J0_isLatin1_aae02 : GoodIn wsJ0_charAt_5068e (wsV RJ0 492 RJ0 yJ0_isLatin1_aae02 wsJ0_isLatin1_aae02) := goodIn_app (goodIn_r _ [2, 3, 4, 5] rfl (by decide +kernel)) ggJ0_charAt_5068e_J0_isLatin1_aae02
set_option maxRecDepth 20000 in
theorem ggJ0_charAt_5068e_J1_charAt_3b067 : GoodIn wsJ0_charAt_5068e wsJ1_charAt_3b067 := goodIn_r _ [12, 13, 14, 5, 15, 16, 17, 18, 19, 20] rfl gw_J1_charAt_3b067
set_option maxRecDepth 20000 in
theorem gJ0_charAt_5068e_J1_charAt_3b067 : GoodIn wsJ0_charAt_5068e (va_wsS RJ0 495 yJ1_charAt_3b067 wsJ1_charAt_3b067) := goodIn_app (goodIn_r _ [9, 10, 11] rfl (by decide +kernel)) ggJ0_charAt_5068e_J1_charAt_3b067
set_option maxRecDepth 20000 in
theorem ggJ0_charAt_5068e_J2_charAt_3b067 : GoodIn wsJ0_charAt_5068e wsJ2_charAt_3b067 := goodIn_r _ [24, 25, 26, 23, 27, 28, 29, 30, 31, 14, 5, 15, 16, 17, 18, 19, 20, 32, 33, 34, 35, 36, 37] rfl gw_J2_charAt_3b067
set_option maxRecDepth 20000 in
theorem gJ0_charAt_5068e_J2_charAt_3b067 : GoodIn wsJ0_charAt_5068e (va_wsS RJ0 498 yJ2_charAt_3b067 wsJ2_charAt_3b067) := goodIn_app (goodIn_r _ [21, 22, 23] rfl (by decide +kernel)) ggJ0_charAt_5068e_J2_charAt_3b067
set_option maxRecDepth 20000 in
theorem ggJ0_checkIndex_df160_J3_checkIndex_8e157 : GoodIn wsJ0_checkIndex_df160 wsJ3_checkIndex_8e157 := goodIn_r _ [5] rfl gw_J3_checkIndex_8e157
set_option maxRecDepth 20000 in
theorem gJ0_checkIndex_df160_J3_checkIndex_8e157 : GoodIn wsJ0_checkIndex_df160 (va_wsS RJ0 1059 yJ3_checkIndex_8e157 wsJ3_checkIndex_8e157) := goodIn_app (goodIn_r _ [2, 3, 4] rfl (by decide +kernel)) ggJ0_checkIndex_df160_J3_checkIndex_8e157
set_option maxRecDepth 20000 in
theorem ggJ1_charAt_3b067_J0_checkIndex_df160 : GoodIn wsJ1_charAt_3b067 wsJ0_checkIndex_df160 := goodIn_r _ [4, 5, 6, 7, 8, 9] rfl gw_J0_checkIndex_df160
set_option maxRecDepth 20000 in
theorem gJ1_charAt_3b067_J0_checkIndex_df160 : GoodIn wsJ1_charAt_3b067 (va_wsS RJ1 9 yJ0_checkIndex_df160 wsJ0_checkIndex_df160) := goodIn_app (goodIn_r _ [1, 2, 3] rfl (by decide +kernel)) ggJ1_charAt_3b067_J0_checkIndex_df160
set_option maxRecDepth 20000 in
theorem ggJ2_getChar_3b067_J2_length_9d52b : GoodIn wsJ2_getChar_3b067 wsJ2_length_9d52b := goodIn_r _ [7] rfl gw_J2_length_9d52b
set_option maxRecDepth 20000 in
theorem gJ2_getChar_3b067_J2_length_9d52b : GoodIn wsJ2_getChar_3b067 (va_wsS RJ2 48 yJ2_length_9d52b wsJ2_length_9d52b) := goodIn_app (goodIn_r _ [4, 5, 6] rfl (by decide +kernel)) ggJ2_getChar_3b067_J2_length_9d52b
set_option maxRecDepth 20000 in
theorem ggJ2_charAt_3b067_J2_checkIndex_2214a : GoodIn wsJ2_charAt_3b067 wsJ2_checkIndex_2214a := goodIn_r _ [4, 5, 6, 3, 7, 8, 9, 10, 11, 12, 13, 14, 15, 16] rfl gw_J2_checkIndex_2214a
set_option maxRecDepth 20000 in
theorem gJ2_charAt_3b067_J2_checkIndex_2214a : GoodIn wsJ2_charAt_3b067 (va_wsS RJ2 67 yJ2_checkIndex_2214a wsJ2_checkIndex_2214a) := goodIn_app (goodIn_r _ [1, 2, 3] rfl (by decide +kernel)) ggJ2_charAt_3b067_J2_checkIndex_2214a
set_option maxRecDepth 20000 in
theorem ggJ2_charAt_3b067_J2_getChar_3b067 : GoodIn wsJ2_charAt_3b067 wsJ2_getChar_3b067 := goodIn_r _ [19, 20, 21, 22, 5, 6, 3, 7] rfl gw_J2_getChar_3b067
set_option maxRecDepth 20000 in
theorem gJ2_charAt_3b067_J2_getChar_3b067 : GoodIn wsJ2_charAt_3b067 (va_wsS RJ2 71 yJ2_getChar_3b067 wsJ2_getChar_3b067) := goodIn_app (goodIn_r _ [17, 18, 3] rfl (by decide +kernel)) ggJ2_charAt_3b067_J2_getChar_3b067
set_option maxRecDepth 20000 in
theorem ggJ2_checkIndex_2214a_J2_length_9d52b : GoodIn wsJ2_checkIndex_2214a wsJ2_length_9d52b := goodIn_r _ [4] rfl gw_J2_length_9d52b
set_option maxRecDepth 20000 in
theorem gJ2_checkIndex_2214a_J2_length_9d52b : GoodIn wsJ2_checkIndex_2214a (va_wsS RJ2 48 yJ2_length_9d52b wsJ2_length_9d52b) := goodIn_app (goodIn_r _ [1, 2, 3] rfl (by decide +kernel)) ggJ2_checkIndex_2214a_J2_length_9d52b
set_option maxRecDepth 20000 in
theorem ggJ2_checkIndex_2214a_J0_checkIndex_df160 : GoodIn wsJ2_checkIndex_2214a wsJ0_checkIndex_df160 := goodIn_r _ [8, 9, 10, 11, 12, 13] rfl gw_J0_checkIndex_df160
set_option maxRecDepth 20000 in
theorem gJ2_checkIndex_2214a_J0_checkIndex_df160 : GoodIn wsJ2_checkIndex_2214a (va_wsS RJ2 414 yJ0_checkIndex_df160 wsJ0_checkIndex_df160) := goodIn_app (goodIn_r _ [5, 6, 7] rfl (by decide +kernel)) ggJ2_checkIndex_2214a_J0_checkIndex_df160
end
section
theorem dX0_init_0 : decode cX0_init 0 = .ok (.aload_n 0, 1) := by decide +kernel
theorem dX0_init_1 : decode cX0_init 1 = .ok (.invokespecial 3, 3) := by decide +kernel
theorem dX0_init_4 : decode cX0_init 4 = .ok (.aload_n 0, 1) := by decide +kernel
theorem dX0_init_5 : decode cX0_init 5 = .ok (.lconst 0, 1) := by decide +kernel
theorem dX0_init_6 : decode cX0_init 6 = .ok (.putfield 9, 3) := by decide +kernel
theorem dX0_init_9 : decode cX0_init 9 = .ok (.aload_n 0, 1) := by decide +kernel
theorem dX0_init_10 : decode cX0_init 10 = .ok (.lconst 1, 1) := by decide +kernel
theorem dX0_init_11 : decode cX0_init 11 = .ok (.putfield 15, 3) := by decide +kernel
theorem dX0_init_14 : decode cX0_init 14 = .ok (.aload_n 0, 1) := by decide +kernel
theorem dX0_init_15 : decode cX0_init 15 = .ok (.bipush 31, 2) := by decide +kernel
theorem dX0_init_17 : decode cX0_init 17 = .ok (.newarray .long, 2) := by decide +kernel
theorem dX0_init_19 : decode cX0_init 19 = .ok (.putfield 18, 3) := by decide +kernel
theorem dX0_init_22 : decode cX0_init 22 = .ok (.aload_n 0, 1) := by decide +kernel
theorem dX0_init_23 : decode cX0_init 23 = .ok (.bipush 31, 2) := by decide +kernel
theorem dX0_init_25 : decode cX0_init 25 = .ok (.newarray .long, 2) := by decide +kernel
theorem dX0_init_27 : decode cX0_init 27 = .ok (.putfield 22, 3) := by decide +kernel
theorem dX0_init_30 : decode cX0_init 30 = .ok (.return_, 1) := by decide +kernel
theorem dX0_reckon_0 : decode cX0_reckon 0 = .ok (.lconst 1, 1) := by decide +kernel
theorem dX0_reckon_1 : decode cX0_reckon 1 = .ok (.lstore_n 3, 1) := by decide +kernel
theorem dX0_reckon_2 : decode cX0_reckon 2 = .ok (.aload_n 0, 1) := by decide +kernel
theorem dX0_reckon_3 : decode cX0_reckon 3 = .ok (.getfield 18, 3) := by decide +kernel
theorem dX0_reckon_6 : decode cX0_reckon 6 = .ok (.lconst 0, 1) := by decide +kernel
theorem dX0_reckon_7 : decode cX0_reckon 7 = .ok (.invokestatic 25, 3) := by decide +kernel
theorem dX0_reckon_10 : decode cX0_reckon 10 = .ok (.aload_n 0, 1) := by decide +kernel
theorem dX0_reckon_11 : decode cX0_reckon 11 = .ok (.getfield 18, 3) := by decide +kernel
theorem dX0_reckon_14 : decode cX0_reckon 14 = .ok (.aload_n 1, 1) := by decide +kernel
theorem dX0_reckon_15 : decode cX0_reckon 15 = .ok (.getfield 31, 3) := by decide +kernel
theorem dX0_reckon_18 : decode cX0_reckon 18 = .ok (.lconst 1, 1) := by decide +kernel
theorem dX0_reckon_19 : decode cX0_reckon 19 = .ok (.lastore, 1) := by decide +kernel
theorem dX0_reckon_20 : decode cX0_reckon 20 = .ok (.iconst 0, 1) := by decide +kernel
theorem dX0_reckon_21 : decode cX0_reckon 21 = .ok (.istore 5, 2) := by decide +kernel
theorem dX0_reckon_23 : decode cX0_reckon 23 = .ok (.iload 5, 2) := by decide +kernel
theorem dX0_reckon_25 : decode cX0_reckon 25 = .ok (.aload_n 1, 1) := by decide +kernel
theorem dX0_reckon_26 : decode cX0_reckon 26 = .ok (.getfield 37, 3) := by decide +kernel
theorem dX0_reckon_29 : decode cX0_reckon 29 = .ok (.if_icmp .ge 75, 3) := by decide +kernel
theorem dX0_reckon_32 : decode cX0_reckon 32 = .ok (.aload_n 1, 1) := by decide +kernel
theorem dX0_reckon_33 : decode cX0_reckon 33 = .ok (.getfield 40, 3) := by decide +kernel
theorem dX0_reckon_36 : decode cX0_reckon 36 = .ok (.getfield 44, 3) := by decide +kernel
theorem dX0_reckon_39 : decode cX0_reckon 39 = .ok (.iload 5, 2) := by decide +kernel
theorem dX0_reckon_41 : decode cX0_reckon 41 = .ok (.iaload, 1) := by decide +kernel
theorem dX0_reckon_42 : decode cX0_reckon 42 = .ok (.iconst (-1), 1) := by decide +kernel
theorem dX0_reckon_43 : decode cX0_reckon 43 = .ok (.if_icmp .eq 7, 3) := by decide +kernel
theorem dX0_reckon_46 : decode cX0_reckon 46 = .ok (.iconst 1, 1) := by decide +kernel
theorem dX0_reckon_47 : decode cX0_reckon 47 = .ok (.goto 4, 3) := by decide +kernel
theorem dX0_reckon_50 : decode cX0_reckon 50 = .ok (.iconst 0, 1) := by decide +kernel
theorem dX0_reckon_51 : decode cX0_reckon 51 = .ok (.istore 6, 2) := by decide +kernel
theorem dX0_reckon_53 : decode cX0_reckon 53 = .ok (.aload_n 0, 1) := by decide +kernel
theorem dX0_reckon_54 : decode cX0_reckon 54 = .ok (.aload_n 1, 1) := by decide +kernel
theorem dX0_reckon_55 : decode cX0_reckon 55 = .ok (.iload 5, 2) := by decide +kernel
theorem dX0_reckon_57 : decode cX0_reckon 57 = .ok (.iload 6, 2) := by decide +kernel
theorem dX0_reckon_59 : decode cX0_reckon 59 = .ok (.ifCond .eq 7, 3) := by decide +kernel
theorem dX0_reckon_62 : decode cX0_reckon 62 = .ok (.iload_n 2, 1) := by decide +kernel
theorem dX0_reckon_63 : decode cX0_reckon 63 = .ok (.goto 4, 3) := by decide +kernel
theorem dX0_reckon_66 : decode cX0_reckon 66 = .ok (.iconst 1, 1) := by decide +kernel
theorem dX0_reckon_67 : decode cX0_reckon 67 = .ok (.iload 6, 2) := by decide +kernel
theorem dX0_reckon_69 : decode cX0_reckon 69 = .ok (.ifCond .eq 10, 3) := by decide +kernel
theorem dX0_reckon_72 : decode cX0_reckon 72 = .ok (.bipush 10, 2) := by decide +kernel
theorem dX0_reckon_74 : decode cX0_reckon 74 = .ok (.iload_n 2, 1) := by decide +kernel
theorem dX0_reckon_75 : decode cX0_reckon 75 = .ok (.isub, 1) := by decide +kernel
theorem dX0_reckon_76 : decode cX0_reckon 76 = .ok (.goto 4, 3) := by decide +kernel
theorem dX0_reckon_79 : decode cX0_reckon 79 = .ok (.iconst 0, 1) := by decide +kernel
theorem dX0_reckon_80 : decode cX0_reckon 80 = .ok (.invokevirtual 50, 3) := by decide +kernel
theorem dX0_reckon_83 : decode cX0_reckon 83 = .ok (.lload_n 3, 1) := by decide +kernel
theorem dX0_reckon_84 : decode cX0_reckon 84 = .ok (.iload 6, 2) := by decide +kernel
theorem dX0_reckon_86 : decode cX0_reckon 86 = .ok (.ifCond .eq 9, 3) := by decide +kernel
theorem dX0_reckon_89 : decode cX0_reckon 89 = .ok (.ldc2_w 54, 3) := by decide +kernel
theorem dX0_reckon_92 : decode cX0_reckon 92 = .ok (.goto 4, 3) := by decide +kernel
theorem dX0_reckon_95 : decode cX0_reckon 95 = .ok (.lconst 1, 1) := by decide +kernel
theorem dX0_reckon_96 : decode cX0_reckon 96 = .ok (.lmul, 1) := by decide +kernel
theorem dX0_reckon_97 : decode cX0_reckon 97 = .ok (.lstore_n 3, 1) := by decide +kernel
theorem dX0_reckon_98 : decode cX0_reckon 98 = .ok (.iinc 5 1, 3) := by decide +kernel
theorem dX0_reckon_101 : decode cX0_reckon 101 = .ok (.goto (-78), 3) := by decide +kernel
theorem dX0_reckon_104 : decode cX0_reckon 104 = .ok (.lconst 0, 1) := by decide +kernel
theorem dX0_reckon_105 : decode cX0_reckon 105 = .ok (.lstore 5, 2) := by decide +kernel
theorem dX0_reckon_107 : decode cX0_reckon 107 = .ok (.iconst 0, 1) := by decide +kernel
theorem dX0_reckon_108 : decode cX0_reckon 108 = .ok (.istore 7, 2) := by decide +kernel
theorem dX0_reckon_110 : decode cX0_reckon 110 = .ok (.iload 7, 2) := by decide +kernel
theorem dX0_reckon_112 : decode cX0_reckon 112 = .ok (.aload_n 1, 1) := by decide +kernel
theorem dX0_reckon_113 : decode cX0_reckon 113 = .ok (.getfield 31, 3) := by decide +kernel
theorem dX0_reckon_116 : decode cX0_reckon 116 = .ok (.if_icmp .gt 21, 3) := by decide +kernel
theorem dX0_reckon_119 : decode cX0_reckon 119 = .ok (.lload 5, 2) := by decide +kernel
theorem dX0_reckon_121 : decode cX0_reckon 121 = .ok (.aload_n 0, 1) := by decide +kernel
theorem dX0_reckon_122 : decode cX0_reckon 122 = .ok (.getfield 18, 3) := by decide +kernel
theorem dX0_reckon_125 : decode cX0_reckon 125 = .ok (.iload 7, 2) := by decide +kernel
theorem dX0_reckon_127 : decode cX0_reckon 127 = .ok (.laload, 1) := by decide +kernel
theorem dX0_reckon_128 : decode cX0_reckon 128 = .ok (.ladd, 1) := by decide +kernel
theorem dX0_reckon_129 : decode cX0_reckon 129 = .ok (.lstore 5, 2) := by decide +kernel
theorem dX0_reckon_131 : decode cX0_reckon 131 = .ok (.iinc 7 1, 3) := by decide +kernel
theorem dX0_reckon_134 : decode cX0_reckon 134 = .ok (.goto (-24), 3) := by decide +kernel
theorem dX0_reckon_137 : decode cX0_reckon 137 = .ok (.aload_n 0, 1) := by decide +kernel
theorem dX0_reckon_138 : decode cX0_reckon 138 = .ok (.lload 5, 2) := by decide +kernel
theorem dX0_reckon_140 : decode cX0_reckon 140 = .ok (.lload_n 3, 1) := by decide +kernel
theorem dX0_reckon_141 : decode cX0_reckon 141 = .ok (.invokevirtual 56, 3) := by decide +kernel
theorem dX0_reckon_144 : decode cX0_reckon 144 = .ok (.return_, 1) := by decide +kernel
theorem dX0_step_0 : decode cX0_step 0 = .ok (.aload_n 0, 1) := by decide +kernel
theorem dX0_step_1 : decode cX0_step 1 = .ok (.getfield 22, 3) := by decide +kernel
theorem dX0_step_4 : decode cX0_step 4 = .ok (.lconst 0, 1) := by decide +kernel
theorem dX0_step_5 : decode cX0_step 5 = .ok (.invokestatic 25, 3) := by decide +kernel
theorem dX0_step_8 : decode cX0_step 8 = .ok (.aload_n 1, 1) := by decide +kernel
theorem dX0_step_9 : decode cX0_step 9 = .ok (.getfield 60, 3) := by decide +kernel
theorem dX0_step_12 : decode cX0_step 12 = .ok (.iload_n 2, 1) := by decide +kernel
theorem dX0_step_13 : decode cX0_step 13 = .ok (.iaload, 1) := by decide +kernel
theorem dX0_step_14 : decode cX0_step 14 = .ok (.istore 5, 2) := by decide +kernel
theorem dX0_step_16 : decode cX0_step 16 = .ok (.iload 5, 2) := by decide +kernel
theorem dX0_step_18 : decode cX0_step 18 = .ok (.aload_n 1, 1) := by decide +kernel
theorem dX0_step_19 : decode cX0_step 19 = .ok (.getfield 31, 3) := by decide +kernel
theorem dX0_step_22 : decode cX0_step 22 = .ok (.if_icmp .gt 81, 3) := by decide +kernel
theorem dX0_step_25 : decode cX0_step 25 = .ok (.iload 5, 2) := by decide +kernel
theorem dX0_step_27 : decode cX0_step 27 = .ok (.aload_n 1, 1) := by decide +kernel
theorem dX0_step_28 : decode cX0_step 28 = .ok (.getfield 60, 3) := by decide +kernel
theorem dX0_step_31 : decode cX0_step 31 = .ok (.iload_n 2, 1) := by decide +kernel
theorem dX0_step_32 : decode cX0_step 32 = .ok (.iaload, 1) := by decide +kernel
theorem dX0_step_33 : decode cX0_step 33 = .ok (.isub, 1) := by decide +kernel
theorem dX0_step_34 : decode cX0_step 34 = .ok (.istore 6, 2) := by decide +kernel
theorem dX0_step_36 : decode cX0_step 36 = .ok (.aload_n 1, 1) := by decide +kernel
theorem dX0_step_37 : decode cX0_step 37 = .ok (.getfield 40, 3) := by decide +kernel
theorem dX0_step_40 : decode cX0_step 40 = .ok (.getfield 44, 3) := by decide +kernel
theorem dX0_step_43 : decode cX0_step 43 = .ok (.iload_n 2, 1) := by decide +kernel
theorem dX0_step_44 : decode cX0_step 44 = .ok (.iaload, 1) := by decide +kernel
theorem dX0_step_45 : decode cX0_step 45 = .ok (.iload 6, 2) := by decide +kernel
theorem dX0_step_47 : decode cX0_step 47 = .ok (.aload_n 1, 1) := by decide +kernel
theorem dX0_step_48 : decode cX0_step 48 = .ok (.getfield 31, 3) := by decide +kernel
theorem dX0_step_51 : decode cX0_step 51 = .ok (.invokestatic 63, 3) := by decide +kernel
theorem dX0_step_54 : decode cX0_step 54 = .ok (.istore 7, 2) := by decide +kernel
theorem dX0_step_56 : decode cX0_step 56 = .ok (.aload_n 0, 1) := by decide +kernel
theorem dX0_step_57 : decode cX0_step 57 = .ok (.getfield 22, 3) := by decide +kernel
theorem dX0_step_60 : decode cX0_step 60 = .ok (.iload 6, 2) := by decide +kernel
theorem dX0_step_62 : decode cX0_step 62 = .ok (.dup2, 1) := by decide +kernel
theorem dX0_step_63 : decode cX0_step 63 = .ok (.laload, 1) := by decide +kernel
theorem dX0_step_64 : decode cX0_step 64 = .ok (.aload_n 0, 1) := by decide +kernel
theorem dX0_step_65 : decode cX0_step 65 = .ok (.getfield 18, 3) := by decide +kernel
theorem dX0_step_68 : decode cX0_step 68 = .ok (.iload 5, 2) := by decide +kernel
theorem dX0_step_70 : decode cX0_step 70 = .ok (.laload, 1) := by decide +kernel
theorem dX0_step_71 : decode cX0_step 71 = .ok (.iload_n 3, 1) := by decide +kernel
theorem dX0_step_72 : decode cX0_step 72 = .ok (.i2l, 1) := by decide +kernel
theorem dX0_step_73 : decode cX0_step 73 = .ok (.lmul, 1) := by decide +kernel
theorem dX0_step_74 : decode cX0_step 74 = .ok (.ladd, 1) := by decide +kernel
theorem dX0_step_75 : decode cX0_step 75 = .ok (.lastore, 1) := by decide +kernel
theorem dX0_step_76 : decode cX0_step 76 = .ok (.aload_n 0, 1) := by decide +kernel
theorem dX0_step_77 : decode cX0_step 77 = .ok (.getfield 22, 3) := by decide +kernel
theorem dX0_step_80 : decode cX0_step 80 = .ok (.iload 7, 2) := by decide +kernel
theorem dX0_step_82 : decode cX0_step 82 = .ok (.dup2, 1) := by decide +kernel
theorem dX0_step_83 : decode cX0_step 83 = .ok (.laload, 1) := by decide +kernel
theorem dX0_step_84 : decode cX0_step 84 = .ok (.aload_n 0, 1) := by decide +kernel
theorem dX0_step_85 : decode cX0_step 85 = .ok (.getfield 18, 3) := by decide +kernel
theorem dX0_step_88 : decode cX0_step 88 = .ok (.iload 5, 2) := by decide +kernel
theorem dX0_step_90 : decode cX0_step 90 = .ok (.laload, 1) := by decide +kernel
theorem dX0_step_91 : decode cX0_step 91 = .ok (.iload 4, 2) := by decide +kernel
theorem dX0_step_93 : decode cX0_step 93 = .ok (.i2l, 1) := by decide +kernel
theorem dX0_step_94 : decode cX0_step 94 = .ok (.lmul, 1) := by decide +kernel
theorem dX0_step_95 : decode cX0_step 95 = .ok (.ladd, 1) := by decide +kernel
theorem dX0_step_96 : decode cX0_step 96 = .ok (.lastore, 1) := by decide +kernel
theorem dX0_step_97 : decode cX0_step 97 = .ok (.iinc 5 1, 3) := by decide +kernel
theorem dX0_step_100 : decode cX0_step 100 = .ok (.goto (-84), 3) := by decide +kernel
theorem dX0_step_103 : decode cX0_step 103 = .ok (.aload_n 0, 1) := by decide +kernel
theorem dX0_step_104 : decode cX0_step 104 = .ok (.getfield 22, 3) := by decide +kernel
theorem dX0_step_107 : decode cX0_step 107 = .ok (.iconst 0, 1) := by decide +kernel
theorem dX0_step_108 : decode cX0_step 108 = .ok (.aload_n 0, 1) := by decide +kernel
theorem dX0_step_109 : decode cX0_step 109 = .ok (.getfield 18, 3) := by decide +kernel
theorem dX0_step_112 : decode cX0_step 112 = .ok (.iconst 0, 1) := by decide +kernel
theorem dX0_step_113 : decode cX0_step 113 = .ok (.aload_n 0, 1) := by decide +kernel
theorem dX0_step_114 : decode cX0_step 114 = .ok (.getfield 18, 3) := by decide +kernel
theorem dX0_step_117 : decode cX0_step 117 = .ok (.arraylength, 1) := by decide +kernel
theorem dX0_step_118 : decode cX0_step 118 = .ok (.invokestatic 69, 3) := by decide +kernel
theorem dX0_step_121 : decode cX0_step 121 = .ok (.return_, 1) := by decide +kernel
theorem dX0_setLowest_0 : decode cX0_setLowest 0 = .ok (.lload_n 3, 1) := by decide +kernel
theorem dX0_setLowest_1 : decode cX0_setLowest 1 = .ok (.lstore 5, 2) := by decide +kernel
theorem dX0_setLowest_3 : decode cX0_setLowest 3 = .ok (.lload_n 1, 1) := by decide +kernel
theorem dX0_setLowest_4 : decode cX0_setLowest 4 = .ok (.lstore 7, 2) := by decide +kernel
theorem dX0_setLowest_6 : decode cX0_setLowest 6 = .ok (.iconst 0, 1) := by decide +kernel
theorem dX0_setLowest_7 : decode cX0_setLowest 7 = .ok (.istore 9, 2) := by decide +kernel
theorem dX0_setLowest_9 : decode cX0_setLowest 9 = .ok (.iload 9, 2) := by decide +kernel
theorem dX0_setLowest_11 : decode cX0_setLowest 11 = .ok (.sipush 1000, 3) := by decide +kernel
theorem dX0_setLowest_14 : decode cX0_setLowest 14 = .ok (.if_icmp .ge 31, 3) := by decide +kernel
theorem dX0_setLowest_17 : decode cX0_setLowest 17 = .ok (.lload 7, 2) := by decide +kernel
theorem dX0_setLowest_19 : decode cX0_setLowest 19 = .ok (.lconst 0, 1) := by decide +kernel
theorem dX0_setLowest_20 : decode cX0_setLowest 20 = .ok (.lcmp, 1) := by decide +kernel
theorem dX0_setLowest_21 : decode cX0_setLowest 21 = .ok (.ifCond .eq 24, 3) := by decide +kernel
theorem dX0_setLowest_24 : decode cX0_setLowest 24 = .ok (.lload 5, 2) := by decide +kernel
theorem dX0_setLowest_26 : decode cX0_setLowest 26 = .ok (.lload 7, 2) := by decide +kernel
theorem dX0_setLowest_28 : decode cX0_setLowest 28 = .ok (.lrem, 1) := by decide +kernel
theorem dX0_setLowest_29 : decode cX0_setLowest 29 = .ok (.lstore 10, 2) := by decide +kernel
theorem dX0_setLowest_31 : decode cX0_setLowest 31 = .ok (.lload 7, 2) := by decide +kernel
theorem dX0_setLowest_33 : decode cX0_setLowest 33 = .ok (.lstore 5, 2) := by decide +kernel
theorem dX0_setLowest_35 : decode cX0_setLowest 35 = .ok (.lload 10, 2) := by decide +kernel
theorem dX0_setLowest_37 : decode cX0_setLowest 37 = .ok (.lstore 7, 2) := by decide +kernel
theorem dX0_setLowest_39 : decode cX0_setLowest 39 = .ok (.iinc 9 1, 3) := by decide +kernel
theorem dX0_setLowest_42 : decode cX0_setLowest 42 = .ok (.goto (-33), 3) := by decide +kernel
theorem dX0_setLowest_45 : decode cX0_setLowest 45 = .ok (.aload_n 0, 1) := by decide +kernel
theorem dX0_setLowest_46 : decode cX0_setLowest 46 = .ok (.lload 5, 2) := by decide +kernel
theorem dX0_setLowest_48 : decode cX0_setLowest 48 = .ok (.lconst 0, 1) := by decide +kernel
theorem dX0_setLowest_49 : decode cX0_setLowest 49 = .ok (.lcmp, 1) := by decide +kernel
theorem dX0_setLowest_50 : decode cX0_setLowest 50 = .ok (.ifCond .ne 7, 3) := by decide +kernel
theorem dX0_setLowest_53 : decode cX0_setLowest 53 = .ok (.lconst 0, 1) := by decide +kernel
theorem dX0_setLowest_54 : decode cX0_setLowest 54 = .ok (.goto 7, 3) := by decide +kernel
theorem dX0_setLowest_57 : decode cX0_setLowest 57 = .ok (.lload_n 1, 1) := by decide +kernel
theorem dX0_setLowest_58 : decode cX0_setLowest 58 = .ok (.lload 5, 2) := by decide +kernel
theorem dX0_setLowest_60 : decode cX0_setLowest 60 = .ok (.ldiv, 1) := by decide +kernel
theorem dX0_setLowest_61 : decode cX0_setLowest 61 = .ok (.putfield 9, 3) := by decide +kernel
theorem dX0_setLowest_64 : decode cX0_setLowest 64 = .ok (.aload_n 0, 1) := by decide +kernel
theorem dX0_setLowest_65 : decode cX0_setLowest 65 = .ok (.lload 5, 2) := by decide +kernel
theorem dX0_setLowest_67 : decode cX0_setLowest 67 = .ok (.lconst 0, 1) := by decide +kernel
theorem dX0_setLowest_68 : decode cX0_setLowest 68 = .ok (.lcmp, 1) := by decide +kernel
theorem dX0_setLowest_69 : decode cX0_setLowest 69 = .ok (.ifCond .ne 7, 3) := by decide +kernel
theorem dX0_setLowest_72 : decode cX0_setLowest 72 = .ok (.lconst 1, 1) := by decide +kernel
theorem dX0_setLowest_73 : decode cX0_setLowest 73 = .ok (.goto 7, 3) := by decide +kernel
theorem dX0_setLowest_76 : decode cX0_setLowest 76 = .ok (.lload_n 3, 1) := by decide +kernel
theorem dX0_setLowest_77 : decode cX0_setLowest 77 = .ok (.lload 5, 2) := by decide +kernel
theorem dX0_setLowest_79 : decode cX0_setLowest 79 = .ok (.ldiv, 1) := by decide +kernel
theorem dX0_setLowest_80 : decode cX0_setLowest 80 = .ok (.putfield 15, 3) := by decide +kernel
theorem dX0_setLowest_83 : decode cX0_setLowest 83 = .ok (.return_, 1) := by decide +kernel
theorem dX1_isOne_0 : decode cX1_isOne 0 = .ok (.iload_n 0, 1) := by decide +kernel
theorem dX1_isOne_1 : decode cX1_isOne 1 = .ok (.ifCond .lt 12, 3) := by decide +kernel
theorem dX1_isOne_4 : decode cX1_isOne 4 = .ok (.iload_n 0, 1) := by decide +kernel
theorem dX1_isOne_5 : decode cX1_isOne 5 = .ok (.iconst 5, 1) := by decide +kernel
theorem dX1_isOne_6 : decode cX1_isOne 6 = .ok (.if_icmp .gt 7, 3) := by decide +kernel
theorem dX1_isOne_9 : decode cX1_isOne 9 = .ok (.iconst 1, 1) := by decide +kernel
theorem dX1_isOne_10 : decode cX1_isOne 10 = .ok (.goto 4, 3) := by decide +kernel
theorem dX1_isOne_13 : decode cX1_isOne 13 = .ok (.iconst 0, 1) := by decide +kernel
theorem dX1_isOne_14 : decode cX1_isOne 14 = .ok (.ireturn, 1) := by decide +kernel
theorem dX1_cost_0 : decode cX1_cost 0 = .ok (.iconst 3, 1) := by decide +kernel
theorem dX1_cost_1 : decode cX1_cost 1 = .ok (.iload_n 1, 1) := by decide +kernel
theorem dX1_cost_2 : decode cX1_cost 2 = .ok (.imul, 1) := by decide +kernel
theorem dX1_cost_3 : decode cX1_cost 3 = .ok (.istore_n 3, 1) := by decide +kernel
theorem dX1_cost_4 : decode cX1_cost 4 = .ok (.iload_n 1, 1) := by decide +kernel
theorem dX1_cost_5 : decode cX1_cost 5 = .ok (.iconst 1, 1) := by decide +kernel
theorem dX1_cost_6 : decode cX1_cost 6 = .ok (.iadd, 1) := by decide +kernel
theorem dX1_cost_7 : decode cX1_cost 7 = .ok (.istore 4, 2) := by decide +kernel
theorem dX1_cost_9 : decode cX1_cost 9 = .ok (.iload_n 0, 1) := by decide +kernel
theorem dX1_cost_10 : decode cX1_cost 10 = .ok (.tableswitch 72 0 5 #[38, 40, 42, 56, 64, 67], 38) := by decide +kernel
theorem dX1_cost_48 : decode cX1_cost 48 = .ok (.iload_n 1, 1) := by decide +kernel
theorem dX1_cost_49 : decode cX1_cost 49 = .ok (.ireturn, 1) := by decide +kernel
theorem dX1_cost_50 : decode cX1_cost 50 = .ok (.iload_n 3, 1) := by decide +kernel
theorem dX1_cost_51 : decode cX1_cost 51 = .ok (.ireturn, 1) := by decide +kernel
theorem dX1_cost_52 : decode cX1_cost 52 = .ok (.iload_n 2, 1) := by decide +kernel
theorem dX1_cost_53 : decode cX1_cost 53 = .ok (.iconst 2, 1) := by decide +kernel
theorem dX1_cost_54 : decode cX1_cost 54 = .ok (.irem, 1) := by decide +kernel
theorem dX1_cost_55 : decode cX1_cost 55 = .ok (.ifCond .ne 7, 3) := by decide +kernel
theorem dX1_cost_58 : decode cX1_cost 58 = .ok (.iload_n 3, 1) := by decide +kernel
theorem dX1_cost_59 : decode cX1_cost 59 = .ok (.goto 6, 3) := by decide +kernel
theorem dX1_cost_62 : decode cX1_cost 62 = .ok (.iload_n 3, 1) := by decide +kernel
theorem dX1_cost_63 : decode cX1_cost 63 = .ok (.iload_n 1, 1) := by decide +kernel
theorem dX1_cost_64 : decode cX1_cost 64 = .ok (.isub, 1) := by decide +kernel
theorem dX1_cost_65 : decode cX1_cost 65 = .ok (.ireturn, 1) := by decide +kernel
theorem dX1_cost_66 : decode cX1_cost 66 = .ok (.iconst 2, 1) := by decide +kernel
theorem dX1_cost_67 : decode cX1_cost 67 = .ok (.iload_n 3, 1) := by decide +kernel
theorem dX1_cost_68 : decode cX1_cost 68 = .ok (.imul, 1) := by decide +kernel
theorem dX1_cost_69 : decode cX1_cost 69 = .ok (.iload_n 2, 1) := by decide +kernel
theorem dX1_cost_70 : decode cX1_cost 70 = .ok (.iconst 4, 1) := by decide +kernel
theorem dX1_cost_71 : decode cX1_cost 71 = .ok (.irem, 1) := by decide +kernel
theorem dX1_cost_72 : decode cX1_cost 72 = .ok (.iadd, 1) := by decide +kernel
theorem dX1_cost_73 : decode cX1_cost 73 = .ok (.ireturn, 1) := by decide +kernel
theorem dX1_cost_74 : decode cX1_cost 74 = .ok (.iload 4, 2) := by decide +kernel
theorem dX1_cost_76 : decode cX1_cost 76 = .ok (.ireturn, 1) := by decide +kernel
theorem dX1_cost_77 : decode cX1_cost 77 = .ok (.iconst 2, 1) := by decide +kernel
theorem dX1_cost_78 : decode cX1_cost 78 = .ok (.iload 4, 2) := by decide +kernel
theorem dX1_cost_80 : decode cX1_cost 80 = .ok (.imul, 1) := by decide +kernel
theorem dX1_cost_81 : decode cX1_cost 81 = .ok (.ireturn, 1) := by decide +kernel
theorem dX1_cost_82 : decode cX1_cost 82 = .ok (.iconst 0, 1) := by decide +kernel
theorem dX1_cost_83 : decode cX1_cost 83 = .ok (.ireturn, 1) := by decide +kernel
theorem dX1_breathBehind_0 : decode cX1_breathBehind 0 = .ok (.iload_n 1, 1) := by decide +kernel
theorem dX1_breathBehind_1 : decode cX1_breathBehind 1 = .ok (.iconst 3, 1) := by decide +kernel
theorem dX1_breathBehind_2 : decode cX1_breathBehind 2 = .ok (.iadd, 1) := by decide +kernel
theorem dX1_breathBehind_3 : decode cX1_breathBehind 3 = .ok (.iload_n 2, 1) := by decide +kernel
theorem dX1_breathBehind_4 : decode cX1_breathBehind 4 = .ok (.invokestatic 9, 3) := by decide +kernel
theorem dX1_breathBehind_7 : decode cX1_breathBehind 7 = .ok (.istore_n 3, 1) := by decide +kernel
theorem dX1_breathBehind_8 : decode cX1_breathBehind 8 = .ok (.iload_n 3, 1) := by decide +kernel
theorem dX1_breathBehind_9 : decode cX1_breathBehind 9 = .ok (.iconst 3, 1) := by decide +kernel
theorem dX1_breathBehind_10 : decode cX1_breathBehind 10 = .ok (.iadd, 1) := by decide +kernel
theorem dX1_breathBehind_11 : decode cX1_breathBehind 11 = .ok (.iload_n 2, 1) := by decide +kernel
theorem dX1_breathBehind_12 : decode cX1_breathBehind 12 = .ok (.invokestatic 9, 3) := by decide +kernel
theorem dX1_breathBehind_15 : decode cX1_breathBehind 15 = .ok (.istore 4, 2) := by decide +kernel
theorem dX1_breathBehind_17 : decode cX1_breathBehind 17 = .ok (.iload_n 0, 1) := by decide +kernel
theorem dX1_breathBehind_18 : decode cX1_breathBehind 18 = .ok (.tableswitch 54 0 5 #[38, 40, 40, 40, 42, 45], 38) := by decide +kernel
theorem dX1_breathBehind_56 : decode cX1_breathBehind 56 = .ok (.iload_n 3, 1) := by decide +kernel
theorem dX1_breathBehind_57 : decode cX1_breathBehind 57 = .ok (.ireturn, 1) := by decide +kernel
theorem dX1_breathBehind_58 : decode cX1_breathBehind 58 = .ok (.iload_n 2, 1) := by decide +kernel
theorem dX1_breathBehind_59 : decode cX1_breathBehind 59 = .ok (.ireturn, 1) := by decide +kernel
theorem dX1_breathBehind_60 : decode cX1_breathBehind 60 = .ok (.iload 4, 2) := by decide +kernel
theorem dX1_breathBehind_62 : decode cX1_breathBehind 62 = .ok (.ireturn, 1) := by decide +kernel
theorem dX1_breathBehind_63 : decode cX1_breathBehind 63 = .ok (.iload 4, 2) := by decide +kernel
theorem dX1_breathBehind_65 : decode cX1_breathBehind 65 = .ok (.iload_n 2, 1) := by decide +kernel
theorem dX1_breathBehind_66 : decode cX1_breathBehind 66 = .ok (.iconst 2, 1) := by decide +kernel
theorem dX1_breathBehind_67 : decode cX1_breathBehind 67 = .ok (.idiv, 1) := by decide +kernel
theorem dX1_breathBehind_68 : decode cX1_breathBehind 68 = .ok (.invokestatic 15, 3) := by decide +kernel
theorem dX1_breathBehind_71 : decode cX1_breathBehind 71 = .ok (.ireturn, 1) := by decide +kernel
theorem dX1_breathBehind_72 : decode cX1_breathBehind 72 = .ok (.iload_n 1, 1) := by decide +kernel
theorem dX1_breathBehind_73 : decode cX1_breathBehind 73 = .ok (.ireturn, 1) := by decide +kernel
theorem dX1_lasts_0 : decode cX1_lasts 0 = .ok (.iload_n 0, 1) := by decide +kernel
theorem dX1_lasts_1 : decode cX1_lasts 1 = .ok (.tableswitch 46 0 5 #[39, 46, 42, 46, 44, 44], 39) := by decide +kernel
theorem dX1_lasts_40 : decode cX1_lasts 40 = .ok (.bipush 9, 2) := by decide +kernel
theorem dX1_lasts_42 : decode cX1_lasts 42 = .ok (.ireturn, 1) := by decide +kernel
theorem dX1_lasts_43 : decode cX1_lasts 43 = .ok (.iconst 4, 1) := by decide +kernel
theorem dX1_lasts_44 : decode cX1_lasts 44 = .ok (.ireturn, 1) := by decide +kernel
theorem dX1_lasts_45 : decode cX1_lasts 45 = .ok (.iconst 5, 1) := by decide +kernel
theorem dX1_lasts_46 : decode cX1_lasts 46 = .ok (.ireturn, 1) := by decide +kernel
theorem dX1_lasts_47 : decode cX1_lasts 47 = .ok (.iconst 0, 1) := by decide +kernel
theorem dX1_lasts_48 : decode cX1_lasts 48 = .ok (.ireturn, 1) := by decide +kernel
theorem dX1_ends_0 : decode cX1_ends 0 = .ok (.iload_n 0, 1) := by decide +kernel
theorem dX1_ends_1 : decode cX1_ends 1 = .ok (.iconst 1, 1) := by decide +kernel
theorem dX1_ends_2 : decode cX1_ends 2 = .ok (.if_icmp .eq 18, 3) := by decide +kernel
theorem dX1_ends_5 : decode cX1_ends 5 = .ok (.iload_n 0, 1) := by decide +kernel
theorem dX1_ends_6 : decode cX1_ends 6 = .ok (.iconst 2, 1) := by decide +kernel
theorem dX1_ends_7 : decode cX1_ends 7 = .ok (.if_icmp .eq 13, 3) := by decide +kernel
theorem dX1_ends_10 : decode cX1_ends 10 = .ok (.iload_n 0, 1) := by decide +kernel
theorem dX1_ends_11 : decode cX1_ends 11 = .ok (.iconst 3, 1) := by decide +kernel
theorem dX1_ends_12 : decode cX1_ends 12 = .ok (.if_icmp .eq 8, 3) := by decide +kernel
theorem dX1_ends_15 : decode cX1_ends 15 = .ok (.iload_n 0, 1) := by decide +kernel
theorem dX1_ends_16 : decode cX1_ends 16 = .ok (.iconst 5, 1) := by decide +kernel
theorem dX1_ends_17 : decode cX1_ends 17 = .ok (.if_icmp .ne 7, 3) := by decide +kernel
theorem dX1_ends_20 : decode cX1_ends 20 = .ok (.iconst 1, 1) := by decide +kernel
theorem dX1_ends_21 : decode cX1_ends 21 = .ok (.goto 4, 3) := by decide +kernel
theorem dX1_ends_24 : decode cX1_ends 24 = .ok (.iconst 0, 1) := by decide +kernel
theorem dX1_ends_25 : decode cX1_ends 25 = .ok (.ireturn, 1) := by decide +kernel
theorem dX2_init_0 : decode cX2_init 0 = .ok (.aload_n 0, 1) := by decide +kernel
theorem dX2_init_1 : decode cX2_init 1 = .ok (.invokespecial 3, 3) := by decide +kernel
theorem dX2_init_4 : decode cX2_init 4 = .ok (.aload_n 0, 1) := by decide +kernel
theorem dX2_init_5 : decode cX2_init 5 = .ok (.bipush 12, 2) := by decide +kernel
theorem dX2_init_7 : decode cX2_init 7 = .ok (.newarray .int, 2) := by decide +kernel
theorem dX2_init_9 : decode cX2_init 9 = .ok (.putfield 9, 3) := by decide +kernel
theorem dX2_init_12 : decode cX2_init 12 = .ok (.aload_n 0, 1) := by decide +kernel
theorem dX2_init_13 : decode cX2_init 13 = .ok (.bipush 12, 2) := by decide +kernel
theorem dX2_init_15 : decode cX2_init 15 = .ok (.newarray .int, 2) := by decide +kernel
theorem dX2_init_17 : decode cX2_init 17 = .ok (.putfield 15, 3) := by decide +kernel
theorem dX2_init_20 : decode cX2_init 20 = .ok (.return_, 1) := by decide +kernel
theorem dX2_set_0 : decode cX2_set 0 = .ok (.aload_n 0, 1) := by decide +kernel
theorem dX2_set_1 : decode cX2_set 1 = .ok (.getfield 9, 3) := by decide +kernel
theorem dX2_set_4 : decode cX2_set 4 = .ok (.iload_n 1, 1) := by decide +kernel
theorem dX2_set_5 : decode cX2_set 5 = .ok (.iload_n 2, 1) := by decide +kernel
theorem dX2_set_6 : decode cX2_set 6 = .ok (.iastore, 1) := by decide +kernel
theorem dX2_set_7 : decode cX2_set 7 = .ok (.aload_n 0, 1) := by decide +kernel
theorem dX2_set_8 : decode cX2_set 8 = .ok (.getfield 15, 3) := by decide +kernel
theorem dX2_set_11 : decode cX2_set 11 = .ok (.iload_n 1, 1) := by decide +kernel
theorem dX2_set_12 : decode cX2_set 12 = .ok (.iconst 0, 1) := by decide +kernel
theorem dX2_set_13 : decode cX2_set 13 = .ok (.iastore, 1) := by decide +kernel
theorem dX2_set_14 : decode cX2_set 14 = .ok (.return_, 1) := by decide +kernel
theorem dX2_readOnce_0 : decode cX2_readOnce 0 = .ok (.aload_n 0, 1) := by decide +kernel
theorem dX2_readOnce_1 : decode cX2_readOnce 1 = .ok (.getfield 9, 3) := by decide +kernel
theorem dX2_readOnce_4 : decode cX2_readOnce 4 = .ok (.iload_n 1, 1) := by decide +kernel
theorem dX2_readOnce_5 : decode cX2_readOnce 5 = .ok (.iaload, 1) := by decide +kernel
theorem dX2_readOnce_6 : decode cX2_readOnce 6 = .ok (.istore_n 2, 1) := by decide +kernel
theorem dX2_readOnce_7 : decode cX2_readOnce 7 = .ok (.iload_n 2, 1) := by decide +kernel
theorem dX2_readOnce_8 : decode cX2_readOnce 8 = .ok (.iconst (-1), 1) := by decide +kernel
theorem dX2_readOnce_9 : decode cX2_readOnce 9 = .ok (.if_icmp .ne 4, 3) := by decide +kernel
theorem dX2_readOnce_12 : decode cX2_readOnce 12 = .ok (.return_, 1) := by decide +kernel
theorem dX2_readOnce_13 : decode cX2_readOnce 13 = .ok (.aload_n 0, 1) := by decide +kernel
theorem dX2_readOnce_14 : decode cX2_readOnce 14 = .ok (.getfield 15, 3) := by decide +kernel
theorem dX2_readOnce_17 : decode cX2_readOnce 17 = .ok (.iload_n 1, 1) := by decide +kernel
theorem dX2_readOnce_18 : decode cX2_readOnce 18 = .ok (.dup2, 1) := by decide +kernel
theorem dX2_readOnce_19 : decode cX2_readOnce 19 = .ok (.iaload, 1) := by decide +kernel
theorem dX2_readOnce_20 : decode cX2_readOnce 20 = .ok (.iconst 1, 1) := by decide +kernel
theorem dX2_readOnce_21 : decode cX2_readOnce 21 = .ok (.iadd, 1) := by decide +kernel
theorem dX2_readOnce_22 : decode cX2_readOnce 22 = .ok (.iastore, 1) := by decide +kernel
theorem dX2_readOnce_23 : decode cX2_readOnce 23 = .ok (.aload_n 0, 1) := by decide +kernel
theorem dX2_readOnce_24 : decode cX2_readOnce 24 = .ok (.getfield 15, 3) := by decide +kernel
theorem dX2_readOnce_27 : decode cX2_readOnce 27 = .ok (.iload_n 1, 1) := by decide +kernel
theorem dX2_readOnce_28 : decode cX2_readOnce 28 = .ok (.iaload, 1) := by decide +kernel
theorem dX2_readOnce_29 : decode cX2_readOnce 29 = .ok (.iload_n 2, 1) := by decide +kernel
theorem dX2_readOnce_30 : decode cX2_readOnce 30 = .ok (.invokestatic 18, 3) := by decide +kernel
theorem dX2_readOnce_33 : decode cX2_readOnce 33 = .ok (.if_icmp .ne 9, 3) := by decide +kernel
theorem dX2_readOnce_36 : decode cX2_readOnce 36 = .ok (.aload_n 0, 1) := by decide +kernel
theorem dX2_readOnce_37 : decode cX2_readOnce 37 = .ok (.iload_n 1, 1) := by decide +kernel
theorem dX2_readOnce_38 : decode cX2_readOnce 38 = .ok (.iconst (-1), 1) := by decide +kernel
theorem dX2_readOnce_39 : decode cX2_readOnce 39 = .ok (.invokevirtual 24, 3) := by decide +kernel
theorem dX2_readOnce_42 : decode cX2_readOnce 42 = .ok (.return_, 1) := by decide +kernel
theorem dX2_copy_0 : decode cX2_copy 0 = .ok (.aload_n 0, 1) := by decide +kernel
theorem dX2_copy_1 : decode cX2_copy 1 = .ok (.aload_n 1, 1) := by decide +kernel
theorem dX2_copy_2 : decode cX2_copy 2 = .ok (.getfield 28, 3) := by decide +kernel
theorem dX2_copy_5 : decode cX2_copy 5 = .ok (.putfield 28, 3) := by decide +kernel
theorem dX2_copy_8 : decode cX2_copy 8 = .ok (.aload_n 0, 1) := by decide +kernel
theorem dX2_copy_9 : decode cX2_copy 9 = .ok (.aload_n 1, 1) := by decide +kernel
theorem dX2_copy_10 : decode cX2_copy 10 = .ok (.getfield 32, 3) := by decide +kernel
theorem dX2_copy_13 : decode cX2_copy 13 = .ok (.putfield 32, 3) := by decide +kernel
theorem dX2_copy_16 : decode cX2_copy 16 = .ok (.aload_n 1, 1) := by decide +kernel
theorem dX2_copy_17 : decode cX2_copy 17 = .ok (.getfield 9, 3) := by decide +kernel
theorem dX2_copy_20 : decode cX2_copy 20 = .ok (.iconst 0, 1) := by decide +kernel
theorem dX2_copy_21 : decode cX2_copy 21 = .ok (.aload_n 0, 1) := by decide +kernel
theorem dX2_copy_22 : decode cX2_copy 22 = .ok (.getfield 9, 3) := by decide +kernel
theorem dX2_copy_25 : decode cX2_copy 25 = .ok (.iconst 0, 1) := by decide +kernel
theorem dX2_copy_26 : decode cX2_copy 26 = .ok (.bipush 12, 2) := by decide +kernel
theorem dX2_copy_28 : decode cX2_copy 28 = .ok (.invokestatic 35, 3) := by decide +kernel
theorem dX2_copy_31 : decode cX2_copy 31 = .ok (.aload_n 1, 1) := by decide +kernel
theorem dX2_copy_32 : decode cX2_copy 32 = .ok (.getfield 15, 3) := by decide +kernel
theorem dX2_copy_35 : decode cX2_copy 35 = .ok (.iconst 0, 1) := by decide +kernel
theorem dX2_copy_36 : decode cX2_copy 36 = .ok (.aload_n 0, 1) := by decide +kernel
theorem dX2_copy_37 : decode cX2_copy 37 = .ok (.getfield 15, 3) := by decide +kernel
theorem dX2_copy_40 : decode cX2_copy 40 = .ok (.iconst 0, 1) := by decide +kernel
theorem dX2_copy_41 : decode cX2_copy 41 = .ok (.bipush 12, 2) := by decide +kernel
theorem dX2_copy_43 : decode cX2_copy 43 = .ok (.invokestatic 35, 3) := by decide +kernel
theorem dX2_copy_46 : decode cX2_copy 46 = .ok (.return_, 1) := by decide +kernel
theorem dX3_init_0 : decode cX3_init 0 = .ok (.aload_n 0, 1) := by decide +kernel
theorem dX3_init_1 : decode cX3_init 1 = .ok (.invokespecial 3, 3) := by decide +kernel
theorem dX3_init_4 : decode cX3_init 4 = .ok (.aload_n 0, 1) := by decide +kernel
theorem dX3_init_5 : decode cX3_init 5 = .ok (.bipush 7, 2) := by decide +kernel
theorem dX3_init_7 : decode cX3_init 7 = .ok (.newarray .int, 2) := by decide +kernel
theorem dX3_init_9 : decode cX3_init 9 = .ok (.putfield 9, 3) := by decide +kernel
theorem dX3_init_12 : decode cX3_init 12 = .ok (.aload_n 0, 1) := by decide +kernel
theorem dX3_init_13 : decode cX3_init 13 = .ok (.bipush 7, 2) := by decide +kernel
theorem dX3_init_15 : decode cX3_init 15 = .ok (.newarray .int, 2) := by decide +kernel
theorem dX3_init_17 : decode cX3_init 17 = .ok (.putfield 15, 3) := by decide +kernel
theorem dX3_init_20 : decode cX3_init 20 = .ok (.aload_n 0, 1) := by decide +kernel
theorem dX3_init_21 : decode cX3_init 21 = .ok (.bipush 7, 2) := by decide +kernel
theorem dX3_init_23 : decode cX3_init 23 = .ok (.newarray .boolean, 2) := by decide +kernel
theorem dX3_init_25 : decode cX3_init 25 = .ok (.putfield 18, 3) := by decide +kernel
theorem dX3_init_28 : decode cX3_init 28 = .ok (.return_, 1) := by decide +kernel
theorem dX3_search_0 : decode cX3_search 0 = .ok (.aload_n 0, 1) := by decide +kernel
theorem dX3_search_1 : decode cX3_search 1 = .ok (.iconst 0, 1) := by decide +kernel
theorem dX3_search_2 : decode cX3_search 2 = .ok (.putfield 22, 3) := by decide +kernel
theorem dX3_search_5 : decode cX3_search 5 = .ok (.iconst 0, 1) := by decide +kernel
theorem dX3_search_6 : decode cX3_search 6 = .ok (.istore_n 2, 1) := by decide +kernel
theorem dX3_search_7 : decode cX3_search 7 = .ok (.iload_n 2, 1) := by decide +kernel
theorem dX3_search_8 : decode cX3_search 8 = .ok (.bipush 7, 2) := by decide +kernel
theorem dX3_search_10 : decode cX3_search 10 = .ok (.if_icmp .ge 23, 3) := by decide +kernel
theorem dX3_search_13 : decode cX3_search 13 = .ok (.aload_n 0, 1) := by decide +kernel
theorem dX3_search_14 : decode cX3_search 14 = .ok (.getfield 9, 3) := by decide +kernel
theorem dX3_search_17 : decode cX3_search 17 = .ok (.iload_n 2, 1) := by decide +kernel
theorem dX3_search_18 : decode cX3_search 18 = .ok (.iload_n 2, 1) := by decide +kernel
theorem dX3_search_19 : decode cX3_search 19 = .ok (.iastore, 1) := by decide +kernel
theorem dX3_search_20 : decode cX3_search 20 = .ok (.aload_n 0, 1) := by decide +kernel
theorem dX3_search_21 : decode cX3_search 21 = .ok (.getfield 18, 3) := by decide +kernel
theorem dX3_search_24 : decode cX3_search 24 = .ok (.iload_n 2, 1) := by decide +kernel
theorem dX3_search_25 : decode cX3_search 25 = .ok (.iconst 0, 1) := by decide +kernel
theorem dX3_search_26 : decode cX3_search 26 = .ok (.bastore, 1) := by decide +kernel
theorem dX3_search_27 : decode cX3_search 27 = .ok (.iinc 2 1, 3) := by decide +kernel
theorem dX3_search_30 : decode cX3_search 30 = .ok (.goto (-23), 3) := by decide +kernel
theorem dX3_search_33 : decode cX3_search 33 = .ok (.aload_n 0, 1) := by decide +kernel
theorem dX3_search_34 : decode cX3_search 34 = .ok (.aload_n 1, 1) := by decide +kernel
theorem dX3_search_35 : decode cX3_search 35 = .ok (.iconst 0, 1) := by decide +kernel
theorem dX3_search_36 : decode cX3_search 36 = .ok (.aload_n 1, 1) := by decide +kernel
theorem dX3_search_37 : decode cX3_search 37 = .ok (.getfield 26, 3) := by decide +kernel
theorem dX3_search_40 : decode cX3_search 40 = .ok (.invokestatic 31, 3) := by decide +kernel
theorem dX3_search_43 : decode cX3_search 43 = .ok (.return_, 1) := by decide +kernel
theorem dX3_extend_0 : decode cX3_extend 0 = .ok (.iload_n 2, 1) := by decide +kernel
theorem dX3_extend_1 : decode cX3_extend 1 = .ok (.aload_n 0, 1) := by decide +kernel
theorem dX3_extend_2 : decode cX3_extend 2 = .ok (.getfield 22, 3) := by decide +kernel
theorem dX3_extend_5 : decode cX3_extend 5 = .ok (.if_icmp .le 12, 3) := by decide +kernel
theorem dX3_extend_8 : decode cX3_extend 8 = .ok (.aload_n 0, 1) := by decide +kernel
theorem dX3_extend_9 : decode cX3_extend 9 = .ok (.aload_n 1, 1) := by decide +kernel
theorem dX3_extend_10 : decode cX3_extend 10 = .ok (.getfield 35, 3) := by decide +kernel
theorem dX3_extend_13 : decode cX3_extend 13 = .ok (.iload_n 2, 1) := by decide +kernel
theorem dX3_extend_14 : decode cX3_extend 14 = .ok (.invokevirtual 38, 3) := by decide +kernel
theorem dX3_extend_17 : decode cX3_extend 17 = .ok (.iload_n 2, 1) := by decide +kernel
theorem dX3_extend_18 : decode cX3_extend 18 = .ok (.bipush 7, 2) := by decide +kernel
theorem dX3_extend_20 : decode cX3_extend 20 = .ok (.if_icmp .lt 4, 3) := by decide +kernel
theorem dX3_extend_23 : decode cX3_extend 23 = .ok (.return_, 1) := by decide +kernel
theorem dX3_extend_24 : decode cX3_extend 24 = .ok (.iconst 0, 1) := by decide +kernel
theorem dX3_extend_25 : decode cX3_extend 25 = .ok (.istore 4, 2) := by decide +kernel
theorem dX3_extend_27 : decode cX3_extend 27 = .ok (.iload 4, 2) := by decide +kernel
theorem dX3_extend_29 : decode cX3_extend 29 = .ok (.aload_n 1, 1) := by decide +kernel
theorem dX3_extend_30 : decode cX3_extend 30 = .ok (.getfield 35, 3) := by decide +kernel
theorem dX3_extend_33 : decode cX3_extend 33 = .ok (.if_icmp .ge 96, 3) := by decide +kernel
theorem dX3_extend_36 : decode cX3_extend 36 = .ok (.iload 4, 2) := by decide +kernel
theorem dX3_extend_38 : decode cX3_extend 38 = .ok (.bipush 7, 2) := by decide +kernel
theorem dX3_extend_40 : decode cX3_extend 40 = .ok (.if_icmp .ge 89, 3) := by decide +kernel
theorem dX3_extend_43 : decode cX3_extend 43 = .ok (.aload_n 0, 1) := by decide +kernel
theorem dX3_extend_44 : decode cX3_extend 44 = .ok (.getfield 22, 3) := by decide +kernel
theorem dX3_extend_47 : decode cX3_extend 47 = .ok (.aload_n 1, 1) := by decide +kernel
theorem dX3_extend_48 : decode cX3_extend 48 = .ok (.getfield 35, 3) := by decide +kernel
theorem dX3_extend_51 : decode cX3_extend 51 = .ok (.if_icmp .ge 78, 3) := by decide +kernel
theorem dX3_extend_54 : decode cX3_extend 54 = .ok (.aload_n 1, 1) := by decide +kernel
theorem dX3_extend_55 : decode cX3_extend 55 = .ok (.iload_n 2, 1) := by decide +kernel
theorem dX3_extend_56 : decode cX3_extend 56 = .ok (.aload_n 1, 1) := by decide +kernel
theorem dX3_extend_57 : decode cX3_extend 57 = .ok (.getfield 42, 3) := by decide +kernel
theorem dX3_extend_60 : decode cX3_extend 60 = .ok (.iload 4, 2) := by decide +kernel
theorem dX3_extend_62 : decode cX3_extend 62 = .ok (.iaload, 1) := by decide +kernel
theorem dX3_extend_63 : decode cX3_extend 63 = .ok (.iload_n 3, 1) := by decide +kernel
theorem dX3_extend_64 : decode cX3_extend 64 = .ok (.aload_n 1, 1) := by decide +kernel
theorem dX3_extend_65 : decode cX3_extend 65 = .ok (.getfield 26, 3) := by decide +kernel
theorem dX3_extend_68 : decode cX3_extend 68 = .ok (.invokevirtual 45, 3) := by decide +kernel
theorem dX3_extend_71 : decode cX3_extend 71 = .ok (.istore 5, 2) := by decide +kernel
theorem dX3_extend_73 : decode cX3_extend 73 = .ok (.aload_n 0, 1) := by decide +kernel
theorem dX3_extend_74 : decode cX3_extend 74 = .ok (.getfield 18, 3) := by decide +kernel
theorem dX3_extend_77 : decode cX3_extend 77 = .ok (.iload 4, 2) := by decide +kernel
theorem dX3_extend_79 : decode cX3_extend 79 = .ok (.baload, 1) := by decide +kernel
theorem dX3_extend_80 : decode cX3_extend 80 = .ok (.ifCond .ne 43, 3) := by decide +kernel
theorem dX3_extend_83 : decode cX3_extend 83 = .ok (.iload 5, 2) := by decide +kernel
theorem dX3_extend_85 : decode cX3_extend 85 = .ok (.iconst (-1), 1) := by decide +kernel
theorem dX3_extend_86 : decode cX3_extend 86 = .ok (.if_icmp .eq 37, 3) := by decide +kernel
theorem dX3_extend_89 : decode cX3_extend 89 = .ok (.aload_n 0, 1) := by decide +kernel
theorem dX3_extend_90 : decode cX3_extend 90 = .ok (.getfield 18, 3) := by decide +kernel
theorem dX3_extend_93 : decode cX3_extend 93 = .ok (.iload 4, 2) := by decide +kernel
theorem dX3_extend_95 : decode cX3_extend 95 = .ok (.iconst 1, 1) := by decide +kernel
theorem dX3_extend_96 : decode cX3_extend 96 = .ok (.bastore, 1) := by decide +kernel
theorem dX3_extend_97 : decode cX3_extend 97 = .ok (.aload_n 0, 1) := by decide +kernel
theorem dX3_extend_98 : decode cX3_extend 98 = .ok (.getfield 15, 3) := by decide +kernel
theorem dX3_extend_101 : decode cX3_extend 101 = .ok (.iload_n 2, 1) := by decide +kernel
theorem dX3_extend_102 : decode cX3_extend 102 = .ok (.iload 4, 2) := by decide +kernel
theorem dX3_extend_104 : decode cX3_extend 104 = .ok (.iastore, 1) := by decide +kernel
theorem dX3_extend_105 : decode cX3_extend 105 = .ok (.aload_n 0, 1) := by decide +kernel
theorem dX3_extend_106 : decode cX3_extend 106 = .ok (.aload_n 1, 1) := by decide +kernel
theorem dX3_extend_107 : decode cX3_extend 107 = .ok (.iload_n 2, 1) := by decide +kernel
theorem dX3_extend_108 : decode cX3_extend 108 = .ok (.iconst 1, 1) := by decide +kernel
theorem dX3_extend_109 : decode cX3_extend 109 = .ok (.iadd, 1) := by decide +kernel
theorem dX3_extend_110 : decode cX3_extend 110 = .ok (.iload 5, 2) := by decide +kernel
theorem dX3_extend_112 : decode cX3_extend 112 = .ok (.invokestatic 31, 3) := by decide +kernel
theorem dX3_extend_115 : decode cX3_extend 115 = .ok (.aload_n 0, 1) := by decide +kernel
theorem dX3_extend_116 : decode cX3_extend 116 = .ok (.getfield 18, 3) := by decide +kernel
theorem dX3_extend_119 : decode cX3_extend 119 = .ok (.iload 4, 2) := by decide +kernel
theorem dX3_extend_121 : decode cX3_extend 121 = .ok (.iconst 0, 1) := by decide +kernel
theorem dX3_extend_122 : decode cX3_extend 122 = .ok (.bastore, 1) := by decide +kernel
theorem dX3_extend_123 : decode cX3_extend 123 = .ok (.iinc 4 1, 3) := by decide +kernel
theorem dX3_extend_126 : decode cX3_extend 126 = .ok (.goto (-99), 3) := by decide +kernel
theorem dX3_extend_129 : decode cX3_extend 129 = .ok (.return_, 1) := by decide +kernel
theorem dX3_keepRow_0 : decode cX3_keepRow 0 = .ok (.aload_n 0, 1) := by decide +kernel
theorem dX3_keepRow_1 : decode cX3_keepRow 1 = .ok (.iload_n 2, 1) := by decide +kernel
theorem dX3_keepRow_2 : decode cX3_keepRow 2 = .ok (.putfield 22, 3) := by decide +kernel
theorem dX3_keepRow_5 : decode cX3_keepRow 5 = .ok (.aload_n 0, 1) := by decide +kernel
theorem dX3_keepRow_6 : decode cX3_keepRow 6 = .ok (.getfield 15, 3) := by decide +kernel
theorem dX3_keepRow_9 : decode cX3_keepRow 9 = .ok (.iconst 0, 1) := by decide +kernel
theorem dX3_keepRow_10 : decode cX3_keepRow 10 = .ok (.aload_n 0, 1) := by decide +kernel
theorem dX3_keepRow_11 : decode cX3_keepRow 11 = .ok (.getfield 9, 3) := by decide +kernel
theorem dX3_keepRow_14 : decode cX3_keepRow 14 = .ok (.iconst 0, 1) := by decide +kernel
theorem dX3_keepRow_15 : decode cX3_keepRow 15 = .ok (.iload_n 2, 1) := by decide +kernel
theorem dX3_keepRow_16 : decode cX3_keepRow 16 = .ok (.invokestatic 49, 3) := by decide +kernel
theorem dX3_keepRow_19 : decode cX3_keepRow 19 = .ok (.iload_n 2, 1) := by decide +kernel
theorem dX3_keepRow_20 : decode cX3_keepRow 20 = .ok (.istore_n 3, 1) := by decide +kernel
theorem dX3_keepRow_21 : decode cX3_keepRow 21 = .ok (.iconst 0, 1) := by decide +kernel
theorem dX3_keepRow_22 : decode cX3_keepRow 22 = .ok (.istore 4, 2) := by decide +kernel
theorem dX3_keepRow_24 : decode cX3_keepRow 24 = .ok (.iload 4, 2) := by decide +kernel
theorem dX3_keepRow_26 : decode cX3_keepRow 26 = .ok (.iload_n 1, 1) := by decide +kernel
theorem dX3_keepRow_27 : decode cX3_keepRow 27 = .ok (.if_icmp .ge 36, 3) := by decide +kernel
theorem dX3_keepRow_30 : decode cX3_keepRow 30 = .ok (.iload_n 3, 1) := by decide +kernel
theorem dX3_keepRow_31 : decode cX3_keepRow 31 = .ok (.bipush 7, 2) := by decide +kernel
theorem dX3_keepRow_33 : decode cX3_keepRow 33 = .ok (.if_icmp .ge 30, 3) := by decide +kernel
theorem dX3_keepRow_36 : decode cX3_keepRow 36 = .ok (.aload_n 0, 1) := by decide +kernel
theorem dX3_keepRow_37 : decode cX3_keepRow 37 = .ok (.getfield 18, 3) := by decide +kernel
theorem dX3_keepRow_40 : decode cX3_keepRow 40 = .ok (.iload 4, 2) := by decide +kernel
theorem dX3_keepRow_42 : decode cX3_keepRow 42 = .ok (.baload, 1) := by decide +kernel
theorem dX3_keepRow_43 : decode cX3_keepRow 43 = .ok (.ifCond .ne 14, 3) := by decide +kernel
theorem dX3_keepRow_46 : decode cX3_keepRow 46 = .ok (.aload_n 0, 1) := by decide +kernel
theorem dX3_keepRow_47 : decode cX3_keepRow 47 = .ok (.getfield 9, 3) := by decide +kernel
theorem dX3_keepRow_50 : decode cX3_keepRow 50 = .ok (.iload_n 3, 1) := by decide +kernel
theorem dX3_keepRow_51 : decode cX3_keepRow 51 = .ok (.iload 4, 2) := by decide +kernel
theorem dX3_keepRow_53 : decode cX3_keepRow 53 = .ok (.iastore, 1) := by decide +kernel
theorem dX3_keepRow_54 : decode cX3_keepRow 54 = .ok (.iinc 3 1, 3) := by decide +kernel
theorem dX3_keepRow_57 : decode cX3_keepRow 57 = .ok (.iinc 4 1, 3) := by decide +kernel
theorem dX3_keepRow_60 : decode cX3_keepRow 60 = .ok (.goto (-36), 3) := by decide +kernel
theorem dX3_keepRow_63 : decode cX3_keepRow 63 = .ok (.return_, 1) := by decide +kernel
theorem dX4_init_0 : decode cX4_init 0 = .ok (.aload_n 0, 1) := by decide +kernel
theorem dX4_init_1 : decode cX4_init 1 = .ok (.invokespecial 3, 3) := by decide +kernel
theorem dX4_init_4 : decode cX4_init 4 = .ok (.aload_n 0, 1) := by decide +kernel
theorem dX4_init_5 : decode cX4_init 5 = .ok (.bipush 10, 2) := by decide +kernel
theorem dX4_init_7 : decode cX4_init 7 = .ok (.putfield 9, 3) := by decide +kernel
theorem dX4_init_10 : decode cX4_init 10 = .ok (.aload_n 0, 1) := by decide +kernel
theorem dX4_init_11 : decode cX4_init 11 = .ok (.iconst 2, 1) := by decide +kernel
theorem dX4_init_12 : decode cX4_init 12 = .ok (.putfield 15, 3) := by decide +kernel
theorem dX4_init_15 : decode cX4_init 15 = .ok (.aload_n 0, 1) := by decide +kernel
theorem dX4_init_16 : decode cX4_init 16 = .ok (.bipush 12, 2) := by decide +kernel
theorem dX4_init_18 : decode cX4_init 18 = .ok (.newarray .int, 2) := by decide +kernel
theorem dX4_init_20 : decode cX4_init 20 = .ok (.putfield 18, 3) := by decide +kernel
theorem dX4_init_23 : decode cX4_init 23 = .ok (.aload_n 0, 1) := by decide +kernel
theorem dX4_init_24 : decode cX4_init 24 = .ok (.new 22, 3) := by decide +kernel
theorem dX4_init_27 : decode cX4_init 27 = .ok (.dup, 1) := by decide +kernel
theorem dX4_init_28 : decode cX4_init 28 = .ok (.invokespecial 24, 3) := by decide +kernel
theorem dX4_init_31 : decode cX4_init 31 = .ok (.putfield 25, 3) := by decide +kernel
theorem dX4_init_34 : decode cX4_init 34 = .ok (.aload_n 0, 1) := by decide +kernel
theorem dX4_init_35 : decode cX4_init 35 = .ok (.bipush 6, 2) := by decide +kernel
theorem dX4_init_37 : decode cX4_init 37 = .ok (.newarray .int, 2) := by decide +kernel
theorem dX4_init_39 : decode cX4_init 39 = .ok (.putfield 29, 3) := by decide +kernel
theorem dX4_init_42 : decode cX4_init 42 = .ok (.aload_n 0, 1) := by decide +kernel
theorem dX4_init_43 : decode cX4_init 43 = .ok (.bipush 8, 2) := by decide +kernel
theorem dX4_init_45 : decode cX4_init 45 = .ok (.anewarray 22, 3) := by decide +kernel
theorem dX4_init_48 : decode cX4_init 48 = .ok (.putfield 32, 3) := by decide +kernel
theorem dX4_init_51 : decode cX4_init 51 = .ok (.iconst 0, 1) := by decide +kernel
theorem dX4_init_52 : decode cX4_init 52 = .ok (.istore_n 1, 1) := by decide +kernel
theorem dX4_init_53 : decode cX4_init 53 = .ok (.iload_n 1, 1) := by decide +kernel
theorem dX4_init_54 : decode cX4_init 54 = .ok (.bipush 8, 2) := by decide +kernel
theorem dX4_init_56 : decode cX4_init 56 = .ok (.if_icmp .ge 22, 3) := by decide +kernel
theorem dX4_init_59 : decode cX4_init 59 = .ok (.aload_n 0, 1) := by decide +kernel
theorem dX4_init_60 : decode cX4_init 60 = .ok (.getfield 32, 3) := by decide +kernel
theorem dX4_init_63 : decode cX4_init 63 = .ok (.iload_n 1, 1) := by decide +kernel
theorem dX4_init_64 : decode cX4_init 64 = .ok (.new 22, 3) := by decide +kernel
theorem dX4_init_67 : decode cX4_init 67 = .ok (.dup, 1) := by decide +kernel
theorem dX4_init_68 : decode cX4_init 68 = .ok (.invokespecial 24, 3) := by decide +kernel
theorem dX4_init_71 : decode cX4_init 71 = .ok (.aastore, 1) := by decide +kernel
theorem dX4_init_72 : decode cX4_init 72 = .ok (.iinc 1 1, 3) := by decide +kernel
theorem dX4_init_75 : decode cX4_init 75 = .ok (.goto (-22), 3) := by decide +kernel
theorem dX4_init_78 : decode cX4_init 78 = .ok (.return_, 1) := by decide +kernel
theorem dX4_begin_0 : decode cX4_begin 0 = .ok (.aload_n 0, 1) := by decide +kernel
theorem dX4_begin_1 : decode cX4_begin 1 = .ok (.iload_n 1, 1) := by decide +kernel
theorem dX4_begin_2 : decode cX4_begin 2 = .ok (.putfield 9, 3) := by decide +kernel
theorem dX4_begin_5 : decode cX4_begin 5 = .ok (.aload_n 0, 1) := by decide +kernel
theorem dX4_begin_6 : decode cX4_begin 6 = .ok (.iload_n 2, 1) := by decide +kernel
theorem dX4_begin_7 : decode cX4_begin 7 = .ok (.putfield 15, 3) := by decide +kernel
theorem dX4_begin_10 : decode cX4_begin 10 = .ok (.aload_n 0, 1) := by decide +kernel
theorem dX4_begin_11 : decode cX4_begin 11 = .ok (.getfield 25, 3) := by decide +kernel
theorem dX4_begin_14 : decode cX4_begin 14 = .ok (.iconst 0, 1) := by decide +kernel
theorem dX4_begin_15 : decode cX4_begin 15 = .ok (.putfield 36, 3) := by decide +kernel
theorem dX4_begin_18 : decode cX4_begin 18 = .ok (.aload_n 0, 1) := by decide +kernel
theorem dX4_begin_19 : decode cX4_begin 19 = .ok (.getfield 25, 3) := by decide +kernel
theorem dX4_begin_22 : decode cX4_begin 22 = .ok (.iconst 0, 1) := by decide +kernel
theorem dX4_begin_23 : decode cX4_begin 23 = .ok (.putfield 39, 3) := by decide +kernel
theorem dX4_begin_26 : decode cX4_begin 26 = .ok (.aload_n 0, 1) := by decide +kernel
theorem dX4_begin_27 : decode cX4_begin 27 = .ok (.iconst 0, 1) := by decide +kernel
theorem dX4_begin_28 : decode cX4_begin 28 = .ok (.putfield 42, 3) := by decide +kernel
theorem dX4_begin_31 : decode cX4_begin 31 = .ok (.aload_n 0, 1) := by decide +kernel
theorem dX4_begin_32 : decode cX4_begin 32 = .ok (.iconst 0, 1) := by decide +kernel
theorem dX4_begin_33 : decode cX4_begin 33 = .ok (.putfield 45, 3) := by decide +kernel
theorem dX4_begin_36 : decode cX4_begin 36 = .ok (.aload_n 0, 1) := by decide +kernel
theorem dX4_begin_37 : decode cX4_begin 37 = .ok (.iconst 0, 1) := by decide +kernel
theorem dX4_begin_38 : decode cX4_begin 38 = .ok (.putfield 48, 3) := by decide +kernel
theorem dX4_begin_41 : decode cX4_begin 41 = .ok (.return_, 1) := by decide +kernel
theorem dX4_copy_0 : decode cX4_copy 0 = .ok (.aload_n 0, 1) := by decide +kernel
theorem dX4_copy_1 : decode cX4_copy 1 = .ok (.aload_n 1, 1) := by decide +kernel
theorem dX4_copy_2 : decode cX4_copy 2 = .ok (.getfield 9, 3) := by decide +kernel
theorem dX4_copy_5 : decode cX4_copy 5 = .ok (.putfield 9, 3) := by decide +kernel
theorem dX4_copy_8 : decode cX4_copy 8 = .ok (.aload_n 0, 1) := by decide +kernel
theorem dX4_copy_9 : decode cX4_copy 9 = .ok (.aload_n 1, 1) := by decide +kernel
theorem dX4_copy_10 : decode cX4_copy 10 = .ok (.getfield 15, 3) := by decide +kernel
theorem dX4_copy_13 : decode cX4_copy 13 = .ok (.putfield 15, 3) := by decide +kernel
theorem dX4_copy_16 : decode cX4_copy 16 = .ok (.aload_n 0, 1) := by decide +kernel
theorem dX4_copy_17 : decode cX4_copy 17 = .ok (.aload_n 1, 1) := by decide +kernel
theorem dX4_copy_18 : decode cX4_copy 18 = .ok (.getfield 42, 3) := by decide +kernel
theorem dX4_copy_21 : decode cX4_copy 21 = .ok (.putfield 42, 3) := by decide +kernel
theorem dX4_copy_24 : decode cX4_copy 24 = .ok (.aload_n 0, 1) := by decide +kernel
theorem dX4_copy_25 : decode cX4_copy 25 = .ok (.aload_n 1, 1) := by decide +kernel
theorem dX4_copy_26 : decode cX4_copy 26 = .ok (.getfield 45, 3) := by decide +kernel
theorem dX4_copy_29 : decode cX4_copy 29 = .ok (.putfield 45, 3) := by decide +kernel
theorem dX4_copy_32 : decode cX4_copy 32 = .ok (.aload_n 0, 1) := by decide +kernel
theorem dX4_copy_33 : decode cX4_copy 33 = .ok (.aload_n 1, 1) := by decide +kernel
theorem dX4_copy_34 : decode cX4_copy 34 = .ok (.getfield 48, 3) := by decide +kernel
theorem dX4_copy_37 : decode cX4_copy 37 = .ok (.putfield 48, 3) := by decide +kernel
theorem dX4_copy_40 : decode cX4_copy 40 = .ok (.aload_n 1, 1) := by decide +kernel
theorem dX4_copy_41 : decode cX4_copy 41 = .ok (.getfield 18, 3) := by decide +kernel
theorem dX4_copy_44 : decode cX4_copy 44 = .ok (.iconst 0, 1) := by decide +kernel
theorem dX4_copy_45 : decode cX4_copy 45 = .ok (.aload_n 0, 1) := by decide +kernel
theorem dX4_copy_46 : decode cX4_copy 46 = .ok (.getfield 18, 3) := by decide +kernel
theorem dX4_copy_49 : decode cX4_copy 49 = .ok (.iconst 0, 1) := by decide +kernel
theorem dX4_copy_50 : decode cX4_copy 50 = .ok (.bipush 12, 2) := by decide +kernel
theorem dX4_copy_52 : decode cX4_copy 52 = .ok (.invokestatic 51, 3) := by decide +kernel
theorem dX4_copy_55 : decode cX4_copy 55 = .ok (.aload_n 1, 1) := by decide +kernel
theorem dX4_copy_56 : decode cX4_copy 56 = .ok (.getfield 29, 3) := by decide +kernel
theorem dX4_copy_59 : decode cX4_copy 59 = .ok (.iconst 0, 1) := by decide +kernel
theorem dX4_copy_60 : decode cX4_copy 60 = .ok (.aload_n 0, 1) := by decide +kernel
theorem dX4_copy_61 : decode cX4_copy 61 = .ok (.getfield 29, 3) := by decide +kernel
theorem dX4_copy_64 : decode cX4_copy 64 = .ok (.iconst 0, 1) := by decide +kernel
theorem dX4_copy_65 : decode cX4_copy 65 = .ok (.bipush 6, 2) := by decide +kernel
theorem dX4_copy_67 : decode cX4_copy 67 = .ok (.invokestatic 51, 3) := by decide +kernel
theorem dX4_copy_70 : decode cX4_copy 70 = .ok (.aload_n 0, 1) := by decide +kernel
theorem dX4_copy_71 : decode cX4_copy 71 = .ok (.getfield 25, 3) := by decide +kernel
theorem dX4_copy_74 : decode cX4_copy 74 = .ok (.aload_n 1, 1) := by decide +kernel
theorem dX4_copy_75 : decode cX4_copy 75 = .ok (.getfield 25, 3) := by decide +kernel
theorem dX4_copy_78 : decode cX4_copy 78 = .ok (.invokevirtual 57, 3) := by decide +kernel
theorem dX4_copy_81 : decode cX4_copy 81 = .ok (.iconst 0, 1) := by decide +kernel
theorem dX4_copy_82 : decode cX4_copy 82 = .ok (.istore_n 2, 1) := by decide +kernel
theorem dX4_copy_83 : decode cX4_copy 83 = .ok (.iload_n 2, 1) := by decide +kernel
theorem dX4_copy_84 : decode cX4_copy 84 = .ok (.bipush 8, 2) := by decide +kernel
theorem dX4_copy_86 : decode cX4_copy 86 = .ok (.if_icmp .ge 24, 3) := by decide +kernel
theorem dX4_copy_89 : decode cX4_copy 89 = .ok (.aload_n 0, 1) := by decide +kernel
theorem dX4_copy_90 : decode cX4_copy 90 = .ok (.getfield 32, 3) := by decide +kernel
theorem dX4_copy_93 : decode cX4_copy 93 = .ok (.iload_n 2, 1) := by decide +kernel
theorem dX4_copy_94 : decode cX4_copy 94 = .ok (.aaload, 1) := by decide +kernel
theorem dX4_copy_95 : decode cX4_copy 95 = .ok (.aload_n 1, 1) := by decide +kernel
theorem dX4_copy_96 : decode cX4_copy 96 = .ok (.getfield 32, 3) := by decide +kernel
theorem dX4_copy_99 : decode cX4_copy 99 = .ok (.iload_n 2, 1) := by decide +kernel
theorem dX4_copy_100 : decode cX4_copy 100 = .ok (.aaload, 1) := by decide +kernel
theorem dX4_copy_101 : decode cX4_copy 101 = .ok (.invokevirtual 57, 3) := by decide +kernel
theorem dX4_copy_104 : decode cX4_copy 104 = .ok (.iinc 2 1, 3) := by decide +kernel
theorem dX4_copy_107 : decode cX4_copy 107 = .ok (.goto (-24), 3) := by decide +kernel
theorem dX4_copy_110 : decode cX4_copy 110 = .ok (.return_, 1) := by decide +kernel
theorem dX4_has_0 : decode cX4_has 0 = .ok (.iload_n 1, 1) := by decide +kernel
theorem dX4_has_1 : decode cX4_has 1 = .ok (.ifCond .lt 15, 3) := by decide +kernel
theorem dX4_has_4 : decode cX4_has 4 = .ok (.iload_n 1, 1) := by decide +kernel
theorem dX4_has_5 : decode cX4_has 5 = .ok (.aload_n 0, 1) := by decide +kernel
theorem dX4_has_6 : decode cX4_has 6 = .ok (.getfield 42, 3) := by decide +kernel
theorem dX4_has_9 : decode cX4_has 9 = .ok (.if_icmp .ge 7, 3) := by decide +kernel
theorem dX4_has_12 : decode cX4_has 12 = .ok (.iconst 1, 1) := by decide +kernel
theorem dX4_has_13 : decode cX4_has 13 = .ok (.goto 4, 3) := by decide +kernel
theorem dX4_has_16 : decode cX4_has 16 = .ok (.iconst 0, 1) := by decide +kernel
theorem dX4_has_17 : decode cX4_has 17 = .ok (.ireturn, 1) := by decide +kernel
theorem dX4_hasRoom_0 : decode cX4_hasRoom 0 = .ok (.aload_n 0, 1) := by decide +kernel
theorem dX4_hasRoom_1 : decode cX4_hasRoom 1 = .ok (.getfield 42, 3) := by decide +kernel
theorem dX4_hasRoom_4 : decode cX4_hasRoom 4 = .ok (.bipush 12, 2) := by decide +kernel
theorem dX4_hasRoom_6 : decode cX4_hasRoom 6 = .ok (.if_icmp .ge 7, 3) := by decide +kernel
theorem dX4_hasRoom_9 : decode cX4_hasRoom 9 = .ok (.iconst 1, 1) := by decide +kernel
theorem dX4_hasRoom_10 : decode cX4_hasRoom 10 = .ok (.goto 4, 3) := by decide +kernel
theorem dX4_hasRoom_13 : decode cX4_hasRoom 13 = .ok (.iconst 0, 1) := by decide +kernel
theorem dX4_hasRoom_14 : decode cX4_hasRoom 14 = .ok (.ireturn, 1) := by decide +kernel
theorem dX4_addWord_0 : decode cX4_addWord 0 = .ok (.aload_n 0, 1) := by decide +kernel
theorem dX4_addWord_1 : decode cX4_addWord 1 = .ok (.getfield 18, 3) := by decide +kernel
theorem dX4_addWord_4 : decode cX4_addWord 4 = .ok (.aload_n 0, 1) := by decide +kernel
theorem dX4_addWord_5 : decode cX4_addWord 5 = .ok (.getfield 42, 3) := by decide +kernel
theorem dX4_addWord_8 : decode cX4_addWord 8 = .ok (.iload_n 1, 1) := by decide +kernel
theorem dX4_addWord_9 : decode cX4_addWord 9 = .ok (.iastore, 1) := by decide +kernel
theorem dX4_addWord_10 : decode cX4_addWord 10 = .ok (.aload_n 0, 1) := by decide +kernel
theorem dX4_addWord_11 : decode cX4_addWord 11 = .ok (.getfield 25, 3) := by decide +kernel
theorem dX4_addWord_14 : decode cX4_addWord 14 = .ok (.aload_n 0, 1) := by decide +kernel
theorem dX4_addWord_15 : decode cX4_addWord 15 = .ok (.getfield 42, 3) := by decide +kernel
theorem dX4_addWord_18 : decode cX4_addWord 18 = .ok (.iconst (-1), 1) := by decide +kernel
theorem dX4_addWord_19 : decode cX4_addWord 19 = .ok (.invokevirtual 61, 3) := by decide +kernel
theorem dX4_addWord_22 : decode cX4_addWord 22 = .ok (.aload_n 0, 1) := by decide +kernel
theorem dX4_addWord_23 : decode cX4_addWord 23 = .ok (.dup, 1) := by decide +kernel
theorem dX4_addWord_24 : decode cX4_addWord 24 = .ok (.getfield 42, 3) := by decide +kernel
theorem dX4_addWord_27 : decode cX4_addWord 27 = .ok (.iconst 1, 1) := by decide +kernel
theorem dX4_addWord_28 : decode cX4_addWord 28 = .ok (.iadd, 1) := by decide +kernel
theorem dX4_addWord_29 : decode cX4_addWord 29 = .ok (.putfield 42, 3) := by decide +kernel
theorem dX4_addWord_32 : decode cX4_addWord 32 = .ok (.aload_n 0, 1) := by decide +kernel
theorem dX4_addWord_33 : decode cX4_addWord 33 = .ok (.iconst 0, 1) := by decide +kernel
theorem dX4_addWord_34 : decode cX4_addWord 34 = .ok (.putfield 48, 3) := by decide +kernel
theorem dX4_addWord_37 : decode cX4_addWord 37 = .ok (.return_, 1) := by decide +kernel
theorem dX4_setMark_0 : decode cX4_setMark 0 = .ok (.aload_n 0, 1) := by decide +kernel
theorem dX4_setMark_1 : decode cX4_setMark 1 = .ok (.getfield 25, 3) := by decide +kernel
theorem dX4_setMark_4 : decode cX4_setMark 4 = .ok (.iload_n 1, 1) := by decide +kernel
theorem dX4_setMark_5 : decode cX4_setMark 5 = .ok (.iload_n 2, 1) := by decide +kernel
theorem dX4_setMark_6 : decode cX4_setMark 6 = .ok (.invokevirtual 61, 3) := by decide +kernel
theorem dX4_setMark_9 : decode cX4_setMark 9 = .ok (.aload_n 0, 1) := by decide +kernel
theorem dX4_setMark_10 : decode cX4_setMark 10 = .ok (.iconst 0, 1) := by decide +kernel
theorem dX4_setMark_11 : decode cX4_setMark 11 = .ok (.putfield 48, 3) := by decide +kernel
theorem dX4_setMark_14 : decode cX4_setMark 14 = .ok (.return_, 1) := by decide +kernel
theorem dX4_costOf_0 : decode cX4_costOf 0 = .ok (.iload_n 1, 1) := by decide +kernel
theorem dX4_costOf_1 : decode cX4_costOf 1 = .ok (.aload_n 0, 1) := by decide +kernel
theorem dX4_costOf_2 : decode cX4_costOf 2 = .ok (.getfield 15, 3) := by decide +kernel
theorem dX4_costOf_5 : decode cX4_costOf 5 = .ok (.aload_n 0, 1) := by decide +kernel
theorem dX4_costOf_6 : decode cX4_costOf 6 = .ok (.getfield 25, 3) := by decide +kernel
theorem dX4_costOf_9 : decode cX4_costOf 9 = .ok (.getfield 39, 3) := by decide +kernel
theorem dX4_costOf_12 : decode cX4_costOf 12 = .ok (.invokestatic 65, 3) := by decide +kernel
theorem dX4_costOf_15 : decode cX4_costOf 15 = .ok (.ireturn, 1) := by decide +kernel
theorem dX4_howManyMarks_0 : decode cX4_howManyMarks 0 = .ok (.iconst 0, 1) := by decide +kernel
theorem dX4_howManyMarks_1 : decode cX4_howManyMarks 1 = .ok (.istore_n 1, 1) := by decide +kernel
theorem dX4_howManyMarks_2 : decode cX4_howManyMarks 2 = .ok (.iconst 0, 1) := by decide +kernel
theorem dX4_howManyMarks_3 : decode cX4_howManyMarks 3 = .ok (.istore_n 2, 1) := by decide +kernel
theorem dX4_howManyMarks_4 : decode cX4_howManyMarks 4 = .ok (.iload_n 2, 1) := by decide +kernel
theorem dX4_howManyMarks_5 : decode cX4_howManyMarks 5 = .ok (.aload_n 0, 1) := by decide +kernel
theorem dX4_howManyMarks_6 : decode cX4_howManyMarks 6 = .ok (.getfield 42, 3) := by decide +kernel
theorem dX4_howManyMarks_9 : decode cX4_howManyMarks 9 = .ok (.if_icmp .ge 25, 3) := by decide +kernel
theorem dX4_howManyMarks_12 : decode cX4_howManyMarks 12 = .ok (.aload_n 0, 1) := by decide +kernel
theorem dX4_howManyMarks_13 : decode cX4_howManyMarks 13 = .ok (.getfield 25, 3) := by decide +kernel
theorem dX4_howManyMarks_16 : decode cX4_howManyMarks 16 = .ok (.getfield 71, 3) := by decide +kernel
theorem dX4_howManyMarks_19 : decode cX4_howManyMarks 19 = .ok (.iload_n 2, 1) := by decide +kernel
theorem dX4_howManyMarks_20 : decode cX4_howManyMarks 20 = .ok (.iaload, 1) := by decide +kernel
theorem dX4_howManyMarks_21 : decode cX4_howManyMarks 21 = .ok (.iconst (-1), 1) := by decide +kernel
theorem dX4_howManyMarks_22 : decode cX4_howManyMarks 22 = .ok (.if_icmp .eq 6, 3) := by decide +kernel
theorem dX4_howManyMarks_25 : decode cX4_howManyMarks 25 = .ok (.iinc 1 1, 3) := by decide +kernel
theorem dX4_howManyMarks_28 : decode cX4_howManyMarks 28 = .ok (.iinc 2 1, 3) := by decide +kernel
theorem dX4_howManyMarks_31 : decode cX4_howManyMarks 31 = .ok (.goto (-27), 3) := by decide +kernel
theorem dX4_howManyMarks_34 : decode cX4_howManyMarks 34 = .ok (.iload_n 1, 1) := by decide +kernel
theorem dX4_howManyMarks_35 : decode cX4_howManyMarks 35 = .ok (.ireturn, 1) := by decide +kernel
theorem dX4_remember_0 : decode cX4_remember 0 = .ok (.aload_n 0, 1) := by decide +kernel
theorem dX4_remember_1 : decode cX4_remember 1 = .ok (.getfield 48, 3) := by decide +kernel
theorem dX4_remember_4 : decode cX4_remember 4 = .ok (.bipush 8, 2) := by decide +kernel
theorem dX4_remember_6 : decode cX4_remember 6 = .ok (.if_icmp .ne 7, 3) := by decide +kernel
theorem dX4_remember_9 : decode cX4_remember 9 = .ok (.aload_n 0, 1) := by decide +kernel
theorem dX4_remember_10 : decode cX4_remember 10 = .ok (.invokevirtual 74, 3) := by decide +kernel
theorem dX4_remember_13 : decode cX4_remember 13 = .ok (.aload_n 0, 1) := by decide +kernel
theorem dX4_remember_14 : decode cX4_remember 14 = .ok (.getfield 32, 3) := by decide +kernel
theorem dX4_remember_17 : decode cX4_remember 17 = .ok (.aload_n 0, 1) := by decide +kernel
theorem dX4_remember_18 : decode cX4_remember 18 = .ok (.getfield 48, 3) := by decide +kernel
theorem dX4_remember_21 : decode cX4_remember 21 = .ok (.aaload, 1) := by decide +kernel
theorem dX4_remember_22 : decode cX4_remember 22 = .ok (.aload_n 0, 1) := by decide +kernel
theorem dX4_remember_23 : decode cX4_remember 23 = .ok (.getfield 25, 3) := by decide +kernel
theorem dX4_remember_26 : decode cX4_remember 26 = .ok (.invokevirtual 57, 3) := by decide +kernel
theorem dX4_remember_29 : decode cX4_remember 29 = .ok (.aload_n 0, 1) := by decide +kernel
theorem dX4_remember_30 : decode cX4_remember 30 = .ok (.dup, 1) := by decide +kernel
theorem dX4_remember_31 : decode cX4_remember 31 = .ok (.getfield 48, 3) := by decide +kernel
theorem dX4_remember_34 : decode cX4_remember 34 = .ok (.iconst 1, 1) := by decide +kernel
theorem dX4_remember_35 : decode cX4_remember 35 = .ok (.iadd, 1) := by decide +kernel
theorem dX4_remember_36 : decode cX4_remember 36 = .ok (.putfield 48, 3) := by decide +kernel
theorem dX4_remember_39 : decode cX4_remember 39 = .ok (.return_, 1) := by decide +kernel
theorem dX4_dropOldest_0 : decode cX4_dropOldest 0 = .ok (.aload_n 0, 1) := by decide +kernel
theorem dX4_dropOldest_1 : decode cX4_dropOldest 1 = .ok (.getfield 32, 3) := by decide +kernel
theorem dX4_dropOldest_4 : decode cX4_dropOldest 4 = .ok (.iconst 0, 1) := by decide +kernel
theorem dX4_dropOldest_5 : decode cX4_dropOldest 5 = .ok (.aaload, 1) := by decide +kernel
theorem dX4_dropOldest_6 : decode cX4_dropOldest 6 = .ok (.astore_n 1, 1) := by decide +kernel
theorem dX4_dropOldest_7 : decode cX4_dropOldest 7 = .ok (.iconst 1, 1) := by decide +kernel
theorem dX4_dropOldest_8 : decode cX4_dropOldest 8 = .ok (.istore_n 2, 1) := by decide +kernel
theorem dX4_dropOldest_9 : decode cX4_dropOldest 9 = .ok (.iload_n 2, 1) := by decide +kernel
theorem dX4_dropOldest_10 : decode cX4_dropOldest 10 = .ok (.bipush 8, 2) := by decide +kernel
theorem dX4_dropOldest_12 : decode cX4_dropOldest 12 = .ok (.if_icmp .ge 23, 3) := by decide +kernel
theorem dX4_dropOldest_15 : decode cX4_dropOldest 15 = .ok (.aload_n 0, 1) := by decide +kernel
theorem dX4_dropOldest_16 : decode cX4_dropOldest 16 = .ok (.getfield 32, 3) := by decide +kernel
theorem dX4_dropOldest_19 : decode cX4_dropOldest 19 = .ok (.iload_n 2, 1) := by decide +kernel
theorem dX4_dropOldest_20 : decode cX4_dropOldest 20 = .ok (.iconst 1, 1) := by decide +kernel
theorem dX4_dropOldest_21 : decode cX4_dropOldest 21 = .ok (.isub, 1) := by decide +kernel
theorem dX4_dropOldest_22 : decode cX4_dropOldest 22 = .ok (.aload_n 0, 1) := by decide +kernel
theorem dX4_dropOldest_23 : decode cX4_dropOldest 23 = .ok (.getfield 32, 3) := by decide +kernel
theorem dX4_dropOldest_26 : decode cX4_dropOldest 26 = .ok (.iload_n 2, 1) := by decide +kernel
theorem dX4_dropOldest_27 : decode cX4_dropOldest 27 = .ok (.aaload, 1) := by decide +kernel
theorem dX4_dropOldest_28 : decode cX4_dropOldest 28 = .ok (.aastore, 1) := by decide +kernel
theorem dX4_dropOldest_29 : decode cX4_dropOldest 29 = .ok (.iinc 2 1, 3) := by decide +kernel
theorem dX4_dropOldest_32 : decode cX4_dropOldest 32 = .ok (.goto (-23), 3) := by decide +kernel
theorem dX4_dropOldest_35 : decode cX4_dropOldest 35 = .ok (.aload_n 0, 1) := by decide +kernel
theorem dX4_dropOldest_36 : decode cX4_dropOldest 36 = .ok (.getfield 32, 3) := by decide +kernel
theorem dX4_dropOldest_39 : decode cX4_dropOldest 39 = .ok (.bipush 7, 2) := by decide +kernel
theorem dX4_dropOldest_41 : decode cX4_dropOldest 41 = .ok (.aload_n 1, 1) := by decide +kernel
theorem dX4_dropOldest_42 : decode cX4_dropOldest 42 = .ok (.aastore, 1) := by decide +kernel
theorem dX4_dropOldest_43 : decode cX4_dropOldest 43 = .ok (.aload_n 0, 1) := by decide +kernel
theorem dX4_dropOldest_44 : decode cX4_dropOldest 44 = .ok (.bipush 7, 2) := by decide +kernel
theorem dX4_dropOldest_46 : decode cX4_dropOldest 46 = .ok (.putfield 48, 3) := by decide +kernel
theorem dX4_dropOldest_49 : decode cX4_dropOldest 49 = .ok (.return_, 1) := by decide +kernel
theorem dX4_goBack_0 : decode cX4_goBack 0 = .ok (.aload_n 0, 1) := by decide +kernel
theorem dX4_goBack_1 : decode cX4_goBack 1 = .ok (.getfield 48, 3) := by decide +kernel
theorem dX4_goBack_4 : decode cX4_goBack 4 = .ok (.ifCond .le 29, 3) := by decide +kernel
theorem dX4_goBack_7 : decode cX4_goBack 7 = .ok (.aload_n 0, 1) := by decide +kernel
theorem dX4_goBack_8 : decode cX4_goBack 8 = .ok (.dup, 1) := by decide +kernel
theorem dX4_goBack_9 : decode cX4_goBack 9 = .ok (.getfield 48, 3) := by decide +kernel
theorem dX4_goBack_12 : decode cX4_goBack 12 = .ok (.iconst 1, 1) := by decide +kernel
theorem dX4_goBack_13 : decode cX4_goBack 13 = .ok (.isub, 1) := by decide +kernel
theorem dX4_goBack_14 : decode cX4_goBack 14 = .ok (.putfield 48, 3) := by decide +kernel
theorem dX4_goBack_17 : decode cX4_goBack 17 = .ok (.aload_n 0, 1) := by decide +kernel
theorem dX4_goBack_18 : decode cX4_goBack 18 = .ok (.getfield 25, 3) := by decide +kernel
theorem dX4_goBack_21 : decode cX4_goBack 21 = .ok (.aload_n 0, 1) := by decide +kernel
theorem dX4_goBack_22 : decode cX4_goBack 22 = .ok (.getfield 32, 3) := by decide +kernel
theorem dX4_goBack_25 : decode cX4_goBack 25 = .ok (.aload_n 0, 1) := by decide +kernel
theorem dX4_goBack_26 : decode cX4_goBack 26 = .ok (.getfield 48, 3) := by decide +kernel
theorem dX4_goBack_29 : decode cX4_goBack 29 = .ok (.aaload, 1) := by decide +kernel
theorem dX4_goBack_30 : decode cX4_goBack 30 = .ok (.invokevirtual 57, 3) := by decide +kernel
theorem dX4_goBack_33 : decode cX4_goBack 33 = .ok (.return_, 1) := by decide +kernel
theorem dX4_leftBehind_0 : decode cX4_leftBehind 0 = .ok (.iload_n 2, 1) := by decide +kernel
theorem dX4_leftBehind_1 : decode cX4_leftBehind 1 = .ok (.iload_n 3, 1) := by decide +kernel
theorem dX4_leftBehind_2 : decode cX4_leftBehind 2 = .ok (.if_icmp .le 7, 3) := by decide +kernel
theorem dX4_leftBehind_5 : decode cX4_leftBehind 5 = .ok (.iconst (-1), 1) := by decide +kernel
theorem dX4_leftBehind_6 : decode cX4_leftBehind 6 = .ok (.goto 20, 3) := by decide +kernel
theorem dX4_leftBehind_9 : decode cX4_leftBehind 9 = .ok (.aload_n 0, 1) := by decide +kernel
theorem dX4_leftBehind_10 : decode cX4_leftBehind 10 = .ok (.getfield 25, 3) := by decide +kernel
theorem dX4_leftBehind_13 : decode cX4_leftBehind 13 = .ok (.getfield 71, 3) := by decide +kernel
theorem dX4_leftBehind_16 : decode cX4_leftBehind 16 = .ok (.iload_n 1, 1) := by decide +kernel
theorem dX4_leftBehind_17 : decode cX4_leftBehind 17 = .ok (.iaload, 1) := by decide +kernel
theorem dX4_leftBehind_18 : decode cX4_leftBehind 18 = .ok (.iload_n 3, 1) := by decide +kernel
theorem dX4_leftBehind_19 : decode cX4_leftBehind 19 = .ok (.iload_n 2, 1) := by decide +kernel
theorem dX4_leftBehind_20 : decode cX4_leftBehind 20 = .ok (.isub, 1) := by decide +kernel
theorem dX4_leftBehind_21 : decode cX4_leftBehind 21 = .ok (.iload 4, 2) := by decide +kernel
theorem dX4_leftBehind_23 : decode cX4_leftBehind 23 = .ok (.invokestatic 77, 3) := by decide +kernel
theorem dX4_leftBehind_26 : decode cX4_leftBehind 26 = .ok (.ireturn, 1) := by decide +kernel
theorem dX4_say_0 : decode cX4_say 0 = .ok (.aload_n 0, 1) := by decide +kernel
theorem dX4_say_1 : decode cX4_say 1 = .ok (.getfield 9, 3) := by decide +kernel
theorem dX4_say_4 : decode cX4_say 4 = .ok (.istore_n 1, 1) := by decide +kernel
theorem dX4_say_5 : decode cX4_say 5 = .ok (.iconst 0, 1) := by decide +kernel
theorem dX4_say_6 : decode cX4_say 6 = .ok (.istore_n 2, 1) := by decide +kernel
theorem dX4_say_7 : decode cX4_say 7 = .ok (.iload_n 2, 1) := by decide +kernel
theorem dX4_say_8 : decode cX4_say 8 = .ok (.aload_n 0, 1) := by decide +kernel
theorem dX4_say_9 : decode cX4_say 9 = .ok (.getfield 42, 3) := by decide +kernel
theorem dX4_say_12 : decode cX4_say 12 = .ok (.if_icmp .ge 41, 3) := by decide +kernel
theorem dX4_say_15 : decode cX4_say 15 = .ok (.aload_n 0, 1) := by decide +kernel
theorem dX4_say_16 : decode cX4_say 16 = .ok (.iload_n 2, 1) := by decide +kernel
theorem dX4_say_17 : decode cX4_say 17 = .ok (.aload_n 0, 1) := by decide +kernel
theorem dX4_say_18 : decode cX4_say 18 = .ok (.getfield 18, 3) := by decide +kernel
theorem dX4_say_21 : decode cX4_say 21 = .ok (.iload_n 2, 1) := by decide +kernel
theorem dX4_say_22 : decode cX4_say 22 = .ok (.iaload, 1) := by decide +kernel
theorem dX4_say_23 : decode cX4_say 23 = .ok (.iload_n 1, 1) := by decide +kernel
theorem dX4_say_24 : decode cX4_say 24 = .ok (.aload_n 0, 1) := by decide +kernel
theorem dX4_say_25 : decode cX4_say 25 = .ok (.getfield 9, 3) := by decide +kernel
theorem dX4_say_28 : decode cX4_say 28 = .ok (.invokevirtual 80, 3) := by decide +kernel
theorem dX4_say_31 : decode cX4_say 31 = .ok (.istore_n 1, 1) := by decide +kernel
theorem dX4_say_32 : decode cX4_say 32 = .ok (.iload_n 1, 1) := by decide +kernel
theorem dX4_say_33 : decode cX4_say 33 = .ok (.iconst (-1), 1) := by decide +kernel
theorem dX4_say_34 : decode cX4_say 34 = .ok (.if_icmp .ne 5, 3) := by decide +kernel
theorem dX4_say_37 : decode cX4_say 37 = .ok (.iload_n 2, 1) := by decide +kernel
theorem dX4_say_38 : decode cX4_say 38 = .ok (.ireturn, 1) := by decide +kernel
theorem dX4_say_39 : decode cX4_say 39 = .ok (.aload_n 0, 1) := by decide +kernel
theorem dX4_say_40 : decode cX4_say 40 = .ok (.getfield 25, 3) := by decide +kernel
theorem dX4_say_43 : decode cX4_say 43 = .ok (.iload_n 2, 1) := by decide +kernel
theorem dX4_say_44 : decode cX4_say 44 = .ok (.invokevirtual 84, 3) := by decide +kernel
theorem dX4_say_47 : decode cX4_say 47 = .ok (.iinc 2 1, 3) := by decide +kernel
theorem dX4_say_50 : decode cX4_say 50 = .ok (.goto (-43), 3) := by decide +kernel
theorem dX4_say_53 : decode cX4_say 53 = .ok (.aload_n 0, 1) := by decide +kernel
theorem dX4_say_54 : decode cX4_say 54 = .ok (.getfield 42, 3) := by decide +kernel
theorem dX4_say_57 : decode cX4_say 57 = .ok (.ireturn, 1) := by decide +kernel
theorem dX4_stuckAt_0 : decode cX4_stuckAt 0 = .ok (.iload_n 1, 1) := by decide +kernel
theorem dX4_stuckAt_1 : decode cX4_stuckAt 1 = .ok (.istore_n 3, 1) := by decide +kernel
theorem dX4_stuckAt_2 : decode cX4_stuckAt 2 = .ok (.iconst 0, 1) := by decide +kernel
theorem dX4_stuckAt_3 : decode cX4_stuckAt 3 = .ok (.istore 4, 2) := by decide +kernel
theorem dX4_stuckAt_5 : decode cX4_stuckAt 5 = .ok (.iload 4, 2) := by decide +kernel
theorem dX4_stuckAt_7 : decode cX4_stuckAt 7 = .ok (.aload_n 0, 1) := by decide +kernel
theorem dX4_stuckAt_8 : decode cX4_stuckAt 8 = .ok (.getfield 42, 3) := by decide +kernel
theorem dX4_stuckAt_11 : decode cX4_stuckAt 11 = .ok (.if_icmp .ge 39, 3) := by decide +kernel
theorem dX4_stuckAt_14 : decode cX4_stuckAt 14 = .ok (.iload 4, 2) := by decide +kernel
theorem dX4_stuckAt_16 : decode cX4_stuckAt 16 = .ok (.iload_n 2, 1) := by decide +kernel
theorem dX4_stuckAt_17 : decode cX4_stuckAt 17 = .ok (.if_icmp .eq 19, 3) := by decide +kernel
theorem dX4_stuckAt_20 : decode cX4_stuckAt 20 = .ok (.aload_n 0, 1) := by decide +kernel
theorem dX4_stuckAt_21 : decode cX4_stuckAt 21 = .ok (.iload 4, 2) := by decide +kernel
theorem dX4_stuckAt_23 : decode cX4_stuckAt 23 = .ok (.aload_n 0, 1) := by decide +kernel
theorem dX4_stuckAt_24 : decode cX4_stuckAt 24 = .ok (.getfield 18, 3) := by decide +kernel
theorem dX4_stuckAt_27 : decode cX4_stuckAt 27 = .ok (.iload 4, 2) := by decide +kernel
theorem dX4_stuckAt_29 : decode cX4_stuckAt 29 = .ok (.iaload, 1) := by decide +kernel
theorem dX4_stuckAt_30 : decode cX4_stuckAt 30 = .ok (.iload_n 3, 1) := by decide +kernel
theorem dX4_stuckAt_31 : decode cX4_stuckAt 31 = .ok (.iload_n 1, 1) := by decide +kernel
theorem dX4_stuckAt_32 : decode cX4_stuckAt 32 = .ok (.invokevirtual 80, 3) := by decide +kernel
theorem dX4_stuckAt_35 : decode cX4_stuckAt 35 = .ok (.istore_n 3, 1) := by decide +kernel
theorem dX4_stuckAt_36 : decode cX4_stuckAt 36 = .ok (.iload_n 3, 1) := by decide +kernel
theorem dX4_stuckAt_37 : decode cX4_stuckAt 37 = .ok (.iconst (-1), 1) := by decide +kernel
theorem dX4_stuckAt_38 : decode cX4_stuckAt 38 = .ok (.if_icmp .ne 6, 3) := by decide +kernel
theorem dX4_stuckAt_41 : decode cX4_stuckAt 41 = .ok (.iload 4, 2) := by decide +kernel
theorem dX4_stuckAt_43 : decode cX4_stuckAt 43 = .ok (.ireturn, 1) := by decide +kernel
theorem dX4_stuckAt_44 : decode cX4_stuckAt 44 = .ok (.iinc 4 1, 3) := by decide +kernel
theorem dX4_stuckAt_47 : decode cX4_stuckAt 47 = .ok (.goto (-42), 3) := by decide +kernel
theorem dX4_stuckAt_50 : decode cX4_stuckAt 50 = .ok (.iconst (-1), 1) := by decide +kernel
theorem dX4_stuckAt_51 : decode cX4_stuckAt 51 = .ok (.ireturn, 1) := by decide +kernel
theorem dX4_breathsStuckAt_0 : decode cX4_breathsStuckAt 0 = .ok (.iconst 0, 1) := by decide +kernel
theorem dX4_breathsStuckAt_1 : decode cX4_breathsStuckAt 1 = .ok (.istore_n 2, 1) := by decide +kernel
theorem dX4_breathsStuckAt_2 : decode cX4_breathsStuckAt 2 = .ok (.iconst 1, 1) := by decide +kernel
theorem dX4_breathsStuckAt_3 : decode cX4_breathsStuckAt 3 = .ok (.istore_n 3, 1) := by decide +kernel
theorem dX4_breathsStuckAt_4 : decode cX4_breathsStuckAt 4 = .ok (.iload_n 3, 1) := by decide +kernel
theorem dX4_breathsStuckAt_5 : decode cX4_breathsStuckAt 5 = .ok (.bipush 30, 2) := by decide +kernel
theorem dX4_breathsStuckAt_7 : decode cX4_breathsStuckAt 7 = .ok (.if_icmp .gt 25, 3) := by decide +kernel
theorem dX4_breathsStuckAt_10 : decode cX4_breathsStuckAt 10 = .ok (.aload_n 0, 1) := by decide +kernel
theorem dX4_breathsStuckAt_11 : decode cX4_breathsStuckAt 11 = .ok (.iload_n 3, 1) := by decide +kernel
theorem dX4_breathsStuckAt_12 : decode cX4_breathsStuckAt 12 = .ok (.iconst (-1), 1) := by decide +kernel
theorem dX4_breathsStuckAt_13 : decode cX4_breathsStuckAt 13 = .ok (.invokevirtual 88, 3) := by decide +kernel
theorem dX4_breathsStuckAt_16 : decode cX4_breathsStuckAt 16 = .ok (.iload_n 1, 1) := by decide +kernel
theorem dX4_breathsStuckAt_17 : decode cX4_breathsStuckAt 17 = .ok (.if_icmp .ne 9, 3) := by decide +kernel
theorem dX4_breathsStuckAt_20 : decode cX4_breathsStuckAt 20 = .ok (.iload_n 2, 1) := by decide +kernel
theorem dX4_breathsStuckAt_21 : decode cX4_breathsStuckAt 21 = .ok (.iconst 1, 1) := by decide +kernel
theorem dX4_breathsStuckAt_22 : decode cX4_breathsStuckAt 22 = .ok (.iload_n 3, 1) := by decide +kernel
theorem dX4_breathsStuckAt_23 : decode cX4_breathsStuckAt 23 = .ok (.ishl, 1) := by decide +kernel
theorem dX4_breathsStuckAt_24 : decode cX4_breathsStuckAt 24 = .ok (.ior, 1) := by decide +kernel
theorem dX4_breathsStuckAt_25 : decode cX4_breathsStuckAt 25 = .ok (.istore_n 2, 1) := by decide +kernel
theorem dX4_breathsStuckAt_26 : decode cX4_breathsStuckAt 26 = .ok (.iinc 3 1, 3) := by decide +kernel
theorem dX4_breathsStuckAt_29 : decode cX4_breathsStuckAt 29 = .ok (.goto (-25), 3) := by decide +kernel
theorem dX4_breathsStuckAt_32 : decode cX4_breathsStuckAt 32 = .ok (.iload_n 2, 1) := by decide +kernel
theorem dX4_breathsStuckAt_33 : decode cX4_breathsStuckAt 33 = .ok (.ireturn, 1) := by decide +kernel
theorem dX4_addHeard_0 : decode cX4_addHeard 0 = .ok (.aload_n 0, 1) := by decide +kernel
theorem dX4_addHeard_1 : decode cX4_addHeard 1 = .ok (.getfield 29, 3) := by decide +kernel
theorem dX4_addHeard_4 : decode cX4_addHeard 4 = .ok (.aload_n 0, 1) := by decide +kernel
theorem dX4_addHeard_5 : decode cX4_addHeard 5 = .ok (.getfield 45, 3) := by decide +kernel
theorem dX4_addHeard_8 : decode cX4_addHeard 8 = .ok (.iload_n 1, 1) := by decide +kernel
theorem dX4_addHeard_9 : decode cX4_addHeard 9 = .ok (.iastore, 1) := by decide +kernel
theorem dX4_addHeard_10 : decode cX4_addHeard 10 = .ok (.aload_n 0, 1) := by decide +kernel
theorem dX4_addHeard_11 : decode cX4_addHeard 11 = .ok (.dup, 1) := by decide +kernel
theorem dX4_addHeard_12 : decode cX4_addHeard 12 = .ok (.getfield 45, 3) := by decide +kernel
theorem dX4_addHeard_15 : decode cX4_addHeard 15 = .ok (.iconst 1, 1) := by decide +kernel
theorem dX4_addHeard_16 : decode cX4_addHeard 16 = .ok (.iadd, 1) := by decide +kernel
theorem dX4_addHeard_17 : decode cX4_addHeard 17 = .ok (.putfield 45, 3) := by decide +kernel
theorem dX4_addHeard_20 : decode cX4_addHeard 20 = .ok (.return_, 1) := by decide +kernel
theorem dX4_breathsHeard_0 : decode cX4_breathsHeard 0 = .ok (.ldc 92, 2) := by decide +kernel
theorem dX4_breathsHeard_2 : decode cX4_breathsHeard 2 = .ok (.istore_n 1, 1) := by decide +kernel
theorem dX4_breathsHeard_3 : decode cX4_breathsHeard 3 = .ok (.iconst 0, 1) := by decide +kernel
theorem dX4_breathsHeard_4 : decode cX4_breathsHeard 4 = .ok (.istore_n 2, 1) := by decide +kernel
theorem dX4_breathsHeard_5 : decode cX4_breathsHeard 5 = .ok (.iload_n 2, 1) := by decide +kernel
theorem dX4_breathsHeard_6 : decode cX4_breathsHeard 6 = .ok (.aload_n 0, 1) := by decide +kernel
theorem dX4_breathsHeard_7 : decode cX4_breathsHeard 7 = .ok (.getfield 45, 3) := by decide +kernel
theorem dX4_breathsHeard_10 : decode cX4_breathsHeard 10 = .ok (.if_icmp .ge 18, 3) := by decide +kernel
theorem dX4_breathsHeard_13 : decode cX4_breathsHeard 13 = .ok (.iload_n 1, 1) := by decide +kernel
theorem dX4_breathsHeard_14 : decode cX4_breathsHeard 14 = .ok (.aload_n 0, 1) := by decide +kernel
theorem dX4_breathsHeard_15 : decode cX4_breathsHeard 15 = .ok (.getfield 29, 3) := by decide +kernel
theorem dX4_breathsHeard_18 : decode cX4_breathsHeard 18 = .ok (.iload_n 2, 1) := by decide +kernel
theorem dX4_breathsHeard_19 : decode cX4_breathsHeard 19 = .ok (.iaload, 1) := by decide +kernel
theorem dX4_breathsHeard_20 : decode cX4_breathsHeard 20 = .ok (.iand, 1) := by decide +kernel
theorem dX4_breathsHeard_21 : decode cX4_breathsHeard 21 = .ok (.istore_n 1, 1) := by decide +kernel
theorem dX4_breathsHeard_22 : decode cX4_breathsHeard 22 = .ok (.iinc 2 1, 3) := by decide +kernel
theorem dX4_breathsHeard_25 : decode cX4_breathsHeard 25 = .ok (.goto (-20), 3) := by decide +kernel
theorem dX4_breathsHeard_28 : decode cX4_breathsHeard 28 = .ok (.iload_n 1, 1) := by decide +kernel
theorem dX4_breathsHeard_29 : decode cX4_breathsHeard 29 = .ok (.ireturn, 1) := by decide +kernel
theorem dX4_lastIsEnded_0 : decode cX4_lastIsEnded 0 = .ok (.aload_n 0, 1) := by decide +kernel
theorem dX4_lastIsEnded_1 : decode cX4_lastIsEnded 1 = .ok (.getfield 42, 3) := by decide +kernel
theorem dX4_lastIsEnded_4 : decode cX4_lastIsEnded 4 = .ok (.ifCond .le 27, 3) := by decide +kernel
theorem dX4_lastIsEnded_7 : decode cX4_lastIsEnded 7 = .ok (.aload_n 0, 1) := by decide +kernel
theorem dX4_lastIsEnded_8 : decode cX4_lastIsEnded 8 = .ok (.getfield 25, 3) := by decide +kernel
theorem dX4_lastIsEnded_11 : decode cX4_lastIsEnded 11 = .ok (.getfield 71, 3) := by decide +kernel
theorem dX4_lastIsEnded_14 : decode cX4_lastIsEnded 14 = .ok (.aload_n 0, 1) := by decide +kernel
theorem dX4_lastIsEnded_15 : decode cX4_lastIsEnded 15 = .ok (.getfield 42, 3) := by decide +kernel
theorem dX4_lastIsEnded_18 : decode cX4_lastIsEnded 18 = .ok (.iconst 1, 1) := by decide +kernel
theorem dX4_lastIsEnded_19 : decode cX4_lastIsEnded 19 = .ok (.isub, 1) := by decide +kernel
theorem dX4_lastIsEnded_20 : decode cX4_lastIsEnded 20 = .ok (.iaload, 1) := by decide +kernel
theorem dX4_lastIsEnded_21 : decode cX4_lastIsEnded 21 = .ok (.invokestatic 93, 3) := by decide +kernel
theorem dX4_lastIsEnded_24 : decode cX4_lastIsEnded 24 = .ok (.ifCond .eq 7, 3) := by decide +kernel
theorem dX4_lastIsEnded_27 : decode cX4_lastIsEnded 27 = .ok (.iconst 1, 1) := by decide +kernel
theorem dX4_lastIsEnded_28 : decode cX4_lastIsEnded 28 = .ok (.goto 4, 3) := by decide +kernel
theorem dX4_lastIsEnded_31 : decode cX4_lastIsEnded 31 = .ok (.iconst 0, 1) := by decide +kernel
theorem dX4_lastIsEnded_32 : decode cX4_lastIsEnded 32 = .ok (.ireturn, 1) := by decide +kernel
theorem dX4_howManySentences_0 : decode cX4_howManySentences 0 = .ok (.iconst 0, 1) := by decide +kernel
theorem dX4_howManySentences_1 : decode cX4_howManySentences 1 = .ok (.istore_n 1, 1) := by decide +kernel
theorem dX4_howManySentences_2 : decode cX4_howManySentences 2 = .ok (.iconst 0, 1) := by decide +kernel
theorem dX4_howManySentences_3 : decode cX4_howManySentences 3 = .ok (.istore_n 2, 1) := by decide +kernel
theorem dX4_howManySentences_4 : decode cX4_howManySentences 4 = .ok (.iload_n 2, 1) := by decide +kernel
theorem dX4_howManySentences_5 : decode cX4_howManySentences 5 = .ok (.aload_n 0, 1) := by decide +kernel
theorem dX4_howManySentences_6 : decode cX4_howManySentences 6 = .ok (.getfield 42, 3) := by decide +kernel
theorem dX4_howManySentences_9 : decode cX4_howManySentences 9 = .ok (.if_icmp .ge 27, 3) := by decide +kernel
theorem dX4_howManySentences_12 : decode cX4_howManySentences 12 = .ok (.aload_n 0, 1) := by decide +kernel
theorem dX4_howManySentences_13 : decode cX4_howManySentences 13 = .ok (.getfield 25, 3) := by decide +kernel
theorem dX4_howManySentences_16 : decode cX4_howManySentences 16 = .ok (.getfield 71, 3) := by decide +kernel
theorem dX4_howManySentences_19 : decode cX4_howManySentences 19 = .ok (.iload_n 2, 1) := by decide +kernel
theorem dX4_howManySentences_20 : decode cX4_howManySentences 20 = .ok (.iaload, 1) := by decide +kernel
theorem dX4_howManySentences_21 : decode cX4_howManySentences 21 = .ok (.invokestatic 93, 3) := by decide +kernel
theorem dX4_howManySentences_24 : decode cX4_howManySentences 24 = .ok (.ifCond .eq 6, 3) := by decide +kernel
theorem dX4_howManySentences_27 : decode cX4_howManySentences 27 = .ok (.iinc 1 1, 3) := by decide +kernel
theorem dX4_howManySentences_30 : decode cX4_howManySentences 30 = .ok (.iinc 2 1, 3) := by decide +kernel
theorem dX4_howManySentences_33 : decode cX4_howManySentences 33 = .ok (.goto (-29), 3) := by decide +kernel
theorem dX4_howManySentences_36 : decode cX4_howManySentences 36 = .ok (.aload_n 0, 1) := by decide +kernel
theorem dX4_howManySentences_37 : decode cX4_howManySentences 37 = .ok (.getfield 42, 3) := by decide +kernel
theorem dX4_howManySentences_40 : decode cX4_howManySentences 40 = .ok (.ifCond .eq 10, 3) := by decide +kernel
theorem dX4_howManySentences_43 : decode cX4_howManySentences 43 = .ok (.aload_n 0, 1) := by decide +kernel
theorem dX4_howManySentences_44 : decode cX4_howManySentences 44 = .ok (.invokevirtual 97, 3) := by decide +kernel
theorem dX4_howManySentences_47 : decode cX4_howManySentences 47 = .ok (.ifCond .eq 7, 3) := by decide +kernel
theorem dX4_howManySentences_50 : decode cX4_howManySentences 50 = .ok (.iload_n 1, 1) := by decide +kernel
theorem dX4_howManySentences_51 : decode cX4_howManySentences 51 = .ok (.goto 6, 3) := by decide +kernel
theorem dX4_howManySentences_54 : decode cX4_howManySentences 54 = .ok (.iload_n 1, 1) := by decide +kernel
theorem dX4_howManySentences_55 : decode cX4_howManySentences 55 = .ok (.iconst 1, 1) := by decide +kernel
theorem dX4_howManySentences_56 : decode cX4_howManySentences 56 = .ok (.iadd, 1) := by decide +kernel
theorem dX4_howManySentences_57 : decode cX4_howManySentences 57 = .ok (.ireturn, 1) := by decide +kernel
theorem dX4_longestSentence_0 : decode cX4_longestSentence 0 = .ok (.iconst 0, 1) := by decide +kernel
theorem dX4_longestSentence_1 : decode cX4_longestSentence 1 = .ok (.istore_n 2, 1) := by decide +kernel
theorem dX4_longestSentence_2 : decode cX4_longestSentence 2 = .ok (.iconst (-1), 1) := by decide +kernel
theorem dX4_longestSentence_3 : decode cX4_longestSentence 3 = .ok (.istore_n 3, 1) := by decide +kernel
theorem dX4_longestSentence_4 : decode cX4_longestSentence 4 = .ok (.iconst 0, 1) := by decide +kernel
theorem dX4_longestSentence_5 : decode cX4_longestSentence 5 = .ok (.istore 4, 2) := by decide +kernel
theorem dX4_longestSentence_7 : decode cX4_longestSentence 7 = .ok (.iconst 0, 1) := by decide +kernel
theorem dX4_longestSentence_8 : decode cX4_longestSentence 8 = .ok (.istore 5, 2) := by decide +kernel
theorem dX4_longestSentence_10 : decode cX4_longestSentence 10 = .ok (.iconst 0, 1) := by decide +kernel
theorem dX4_longestSentence_11 : decode cX4_longestSentence 11 = .ok (.istore 6, 2) := by decide +kernel
theorem dX4_longestSentence_13 : decode cX4_longestSentence 13 = .ok (.iload 6, 2) := by decide +kernel
theorem dX4_longestSentence_15 : decode cX4_longestSentence 15 = .ok (.aload_n 0, 1) := by decide +kernel
theorem dX4_longestSentence_16 : decode cX4_longestSentence 16 = .ok (.getfield 42, 3) := by decide +kernel
theorem dX4_longestSentence_19 : decode cX4_longestSentence 19 = .ok (.if_icmp .ge 46, 3) := by decide +kernel
theorem dX4_longestSentence_22 : decode cX4_longestSentence 22 = .ok (.iinc 5 1, 3) := by decide +kernel
theorem dX4_longestSentence_25 : decode cX4_longestSentence 25 = .ok (.iload 5, 2) := by decide +kernel
theorem dX4_longestSentence_27 : decode cX4_longestSentence 27 = .ok (.iload_n 2, 1) := by decide +kernel
theorem dX4_longestSentence_28 : decode cX4_longestSentence 28 = .ok (.if_icmp .le 9, 3) := by decide +kernel
theorem dX4_longestSentence_31 : decode cX4_longestSentence 31 = .ok (.iload 5, 2) := by decide +kernel
theorem dX4_longestSentence_33 : decode cX4_longestSentence 33 = .ok (.istore_n 2, 1) := by decide +kernel
theorem dX4_longestSentence_34 : decode cX4_longestSentence 34 = .ok (.iload 4, 2) := by decide +kernel
theorem dX4_longestSentence_36 : decode cX4_longestSentence 36 = .ok (.istore_n 3, 1) := by decide +kernel
theorem dX4_longestSentence_37 : decode cX4_longestSentence 37 = .ok (.aload_n 0, 1) := by decide +kernel
theorem dX4_longestSentence_38 : decode cX4_longestSentence 38 = .ok (.getfield 25, 3) := by decide +kernel
theorem dX4_longestSentence_41 : decode cX4_longestSentence 41 = .ok (.getfield 71, 3) := by decide +kernel
theorem dX4_longestSentence_44 : decode cX4_longestSentence 44 = .ok (.iload 6, 2) := by decide +kernel
theorem dX4_longestSentence_46 : decode cX4_longestSentence 46 = .ok (.iaload, 1) := by decide +kernel
theorem dX4_longestSentence_47 : decode cX4_longestSentence 47 = .ok (.invokestatic 93, 3) := by decide +kernel
theorem dX4_longestSentence_50 : decode cX4_longestSentence 50 = .ok (.ifCond .eq 9, 3) := by decide +kernel
theorem dX4_longestSentence_53 : decode cX4_longestSentence 53 = .ok (.iinc 4 1, 3) := by decide +kernel
theorem dX4_longestSentence_56 : decode cX4_longestSentence 56 = .ok (.iconst 0, 1) := by decide +kernel
theorem dX4_longestSentence_57 : decode cX4_longestSentence 57 = .ok (.istore 5, 2) := by decide +kernel
theorem dX4_longestSentence_59 : decode cX4_longestSentence 59 = .ok (.iinc 6 1, 3) := by decide +kernel
theorem dX4_longestSentence_62 : decode cX4_longestSentence 62 = .ok (.goto (-49), 3) := by decide +kernel
theorem dX4_longestSentence_65 : decode cX4_longestSentence 65 = .ok (.iload_n 1, 1) := by decide +kernel
theorem dX4_longestSentence_66 : decode cX4_longestSentence 66 = .ok (.ifCond .eq 7, 3) := by decide +kernel
theorem dX4_longestSentence_69 : decode cX4_longestSentence 69 = .ok (.iload_n 3, 1) := by decide +kernel
theorem dX4_longestSentence_70 : decode cX4_longestSentence 70 = .ok (.goto 4, 3) := by decide +kernel
theorem dX4_longestSentence_73 : decode cX4_longestSentence 73 = .ok (.iload_n 2, 1) := by decide +kernel
theorem dX4_longestSentence_74 : decode cX4_longestSentence 74 = .ok (.ireturn, 1) := by decide +kernel
theorem dX5_init_0 : decode cX5_init 0 = .ok (.aload_n 0, 1) := by decide +kernel
theorem dX5_init_1 : decode cX5_init 1 = .ok (.invokespecial 3, 3) := by decide +kernel
theorem dX5_init_4 : decode cX5_init 4 = .ok (.aload_n 0, 1) := by decide +kernel
theorem dX5_init_5 : decode cX5_init 5 = .ok (.bipush 13, 2) := by decide +kernel
theorem dX5_init_7 : decode cX5_init 7 = .ok (.bipush 31, 2) := by decide +kernel
theorem dX5_init_9 : decode cX5_init 9 = .ok (.multianewarray 9 2, 4) := by decide +kernel
theorem dX5_init_13 : decode cX5_init 13 = .ok (.putfield 11, 3) := by decide +kernel
theorem dX5_init_16 : decode cX5_init 16 = .ok (.aload_n 0, 1) := by decide +kernel
theorem dX5_init_17 : decode cX5_init 17 = .ok (.bipush 13, 2) := by decide +kernel
theorem dX5_init_19 : decode cX5_init 19 = .ok (.bipush 31, 2) := by decide +kernel
theorem dX5_init_21 : decode cX5_init 21 = .ok (.multianewarray 9 2, 4) := by decide +kernel
theorem dX5_init_25 : decode cX5_init 25 = .ok (.putfield 16, 3) := by decide +kernel
theorem dX5_init_28 : decode cX5_init 28 = .ok (.aload_n 0, 1) := by decide +kernel
theorem dX5_init_29 : decode cX5_init 29 = .ok (.bipush 12, 2) := by decide +kernel
theorem dX5_init_31 : decode cX5_init 31 = .ok (.bipush 31, 2) := by decide +kernel
theorem dX5_init_33 : decode cX5_init 33 = .ok (.multianewarray 9 2, 4) := by decide +kernel
theorem dX5_init_37 : decode cX5_init 37 = .ok (.putfield 19, 3) := by decide +kernel
theorem dX5_init_40 : decode cX5_init 40 = .ok (.aload_n 0, 1) := by decide +kernel
theorem dX5_init_41 : decode cX5_init 41 = .ok (.bipush 31, 2) := by decide +kernel
theorem dX5_init_43 : decode cX5_init 43 = .ok (.newarray .int, 2) := by decide +kernel
theorem dX5_init_45 : decode cX5_init 45 = .ok (.putfield 22, 3) := by decide +kernel
theorem dX5_init_48 : decode cX5_init 48 = .ok (.aload_n 0, 1) := by decide +kernel
theorem dX5_init_49 : decode cX5_init 49 = .ok (.bipush 31, 2) := by decide +kernel
theorem dX5_init_51 : decode cX5_init 51 = .ok (.newarray .int, 2) := by decide +kernel
theorem dX5_init_53 : decode cX5_init 53 = .ok (.putfield 26, 3) := by decide +kernel
theorem dX5_init_56 : decode cX5_init 56 = .ok (.return_, 1) := by decide +kernel
theorem dX5_make_0 : decode cX5_make 0 = .ok (.aload_n 1, 1) := by decide +kernel
theorem dX5_make_1 : decode cX5_make 1 = .ok (.getfield 29, 3) := by decide +kernel
theorem dX5_make_4 : decode cX5_make 4 = .ok (.istore 4, 2) := by decide +kernel
theorem dX5_make_6 : decode cX5_make 6 = .ok (.aload_n 0, 1) := by decide +kernel
theorem dX5_make_7 : decode cX5_make 7 = .ok (.getfield 11, 3) := by decide +kernel
theorem dX5_make_10 : decode cX5_make 10 = .ok (.iload 4, 2) := by decide +kernel
theorem dX5_make_12 : decode cX5_make 12 = .ok (.aaload, 1) := by decide +kernel
theorem dX5_make_13 : decode cX5_make 13 = .ok (.iconst 0, 1) := by decide +kernel
theorem dX5_make_14 : decode cX5_make 14 = .ok (.invokestatic 35, 3) := by decide +kernel
theorem dX5_make_17 : decode cX5_make 17 = .ok (.aload_n 0, 1) := by decide +kernel
theorem dX5_make_18 : decode cX5_make 18 = .ok (.getfield 16, 3) := by decide +kernel
theorem dX5_make_21 : decode cX5_make 21 = .ok (.iload 4, 2) := by decide +kernel
theorem dX5_make_23 : decode cX5_make 23 = .ok (.aaload, 1) := by decide +kernel
theorem dX5_make_24 : decode cX5_make 24 = .ok (.iconst 0, 1) := by decide +kernel
theorem dX5_make_25 : decode cX5_make 25 = .ok (.invokestatic 35, 3) := by decide +kernel
theorem dX5_make_28 : decode cX5_make 28 = .ok (.iload 4, 2) := by decide +kernel
theorem dX5_make_30 : decode cX5_make 30 = .ok (.iconst 1, 1) := by decide +kernel
theorem dX5_make_31 : decode cX5_make 31 = .ok (.isub, 1) := by decide +kernel
theorem dX5_make_32 : decode cX5_make 32 = .ok (.istore 5, 2) := by decide +kernel
theorem dX5_make_34 : decode cX5_make 34 = .ok (.iload 5, 2) := by decide +kernel
theorem dX5_make_36 : decode cX5_make 36 = .ok (.ifCond .lt 85, 3) := by decide +kernel
theorem dX5_make_39 : decode cX5_make 39 = .ok (.iload_n 3, 1) := by decide +kernel
theorem dX5_make_40 : decode cX5_make 40 = .ok (.ifCond .eq 16, 3) := by decide +kernel
theorem dX5_make_43 : decode cX5_make 43 = .ok (.iload 5, 2) := by decide +kernel
theorem dX5_make_45 : decode cX5_make 45 = .ok (.iload 4, 2) := by decide +kernel
theorem dX5_make_47 : decode cX5_make 47 = .ok (.iconst 1, 1) := by decide +kernel
theorem dX5_make_48 : decode cX5_make 48 = .ok (.isub, 1) := by decide +kernel
theorem dX5_make_49 : decode cX5_make 49 = .ok (.if_icmp .ne 7, 3) := by decide +kernel
theorem dX5_make_52 : decode cX5_make 52 = .ok (.iconst 1, 1) := by decide +kernel
theorem dX5_make_53 : decode cX5_make 53 = .ok (.goto 4, 3) := by decide +kernel
theorem dX5_make_56 : decode cX5_make 56 = .ok (.iconst 0, 1) := by decide +kernel
theorem dX5_make_57 : decode cX5_make 57 = .ok (.istore 6, 2) := by decide +kernel
theorem dX5_make_59 : decode cX5_make 59 = .ok (.aload_n 0, 1) := by decide +kernel
theorem dX5_make_60 : decode cX5_make 60 = .ok (.getfield 11, 3) := by decide +kernel
theorem dX5_make_63 : decode cX5_make 63 = .ok (.iload 5, 2) := by decide +kernel
theorem dX5_make_65 : decode cX5_make 65 = .ok (.aaload, 1) := by decide +kernel
theorem dX5_make_66 : decode cX5_make 66 = .ok (.ldc 41, 2) := by decide +kernel
theorem dX5_make_68 : decode cX5_make 68 = .ok (.invokestatic 35, 3) := by decide +kernel
theorem dX5_make_71 : decode cX5_make 71 = .ok (.aload_n 0, 1) := by decide +kernel
theorem dX5_make_72 : decode cX5_make 72 = .ok (.getfield 19, 3) := by decide +kernel
theorem dX5_make_75 : decode cX5_make 75 = .ok (.iload 5, 2) := by decide +kernel
theorem dX5_make_77 : decode cX5_make 77 = .ok (.aaload, 1) := by decide +kernel
theorem dX5_make_78 : decode cX5_make 78 = .ok (.iconst (-1), 1) := by decide +kernel
theorem dX5_make_79 : decode cX5_make 79 = .ok (.invokestatic 35, 3) := by decide +kernel
theorem dX5_make_82 : decode cX5_make 82 = .ok (.aload_n 1, 1) := by decide +kernel
theorem dX5_make_83 : decode cX5_make 83 = .ok (.getfield 42, 3) := by decide +kernel
theorem dX5_make_86 : decode cX5_make 86 = .ok (.iload 5, 2) := by decide +kernel
theorem dX5_make_88 : decode cX5_make 88 = .ok (.iaload, 1) := by decide +kernel
theorem dX5_make_89 : decode cX5_make 89 = .ok (.istore 7, 2) := by decide +kernel
theorem dX5_make_91 : decode cX5_make 91 = .ok (.iload 7, 2) := by decide +kernel
theorem dX5_make_93 : decode cX5_make 93 = .ok (.iload_n 2, 1) := by decide +kernel
theorem dX5_make_94 : decode cX5_make 94 = .ok (.if_icmp .gt 21, 3) := by decide +kernel
theorem dX5_make_97 : decode cX5_make 97 = .ok (.aload_n 0, 1) := by decide +kernel
theorem dX5_make_98 : decode cX5_make 98 = .ok (.aload_n 1, 1) := by decide +kernel
theorem dX5_make_99 : decode cX5_make 99 = .ok (.iload 5, 2) := by decide +kernel
theorem dX5_make_101 : decode cX5_make 101 = .ok (.iload 7, 2) := by decide +kernel
theorem dX5_make_103 : decode cX5_make 103 = .ok (.iload_n 2, 1) := by decide +kernel
theorem dX5_make_104 : decode cX5_make 104 = .ok (.iload 6, 2) := by decide +kernel
theorem dX5_make_106 : decode cX5_make 106 = .ok (.invokevirtual 45, 3) := by decide +kernel
theorem dX5_make_109 : decode cX5_make 109 = .ok (.iinc 7 1, 3) := by decide +kernel
theorem dX5_make_112 : decode cX5_make 112 = .ok (.goto (-21), 3) := by decide +kernel
theorem dX5_make_115 : decode cX5_make 115 = .ok (.iinc 5 (-1), 3) := by decide +kernel
theorem dX5_make_118 : decode cX5_make 118 = .ok (.goto (-84), 3) := by decide +kernel
theorem dX5_make_121 : decode cX5_make 121 = .ok (.return_, 1) := by decide +kernel
theorem dX5_choose_0 : decode cX5_choose 0 = .ok (.aload_n 1, 1) := by decide +kernel
theorem dX5_choose_1 : decode cX5_choose 1 = .ok (.getfield 49, 3) := by decide +kernel
theorem dX5_choose_4 : decode cX5_choose 4 = .ok (.getfield 53, 3) := by decide +kernel
theorem dX5_choose_7 : decode cX5_choose 7 = .ok (.iload_n 2, 1) := by decide +kernel
theorem dX5_choose_8 : decode cX5_choose 8 = .ok (.iaload, 1) := by decide +kernel
theorem dX5_choose_9 : decode cX5_choose 9 = .ok (.istore 6, 2) := by decide +kernel
theorem dX5_choose_11 : decode cX5_choose 11 = .ok (.iload 6, 2) := by decide +kernel
theorem dX5_choose_13 : decode cX5_choose 13 = .ok (.iconst (-1), 1) := by decide +kernel
theorem dX5_choose_14 : decode cX5_choose 14 = .ok (.if_icmp .ne 7, 3) := by decide +kernel
theorem dX5_choose_17 : decode cX5_choose 17 = .ok (.iconst 5, 1) := by decide +kernel
theorem dX5_choose_18 : decode cX5_choose 18 = .ok (.goto 4, 3) := by decide +kernel
theorem dX5_choose_21 : decode cX5_choose 21 = .ok (.iconst (-1), 1) := by decide +kernel
theorem dX5_choose_22 : decode cX5_choose 22 = .ok (.istore 7, 2) := by decide +kernel
theorem dX5_choose_24 : decode cX5_choose 24 = .ok (.iconst (-1), 1) := by decide +kernel
theorem dX5_choose_25 : decode cX5_choose 25 = .ok (.istore 8, 2) := by decide +kernel
theorem dX5_choose_27 : decode cX5_choose 27 = .ok (.iload 8, 2) := by decide +kernel
theorem dX5_choose_29 : decode cX5_choose 29 = .ok (.iload 7, 2) := by decide +kernel
theorem dX5_choose_31 : decode cX5_choose 31 = .ok (.if_icmp .gt 187, 3) := by decide +kernel
theorem dX5_choose_34 : decode cX5_choose 34 = .ok (.iload 8, 2) := by decide +kernel
theorem dX5_choose_36 : decode cX5_choose 36 = .ok (.iconst (-1), 1) := by decide +kernel
theorem dX5_choose_37 : decode cX5_choose 37 = .ok (.if_icmp .ne 8, 3) := by decide +kernel
theorem dX5_choose_40 : decode cX5_choose 40 = .ok (.iload 6, 2) := by decide +kernel
theorem dX5_choose_42 : decode cX5_choose 42 = .ok (.goto 5, 3) := by decide +kernel
theorem dX5_choose_45 : decode cX5_choose 45 = .ok (.iload 8, 2) := by decide +kernel
theorem dX5_choose_47 : decode cX5_choose 47 = .ok (.istore 9, 2) := by decide +kernel
theorem dX5_choose_49 : decode cX5_choose 49 = .ok (.iload 9, 2) := by decide +kernel
theorem dX5_choose_51 : decode cX5_choose 51 = .ok (.iload_n 3, 1) := by decide +kernel
theorem dX5_choose_52 : decode cX5_choose 52 = .ok (.aload_n 1, 1) := by decide +kernel
theorem dX5_choose_53 : decode cX5_choose 53 = .ok (.getfield 42, 3) := by decide +kernel
theorem dX5_choose_56 : decode cX5_choose 56 = .ok (.iload_n 2, 1) := by decide +kernel
theorem dX5_choose_57 : decode cX5_choose 57 = .ok (.iaload, 1) := by decide +kernel
theorem dX5_choose_58 : decode cX5_choose 58 = .ok (.isub, 1) := by decide +kernel
theorem dX5_choose_59 : decode cX5_choose 59 = .ok (.iload 4, 2) := by decide +kernel
theorem dX5_choose_61 : decode cX5_choose 61 = .ok (.invokestatic 60, 3) := by decide +kernel
theorem dX5_choose_64 : decode cX5_choose 64 = .ok (.istore 10, 2) := by decide +kernel
theorem dX5_choose_66 : decode cX5_choose 66 = .ok (.aload_n 0, 1) := by decide +kernel
theorem dX5_choose_67 : decode cX5_choose 67 = .ok (.getfield 11, 3) := by decide +kernel
theorem dX5_choose_70 : decode cX5_choose 70 = .ok (.iload_n 2, 1) := by decide +kernel
theorem dX5_choose_71 : decode cX5_choose 71 = .ok (.iconst 1, 1) := by decide +kernel
theorem dX5_choose_72 : decode cX5_choose 72 = .ok (.iadd, 1) := by decide +kernel
theorem dX5_choose_73 : decode cX5_choose 73 = .ok (.aaload, 1) := by decide +kernel
theorem dX5_choose_74 : decode cX5_choose 74 = .ok (.iload 10, 2) := by decide +kernel
theorem dX5_choose_76 : decode cX5_choose 76 = .ok (.iaload, 1) := by decide +kernel
theorem dX5_choose_77 : decode cX5_choose 77 = .ok (.aload_n 1, 1) := by decide +kernel
theorem dX5_choose_78 : decode cX5_choose 78 = .ok (.iload 8, 2) := by decide +kernel
theorem dX5_choose_80 : decode cX5_choose 80 = .ok (.invokevirtual 64, 3) := by decide +kernel
theorem dX5_choose_83 : decode cX5_choose 83 = .ok (.iadd, 1) := by decide +kernel
theorem dX5_choose_84 : decode cX5_choose 84 = .ok (.istore 11, 2) := by decide +kernel
theorem dX5_choose_86 : decode cX5_choose 86 = .ok (.aload_n 0, 1) := by decide +kernel
theorem dX5_choose_87 : decode cX5_choose 87 = .ok (.getfield 16, 3) := by decide +kernel
theorem dX5_choose_90 : decode cX5_choose 90 = .ok (.iload_n 2, 1) := by decide +kernel
theorem dX5_choose_91 : decode cX5_choose 91 = .ok (.iconst 1, 1) := by decide +kernel
theorem dX5_choose_92 : decode cX5_choose 92 = .ok (.iadd, 1) := by decide +kernel
theorem dX5_choose_93 : decode cX5_choose 93 = .ok (.aaload, 1) := by decide +kernel
theorem dX5_choose_94 : decode cX5_choose 94 = .ok (.iload 10, 2) := by decide +kernel
theorem dX5_choose_96 : decode cX5_choose 96 = .ok (.iaload, 1) := by decide +kernel
theorem dX5_choose_97 : decode cX5_choose 97 = .ok (.iload 8, 2) := by decide +kernel
theorem dX5_choose_99 : decode cX5_choose 99 = .ok (.iconst (-1), 1) := by decide +kernel
theorem dX5_choose_100 : decode cX5_choose 100 = .ok (.if_icmp .ne 7, 3) := by decide +kernel
theorem dX5_choose_103 : decode cX5_choose 103 = .ok (.iconst 0, 1) := by decide +kernel
theorem dX5_choose_104 : decode cX5_choose 104 = .ok (.goto 4, 3) := by decide +kernel
theorem dX5_choose_107 : decode cX5_choose 107 = .ok (.iconst 1, 1) := by decide +kernel
theorem dX5_choose_108 : decode cX5_choose 108 = .ok (.iadd, 1) := by decide +kernel
theorem dX5_choose_109 : decode cX5_choose 109 = .ok (.istore 12, 2) := by decide +kernel
theorem dX5_choose_111 : decode cX5_choose 111 = .ok (.iload 11, 2) := by decide +kernel
theorem dX5_choose_113 : decode cX5_choose 113 = .ok (.aload_n 0, 1) := by decide +kernel
theorem dX5_choose_114 : decode cX5_choose 114 = .ok (.getfield 11, 3) := by decide +kernel
theorem dX5_choose_117 : decode cX5_choose 117 = .ok (.iload_n 2, 1) := by decide +kernel
theorem dX5_choose_118 : decode cX5_choose 118 = .ok (.aaload, 1) := by decide +kernel
theorem dX5_choose_119 : decode cX5_choose 119 = .ok (.iload_n 3, 1) := by decide +kernel
theorem dX5_choose_120 : decode cX5_choose 120 = .ok (.iaload, 1) := by decide +kernel
theorem dX5_choose_121 : decode cX5_choose 121 = .ok (.if_icmp .lt 29, 3) := by decide +kernel
theorem dX5_choose_124 : decode cX5_choose 124 = .ok (.iload 11, 2) := by decide +kernel
theorem dX5_choose_126 : decode cX5_choose 126 = .ok (.aload_n 0, 1) := by decide +kernel
theorem dX5_choose_127 : decode cX5_choose 127 = .ok (.getfield 11, 3) := by decide +kernel
theorem dX5_choose_130 : decode cX5_choose 130 = .ok (.iload_n 2, 1) := by decide +kernel
theorem dX5_choose_131 : decode cX5_choose 131 = .ok (.aaload, 1) := by decide +kernel
theorem dX5_choose_132 : decode cX5_choose 132 = .ok (.iload_n 3, 1) := by decide +kernel
theorem dX5_choose_133 : decode cX5_choose 133 = .ok (.iaload, 1) := by decide +kernel
theorem dX5_choose_134 : decode cX5_choose 134 = .ok (.if_icmp .ne 20, 3) := by decide +kernel
theorem dX5_choose_137 : decode cX5_choose 137 = .ok (.iload 12, 2) := by decide +kernel
theorem dX5_choose_139 : decode cX5_choose 139 = .ok (.aload_n 0, 1) := by decide +kernel
theorem dX5_choose_140 : decode cX5_choose 140 = .ok (.getfield 16, 3) := by decide +kernel
theorem dX5_choose_143 : decode cX5_choose 143 = .ok (.iload_n 2, 1) := by decide +kernel
theorem dX5_choose_144 : decode cX5_choose 144 = .ok (.aaload, 1) := by decide +kernel
theorem dX5_choose_145 : decode cX5_choose 145 = .ok (.iload_n 3, 1) := by decide +kernel
theorem dX5_choose_146 : decode cX5_choose 146 = .ok (.iaload, 1) := by decide +kernel
theorem dX5_choose_147 : decode cX5_choose 147 = .ok (.if_icmp .ge 7, 3) := by decide +kernel
theorem dX5_choose_150 : decode cX5_choose 150 = .ok (.iconst 1, 1) := by decide +kernel
theorem dX5_choose_151 : decode cX5_choose 151 = .ok (.goto 4, 3) := by decide +kernel
theorem dX5_choose_154 : decode cX5_choose 154 = .ok (.iconst 0, 1) := by decide +kernel
theorem dX5_choose_155 : decode cX5_choose 155 = .ok (.istore 13, 2) := by decide +kernel
theorem dX5_choose_157 : decode cX5_choose 157 = .ok (.iload 11, 2) := by decide +kernel
theorem dX5_choose_159 : decode cX5_choose 159 = .ok (.ldc 41, 2) := by decide +kernel
theorem dX5_choose_161 : decode cX5_choose 161 = .ok (.if_icmp .ge 51, 3) := by decide +kernel
theorem dX5_choose_164 : decode cX5_choose 164 = .ok (.iload 13, 2) := by decide +kernel
theorem dX5_choose_166 : decode cX5_choose 166 = .ok (.ifCond .eq 46, 3) := by decide +kernel
theorem dX5_choose_169 : decode cX5_choose 169 = .ok (.iload 5, 2) := by decide +kernel
theorem dX5_choose_171 : decode cX5_choose 171 = .ok (.ifCond .eq 11, 3) := by decide +kernel
theorem dX5_choose_174 : decode cX5_choose 174 = .ok (.iload 9, 2) := by decide +kernel
theorem dX5_choose_176 : decode cX5_choose 176 = .ok (.invokestatic 68, 3) := by decide +kernel
theorem dX5_choose_179 : decode cX5_choose 179 = .ok (.ifCond .eq 33, 3) := by decide +kernel
theorem dX5_choose_182 : decode cX5_choose 182 = .ok (.aload_n 0, 1) := by decide +kernel
theorem dX5_choose_183 : decode cX5_choose 183 = .ok (.getfield 11, 3) := by decide +kernel
theorem dX5_choose_186 : decode cX5_choose 186 = .ok (.iload_n 2, 1) := by decide +kernel
theorem dX5_choose_187 : decode cX5_choose 187 = .ok (.aaload, 1) := by decide +kernel
theorem dX5_choose_188 : decode cX5_choose 188 = .ok (.iload_n 3, 1) := by decide +kernel
theorem dX5_choose_189 : decode cX5_choose 189 = .ok (.iload 11, 2) := by decide +kernel
theorem dX5_choose_191 : decode cX5_choose 191 = .ok (.iastore, 1) := by decide +kernel
theorem dX5_choose_192 : decode cX5_choose 192 = .ok (.aload_n 0, 1) := by decide +kernel
theorem dX5_choose_193 : decode cX5_choose 193 = .ok (.getfield 16, 3) := by decide +kernel
theorem dX5_choose_196 : decode cX5_choose 196 = .ok (.iload_n 2, 1) := by decide +kernel
theorem dX5_choose_197 : decode cX5_choose 197 = .ok (.aaload, 1) := by decide +kernel
theorem dX5_choose_198 : decode cX5_choose 198 = .ok (.iload_n 3, 1) := by decide +kernel
theorem dX5_choose_199 : decode cX5_choose 199 = .ok (.iload 12, 2) := by decide +kernel
theorem dX5_choose_201 : decode cX5_choose 201 = .ok (.iastore, 1) := by decide +kernel
theorem dX5_choose_202 : decode cX5_choose 202 = .ok (.aload_n 0, 1) := by decide +kernel
theorem dX5_choose_203 : decode cX5_choose 203 = .ok (.getfield 19, 3) := by decide +kernel
theorem dX5_choose_206 : decode cX5_choose 206 = .ok (.iload_n 2, 1) := by decide +kernel
theorem dX5_choose_207 : decode cX5_choose 207 = .ok (.aaload, 1) := by decide +kernel
theorem dX5_choose_208 : decode cX5_choose 208 = .ok (.iload_n 3, 1) := by decide +kernel
theorem dX5_choose_209 : decode cX5_choose 209 = .ok (.iload 8, 2) := by decide +kernel
theorem dX5_choose_211 : decode cX5_choose 211 = .ok (.iastore, 1) := by decide +kernel
theorem dX5_choose_212 : decode cX5_choose 212 = .ok (.iinc 8 1, 3) := by decide +kernel
theorem dX5_choose_215 : decode cX5_choose 215 = .ok (.goto (-188), 3) := by decide +kernel
theorem dX5_choose_218 : decode cX5_choose 218 = .ok (.return_, 1) := by decide +kernel
theorem dX5_isThere_0 : decode cX5_isThere 0 = .ok (.aload_n 0, 1) := by decide +kernel
theorem dX5_isThere_1 : decode cX5_isThere 1 = .ok (.getfield 11, 3) := by decide +kernel
theorem dX5_isThere_4 : decode cX5_isThere 4 = .ok (.iconst 0, 1) := by decide +kernel
theorem dX5_isThere_5 : decode cX5_isThere 5 = .ok (.aaload, 1) := by decide +kernel
theorem dX5_isThere_6 : decode cX5_isThere 6 = .ok (.iload_n 1, 1) := by decide +kernel
theorem dX5_isThere_7 : decode cX5_isThere 7 = .ok (.iaload, 1) := by decide +kernel
theorem dX5_isThere_8 : decode cX5_isThere 8 = .ok (.ldc 41, 2) := by decide +kernel
theorem dX5_isThere_10 : decode cX5_isThere 10 = .ok (.if_icmp .ge 7, 3) := by decide +kernel
theorem dX5_isThere_13 : decode cX5_isThere 13 = .ok (.iconst 1, 1) := by decide +kernel
theorem dX5_isThere_14 : decode cX5_isThere 14 = .ok (.goto 4, 3) := by decide +kernel
theorem dX5_isThere_17 : decode cX5_isThere 17 = .ok (.iconst 0, 1) := by decide +kernel
theorem dX5_isThere_18 : decode cX5_isThere 18 = .ok (.ireturn, 1) := by decide +kernel
theorem dX5_cost_0 : decode cX5_cost 0 = .ok (.aload_n 0, 1) := by decide +kernel
theorem dX5_cost_1 : decode cX5_cost 1 = .ok (.getfield 11, 3) := by decide +kernel
theorem dX5_cost_4 : decode cX5_cost 4 = .ok (.iconst 0, 1) := by decide +kernel
theorem dX5_cost_5 : decode cX5_cost 5 = .ok (.aaload, 1) := by decide +kernel
theorem dX5_cost_6 : decode cX5_cost 6 = .ok (.iload_n 1, 1) := by decide +kernel
theorem dX5_cost_7 : decode cX5_cost 7 = .ok (.iaload, 1) := by decide +kernel
theorem dX5_cost_8 : decode cX5_cost 8 = .ok (.ireturn, 1) := by decide +kernel
theorem dX5_kindBehind_0 : decode cX5_kindBehind 0 = .ok (.iload_n 2, 1) := by decide +kernel
theorem dX5_kindBehind_1 : decode cX5_kindBehind 1 = .ok (.istore 4, 2) := by decide +kernel
theorem dX5_kindBehind_3 : decode cX5_kindBehind 3 = .ok (.iconst 0, 1) := by decide +kernel
theorem dX5_kindBehind_4 : decode cX5_kindBehind 4 = .ok (.istore 5, 2) := by decide +kernel
theorem dX5_kindBehind_6 : decode cX5_kindBehind 6 = .ok (.iload 5, 2) := by decide +kernel
theorem dX5_kindBehind_8 : decode cX5_kindBehind 8 = .ok (.iload_n 3, 1) := by decide +kernel
theorem dX5_kindBehind_9 : decode cX5_kindBehind 9 = .ok (.if_icmp .ge 62, 3) := by decide +kernel
theorem dX5_kindBehind_12 : decode cX5_kindBehind 12 = .ok (.aload_n 1, 1) := by decide +kernel
theorem dX5_kindBehind_13 : decode cX5_kindBehind 13 = .ok (.getfield 49, 3) := by decide +kernel
theorem dX5_kindBehind_16 : decode cX5_kindBehind 16 = .ok (.getfield 53, 3) := by decide +kernel
theorem dX5_kindBehind_19 : decode cX5_kindBehind 19 = .ok (.iload 5, 2) := by decide +kernel
theorem dX5_kindBehind_21 : decode cX5_kindBehind 21 = .ok (.iaload, 1) := by decide +kernel
theorem dX5_kindBehind_22 : decode cX5_kindBehind 22 = .ok (.istore 6, 2) := by decide +kernel
theorem dX5_kindBehind_24 : decode cX5_kindBehind 24 = .ok (.iload 6, 2) := by decide +kernel
theorem dX5_kindBehind_26 : decode cX5_kindBehind 26 = .ok (.iconst (-1), 1) := by decide +kernel
theorem dX5_kindBehind_27 : decode cX5_kindBehind 27 = .ok (.if_icmp .ne 16, 3) := by decide +kernel
theorem dX5_kindBehind_30 : decode cX5_kindBehind 30 = .ok (.aload_n 0, 1) := by decide +kernel
theorem dX5_kindBehind_31 : decode cX5_kindBehind 31 = .ok (.getfield 19, 3) := by decide +kernel
theorem dX5_kindBehind_34 : decode cX5_kindBehind 34 = .ok (.iload 5, 2) := by decide +kernel
theorem dX5_kindBehind_36 : decode cX5_kindBehind 36 = .ok (.aaload, 1) := by decide +kernel
theorem dX5_kindBehind_37 : decode cX5_kindBehind 37 = .ok (.iload 4, 2) := by decide +kernel
theorem dX5_kindBehind_39 : decode cX5_kindBehind 39 = .ok (.iaload, 1) := by decide +kernel
theorem dX5_kindBehind_40 : decode cX5_kindBehind 40 = .ok (.goto 5, 3) := by decide +kernel
theorem dX5_kindBehind_43 : decode cX5_kindBehind 43 = .ok (.iload 6, 2) := by decide +kernel
theorem dX5_kindBehind_45 : decode cX5_kindBehind 45 = .ok (.istore 7, 2) := by decide +kernel
theorem dX5_kindBehind_47 : decode cX5_kindBehind 47 = .ok (.iload 7, 2) := by decide +kernel
theorem dX5_kindBehind_49 : decode cX5_kindBehind 49 = .ok (.iload 4, 2) := by decide +kernel
theorem dX5_kindBehind_51 : decode cX5_kindBehind 51 = .ok (.aload_n 1, 1) := by decide +kernel
theorem dX5_kindBehind_52 : decode cX5_kindBehind 52 = .ok (.getfield 42, 3) := by decide +kernel
theorem dX5_kindBehind_55 : decode cX5_kindBehind 55 = .ok (.iload 5, 2) := by decide +kernel
theorem dX5_kindBehind_57 : decode cX5_kindBehind 57 = .ok (.iaload, 1) := by decide +kernel
theorem dX5_kindBehind_58 : decode cX5_kindBehind 58 = .ok (.isub, 1) := by decide +kernel
theorem dX5_kindBehind_59 : decode cX5_kindBehind 59 = .ok (.iload_n 2, 1) := by decide +kernel
theorem dX5_kindBehind_60 : decode cX5_kindBehind 60 = .ok (.invokestatic 60, 3) := by decide +kernel
theorem dX5_kindBehind_63 : decode cX5_kindBehind 63 = .ok (.istore 4, 2) := by decide +kernel
theorem dX5_kindBehind_65 : decode cX5_kindBehind 65 = .ok (.iinc 5 1, 3) := by decide +kernel
theorem dX5_kindBehind_68 : decode cX5_kindBehind 68 = .ok (.goto (-62), 3) := by decide +kernel
theorem dX5_kindBehind_71 : decode cX5_kindBehind 71 = .ok (.aload_n 0, 1) := by decide +kernel
theorem dX5_kindBehind_72 : decode cX5_kindBehind 72 = .ok (.getfield 19, 3) := by decide +kernel
theorem dX5_kindBehind_75 : decode cX5_kindBehind 75 = .ok (.iload_n 3, 1) := by decide +kernel
theorem dX5_kindBehind_76 : decode cX5_kindBehind 76 = .ok (.aaload, 1) := by decide +kernel
theorem dX5_kindBehind_77 : decode cX5_kindBehind 77 = .ok (.iload 4, 2) := by decide +kernel
theorem dX5_kindBehind_79 : decode cX5_kindBehind 79 = .ok (.iaload, 1) := by decide +kernel
theorem dX5_kindBehind_80 : decode cX5_kindBehind 80 = .ok (.ireturn, 1) := by decide +kernel
theorem dX5_reachFor_0 : decode cX5_reachFor 0 = .ok (.aload_n 0, 1) := by decide +kernel
theorem dX5_reachFor_1 : decode cX5_reachFor 1 = .ok (.getfield 22, 3) := by decide +kernel
theorem dX5_reachFor_4 : decode cX5_reachFor 4 = .ok (.ldc 41, 2) := by decide +kernel
theorem dX5_reachFor_6 : decode cX5_reachFor 6 = .ok (.invokestatic 35, 3) := by decide +kernel
theorem dX5_reachFor_9 : decode cX5_reachFor 9 = .ok (.aload_n 0, 1) := by decide +kernel
theorem dX5_reachFor_10 : decode cX5_reachFor 10 = .ok (.getfield 22, 3) := by decide +kernel
theorem dX5_reachFor_13 : decode cX5_reachFor 13 = .ok (.aload_n 1, 1) := by decide +kernel
theorem dX5_reachFor_14 : decode cX5_reachFor 14 = .ok (.getfield 72, 3) := by decide +kernel
theorem dX5_reachFor_17 : decode cX5_reachFor 17 = .ok (.iconst 0, 1) := by decide +kernel
theorem dX5_reachFor_18 : decode cX5_reachFor 18 = .ok (.iastore, 1) := by decide +kernel
theorem dX5_reachFor_19 : decode cX5_reachFor 19 = .ok (.iconst 0, 1) := by decide +kernel
theorem dX5_reachFor_20 : decode cX5_reachFor 20 = .ok (.istore_n 3, 1) := by decide +kernel
theorem dX5_reachFor_21 : decode cX5_reachFor 21 = .ok (.iload_n 3, 1) := by decide +kernel
theorem dX5_reachFor_22 : decode cX5_reachFor 22 = .ok (.aload_n 1, 1) := by decide +kernel
theorem dX5_reachFor_23 : decode cX5_reachFor 23 = .ok (.getfield 29, 3) := by decide +kernel
theorem dX5_reachFor_26 : decode cX5_reachFor 26 = .ok (.if_icmp .ge 91, 3) := by decide +kernel
theorem dX5_reachFor_29 : decode cX5_reachFor 29 = .ok (.aload_n 0, 1) := by decide +kernel
theorem dX5_reachFor_30 : decode cX5_reachFor 30 = .ok (.getfield 26, 3) := by decide +kernel
theorem dX5_reachFor_33 : decode cX5_reachFor 33 = .ok (.ldc 41, 2) := by decide +kernel
theorem dX5_reachFor_35 : decode cX5_reachFor 35 = .ok (.invokestatic 35, 3) := by decide +kernel
theorem dX5_reachFor_38 : decode cX5_reachFor 38 = .ok (.iconst 0, 1) := by decide +kernel
theorem dX5_reachFor_39 : decode cX5_reachFor 39 = .ok (.istore 4, 2) := by decide +kernel
theorem dX5_reachFor_41 : decode cX5_reachFor 41 = .ok (.aload_n 1, 1) := by decide +kernel
theorem dX5_reachFor_42 : decode cX5_reachFor 42 = .ok (.getfield 42, 3) := by decide +kernel
theorem dX5_reachFor_45 : decode cX5_reachFor 45 = .ok (.iload_n 3, 1) := by decide +kernel
theorem dX5_reachFor_46 : decode cX5_reachFor 46 = .ok (.iaload, 1) := by decide +kernel
theorem dX5_reachFor_47 : decode cX5_reachFor 47 = .ok (.istore 5, 2) := by decide +kernel
theorem dX5_reachFor_49 : decode cX5_reachFor 49 = .ok (.iload 5, 2) := by decide +kernel
theorem dX5_reachFor_51 : decode cX5_reachFor 51 = .ok (.aload_n 1, 1) := by decide +kernel
theorem dX5_reachFor_52 : decode cX5_reachFor 52 = .ok (.getfield 72, 3) := by decide +kernel
theorem dX5_reachFor_55 : decode cX5_reachFor 55 = .ok (.if_icmp .gt 31, 3) := by decide +kernel
theorem dX5_reachFor_58 : decode cX5_reachFor 58 = .ok (.aload_n 0, 1) := by decide +kernel
theorem dX5_reachFor_59 : decode cX5_reachFor 59 = .ok (.getfield 22, 3) := by decide +kernel
theorem dX5_reachFor_62 : decode cX5_reachFor 62 = .ok (.iload 5, 2) := by decide +kernel
theorem dX5_reachFor_64 : decode cX5_reachFor 64 = .ok (.iaload, 1) := by decide +kernel
theorem dX5_reachFor_65 : decode cX5_reachFor 65 = .ok (.iload_n 2, 1) := by decide +kernel
theorem dX5_reachFor_66 : decode cX5_reachFor 66 = .ok (.if_icmp .gt 14, 3) := by decide +kernel
theorem dX5_reachFor_69 : decode cX5_reachFor 69 = .ok (.iconst 1, 1) := by decide +kernel
theorem dX5_reachFor_70 : decode cX5_reachFor 70 = .ok (.istore 4, 2) := by decide +kernel
theorem dX5_reachFor_72 : decode cX5_reachFor 72 = .ok (.aload_n 0, 1) := by decide +kernel
theorem dX5_reachFor_73 : decode cX5_reachFor 73 = .ok (.aload_n 1, 1) := by decide +kernel
theorem dX5_reachFor_74 : decode cX5_reachFor 74 = .ok (.iload_n 3, 1) := by decide +kernel
theorem dX5_reachFor_75 : decode cX5_reachFor 75 = .ok (.iload 5, 2) := by decide +kernel
theorem dX5_reachFor_77 : decode cX5_reachFor 77 = .ok (.invokevirtual 75, 3) := by decide +kernel
theorem dX5_reachFor_80 : decode cX5_reachFor 80 = .ok (.iinc 5 1, 3) := by decide +kernel
theorem dX5_reachFor_83 : decode cX5_reachFor 83 = .ok (.goto (-34), 3) := by decide +kernel
theorem dX5_reachFor_86 : decode cX5_reachFor 86 = .ok (.iload 4, 2) := by decide +kernel
theorem dX5_reachFor_88 : decode cX5_reachFor 88 = .ok (.ifCond .ne 5, 3) := by decide +kernel
theorem dX5_reachFor_91 : decode cX5_reachFor 91 = .ok (.iload_n 3, 1) := by decide +kernel
theorem dX5_reachFor_92 : decode cX5_reachFor 92 = .ok (.ireturn, 1) := by decide +kernel
theorem dX5_reachFor_93 : decode cX5_reachFor 93 = .ok (.aload_n 0, 1) := by decide +kernel
theorem dX5_reachFor_94 : decode cX5_reachFor 94 = .ok (.getfield 26, 3) := by decide +kernel
theorem dX5_reachFor_97 : decode cX5_reachFor 97 = .ok (.iconst 0, 1) := by decide +kernel
theorem dX5_reachFor_98 : decode cX5_reachFor 98 = .ok (.aload_n 0, 1) := by decide +kernel
theorem dX5_reachFor_99 : decode cX5_reachFor 99 = .ok (.getfield 22, 3) := by decide +kernel
theorem dX5_reachFor_102 : decode cX5_reachFor 102 = .ok (.iconst 0, 1) := by decide +kernel
theorem dX5_reachFor_103 : decode cX5_reachFor 103 = .ok (.aload_n 0, 1) := by decide +kernel
theorem dX5_reachFor_104 : decode cX5_reachFor 104 = .ok (.getfield 22, 3) := by decide +kernel
theorem dX5_reachFor_107 : decode cX5_reachFor 107 = .ok (.arraylength, 1) := by decide +kernel
theorem dX5_reachFor_108 : decode cX5_reachFor 108 = .ok (.invokestatic 79, 3) := by decide +kernel
theorem dX5_reachFor_111 : decode cX5_reachFor 111 = .ok (.iinc 3 1, 3) := by decide +kernel
theorem dX5_reachFor_114 : decode cX5_reachFor 114 = .ok (.goto (-93), 3) := by decide +kernel
theorem dX5_reachFor_117 : decode cX5_reachFor 117 = .ok (.aload_n 1, 1) := by decide +kernel
theorem dX5_reachFor_118 : decode cX5_reachFor 118 = .ok (.getfield 29, 3) := by decide +kernel
theorem dX5_reachFor_121 : decode cX5_reachFor 121 = .ok (.ireturn, 1) := by decide +kernel
theorem dX5_spread_0 : decode cX5_spread 0 = .ok (.aload_n 1, 1) := by decide +kernel
theorem dX5_spread_1 : decode cX5_spread 1 = .ok (.getfield 49, 3) := by decide +kernel
theorem dX5_spread_4 : decode cX5_spread 4 = .ok (.getfield 53, 3) := by decide +kernel
theorem dX5_spread_7 : decode cX5_spread 7 = .ok (.iload_n 2, 1) := by decide +kernel
theorem dX5_spread_8 : decode cX5_spread 8 = .ok (.iaload, 1) := by decide +kernel
theorem dX5_spread_9 : decode cX5_spread 9 = .ok (.istore 4, 2) := by decide +kernel
theorem dX5_spread_11 : decode cX5_spread 11 = .ok (.iload 4, 2) := by decide +kernel
theorem dX5_spread_13 : decode cX5_spread 13 = .ok (.iconst (-1), 1) := by decide +kernel
theorem dX5_spread_14 : decode cX5_spread 14 = .ok (.if_icmp .ne 7, 3) := by decide +kernel
theorem dX5_spread_17 : decode cX5_spread 17 = .ok (.iconst 5, 1) := by decide +kernel
theorem dX5_spread_18 : decode cX5_spread 18 = .ok (.goto 4, 3) := by decide +kernel
theorem dX5_spread_21 : decode cX5_spread 21 = .ok (.iconst (-1), 1) := by decide +kernel
theorem dX5_spread_22 : decode cX5_spread 22 = .ok (.istore 5, 2) := by decide +kernel
theorem dX5_spread_24 : decode cX5_spread 24 = .ok (.iconst (-1), 1) := by decide +kernel
theorem dX5_spread_25 : decode cX5_spread 25 = .ok (.istore 6, 2) := by decide +kernel
theorem dX5_spread_27 : decode cX5_spread 27 = .ok (.iload 6, 2) := by decide +kernel
theorem dX5_spread_29 : decode cX5_spread 29 = .ok (.iload 5, 2) := by decide +kernel
theorem dX5_spread_31 : decode cX5_spread 31 = .ok (.if_icmp .gt 73, 3) := by decide +kernel
theorem dX5_spread_34 : decode cX5_spread 34 = .ok (.iload 6, 2) := by decide +kernel
theorem dX5_spread_36 : decode cX5_spread 36 = .ok (.iconst (-1), 1) := by decide +kernel
theorem dX5_spread_37 : decode cX5_spread 37 = .ok (.if_icmp .ne 8, 3) := by decide +kernel
theorem dX5_spread_40 : decode cX5_spread 40 = .ok (.iload 4, 2) := by decide +kernel
theorem dX5_spread_42 : decode cX5_spread 42 = .ok (.goto 5, 3) := by decide +kernel
theorem dX5_spread_45 : decode cX5_spread 45 = .ok (.iload 6, 2) := by decide +kernel
theorem dX5_spread_47 : decode cX5_spread 47 = .ok (.istore 7, 2) := by decide +kernel
theorem dX5_spread_49 : decode cX5_spread 49 = .ok (.iload 7, 2) := by decide +kernel
theorem dX5_spread_51 : decode cX5_spread 51 = .ok (.iload_n 3, 1) := by decide +kernel
theorem dX5_spread_52 : decode cX5_spread 52 = .ok (.aload_n 1, 1) := by decide +kernel
theorem dX5_spread_53 : decode cX5_spread 53 = .ok (.getfield 42, 3) := by decide +kernel
theorem dX5_spread_56 : decode cX5_spread 56 = .ok (.iload_n 2, 1) := by decide +kernel
theorem dX5_spread_57 : decode cX5_spread 57 = .ok (.iaload, 1) := by decide +kernel
theorem dX5_spread_58 : decode cX5_spread 58 = .ok (.isub, 1) := by decide +kernel
theorem dX5_spread_59 : decode cX5_spread 59 = .ok (.aload_n 1, 1) := by decide +kernel
theorem dX5_spread_60 : decode cX5_spread 60 = .ok (.getfield 72, 3) := by decide +kernel
theorem dX5_spread_63 : decode cX5_spread 63 = .ok (.invokestatic 60, 3) := by decide +kernel
theorem dX5_spread_66 : decode cX5_spread 66 = .ok (.istore 8, 2) := by decide +kernel
theorem dX5_spread_68 : decode cX5_spread 68 = .ok (.aload_n 0, 1) := by decide +kernel
theorem dX5_spread_69 : decode cX5_spread 69 = .ok (.getfield 26, 3) := by decide +kernel
theorem dX5_spread_72 : decode cX5_spread 72 = .ok (.iload 8, 2) := by decide +kernel
theorem dX5_spread_74 : decode cX5_spread 74 = .ok (.aload_n 0, 1) := by decide +kernel
theorem dX5_spread_75 : decode cX5_spread 75 = .ok (.getfield 26, 3) := by decide +kernel
theorem dX5_spread_78 : decode cX5_spread 78 = .ok (.iload 8, 2) := by decide +kernel
theorem dX5_spread_80 : decode cX5_spread 80 = .ok (.iaload, 1) := by decide +kernel
theorem dX5_spread_81 : decode cX5_spread 81 = .ok (.aload_n 0, 1) := by decide +kernel
theorem dX5_spread_82 : decode cX5_spread 82 = .ok (.getfield 22, 3) := by decide +kernel
theorem dX5_spread_85 : decode cX5_spread 85 = .ok (.iload_n 3, 1) := by decide +kernel
theorem dX5_spread_86 : decode cX5_spread 86 = .ok (.iaload, 1) := by decide +kernel
theorem dX5_spread_87 : decode cX5_spread 87 = .ok (.aload_n 1, 1) := by decide +kernel
theorem dX5_spread_88 : decode cX5_spread 88 = .ok (.iload 6, 2) := by decide +kernel
theorem dX5_spread_90 : decode cX5_spread 90 = .ok (.invokevirtual 64, 3) := by decide +kernel
theorem dX5_spread_93 : decode cX5_spread 93 = .ok (.iadd, 1) := by decide +kernel
theorem dX5_spread_94 : decode cX5_spread 94 = .ok (.invokestatic 85, 3) := by decide +kernel
theorem dX5_spread_97 : decode cX5_spread 97 = .ok (.iastore, 1) := by decide +kernel
theorem dX5_spread_98 : decode cX5_spread 98 = .ok (.iinc 6 1, 3) := by decide +kernel
theorem dX5_spread_101 : decode cX5_spread 101 = .ok (.goto (-74), 3) := by decide +kernel
theorem dX5_spread_104 : decode cX5_spread 104 = .ok (.return_, 1) := by decide +kernel
theorem dX6_init_0 : decode cX6_init 0 = .ok (.aload_n 0, 1) := by decide +kernel
theorem dX6_init_1 : decode cX6_init 1 = .ok (.invokespecial 3, 3) := by decide +kernel
theorem dX6_init_4 : decode cX6_init 4 = .ok (.aload_n 0, 1) := by decide +kernel
theorem dX6_init_5 : decode cX6_init 5 = .ok (.sipush 150, 3) := by decide +kernel
theorem dX6_init_8 : decode cX6_init 8 = .ok (.newarray .int, 2) := by decide +kernel
theorem dX6_init_10 : decode cX6_init 10 = .ok (.putfield 9, 3) := by decide +kernel
theorem dX6_init_13 : decode cX6_init 13 = .ok (.aload_n 0, 1) := by decide +kernel
theorem dX6_init_14 : decode cX6_init 14 = .ok (.sipush 150, 3) := by decide +kernel
theorem dX6_init_17 : decode cX6_init 17 = .ok (.newarray .int, 2) := by decide +kernel
theorem dX6_init_19 : decode cX6_init 19 = .ok (.putfield 15, 3) := by decide +kernel
theorem dX6_init_22 : decode cX6_init 22 = .ok (.aload_n 0, 1) := by decide +kernel
theorem dX6_init_23 : decode cX6_init 23 = .ok (.sipush 150, 3) := by decide +kernel
theorem dX6_init_26 : decode cX6_init 26 = .ok (.newarray .int, 2) := by decide +kernel
theorem dX6_init_28 : decode cX6_init 28 = .ok (.putfield 18, 3) := by decide +kernel
theorem dX6_init_31 : decode cX6_init 31 = .ok (.aload_n 0, 1) := by decide +kernel
theorem dX6_init_32 : decode cX6_init 32 = .ok (.sipush 150, 3) := by decide +kernel
theorem dX6_init_35 : decode cX6_init 35 = .ok (.newarray .int, 2) := by decide +kernel
theorem dX6_init_37 : decode cX6_init 37 = .ok (.putfield 21, 3) := by decide +kernel
theorem dX6_init_40 : decode cX6_init 40 = .ok (.return_, 1) := by decide +kernel
theorem dX6_add_0 : decode cX6_add 0 = .ok (.aload_n 0, 1) := by decide +kernel
theorem dX6_add_1 : decode cX6_add 1 = .ok (.getfield 9, 3) := by decide +kernel
theorem dX6_add_4 : decode cX6_add 4 = .ok (.aload_n 0, 1) := by decide +kernel
theorem dX6_add_5 : decode cX6_add 5 = .ok (.getfield 24, 3) := by decide +kernel
theorem dX6_add_8 : decode cX6_add 8 = .ok (.iload_n 1, 1) := by decide +kernel
theorem dX6_add_9 : decode cX6_add 9 = .ok (.iastore, 1) := by decide +kernel
theorem dX6_add_10 : decode cX6_add 10 = .ok (.aload_n 0, 1) := by decide +kernel
theorem dX6_add_11 : decode cX6_add 11 = .ok (.dup, 1) := by decide +kernel
theorem dX6_add_12 : decode cX6_add 12 = .ok (.getfield 24, 3) := by decide +kernel
theorem dX6_add_15 : decode cX6_add 15 = .ok (.iconst 1, 1) := by decide +kernel
theorem dX6_add_16 : decode cX6_add 16 = .ok (.iadd, 1) := by decide +kernel
theorem dX6_add_17 : decode cX6_add 17 = .ok (.putfield 24, 3) := by decide +kernel
theorem dX6_add_20 : decode cX6_add 20 = .ok (.return_, 1) := by decide +kernel
theorem dX6_findFault_0 : decode cX6_findFault 0 = .ok (.aload_n 0, 1) := by decide +kernel
theorem dX6_findFault_1 : decode cX6_findFault 1 = .ok (.iconst 0, 1) := by decide +kernel
theorem dX6_findFault_2 : decode cX6_findFault 2 = .ok (.putfield 28, 3) := by decide +kernel
theorem dX6_findFault_5 : decode cX6_findFault 5 = .ok (.aload_n 0, 1) := by decide +kernel
theorem dX6_findFault_6 : decode cX6_findFault 6 = .ok (.invokevirtual 31, 3) := by decide +kernel
theorem dX6_findFault_9 : decode cX6_findFault 9 = .ok (.aload_n 0, 1) := by decide +kernel
theorem dX6_findFault_10 : decode cX6_findFault 10 = .ok (.iconst 0, 1) := by decide +kernel
theorem dX6_findFault_11 : decode cX6_findFault 11 = .ok (.putfield 34, 3) := by decide +kernel
theorem dX6_findFault_14 : decode cX6_findFault 14 = .ok (.aload_n 0, 1) := by decide +kernel
theorem dX6_findFault_15 : decode cX6_findFault 15 = .ok (.getfield 34, 3) := by decide +kernel
theorem dX6_findFault_18 : decode cX6_findFault 18 = .ok (.sipush 150, 3) := by decide +kernel
theorem dX6_findFault_21 : decode cX6_findFault 21 = .ok (.if_icmp .ge 42, 3) := by decide +kernel
theorem dX6_findFault_24 : decode cX6_findFault 24 = .ok (.aload_n 0, 1) := by decide +kernel
theorem dX6_findFault_25 : decode cX6_findFault 25 = .ok (.getfield 37, 3) := by decide +kernel
theorem dX6_findFault_28 : decode cX6_findFault 28 = .ok (.ifCond .eq 35, 3) := by decide +kernel
theorem dX6_findFault_31 : decode cX6_findFault 31 = .ok (.aload_n 0, 1) := by decide +kernel
theorem dX6_findFault_32 : decode cX6_findFault 32 = .ok (.invokevirtual 40, 3) := by decide +kernel
theorem dX6_findFault_35 : decode cX6_findFault 35 = .ok (.ifCond .eq 10, 3) := by decide +kernel
theorem dX6_findFault_38 : decode cX6_findFault 38 = .ok (.aload_n 0, 1) := by decide +kernel
theorem dX6_findFault_39 : decode cX6_findFault 39 = .ok (.invokevirtual 44, 3) := by decide +kernel
theorem dX6_findFault_42 : decode cX6_findFault 42 = .ok (.ifCond .ne 8, 3) := by decide +kernel
theorem dX6_findFault_45 : decode cX6_findFault 45 = .ok (.aload_n 0, 1) := by decide +kernel
theorem dX6_findFault_46 : decode cX6_findFault 46 = .ok (.getfield 47, 3) := by decide +kernel
theorem dX6_findFault_49 : decode cX6_findFault 49 = .ok (.ireturn, 1) := by decide +kernel
theorem dX6_findFault_50 : decode cX6_findFault 50 = .ok (.aload_n 0, 1) := by decide +kernel
theorem dX6_findFault_51 : decode cX6_findFault 51 = .ok (.dup, 1) := by decide +kernel
theorem dX6_findFault_52 : decode cX6_findFault 52 = .ok (.getfield 34, 3) := by decide +kernel
theorem dX6_findFault_55 : decode cX6_findFault 55 = .ok (.iconst 1, 1) := by decide +kernel
theorem dX6_findFault_56 : decode cX6_findFault 56 = .ok (.iadd, 1) := by decide +kernel
theorem dX6_findFault_57 : decode cX6_findFault 57 = .ok (.putfield 34, 3) := by decide +kernel
theorem dX6_findFault_60 : decode cX6_findFault 60 = .ok (.goto (-46), 3) := by decide +kernel
theorem dX6_findFault_63 : decode cX6_findFault 63 = .ok (.aload_n 0, 1) := by decide +kernel
theorem dX6_findFault_64 : decode cX6_findFault 64 = .ok (.getfield 34, 3) := by decide +kernel
theorem dX6_findFault_67 : decode cX6_findFault 67 = .ok (.ifCond .ne 10, 3) := by decide +kernel
theorem dX6_findFault_70 : decode cX6_findFault 70 = .ok (.aload_n 0, 1) := by decide +kernel
theorem dX6_findFault_71 : decode cX6_findFault 71 = .ok (.getfield 24, 3) := by decide +kernel
theorem dX6_findFault_74 : decode cX6_findFault 74 = .ok (.goto 4, 3) := by decide +kernel
theorem dX6_findFault_77 : decode cX6_findFault 77 = .ok (.iconst (-1), 1) := by decide +kernel
theorem dX6_findFault_78 : decode cX6_findFault 78 = .ok (.ireturn, 1) := by decide +kernel
theorem dX6_mayBegin_0 : decode cX6_mayBegin 0 = .ok (.aload_n 0, 1) := by decide +kernel
theorem dX6_mayBegin_1 : decode cX6_mayBegin 1 = .ok (.getfield 34, 3) := by decide +kernel
theorem dX6_mayBegin_4 : decode cX6_mayBegin 4 = .ok (.ifCond .ne 19, 3) := by decide +kernel
theorem dX6_mayBegin_7 : decode cX6_mayBegin 7 = .ok (.aload_n 0, 1) := by decide +kernel
theorem dX6_mayBegin_8 : decode cX6_mayBegin 8 = .ok (.getfield 37, 3) := by decide +kernel
theorem dX6_mayBegin_11 : decode cX6_mayBegin 11 = .ok (.iconst 1, 1) := by decide +kernel
theorem dX6_mayBegin_12 : decode cX6_mayBegin 12 = .ok (.if_icmp .ne 7, 3) := by decide +kernel
theorem dX6_mayBegin_15 : decode cX6_mayBegin 15 = .ok (.iconst 1, 1) := by decide +kernel
theorem dX6_mayBegin_16 : decode cX6_mayBegin 16 = .ok (.goto 28, 3) := by decide +kernel
theorem dX6_mayBegin_19 : decode cX6_mayBegin 19 = .ok (.iconst 0, 1) := by decide +kernel
theorem dX6_mayBegin_20 : decode cX6_mayBegin 20 = .ok (.goto 24, 3) := by decide +kernel
theorem dX6_mayBegin_23 : decode cX6_mayBegin 23 = .ok (.aload_n 0, 1) := by decide +kernel
theorem dX6_mayBegin_24 : decode cX6_mayBegin 24 = .ok (.getfield 37, 3) := by decide +kernel
theorem dX6_mayBegin_27 : decode cX6_mayBegin 27 = .ok (.iconst 2, 1) := by decide +kernel
theorem dX6_mayBegin_28 : decode cX6_mayBegin 28 = .ok (.if_icmp .eq 11, 3) := by decide +kernel
theorem dX6_mayBegin_31 : decode cX6_mayBegin 31 = .ok (.aload_n 0, 1) := by decide +kernel
theorem dX6_mayBegin_32 : decode cX6_mayBegin 32 = .ok (.getfield 37, 3) := by decide +kernel
theorem dX6_mayBegin_35 : decode cX6_mayBegin 35 = .ok (.iconst 3, 1) := by decide +kernel
theorem dX6_mayBegin_36 : decode cX6_mayBegin 36 = .ok (.if_icmp .ne 7, 3) := by decide +kernel
theorem dX6_mayBegin_39 : decode cX6_mayBegin 39 = .ok (.iconst 1, 1) := by decide +kernel
theorem dX6_mayBegin_40 : decode cX6_mayBegin 40 = .ok (.goto 4, 3) := by decide +kernel
theorem dX6_mayBegin_43 : decode cX6_mayBegin 43 = .ok (.iconst 0, 1) := by decide +kernel
theorem dX6_mayBegin_44 : decode cX6_mayBegin 44 = .ok (.ireturn, 1) := by decide +kernel
theorem dX6_takeItem_0 : decode cX6_takeItem 0 = .ok (.aload_n 0, 1) := by decide +kernel
theorem dX6_takeItem_1 : decode cX6_takeItem 1 = .ok (.getfield 15, 3) := by decide +kernel
theorem dX6_takeItem_4 : decode cX6_takeItem 4 = .ok (.aload_n 0, 1) := by decide +kernel
theorem dX6_takeItem_5 : decode cX6_takeItem 5 = .ok (.getfield 34, 3) := by decide +kernel
theorem dX6_takeItem_8 : decode cX6_takeItem 8 = .ok (.aload_n 0, 1) := by decide +kernel
theorem dX6_takeItem_9 : decode cX6_takeItem 9 = .ok (.getfield 37, 3) := by decide +kernel
theorem dX6_takeItem_12 : decode cX6_takeItem 12 = .ok (.iastore, 1) := by decide +kernel
theorem dX6_takeItem_13 : decode cX6_takeItem 13 = .ok (.aload_n 0, 1) := by decide +kernel
theorem dX6_takeItem_14 : decode cX6_takeItem 14 = .ok (.getfield 37, 3) := by decide +kernel
theorem dX6_takeItem_17 : decode cX6_takeItem 17 = .ok (.iconst 2, 1) := by decide +kernel
theorem dX6_takeItem_18 : decode cX6_takeItem 18 = .ok (.if_icmp .ne 7, 3) := by decide +kernel
theorem dX6_takeItem_21 : decode cX6_takeItem 21 = .ok (.iconst 1, 1) := by decide +kernel
theorem dX6_takeItem_22 : decode cX6_takeItem 22 = .ok (.goto 4, 3) := by decide +kernel
theorem dX6_takeItem_25 : decode cX6_takeItem 25 = .ok (.iconst 2, 1) := by decide +kernel
theorem dX6_takeItem_26 : decode cX6_takeItem 26 = .ok (.istore_n 1, 1) := by decide +kernel
theorem dX6_takeItem_27 : decode cX6_takeItem 27 = .ok (.aload_n 0, 1) := by decide +kernel
theorem dX6_takeItem_28 : decode cX6_takeItem 28 = .ok (.invokevirtual 31, 3) := by decide +kernel
theorem dX6_takeItem_31 : decode cX6_takeItem 31 = .ok (.aload_n 0, 1) := by decide +kernel
theorem dX6_takeItem_32 : decode cX6_takeItem 32 = .ok (.getfield 18, 3) := by decide +kernel
theorem dX6_takeItem_35 : decode cX6_takeItem 35 = .ok (.aload_n 0, 1) := by decide +kernel
theorem dX6_takeItem_36 : decode cX6_takeItem 36 = .ok (.getfield 34, 3) := by decide +kernel
theorem dX6_takeItem_39 : decode cX6_takeItem 39 = .ok (.aload_n 0, 1) := by decide +kernel
theorem dX6_takeItem_40 : decode cX6_takeItem 40 = .ok (.getfield 50, 3) := by decide +kernel
theorem dX6_takeItem_43 : decode cX6_takeItem 43 = .ok (.iastore, 1) := by decide +kernel
theorem dX6_takeItem_44 : decode cX6_takeItem 44 = .ok (.aload_n 0, 1) := by decide +kernel
theorem dX6_takeItem_45 : decode cX6_takeItem 45 = .ok (.getfield 37, 3) := by decide +kernel
theorem dX6_takeItem_48 : decode cX6_takeItem 48 = .ok (.iconst 4, 1) := by decide +kernel
theorem dX6_takeItem_49 : decode cX6_takeItem 49 = .ok (.if_icmp .eq 5, 3) := by decide +kernel
theorem dX6_takeItem_52 : decode cX6_takeItem 52 = .ok (.iconst 0, 1) := by decide +kernel
theorem dX6_takeItem_53 : decode cX6_takeItem 53 = .ok (.ireturn, 1) := by decide +kernel
theorem dX6_takeItem_54 : decode cX6_takeItem 54 = .ok (.iload_n 1, 1) := by decide +kernel
theorem dX6_takeItem_55 : decode cX6_takeItem 55 = .ok (.iconst 2, 1) := by decide +kernel
theorem dX6_takeItem_56 : decode cX6_takeItem 56 = .ok (.if_icmp .ne 17, 3) := by decide +kernel
theorem dX6_takeItem_59 : decode cX6_takeItem 59 = .ok (.aload_n 0, 1) := by decide +kernel
theorem dX6_takeItem_60 : decode cX6_takeItem 60 = .ok (.invokevirtual 31, 3) := by decide +kernel
theorem dX6_takeItem_63 : decode cX6_takeItem 63 = .ok (.aload_n 0, 1) := by decide +kernel
theorem dX6_takeItem_64 : decode cX6_takeItem 64 = .ok (.getfield 37, 3) := by decide +kernel
theorem dX6_takeItem_67 : decode cX6_takeItem 67 = .ok (.iconst 4, 1) := by decide +kernel
theorem dX6_takeItem_68 : decode cX6_takeItem 68 = .ok (.if_icmp .eq 5, 3) := by decide +kernel
theorem dX6_takeItem_71 : decode cX6_takeItem 71 = .ok (.iconst 0, 1) := by decide +kernel
theorem dX6_takeItem_72 : decode cX6_takeItem 72 = .ok (.ireturn, 1) := by decide +kernel
theorem dX6_takeItem_73 : decode cX6_takeItem 73 = .ok (.aload_n 0, 1) := by decide +kernel
theorem dX6_takeItem_74 : decode cX6_takeItem 74 = .ok (.getfield 21, 3) := by decide +kernel
theorem dX6_takeItem_77 : decode cX6_takeItem 77 = .ok (.aload_n 0, 1) := by decide +kernel
theorem dX6_takeItem_78 : decode cX6_takeItem 78 = .ok (.getfield 34, 3) := by decide +kernel
theorem dX6_takeItem_81 : decode cX6_takeItem 81 = .ok (.aload_n 0, 1) := by decide +kernel
theorem dX6_takeItem_82 : decode cX6_takeItem 82 = .ok (.getfield 50, 3) := by decide +kernel
theorem dX6_takeItem_85 : decode cX6_takeItem 85 = .ok (.iastore, 1) := by decide +kernel
theorem dX6_takeItem_86 : decode cX6_takeItem 86 = .ok (.aload_n 0, 1) := by decide +kernel
theorem dX6_takeItem_87 : decode cX6_takeItem 87 = .ok (.invokevirtual 31, 3) := by decide +kernel
theorem dX6_takeItem_90 : decode cX6_takeItem 90 = .ok (.aload_n 0, 1) := by decide +kernel
theorem dX6_takeItem_91 : decode cX6_takeItem 91 = .ok (.getfield 37, 3) := by decide +kernel
theorem dX6_takeItem_94 : decode cX6_takeItem 94 = .ok (.iconst 5, 1) := by decide +kernel
theorem dX6_takeItem_95 : decode cX6_takeItem 95 = .ok (.if_icmp .eq 5, 3) := by decide +kernel
theorem dX6_takeItem_98 : decode cX6_takeItem 98 = .ok (.iconst 0, 1) := by decide +kernel
theorem dX6_takeItem_99 : decode cX6_takeItem 99 = .ok (.ireturn, 1) := by decide +kernel
theorem dX6_takeItem_100 : decode cX6_takeItem 100 = .ok (.aload_n 0, 1) := by decide +kernel
theorem dX6_takeItem_101 : decode cX6_takeItem 101 = .ok (.invokevirtual 31, 3) := by decide +kernel
theorem dX6_takeItem_104 : decode cX6_takeItem 104 = .ok (.iconst 1, 1) := by decide +kernel
theorem dX6_takeItem_105 : decode cX6_takeItem 105 = .ok (.ireturn, 1) := by decide +kernel
theorem dX6_next_0 : decode cX6_next 0 = .ok (.aload_n 0, 1) := by decide +kernel
theorem dX6_next_1 : decode cX6_next 1 = .ok (.aload_n 0, 1) := by decide +kernel
theorem dX6_next_2 : decode cX6_next 2 = .ok (.aload_n 0, 1) := by decide +kernel
theorem dX6_next_3 : decode cX6_next 3 = .ok (.getfield 28, 3) := by decide +kernel
theorem dX6_next_6 : decode cX6_next 6 = .ok (.bipush 32, 2) := by decide +kernel
theorem dX6_next_8 : decode cX6_next 8 = .ok (.bipush 32, 2) := by decide +kernel
theorem dX6_next_10 : decode cX6_next 10 = .ok (.invokevirtual 53, 3) := by decide +kernel
theorem dX6_next_13 : decode cX6_next 13 = .ok (.putfield 47, 3) := by decide +kernel
theorem dX6_next_16 : decode cX6_next 16 = .ok (.aload_n 0, 1) := by decide +kernel
theorem dX6_next_17 : decode cX6_next 17 = .ok (.getfield 47, 3) := by decide +kernel
theorem dX6_next_20 : decode cX6_next 20 = .ok (.aload_n 0, 1) := by decide +kernel
theorem dX6_next_21 : decode cX6_next 21 = .ok (.getfield 24, 3) := by decide +kernel
theorem dX6_next_24 : decode cX6_next 24 = .ok (.if_icmp .lt 9, 3) := by decide +kernel
theorem dX6_next_27 : decode cX6_next 27 = .ok (.aload_n 0, 1) := by decide +kernel
theorem dX6_next_28 : decode cX6_next 28 = .ok (.iconst 0, 1) := by decide +kernel
theorem dX6_next_29 : decode cX6_next 29 = .ok (.putfield 37, 3) := by decide +kernel
theorem dX6_next_32 : decode cX6_next 32 = .ok (.return_, 1) := by decide +kernel
theorem dX6_next_33 : decode cX6_next 33 = .ok (.aload_n 0, 1) := by decide +kernel
theorem dX6_next_34 : decode cX6_next 34 = .ok (.getfield 9, 3) := by decide +kernel
theorem dX6_next_37 : decode cX6_next 37 = .ok (.aload_n 0, 1) := by decide +kernel
theorem dX6_next_38 : decode cX6_next 38 = .ok (.getfield 47, 3) := by decide +kernel
theorem dX6_next_41 : decode cX6_next 41 = .ok (.iaload, 1) := by decide +kernel
theorem dX6_next_42 : decode cX6_next 42 = .ok (.istore_n 1, 1) := by decide +kernel
theorem dX6_next_43 : decode cX6_next 43 = .ok (.iload_n 1, 1) := by decide +kernel
theorem dX6_next_44 : decode cX6_next 44 = .ok (.bipush 97, 2) := by decide +kernel
theorem dX6_next_46 : decode cX6_next 46 = .ok (.if_icmp .lt 36, 3) := by decide +kernel
theorem dX6_next_49 : decode cX6_next 49 = .ok (.iload_n 1, 1) := by decide +kernel
theorem dX6_next_50 : decode cX6_next 50 = .ok (.bipush 122, 2) := by decide +kernel
theorem dX6_next_52 : decode cX6_next 52 = .ok (.if_icmp .gt 30, 3) := by decide +kernel
theorem dX6_next_55 : decode cX6_next 55 = .ok (.aload_n 0, 1) := by decide +kernel
theorem dX6_next_56 : decode cX6_next 56 = .ok (.aload_n 0, 1) := by decide +kernel
theorem dX6_next_57 : decode cX6_next 57 = .ok (.aload_n 0, 1) := by decide +kernel
theorem dX6_next_58 : decode cX6_next 58 = .ok (.getfield 47, 3) := by decide +kernel
theorem dX6_next_61 : decode cX6_next 61 = .ok (.bipush 97, 2) := by decide +kernel
theorem dX6_next_63 : decode cX6_next 63 = .ok (.bipush 122, 2) := by decide +kernel
theorem dX6_next_65 : decode cX6_next 65 = .ok (.invokevirtual 53, 3) := by decide +kernel
theorem dX6_next_68 : decode cX6_next 68 = .ok (.putfield 28, 3) := by decide +kernel
theorem dX6_next_71 : decode cX6_next 71 = .ok (.aload_n 0, 1) := by decide +kernel
theorem dX6_next_72 : decode cX6_next 72 = .ok (.aload_n 0, 1) := by decide +kernel
theorem dX6_next_73 : decode cX6_next 73 = .ok (.invokevirtual 57, 3) := by decide +kernel
theorem dX6_next_76 : decode cX6_next 76 = .ok (.putfield 37, 3) := by decide +kernel
theorem dX6_next_79 : decode cX6_next 79 = .ok (.goto 68, 3) := by decide +kernel
theorem dX6_next_82 : decode cX6_next 82 = .ok (.iload_n 1, 1) := by decide +kernel
theorem dX6_next_83 : decode cX6_next 83 = .ok (.bipush 48, 2) := by decide +kernel
theorem dX6_next_85 : decode cX6_next 85 = .ok (.if_icmp .lt 36, 3) := by decide +kernel
theorem dX6_next_88 : decode cX6_next 88 = .ok (.iload_n 1, 1) := by decide +kernel
theorem dX6_next_89 : decode cX6_next 89 = .ok (.bipush 57, 2) := by decide +kernel
theorem dX6_next_91 : decode cX6_next 91 = .ok (.if_icmp .gt 30, 3) := by decide +kernel
theorem dX6_next_94 : decode cX6_next 94 = .ok (.aload_n 0, 1) := by decide +kernel
theorem dX6_next_95 : decode cX6_next 95 = .ok (.aload_n 0, 1) := by decide +kernel
theorem dX6_next_96 : decode cX6_next 96 = .ok (.aload_n 0, 1) := by decide +kernel
theorem dX6_next_97 : decode cX6_next 97 = .ok (.getfield 47, 3) := by decide +kernel
theorem dX6_next_100 : decode cX6_next 100 = .ok (.bipush 48, 2) := by decide +kernel
theorem dX6_next_102 : decode cX6_next 102 = .ok (.bipush 57, 2) := by decide +kernel
theorem dX6_next_104 : decode cX6_next 104 = .ok (.invokevirtual 53, 3) := by decide +kernel
theorem dX6_next_107 : decode cX6_next 107 = .ok (.putfield 28, 3) := by decide +kernel
theorem dX6_next_110 : decode cX6_next 110 = .ok (.aload_n 0, 1) := by decide +kernel
theorem dX6_next_111 : decode cX6_next 111 = .ok (.aload_n 0, 1) := by decide +kernel
theorem dX6_next_112 : decode cX6_next 112 = .ok (.invokevirtual 61, 3) := by decide +kernel
theorem dX6_next_115 : decode cX6_next 115 = .ok (.putfield 37, 3) := by decide +kernel
theorem dX6_next_118 : decode cX6_next 118 = .ok (.goto 29, 3) := by decide +kernel
theorem dX6_next_121 : decode cX6_next 121 = .ok (.aload_n 0, 1) := by decide +kernel
theorem dX6_next_122 : decode cX6_next 122 = .ok (.aload_n 0, 1) := by decide +kernel
theorem dX6_next_123 : decode cX6_next 123 = .ok (.getfield 47, 3) := by decide +kernel
theorem dX6_next_126 : decode cX6_next 126 = .ok (.iconst 1, 1) := by decide +kernel
theorem dX6_next_127 : decode cX6_next 127 = .ok (.iadd, 1) := by decide +kernel
theorem dX6_next_128 : decode cX6_next 128 = .ok (.putfield 28, 3) := by decide +kernel
theorem dX6_next_131 : decode cX6_next 131 = .ok (.aload_n 0, 1) := by decide +kernel
theorem dX6_next_132 : decode cX6_next 132 = .ok (.iload_n 1, 1) := by decide +kernel
theorem dX6_next_133 : decode cX6_next 133 = .ok (.bipush 59, 2) := by decide +kernel
theorem dX6_next_135 : decode cX6_next 135 = .ok (.if_icmp .ne 7, 3) := by decide +kernel
theorem dX6_next_138 : decode cX6_next 138 = .ok (.iconst 5, 1) := by decide +kernel
theorem dX6_next_139 : decode cX6_next 139 = .ok (.goto 5, 3) := by decide +kernel
theorem dX6_next_142 : decode cX6_next 142 = .ok (.bipush 6, 2) := by decide +kernel
theorem dX6_next_144 : decode cX6_next 144 = .ok (.putfield 37, 3) := by decide +kernel
theorem dX6_next_147 : decode cX6_next 147 = .ok (.return_, 1) := by decide +kernel
theorem dX6_runEnd_0 : decode cX6_runEnd 0 = .ok (.iload_n 1, 1) := by decide +kernel
theorem dX6_runEnd_1 : decode cX6_runEnd 1 = .ok (.istore 4, 2) := by decide +kernel
theorem dX6_runEnd_3 : decode cX6_runEnd 3 = .ok (.iload 4, 2) := by decide +kernel
theorem dX6_runEnd_5 : decode cX6_runEnd 5 = .ok (.aload_n 0, 1) := by decide +kernel
theorem dX6_runEnd_6 : decode cX6_runEnd 6 = .ok (.getfield 24, 3) := by decide +kernel
theorem dX6_runEnd_9 : decode cX6_runEnd 9 = .ok (.if_icmp .ge 31, 3) := by decide +kernel
theorem dX6_runEnd_12 : decode cX6_runEnd 12 = .ok (.aload_n 0, 1) := by decide +kernel
theorem dX6_runEnd_13 : decode cX6_runEnd 13 = .ok (.getfield 9, 3) := by decide +kernel
theorem dX6_runEnd_16 : decode cX6_runEnd 16 = .ok (.iload 4, 2) := by decide +kernel
theorem dX6_runEnd_18 : decode cX6_runEnd 18 = .ok (.iaload, 1) := by decide +kernel
theorem dX6_runEnd_19 : decode cX6_runEnd 19 = .ok (.iload_n 2, 1) := by decide +kernel
theorem dX6_runEnd_20 : decode cX6_runEnd 20 = .ok (.if_icmp .lt 20, 3) := by decide +kernel
theorem dX6_runEnd_23 : decode cX6_runEnd 23 = .ok (.aload_n 0, 1) := by decide +kernel
theorem dX6_runEnd_24 : decode cX6_runEnd 24 = .ok (.getfield 9, 3) := by decide +kernel
theorem dX6_runEnd_27 : decode cX6_runEnd 27 = .ok (.iload 4, 2) := by decide +kernel
theorem dX6_runEnd_29 : decode cX6_runEnd 29 = .ok (.iaload, 1) := by decide +kernel
theorem dX6_runEnd_30 : decode cX6_runEnd 30 = .ok (.iload_n 3, 1) := by decide +kernel
theorem dX6_runEnd_31 : decode cX6_runEnd 31 = .ok (.if_icmp .gt 9, 3) := by decide +kernel
theorem dX6_runEnd_34 : decode cX6_runEnd 34 = .ok (.iinc 4 1, 3) := by decide +kernel
theorem dX6_runEnd_37 : decode cX6_runEnd 37 = .ok (.goto (-34), 3) := by decide +kernel
theorem dX6_runEnd_40 : decode cX6_runEnd 40 = .ok (.iload 4, 2) := by decide +kernel
theorem dX6_runEnd_42 : decode cX6_runEnd 42 = .ok (.ireturn, 1) := by decide +kernel
theorem dX6_wordHere_0 : decode cX6_wordHere 0 = .ok (.aload_n 0, 1) := by decide +kernel
theorem dX6_wordHere_1 : decode cX6_wordHere 1 = .ok (.ldc 64, 2) := by decide +kernel
theorem dX6_wordHere_3 : decode cX6_wordHere 3 = .ok (.invokevirtual 66, 3) := by decide +kernel
theorem dX6_wordHere_6 : decode cX6_wordHere 6 = .ok (.ifCond .eq 5, 3) := by decide +kernel
theorem dX6_wordHere_9 : decode cX6_wordHere 9 = .ok (.iconst 1, 1) := by decide +kernel
theorem dX6_wordHere_10 : decode cX6_wordHere 10 = .ok (.ireturn, 1) := by decide +kernel
theorem dX6_wordHere_11 : decode cX6_wordHere 11 = .ok (.aload_n 0, 1) := by decide +kernel
theorem dX6_wordHere_12 : decode cX6_wordHere 12 = .ok (.ldc 70, 2) := by decide +kernel
theorem dX6_wordHere_14 : decode cX6_wordHere 14 = .ok (.invokevirtual 66, 3) := by decide +kernel
theorem dX6_wordHere_17 : decode cX6_wordHere 17 = .ok (.ifCond .eq 5, 3) := by decide +kernel
theorem dX6_wordHere_20 : decode cX6_wordHere 20 = .ok (.iconst 2, 1) := by decide +kernel
theorem dX6_wordHere_21 : decode cX6_wordHere 21 = .ok (.ireturn, 1) := by decide +kernel
theorem dX6_wordHere_22 : decode cX6_wordHere 22 = .ok (.aload_n 0, 1) := by decide +kernel
theorem dX6_wordHere_23 : decode cX6_wordHere 23 = .ok (.ldc 72, 2) := by decide +kernel
theorem dX6_wordHere_25 : decode cX6_wordHere 25 = .ok (.invokevirtual 66, 3) := by decide +kernel
theorem dX6_wordHere_28 : decode cX6_wordHere 28 = .ok (.ifCond .eq 7, 3) := by decide +kernel
theorem dX6_wordHere_31 : decode cX6_wordHere 31 = .ok (.iconst 3, 1) := by decide +kernel
theorem dX6_wordHere_32 : decode cX6_wordHere 32 = .ok (.goto 5, 3) := by decide +kernel
theorem dX6_wordHere_35 : decode cX6_wordHere 35 = .ok (.bipush 6, 2) := by decide +kernel
theorem dX6_wordHere_37 : decode cX6_wordHere 37 = .ok (.ireturn, 1) := by decide +kernel
theorem dX6_isHere_0 : decode cX6_isHere 0 = .ok (.aload_n 0, 1) := by decide +kernel
theorem dX6_isHere_1 : decode cX6_isHere 1 = .ok (.getfield 28, 3) := by decide +kernel
theorem dX6_isHere_4 : decode cX6_isHere 4 = .ok (.aload_n 0, 1) := by decide +kernel
theorem dX6_isHere_5 : decode cX6_isHere 5 = .ok (.getfield 47, 3) := by decide +kernel
theorem dX6_isHere_8 : decode cX6_isHere 8 = .ok (.isub, 1) := by decide +kernel
theorem dX6_isHere_9 : decode cX6_isHere 9 = .ok (.aload_n 1, 1) := by decide +kernel
theorem dX6_isHere_10 : decode cX6_isHere 10 = .ok (.invokevirtual 74, 3) := by decide +kernel
theorem dX6_isHere_13 : decode cX6_isHere 13 = .ok (.if_icmp .eq 5, 3) := by decide +kernel
theorem dX6_isHere_16 : decode cX6_isHere 16 = .ok (.iconst 0, 1) := by decide +kernel
theorem dX6_isHere_17 : decode cX6_isHere 17 = .ok (.ireturn, 1) := by decide +kernel
theorem dX6_isHere_18 : decode cX6_isHere 18 = .ok (.iconst 0, 1) := by decide +kernel
theorem dX6_isHere_19 : decode cX6_isHere 19 = .ok (.istore_n 2, 1) := by decide +kernel
theorem dX6_isHere_20 : decode cX6_isHere 20 = .ok (.iload_n 2, 1) := by decide +kernel
theorem dX6_isHere_21 : decode cX6_isHere 21 = .ok (.aload_n 1, 1) := by decide +kernel
theorem dX6_isHere_22 : decode cX6_isHere 22 = .ok (.invokevirtual 74, 3) := by decide +kernel
theorem dX6_isHere_25 : decode cX6_isHere 25 = .ok (.if_icmp .ge 30, 3) := by decide +kernel
theorem dX6_isHere_28 : decode cX6_isHere 28 = .ok (.aload_n 0, 1) := by decide +kernel
theorem dX6_isHere_29 : decode cX6_isHere 29 = .ok (.getfield 9, 3) := by decide +kernel
theorem dX6_isHere_32 : decode cX6_isHere 32 = .ok (.aload_n 0, 1) := by decide +kernel
theorem dX6_isHere_33 : decode cX6_isHere 33 = .ok (.getfield 47, 3) := by decide +kernel
theorem dX6_isHere_36 : decode cX6_isHere 36 = .ok (.iload_n 2, 1) := by decide +kernel
theorem dX6_isHere_37 : decode cX6_isHere 37 = .ok (.iadd, 1) := by decide +kernel
theorem dX6_isHere_38 : decode cX6_isHere 38 = .ok (.iaload, 1) := by decide +kernel
theorem dX6_isHere_39 : decode cX6_isHere 39 = .ok (.aload_n 1, 1) := by decide +kernel
theorem dX6_isHere_40 : decode cX6_isHere 40 = .ok (.iload_n 2, 1) := by decide +kernel
theorem dX6_isHere_41 : decode cX6_isHere 41 = .ok (.invokevirtual 79, 3) := by decide +kernel
theorem dX6_isHere_44 : decode cX6_isHere 44 = .ok (.if_icmp .eq 5, 3) := by decide +kernel
theorem dX6_isHere_47 : decode cX6_isHere 47 = .ok (.iconst 0, 1) := by decide +kernel
theorem dX6_isHere_48 : decode cX6_isHere 48 = .ok (.ireturn, 1) := by decide +kernel
theorem dX6_isHere_49 : decode cX6_isHere 49 = .ok (.iinc 2 1, 3) := by decide +kernel
theorem dX6_isHere_52 : decode cX6_isHere 52 = .ok (.goto (-32), 3) := by decide +kernel
theorem dX6_isHere_55 : decode cX6_isHere 55 = .ok (.iconst 1, 1) := by decide +kernel
theorem dX6_isHere_56 : decode cX6_isHere 56 = .ok (.ireturn, 1) := by decide +kernel
theorem dX6_numberHere_0 : decode cX6_numberHere 0 = .ok (.aload_n 0, 1) := by decide +kernel
theorem dX6_numberHere_1 : decode cX6_numberHere 1 = .ok (.getfield 28, 3) := by decide +kernel
theorem dX6_numberHere_4 : decode cX6_numberHere 4 = .ok (.aload_n 0, 1) := by decide +kernel
theorem dX6_numberHere_5 : decode cX6_numberHere 5 = .ok (.getfield 47, 3) := by decide +kernel
theorem dX6_numberHere_8 : decode cX6_numberHere 8 = .ok (.isub, 1) := by decide +kernel
theorem dX6_numberHere_9 : decode cX6_numberHere 9 = .ok (.iconst 2, 1) := by decide +kernel
theorem dX6_numberHere_10 : decode cX6_numberHere 10 = .ok (.if_icmp .le 6, 3) := by decide +kernel
theorem dX6_numberHere_13 : decode cX6_numberHere 13 = .ok (.bipush 6, 2) := by decide +kernel
theorem dX6_numberHere_15 : decode cX6_numberHere 15 = .ok (.ireturn, 1) := by decide +kernel
theorem dX6_numberHere_16 : decode cX6_numberHere 16 = .ok (.aload_n 0, 1) := by decide +kernel
theorem dX6_numberHere_17 : decode cX6_numberHere 17 = .ok (.iconst 0, 1) := by decide +kernel
theorem dX6_numberHere_18 : decode cX6_numberHere 18 = .ok (.putfield 50, 3) := by decide +kernel
theorem dX6_numberHere_21 : decode cX6_numberHere 21 = .ok (.aload_n 0, 1) := by decide +kernel
theorem dX6_numberHere_22 : decode cX6_numberHere 22 = .ok (.getfield 47, 3) := by decide +kernel
theorem dX6_numberHere_25 : decode cX6_numberHere 25 = .ok (.istore_n 1, 1) := by decide +kernel
theorem dX6_numberHere_26 : decode cX6_numberHere 26 = .ok (.iload_n 1, 1) := by decide +kernel
theorem dX6_numberHere_27 : decode cX6_numberHere 27 = .ok (.aload_n 0, 1) := by decide +kernel
theorem dX6_numberHere_28 : decode cX6_numberHere 28 = .ok (.getfield 28, 3) := by decide +kernel
theorem dX6_numberHere_31 : decode cX6_numberHere 31 = .ok (.if_icmp .ge 30, 3) := by decide +kernel
theorem dX6_numberHere_34 : decode cX6_numberHere 34 = .ok (.aload_n 0, 1) := by decide +kernel
theorem dX6_numberHere_35 : decode cX6_numberHere 35 = .ok (.bipush 10, 2) := by decide +kernel
theorem dX6_numberHere_37 : decode cX6_numberHere 37 = .ok (.aload_n 0, 1) := by decide +kernel
theorem dX6_numberHere_38 : decode cX6_numberHere 38 = .ok (.getfield 50, 3) := by decide +kernel
theorem dX6_numberHere_41 : decode cX6_numberHere 41 = .ok (.imul, 1) := by decide +kernel
theorem dX6_numberHere_42 : decode cX6_numberHere 42 = .ok (.aload_n 0, 1) := by decide +kernel
theorem dX6_numberHere_43 : decode cX6_numberHere 43 = .ok (.getfield 9, 3) := by decide +kernel
theorem dX6_numberHere_46 : decode cX6_numberHere 46 = .ok (.iload_n 1, 1) := by decide +kernel
theorem dX6_numberHere_47 : decode cX6_numberHere 47 = .ok (.iaload, 1) := by decide +kernel
theorem dX6_numberHere_48 : decode cX6_numberHere 48 = .ok (.iadd, 1) := by decide +kernel
theorem dX6_numberHere_49 : decode cX6_numberHere 49 = .ok (.bipush 48, 2) := by decide +kernel
theorem dX6_numberHere_51 : decode cX6_numberHere 51 = .ok (.isub, 1) := by decide +kernel
theorem dX6_numberHere_52 : decode cX6_numberHere 52 = .ok (.putfield 50, 3) := by decide +kernel
theorem dX6_numberHere_55 : decode cX6_numberHere 55 = .ok (.iinc 1 1, 3) := by decide +kernel
theorem dX6_numberHere_58 : decode cX6_numberHere 58 = .ok (.goto (-32), 3) := by decide +kernel
theorem dX6_numberHere_61 : decode cX6_numberHere 61 = .ok (.iconst 4, 1) := by decide +kernel
theorem dX6_numberHere_62 : decode cX6_numberHere 62 = .ok (.ireturn, 1) := by decide +kernel
theorem dX7_init_0 : decode cX7_init 0 = .ok (.aload_n 0, 1) := by decide +kernel
theorem dX7_init_1 : decode cX7_init 1 = .ok (.invokespecial 1, 3) := by decide +kernel
theorem dX7_init_4 : decode cX7_init 4 = .ok (.aload_n 0, 1) := by decide +kernel
theorem dX7_init_5 : decode cX7_init 5 = .ok (.new 7, 3) := by decide +kernel
theorem dX7_init_8 : decode cX7_init 8 = .ok (.dup, 1) := by decide +kernel
theorem dX7_init_9 : decode cX7_init 9 = .ok (.invokespecial 9, 3) := by decide +kernel
theorem dX7_init_12 : decode cX7_init 12 = .ok (.putfield 10, 3) := by decide +kernel
theorem dX7_init_15 : decode cX7_init 15 = .ok (.aload_n 0, 1) := by decide +kernel
theorem dX7_init_16 : decode cX7_init 16 = .ok (.new 7, 3) := by decide +kernel
theorem dX7_init_19 : decode cX7_init 19 = .ok (.dup, 1) := by decide +kernel
theorem dX7_init_20 : decode cX7_init 20 = .ok (.invokespecial 9, 3) := by decide +kernel
theorem dX7_init_23 : decode cX7_init 23 = .ok (.putfield 16, 3) := by decide +kernel
theorem dX7_init_26 : decode cX7_init 26 = .ok (.aload_n 0, 1) := by decide +kernel
theorem dX7_init_27 : decode cX7_init 27 = .ok (.iconst 2, 1) := by decide +kernel
theorem dX7_init_28 : decode cX7_init 28 = .ok (.anewarray 7, 3) := by decide +kernel
theorem dX7_init_31 : decode cX7_init 31 = .ok (.dup, 1) := by decide +kernel
theorem dX7_init_32 : decode cX7_init 32 = .ok (.iconst 0, 1) := by decide +kernel
theorem dX7_init_33 : decode cX7_init 33 = .ok (.new 7, 3) := by decide +kernel
theorem dX7_init_36 : decode cX7_init 36 = .ok (.dup, 1) := by decide +kernel
theorem dX7_init_37 : decode cX7_init 37 = .ok (.invokespecial 9, 3) := by decide +kernel
theorem dX7_init_40 : decode cX7_init 40 = .ok (.aastore, 1) := by decide +kernel
theorem dX7_init_41 : decode cX7_init 41 = .ok (.dup, 1) := by decide +kernel
theorem dX7_init_42 : decode cX7_init 42 = .ok (.iconst 1, 1) := by decide +kernel
theorem dX7_init_43 : decode cX7_init 43 = .ok (.new 7, 3) := by decide +kernel
theorem dX7_init_46 : decode cX7_init 46 = .ok (.dup, 1) := by decide +kernel
theorem dX7_init_47 : decode cX7_init 47 = .ok (.invokespecial 9, 3) := by decide +kernel
theorem dX7_init_50 : decode cX7_init 50 = .ok (.aastore, 1) := by decide +kernel
theorem dX7_init_51 : decode cX7_init 51 = .ok (.putfield 19, 3) := by decide +kernel
theorem dX7_init_54 : decode cX7_init 54 = .ok (.aload_n 0, 1) := by decide +kernel
theorem dX7_init_55 : decode cX7_init 55 = .ok (.iconst 2, 1) := by decide +kernel
theorem dX7_init_56 : decode cX7_init 56 = .ok (.newarray .boolean, 2) := by decide +kernel
theorem dX7_init_58 : decode cX7_init 58 = .ok (.putfield 23, 3) := by decide +kernel
theorem dX7_init_61 : decode cX7_init 61 = .ok (.aload_n 0, 1) := by decide +kernel
theorem dX7_init_62 : decode cX7_init 62 = .ok (.new 27, 3) := by decide +kernel
theorem dX7_init_65 : decode cX7_init 65 = .ok (.dup, 1) := by decide +kernel
theorem dX7_init_66 : decode cX7_init 66 = .ok (.invokespecial 29, 3) := by decide +kernel
theorem dX7_init_69 : decode cX7_init 69 = .ok (.putfield 30, 3) := by decide +kernel
theorem dX7_init_72 : decode cX7_init 72 = .ok (.aload_n 0, 1) := by decide +kernel
theorem dX7_init_73 : decode cX7_init 73 = .ok (.new 34, 3) := by decide +kernel
theorem dX7_init_76 : decode cX7_init 76 = .ok (.dup, 1) := by decide +kernel
theorem dX7_init_77 : decode cX7_init 77 = .ok (.invokespecial 36, 3) := by decide +kernel
theorem dX7_init_80 : decode cX7_init 80 = .ok (.putfield 37, 3) := by decide +kernel
theorem dX7_init_83 : decode cX7_init 83 = .ok (.aload_n 0, 1) := by decide +kernel
theorem dX7_init_84 : decode cX7_init 84 = .ok (.new 41, 3) := by decide +kernel
theorem dX7_init_87 : decode cX7_init 87 = .ok (.dup, 1) := by decide +kernel
theorem dX7_init_88 : decode cX7_init 88 = .ok (.invokespecial 43, 3) := by decide +kernel
theorem dX7_init_91 : decode cX7_init 91 = .ok (.putfield 44, 3) := by decide +kernel
theorem dX7_init_94 : decode cX7_init 94 = .ok (.aload_n 0, 1) := by decide +kernel
theorem dX7_init_95 : decode cX7_init 95 = .ok (.new 48, 3) := by decide +kernel
theorem dX7_init_98 : decode cX7_init 98 = .ok (.dup, 1) := by decide +kernel
theorem dX7_init_99 : decode cX7_init 99 = .ok (.invokespecial 50, 3) := by decide +kernel
theorem dX7_init_102 : decode cX7_init 102 = .ok (.putfield 51, 3) := by decide +kernel
theorem dX7_init_105 : decode cX7_init 105 = .ok (.aload_n 0, 1) := by decide +kernel
theorem dX7_init_106 : decode cX7_init 106 = .ok (.bipush 13, 2) := by decide +kernel
theorem dX7_init_108 : decode cX7_init 108 = .ok (.newarray .int, 2) := by decide +kernel
theorem dX7_init_110 : decode cX7_init 110 = .ok (.putfield 55, 3) := by decide +kernel
theorem dX7_init_113 : decode cX7_init 113 = .ok (.return_, 1) := by decide +kernel
theorem dX7_page_0 : decode cX7_page 0 = .ok (.iload_n 1, 1) := by decide +kernel
theorem dX7_page_1 : decode cX7_page 1 = .ok (.invokestatic 59, 3) := by decide +kernel
theorem dX7_page_4 : decode cX7_page 4 = .ok (.ifCond .eq 10, 3) := by decide +kernel
theorem dX7_page_7 : decode cX7_page 7 = .ok (.iload_n 2, 1) := by decide +kernel
theorem dX7_page_8 : decode cX7_page 8 = .ok (.invokestatic 63, 3) := by decide +kernel
theorem dX7_page_11 : decode cX7_page 11 = .ok (.ifCond .ne 10, 3) := by decide +kernel
theorem dX7_page_14 : decode cX7_page 14 = .ok (.aload_n 0, 1) := by decide +kernel
theorem dX7_page_15 : decode cX7_page 15 = .ok (.bipush (-2), 2) := by decide +kernel
theorem dX7_page_17 : decode cX7_page 17 = .ok (.invokevirtual 66, 3) := by decide +kernel
theorem dX7_page_20 : decode cX7_page 20 = .ok (.ireturn, 1) := by decide +kernel
theorem dX7_page_21 : decode cX7_page 21 = .ok (.aload_n 0, 1) := by decide +kernel
theorem dX7_page_22 : decode cX7_page 22 = .ok (.getfield 10, 3) := by decide +kernel
theorem dX7_page_25 : decode cX7_page 25 = .ok (.getfield 70, 3) := by decide +kernel
theorem dX7_page_28 : decode cX7_page 28 = .ok (.istore_n 3, 1) := by decide +kernel
theorem dX7_page_29 : decode cX7_page 29 = .ok (.aload_n 0, 1) := by decide +kernel
theorem dX7_page_30 : decode cX7_page 30 = .ok (.getfield 10, 3) := by decide +kernel
theorem dX7_page_33 : decode cX7_page 33 = .ok (.iload_n 1, 1) := by decide +kernel
theorem dX7_page_34 : decode cX7_page 34 = .ok (.iload_n 2, 1) := by decide +kernel
theorem dX7_page_35 : decode cX7_page 35 = .ok (.invokevirtual 74, 3) := by decide +kernel
theorem dX7_page_38 : decode cX7_page 38 = .ok (.iload_n 3, 1) := by decide +kernel
theorem dX7_page_39 : decode cX7_page 39 = .ok (.ireturn, 1) := by decide +kernel
theorem dX7_word_0 : decode cX7_word 0 = .ok (.iload_n 1, 1) := by decide +kernel
theorem dX7_word_1 : decode cX7_word 1 = .ok (.invokestatic 78, 3) := by decide +kernel
theorem dX7_word_4 : decode cX7_word 4 = .ok (.ifCond .ne 10, 3) := by decide +kernel
theorem dX7_word_7 : decode cX7_word 7 = .ok (.aload_n 0, 1) := by decide +kernel
theorem dX7_word_8 : decode cX7_word 8 = .ok (.bipush (-2), 2) := by decide +kernel
theorem dX7_word_10 : decode cX7_word 10 = .ok (.invokevirtual 66, 3) := by decide +kernel
theorem dX7_word_13 : decode cX7_word 13 = .ok (.ireturn, 1) := by decide +kernel
theorem dX7_word_14 : decode cX7_word 14 = .ok (.aload_n 0, 1) := by decide +kernel
theorem dX7_word_15 : decode cX7_word 15 = .ok (.getfield 10, 3) := by decide +kernel
theorem dX7_word_18 : decode cX7_word 18 = .ok (.invokevirtual 81, 3) := by decide +kernel
theorem dX7_word_21 : decode cX7_word 21 = .ok (.ifCond .ne 10, 3) := by decide +kernel
theorem dX7_word_24 : decode cX7_word 24 = .ok (.aload_n 0, 1) := by decide +kernel
theorem dX7_word_25 : decode cX7_word 25 = .ok (.bipush (-4), 2) := by decide +kernel
theorem dX7_word_27 : decode cX7_word 27 = .ok (.invokevirtual 85, 3) := by decide +kernel
theorem dX7_word_30 : decode cX7_word 30 = .ok (.ireturn, 1) := by decide +kernel
theorem dX7_word_31 : decode cX7_word 31 = .ok (.aload_n 0, 1) := by decide +kernel
theorem dX7_word_32 : decode cX7_word 32 = .ok (.getfield 10, 3) := by decide +kernel
theorem dX7_word_35 : decode cX7_word 35 = .ok (.iload_n 1, 1) := by decide +kernel
theorem dX7_word_36 : decode cX7_word 36 = .ok (.invokevirtual 88, 3) := by decide +kernel
theorem dX7_word_39 : decode cX7_word 39 = .ok (.aload_n 0, 1) := by decide +kernel
theorem dX7_word_40 : decode cX7_word 40 = .ok (.getfield 10, 3) := by decide +kernel
theorem dX7_word_43 : decode cX7_word 43 = .ok (.getfield 70, 3) := by decide +kernel
theorem dX7_word_46 : decode cX7_word 46 = .ok (.iconst 1, 1) := by decide +kernel
theorem dX7_word_47 : decode cX7_word 47 = .ok (.isub, 1) := by decide +kernel
theorem dX7_word_48 : decode cX7_word 48 = .ok (.ireturn, 1) := by decide +kernel
theorem dX7_breath_0 : decode cX7_breath 0 = .ok (.iload_n 1, 1) := by decide +kernel
theorem dX7_breath_1 : decode cX7_breath 1 = .ok (.invokestatic 59, 3) := by decide +kernel
theorem dX7_breath_4 : decode cX7_breath 4 = .ok (.ifCond .ne 10, 3) := by decide +kernel
theorem dX7_breath_7 : decode cX7_breath 7 = .ok (.aload_n 0, 1) := by decide +kernel
theorem dX7_breath_8 : decode cX7_breath 8 = .ok (.bipush (-2), 2) := by decide +kernel
theorem dX7_breath_10 : decode cX7_breath 10 = .ok (.invokevirtual 66, 3) := by decide +kernel
theorem dX7_breath_13 : decode cX7_breath 13 = .ok (.ireturn, 1) := by decide +kernel
theorem dX7_breath_14 : decode cX7_breath 14 = .ok (.aload_n 0, 1) := by decide +kernel
theorem dX7_breath_15 : decode cX7_breath 15 = .ok (.getfield 10, 3) := by decide +kernel
theorem dX7_breath_18 : decode cX7_breath 18 = .ok (.getfield 92, 3) := by decide +kernel
theorem dX7_breath_21 : decode cX7_breath 21 = .ok (.istore_n 2, 1) := by decide +kernel
theorem dX7_breath_22 : decode cX7_breath 22 = .ok (.aload_n 0, 1) := by decide +kernel
theorem dX7_breath_23 : decode cX7_breath 23 = .ok (.getfield 10, 3) := by decide +kernel
theorem dX7_breath_26 : decode cX7_breath 26 = .ok (.iload_n 1, 1) := by decide +kernel
theorem dX7_breath_27 : decode cX7_breath 27 = .ok (.putfield 92, 3) := by decide +kernel
theorem dX7_breath_30 : decode cX7_breath 30 = .ok (.iload_n 2, 1) := by decide +kernel
theorem dX7_breath_31 : decode cX7_breath 31 = .ok (.ireturn, 1) := by decide +kernel
theorem dX7_price_0 : decode cX7_price 0 = .ok (.iload_n 1, 1) := by decide +kernel
theorem dX7_price_1 : decode cX7_price 1 = .ok (.invokestatic 63, 3) := by decide +kernel
theorem dX7_price_4 : decode cX7_price 4 = .ok (.ifCond .ne 10, 3) := by decide +kernel
theorem dX7_price_7 : decode cX7_price 7 = .ok (.aload_n 0, 1) := by decide +kernel
theorem dX7_price_8 : decode cX7_price 8 = .ok (.bipush (-2), 2) := by decide +kernel
theorem dX7_price_10 : decode cX7_price 10 = .ok (.invokevirtual 66, 3) := by decide +kernel
theorem dX7_price_13 : decode cX7_price 13 = .ok (.ireturn, 1) := by decide +kernel
theorem dX7_price_14 : decode cX7_price 14 = .ok (.aload_n 0, 1) := by decide +kernel
theorem dX7_price_15 : decode cX7_price 15 = .ok (.getfield 10, 3) := by decide +kernel
theorem dX7_price_18 : decode cX7_price 18 = .ok (.getfield 95, 3) := by decide +kernel
theorem dX7_price_21 : decode cX7_price 21 = .ok (.istore_n 2, 1) := by decide +kernel
theorem dX7_price_22 : decode cX7_price 22 = .ok (.aload_n 0, 1) := by decide +kernel
theorem dX7_price_23 : decode cX7_price 23 = .ok (.getfield 10, 3) := by decide +kernel
theorem dX7_price_26 : decode cX7_price 26 = .ok (.iload_n 1, 1) := by decide +kernel
theorem dX7_price_27 : decode cX7_price 27 = .ok (.putfield 95, 3) := by decide +kernel
theorem dX7_price_30 : decode cX7_price 30 = .ok (.iload_n 2, 1) := by decide +kernel
theorem dX7_price_31 : decode cX7_price 31 = .ok (.ireturn, 1) := by decide +kernel
theorem dX7_purse_0 : decode cX7_purse 0 = .ok (.iload_n 1, 1) := by decide +kernel
theorem dX7_purse_1 : decode cX7_purse 1 = .ok (.iconst 0, 1) := by decide +kernel
theorem dX7_purse_2 : decode cX7_purse 2 = .ok (.sipush 999, 3) := by decide +kernel
theorem dX7_purse_5 : decode cX7_purse 5 = .ok (.invokestatic 98, 3) := by decide +kernel
theorem dX7_purse_8 : decode cX7_purse 8 = .ok (.ifCond .ne 10, 3) := by decide +kernel
theorem dX7_purse_11 : decode cX7_purse 11 = .ok (.aload_n 0, 1) := by decide +kernel
theorem dX7_purse_12 : decode cX7_purse 12 = .ok (.bipush (-2), 2) := by decide +kernel
theorem dX7_purse_14 : decode cX7_purse 14 = .ok (.invokevirtual 66, 3) := by decide +kernel
theorem dX7_purse_17 : decode cX7_purse 17 = .ok (.ireturn, 1) := by decide +kernel
theorem dX7_purse_18 : decode cX7_purse 18 = .ok (.aload_n 0, 1) := by decide +kernel
theorem dX7_purse_19 : decode cX7_purse 19 = .ok (.getfield 10, 3) := by decide +kernel
theorem dX7_purse_22 : decode cX7_purse 22 = .ok (.getfield 102, 3) := by decide +kernel
theorem dX7_purse_25 : decode cX7_purse 25 = .ok (.getfield 106, 3) := by decide +kernel
theorem dX7_purse_28 : decode cX7_purse 28 = .ok (.istore_n 2, 1) := by decide +kernel
theorem dX7_purse_29 : decode cX7_purse 29 = .ok (.aload_n 0, 1) := by decide +kernel
theorem dX7_purse_30 : decode cX7_purse 30 = .ok (.getfield 10, 3) := by decide +kernel
theorem dX7_purse_33 : decode cX7_purse 33 = .ok (.getfield 102, 3) := by decide +kernel
theorem dX7_purse_36 : decode cX7_purse 36 = .ok (.iload_n 1, 1) := by decide +kernel
theorem dX7_purse_37 : decode cX7_purse 37 = .ok (.putfield 106, 3) := by decide +kernel
theorem dX7_purse_40 : decode cX7_purse 40 = .ok (.iload_n 2, 1) := by decide +kernel
theorem dX7_purse_41 : decode cX7_purse 41 = .ok (.ireturn, 1) := by decide +kernel
theorem dX7_put_0 : decode cX7_put 0 = .ok (.aload_n 0, 1) := by decide +kernel
theorem dX7_put_1 : decode cX7_put 1 = .ok (.getfield 10, 3) := by decide +kernel
theorem dX7_put_4 : decode cX7_put 4 = .ok (.iload_n 1, 1) := by decide +kernel
theorem dX7_put_5 : decode cX7_put 5 = .ok (.invokevirtual 111, 3) := by decide +kernel
theorem dX7_put_8 : decode cX7_put 8 = .ok (.ifCond .eq 10, 3) := by decide +kernel
theorem dX7_put_11 : decode cX7_put 11 = .ok (.iload_n 2, 1) := by decide +kernel
theorem dX7_put_12 : decode cX7_put 12 = .ok (.invokestatic 114, 3) := by decide +kernel
theorem dX7_put_15 : decode cX7_put 15 = .ok (.ifCond .ne 10, 3) := by decide +kernel
theorem dX7_put_18 : decode cX7_put 18 = .ok (.aload_n 0, 1) := by decide +kernel
theorem dX7_put_19 : decode cX7_put 19 = .ok (.bipush (-10), 2) := by decide +kernel
theorem dX7_put_21 : decode cX7_put 21 = .ok (.invokevirtual 66, 3) := by decide +kernel
theorem dX7_put_24 : decode cX7_put 24 = .ok (.ireturn, 1) := by decide +kernel
theorem dX7_put_25 : decode cX7_put 25 = .ok (.aload_n 0, 1) := by decide +kernel
theorem dX7_put_26 : decode cX7_put 26 = .ok (.getfield 10, 3) := by decide +kernel
theorem dX7_put_29 : decode cX7_put 29 = .ok (.getfield 102, 3) := by decide +kernel
theorem dX7_put_32 : decode cX7_put 32 = .ok (.getfield 119, 3) := by decide +kernel
theorem dX7_put_35 : decode cX7_put 35 = .ok (.iload_n 1, 1) := by decide +kernel
theorem dX7_put_36 : decode cX7_put 36 = .ok (.iaload, 1) := by decide +kernel
theorem dX7_put_37 : decode cX7_put 37 = .ok (.istore_n 3, 1) := by decide +kernel
theorem dX7_put_38 : decode cX7_put 38 = .ok (.aload_n 0, 1) := by decide +kernel
theorem dX7_put_39 : decode cX7_put 39 = .ok (.getfield 10, 3) := by decide +kernel
theorem dX7_put_42 : decode cX7_put 42 = .ok (.iload_n 1, 1) := by decide +kernel
theorem dX7_put_43 : decode cX7_put 43 = .ok (.iload_n 2, 1) := by decide +kernel
theorem dX7_put_44 : decode cX7_put 44 = .ok (.invokevirtual 122, 3) := by decide +kernel
theorem dX7_put_47 : decode cX7_put 47 = .ok (.iload_n 3, 1) := by decide +kernel
theorem dX7_put_48 : decode cX7_put 48 = .ok (.ireturn, 1) := by decide +kernel
theorem dX7_type_0 : decode cX7_type 0 = .ok (.iload_n 1, 1) := by decide +kernel
theorem dX7_type_1 : decode cX7_type 1 = .ok (.iconst 0, 1) := by decide +kernel
theorem dX7_type_2 : decode cX7_type 2 = .ok (.bipush 127, 2) := by decide +kernel
theorem dX7_type_4 : decode cX7_type 4 = .ok (.invokestatic 98, 3) := by decide +kernel
theorem dX7_type_7 : decode cX7_type 7 = .ok (.ifCond .ne 10, 3) := by decide +kernel
theorem dX7_type_10 : decode cX7_type 10 = .ok (.aload_n 0, 1) := by decide +kernel
theorem dX7_type_11 : decode cX7_type 11 = .ok (.bipush (-2), 2) := by decide +kernel
theorem dX7_type_13 : decode cX7_type 13 = .ok (.invokevirtual 66, 3) := by decide +kernel
theorem dX7_type_16 : decode cX7_type 16 = .ok (.ireturn, 1) := by decide +kernel
theorem dX7_type_17 : decode cX7_type 17 = .ok (.aload_n 0, 1) := by decide +kernel
theorem dX7_type_18 : decode cX7_type 18 = .ok (.getfield 30, 3) := by decide +kernel
theorem dX7_type_21 : decode cX7_type 21 = .ok (.getfield 125, 3) := by decide +kernel
theorem dX7_type_24 : decode cX7_type 24 = .ok (.sipush 150, 3) := by decide +kernel
theorem dX7_type_27 : decode cX7_type 27 = .ok (.if_icmp .lt 10, 3) := by decide +kernel
theorem dX7_type_30 : decode cX7_type 30 = .ok (.aload_n 0, 1) := by decide +kernel
theorem dX7_type_31 : decode cX7_type 31 = .ok (.bipush (-4), 2) := by decide +kernel
theorem dX7_type_33 : decode cX7_type 33 = .ok (.invokevirtual 85, 3) := by decide +kernel
theorem dX7_type_36 : decode cX7_type 36 = .ok (.ireturn, 1) := by decide +kernel
theorem dX7_type_37 : decode cX7_type 37 = .ok (.aload_n 0, 1) := by decide +kernel
theorem dX7_type_38 : decode cX7_type 38 = .ok (.getfield 30, 3) := by decide +kernel
theorem dX7_type_41 : decode cX7_type 41 = .ok (.iload_n 1, 1) := by decide +kernel
theorem dX7_type_42 : decode cX7_type 42 = .ok (.invokevirtual 128, 3) := by decide +kernel
theorem dX7_type_45 : decode cX7_type 45 = .ok (.aload_n 0, 1) := by decide +kernel
theorem dX7_type_46 : decode cX7_type 46 = .ok (.getfield 30, 3) := by decide +kernel
theorem dX7_type_49 : decode cX7_type 49 = .ok (.getfield 125, 3) := by decide +kernel
theorem dX7_type_52 : decode cX7_type 52 = .ok (.ireturn, 1) := by decide +kernel
theorem dX7_clear_0 : decode cX7_clear 0 = .ok (.aload_n 0, 1) := by decide +kernel
theorem dX7_clear_1 : decode cX7_clear 1 = .ok (.getfield 30, 3) := by decide +kernel
theorem dX7_clear_4 : decode cX7_clear 4 = .ok (.getfield 125, 3) := by decide +kernel
theorem dX7_clear_7 : decode cX7_clear 7 = .ok (.istore_n 1, 1) := by decide +kernel
theorem dX7_clear_8 : decode cX7_clear 8 = .ok (.aload_n 0, 1) := by decide +kernel
theorem dX7_clear_9 : decode cX7_clear 9 = .ok (.getfield 30, 3) := by decide +kernel
theorem dX7_clear_12 : decode cX7_clear 12 = .ok (.iconst 0, 1) := by decide +kernel
theorem dX7_clear_13 : decode cX7_clear 13 = .ok (.putfield 125, 3) := by decide +kernel
theorem dX7_clear_16 : decode cX7_clear 16 = .ok (.iload_n 1, 1) := by decide +kernel
theorem dX7_clear_17 : decode cX7_clear 17 = .ok (.ireturn, 1) := by decide +kernel
theorem dX7_read_0 : decode cX7_read 0 = .ok (.aload_n 0, 1) := by decide +kernel
theorem dX7_read_1 : decode cX7_read 1 = .ok (.getfield 30, 3) := by decide +kernel
theorem dX7_read_4 : decode cX7_read 4 = .ok (.invokevirtual 131, 3) := by decide +kernel
theorem dX7_read_7 : decode cX7_read 7 = .ok (.istore_n 1, 1) := by decide +kernel
theorem dX7_read_8 : decode cX7_read 8 = .ok (.iload_n 1, 1) := by decide +kernel
theorem dX7_read_9 : decode cX7_read 9 = .ok (.iconst (-1), 1) := by decide +kernel
theorem dX7_read_10 : decode cX7_read 10 = .ok (.if_icmp .eq 8, 3) := by decide +kernel
theorem dX7_read_13 : decode cX7_read 13 = .ok (.bipush (-10), 2) := by decide +kernel
theorem dX7_read_15 : decode cX7_read 15 = .ok (.iload_n 1, 1) := by decide +kernel
theorem dX7_read_16 : decode cX7_read 16 = .ok (.isub, 1) := by decide +kernel
theorem dX7_read_17 : decode cX7_read 17 = .ok (.ireturn, 1) := by decide +kernel
theorem dX7_read_18 : decode cX7_read 18 = .ok (.iconst 0, 1) := by decide +kernel
theorem dX7_read_19 : decode cX7_read 19 = .ok (.istore_n 2, 1) := by decide +kernel
theorem dX7_read_20 : decode cX7_read 20 = .ok (.iload_n 2, 1) := by decide +kernel
theorem dX7_read_21 : decode cX7_read 21 = .ok (.aload_n 0, 1) := by decide +kernel
theorem dX7_read_22 : decode cX7_read 22 = .ok (.getfield 30, 3) := by decide +kernel
theorem dX7_read_25 : decode cX7_read 25 = .ok (.getfield 135, 3) := by decide +kernel
theorem dX7_read_28 : decode cX7_read 28 = .ok (.if_icmp .ge 23, 3) := by decide +kernel
theorem dX7_read_31 : decode cX7_read 31 = .ok (.aload_n 0, 1) := by decide +kernel
theorem dX7_read_32 : decode cX7_read 32 = .ok (.iload_n 2, 1) := by decide +kernel
theorem dX7_read_33 : decode cX7_read 33 = .ok (.invokevirtual 138, 3) := by decide +kernel
theorem dX7_read_36 : decode cX7_read 36 = .ok (.ifCond .ne 9, 3) := by decide +kernel
theorem dX7_read_39 : decode cX7_read 39 = .ok (.sipush (-1000), 3) := by decide +kernel
theorem dX7_read_42 : decode cX7_read 42 = .ok (.iload_n 2, 1) := by decide +kernel
theorem dX7_read_43 : decode cX7_read 43 = .ok (.isub, 1) := by decide +kernel
theorem dX7_read_44 : decode cX7_read 44 = .ok (.ireturn, 1) := by decide +kernel
theorem dX7_read_45 : decode cX7_read 45 = .ok (.iinc 2 1, 3) := by decide +kernel
theorem dX7_read_48 : decode cX7_read 48 = .ok (.goto (-28), 3) := by decide +kernel
theorem dX7_read_51 : decode cX7_read 51 = .ok (.aload_n 0, 1) := by decide +kernel
theorem dX7_read_52 : decode cX7_read 52 = .ok (.getfield 10, 3) := by decide +kernel
theorem dX7_read_55 : decode cX7_read 55 = .ok (.aload_n 0, 1) := by decide +kernel
theorem dX7_read_56 : decode cX7_read 56 = .ok (.getfield 16, 3) := by decide +kernel
theorem dX7_read_59 : decode cX7_read 59 = .ok (.invokevirtual 141, 3) := by decide +kernel
theorem dX7_read_62 : decode cX7_read 62 = .ok (.aload_n 0, 1) := by decide +kernel
theorem dX7_read_63 : decode cX7_read 63 = .ok (.getfield 30, 3) := by decide +kernel
theorem dX7_read_66 : decode cX7_read 66 = .ok (.getfield 135, 3) := by decide +kernel
theorem dX7_read_69 : decode cX7_read 69 = .ok (.ireturn, 1) := by decide +kernel
theorem dX7_buy_0 : decode cX7_buy 0 = .ok (.aload_n 0, 1) := by decide +kernel
theorem dX7_buy_1 : decode cX7_buy 1 = .ok (.getfield 10, 3) := by decide +kernel
theorem dX7_buy_4 : decode cX7_buy 4 = .ok (.iload_n 1, 1) := by decide +kernel
theorem dX7_buy_5 : decode cX7_buy 5 = .ok (.invokevirtual 111, 3) := by decide +kernel
theorem dX7_buy_8 : decode cX7_buy 8 = .ok (.ifCond .eq 10, 3) := by decide +kernel
theorem dX7_buy_11 : decode cX7_buy 11 = .ok (.iload_n 2, 1) := by decide +kernel
theorem dX7_buy_12 : decode cX7_buy 12 = .ok (.invokestatic 114, 3) := by decide +kernel
theorem dX7_buy_15 : decode cX7_buy 15 = .ok (.ifCond .ne 10, 3) := by decide +kernel
theorem dX7_buy_18 : decode cX7_buy 18 = .ok (.aload_n 0, 1) := by decide +kernel
theorem dX7_buy_19 : decode cX7_buy 19 = .ok (.bipush (-2), 2) := by decide +kernel
theorem dX7_buy_21 : decode cX7_buy 21 = .ok (.invokevirtual 66, 3) := by decide +kernel
theorem dX7_buy_24 : decode cX7_buy 24 = .ok (.ireturn, 1) := by decide +kernel
theorem dX7_buy_25 : decode cX7_buy 25 = .ok (.aload_n 0, 1) := by decide +kernel
theorem dX7_buy_26 : decode cX7_buy 26 = .ok (.getfield 10, 3) := by decide +kernel
theorem dX7_buy_29 : decode cX7_buy 29 = .ok (.iload_n 2, 1) := by decide +kernel
theorem dX7_buy_30 : decode cX7_buy 30 = .ok (.invokevirtual 145, 3) := by decide +kernel
theorem dX7_buy_33 : decode cX7_buy 33 = .ok (.istore_n 3, 1) := by decide +kernel
theorem dX7_buy_34 : decode cX7_buy 34 = .ok (.aload_n 0, 1) := by decide +kernel
theorem dX7_buy_35 : decode cX7_buy 35 = .ok (.getfield 10, 3) := by decide +kernel
theorem dX7_buy_38 : decode cX7_buy 38 = .ok (.getfield 102, 3) := by decide +kernel
theorem dX7_buy_41 : decode cX7_buy 41 = .ok (.getfield 119, 3) := by decide +kernel
theorem dX7_buy_44 : decode cX7_buy 44 = .ok (.iload_n 1, 1) := by decide +kernel
theorem dX7_buy_45 : decode cX7_buy 45 = .ok (.iaload, 1) := by decide +kernel
theorem dX7_buy_46 : decode cX7_buy 46 = .ok (.iconst (-1), 1) := by decide +kernel
theorem dX7_buy_47 : decode cX7_buy 47 = .ok (.if_icmp .ne 17, 3) := by decide +kernel
theorem dX7_buy_50 : decode cX7_buy 50 = .ok (.aload_n 0, 1) := by decide +kernel
theorem dX7_buy_51 : decode cX7_buy 51 = .ok (.getfield 10, 3) := by decide +kernel
theorem dX7_buy_54 : decode cX7_buy 54 = .ok (.getfield 102, 3) := by decide +kernel
theorem dX7_buy_57 : decode cX7_buy 57 = .ok (.getfield 106, 3) := by decide +kernel
theorem dX7_buy_60 : decode cX7_buy 60 = .ok (.iload_n 3, 1) := by decide +kernel
theorem dX7_buy_61 : decode cX7_buy 61 = .ok (.if_icmp .ge 10, 3) := by decide +kernel
theorem dX7_buy_64 : decode cX7_buy 64 = .ok (.aload_n 0, 1) := by decide +kernel
theorem dX7_buy_65 : decode cX7_buy 65 = .ok (.bipush (-3), 2) := by decide +kernel
theorem dX7_buy_67 : decode cX7_buy 67 = .ok (.invokevirtual 148, 3) := by decide +kernel
theorem dX7_buy_70 : decode cX7_buy 70 = .ok (.ireturn, 1) := by decide +kernel
theorem dX7_buy_71 : decode cX7_buy 71 = .ok (.aload_n 0, 1) := by decide +kernel
theorem dX7_buy_72 : decode cX7_buy 72 = .ok (.getfield 10, 3) := by decide +kernel
theorem dX7_buy_75 : decode cX7_buy 75 = .ok (.invokevirtual 151, 3) := by decide +kernel
theorem dX7_buy_78 : decode cX7_buy 78 = .ok (.aload_n 0, 1) := by decide +kernel
theorem dX7_buy_79 : decode cX7_buy 79 = .ok (.getfield 10, 3) := by decide +kernel
theorem dX7_buy_82 : decode cX7_buy 82 = .ok (.getfield 102, 3) := by decide +kernel
theorem dX7_buy_85 : decode cX7_buy 85 = .ok (.iload_n 1, 1) := by decide +kernel
theorem dX7_buy_86 : decode cX7_buy 86 = .ok (.iload_n 2, 1) := by decide +kernel
theorem dX7_buy_87 : decode cX7_buy 87 = .ok (.invokevirtual 154, 3) := by decide +kernel
theorem dX7_buy_90 : decode cX7_buy 90 = .ok (.aload_n 0, 1) := by decide +kernel
theorem dX7_buy_91 : decode cX7_buy 91 = .ok (.getfield 10, 3) := by decide +kernel
theorem dX7_buy_94 : decode cX7_buy 94 = .ok (.getfield 102, 3) := by decide +kernel
theorem dX7_buy_97 : decode cX7_buy 97 = .ok (.dup, 1) := by decide +kernel
theorem dX7_buy_98 : decode cX7_buy 98 = .ok (.getfield 106, 3) := by decide +kernel
theorem dX7_buy_101 : decode cX7_buy 101 = .ok (.iload_n 3, 1) := by decide +kernel
theorem dX7_buy_102 : decode cX7_buy 102 = .ok (.isub, 1) := by decide +kernel
theorem dX7_buy_103 : decode cX7_buy 103 = .ok (.putfield 106, 3) := by decide +kernel
theorem dX7_buy_106 : decode cX7_buy 106 = .ok (.iload_n 3, 1) := by decide +kernel
theorem dX7_buy_107 : decode cX7_buy 107 = .ok (.ireturn, 1) := by decide +kernel
theorem dX7_sell_0 : decode cX7_sell 0 = .ok (.aload_n 0, 1) := by decide +kernel
theorem dX7_sell_1 : decode cX7_sell 1 = .ok (.getfield 10, 3) := by decide +kernel
theorem dX7_sell_4 : decode cX7_sell 4 = .ok (.iload_n 1, 1) := by decide +kernel
theorem dX7_sell_5 : decode cX7_sell 5 = .ok (.invokevirtual 111, 3) := by decide +kernel
theorem dX7_sell_8 : decode cX7_sell 8 = .ok (.ifCond .ne 10, 3) := by decide +kernel
theorem dX7_sell_11 : decode cX7_sell 11 = .ok (.aload_n 0, 1) := by decide +kernel
theorem dX7_sell_12 : decode cX7_sell 12 = .ok (.bipush (-2), 2) := by decide +kernel
theorem dX7_sell_14 : decode cX7_sell 14 = .ok (.invokevirtual 66, 3) := by decide +kernel
theorem dX7_sell_17 : decode cX7_sell 17 = .ok (.ireturn, 1) := by decide +kernel
theorem dX7_sell_18 : decode cX7_sell 18 = .ok (.aload_n 0, 1) := by decide +kernel
theorem dX7_sell_19 : decode cX7_sell 19 = .ok (.getfield 10, 3) := by decide +kernel
theorem dX7_sell_22 : decode cX7_sell 22 = .ok (.getfield 102, 3) := by decide +kernel
theorem dX7_sell_25 : decode cX7_sell 25 = .ok (.getfield 119, 3) := by decide +kernel
theorem dX7_sell_28 : decode cX7_sell 28 = .ok (.iload_n 1, 1) := by decide +kernel
theorem dX7_sell_29 : decode cX7_sell 29 = .ok (.iaload, 1) := by decide +kernel
theorem dX7_sell_30 : decode cX7_sell 30 = .ok (.iconst (-1), 1) := by decide +kernel
theorem dX7_sell_31 : decode cX7_sell 31 = .ok (.if_icmp .ne 10, 3) := by decide +kernel
theorem dX7_sell_34 : decode cX7_sell 34 = .ok (.aload_n 0, 1) := by decide +kernel
theorem dX7_sell_35 : decode cX7_sell 35 = .ok (.bipush (-3), 2) := by decide +kernel
theorem dX7_sell_37 : decode cX7_sell 37 = .ok (.invokevirtual 148, 3) := by decide +kernel
theorem dX7_sell_40 : decode cX7_sell 40 = .ok (.ireturn, 1) := by decide +kernel
theorem dX7_sell_41 : decode cX7_sell 41 = .ok (.aload_n 0, 1) := by decide +kernel
theorem dX7_sell_42 : decode cX7_sell 42 = .ok (.getfield 10, 3) := by decide +kernel
theorem dX7_sell_45 : decode cX7_sell 45 = .ok (.aload_n 0, 1) := by decide +kernel
theorem dX7_sell_46 : decode cX7_sell 46 = .ok (.getfield 10, 3) := by decide +kernel
theorem dX7_sell_49 : decode cX7_sell 49 = .ok (.getfield 102, 3) := by decide +kernel
theorem dX7_sell_52 : decode cX7_sell 52 = .ok (.getfield 119, 3) := by decide +kernel
theorem dX7_sell_55 : decode cX7_sell 55 = .ok (.iload_n 1, 1) := by decide +kernel
theorem dX7_sell_56 : decode cX7_sell 56 = .ok (.iaload, 1) := by decide +kernel
theorem dX7_sell_57 : decode cX7_sell 57 = .ok (.invokevirtual 145, 3) := by decide +kernel
theorem dX7_sell_60 : decode cX7_sell 60 = .ok (.iconst 2, 1) := by decide +kernel
theorem dX7_sell_61 : decode cX7_sell 61 = .ok (.idiv, 1) := by decide +kernel
theorem dX7_sell_62 : decode cX7_sell 62 = .ok (.istore_n 2, 1) := by decide +kernel
theorem dX7_sell_63 : decode cX7_sell 63 = .ok (.aload_n 0, 1) := by decide +kernel
theorem dX7_sell_64 : decode cX7_sell 64 = .ok (.getfield 10, 3) := by decide +kernel
theorem dX7_sell_67 : decode cX7_sell 67 = .ok (.invokevirtual 151, 3) := by decide +kernel
theorem dX7_sell_70 : decode cX7_sell 70 = .ok (.aload_n 0, 1) := by decide +kernel
theorem dX7_sell_71 : decode cX7_sell 71 = .ok (.getfield 10, 3) := by decide +kernel
theorem dX7_sell_74 : decode cX7_sell 74 = .ok (.getfield 102, 3) := by decide +kernel
theorem dX7_sell_77 : decode cX7_sell 77 = .ok (.iload_n 1, 1) := by decide +kernel
theorem dX7_sell_78 : decode cX7_sell 78 = .ok (.iconst (-1), 1) := by decide +kernel
theorem dX7_sell_79 : decode cX7_sell 79 = .ok (.invokevirtual 154, 3) := by decide +kernel
theorem dX7_sell_82 : decode cX7_sell 82 = .ok (.aload_n 0, 1) := by decide +kernel
theorem dX7_sell_83 : decode cX7_sell 83 = .ok (.getfield 10, 3) := by decide +kernel
theorem dX7_sell_86 : decode cX7_sell 86 = .ok (.getfield 102, 3) := by decide +kernel
theorem dX7_sell_89 : decode cX7_sell 89 = .ok (.aload_n 0, 1) := by decide +kernel
theorem dX7_sell_90 : decode cX7_sell 90 = .ok (.getfield 10, 3) := by decide +kernel
theorem dX7_sell_93 : decode cX7_sell 93 = .ok (.getfield 102, 3) := by decide +kernel
theorem dX7_sell_96 : decode cX7_sell 96 = .ok (.getfield 106, 3) := by decide +kernel
theorem dX7_sell_99 : decode cX7_sell 99 = .ok (.iload_n 2, 1) := by decide +kernel
theorem dX7_sell_100 : decode cX7_sell 100 = .ok (.iadd, 1) := by decide +kernel
theorem dX7_sell_101 : decode cX7_sell 101 = .ok (.sipush 999, 3) := by decide +kernel
theorem dX7_sell_104 : decode cX7_sell 104 = .ok (.invokestatic 157, 3) := by decide +kernel
theorem dX7_sell_107 : decode cX7_sell 107 = .ok (.putfield 106, 3) := by decide +kernel
theorem dX7_sell_110 : decode cX7_sell 110 = .ok (.iload_n 2, 1) := by decide +kernel
theorem dX7_sell_111 : decode cX7_sell 111 = .ok (.ireturn, 1) := by decide +kernel
theorem dX7_readOut_0 : decode cX7_readOut 0 = .ok (.aload_n 0, 1) := by decide +kernel
theorem dX7_readOut_1 : decode cX7_readOut 1 = .ok (.getfield 10, 3) := by decide +kernel
theorem dX7_readOut_4 : decode cX7_readOut 4 = .ok (.invokevirtual 151, 3) := by decide +kernel
theorem dX7_readOut_7 : decode cX7_readOut 7 = .ok (.aload_n 0, 1) := by decide +kernel
theorem dX7_readOut_8 : decode cX7_readOut 8 = .ok (.getfield 10, 3) := by decide +kernel
theorem dX7_readOut_11 : decode cX7_readOut 11 = .ok (.invokevirtual 163, 3) := by decide +kernel
theorem dX7_readOut_14 : decode cX7_readOut 14 = .ok (.ireturn, 1) := by decide +kernel
theorem dX7_week_0 : decode cX7_week 0 = .ok (.iload_n 1, 1) := by decide +kernel
theorem dX7_week_1 : decode cX7_week 1 = .ok (.iconst 1, 1) := by decide +kernel
theorem dX7_week_2 : decode cX7_week 2 = .ok (.bipush 20, 2) := by decide +kernel
theorem dX7_week_4 : decode cX7_week 4 = .ok (.invokestatic 98, 3) := by decide +kernel
theorem dX7_week_7 : decode cX7_week 7 = .ok (.ifCond .ne 10, 3) := by decide +kernel
theorem dX7_week_10 : decode cX7_week 10 = .ok (.aload_n 0, 1) := by decide +kernel
theorem dX7_week_11 : decode cX7_week 11 = .ok (.bipush (-2), 2) := by decide +kernel
theorem dX7_week_13 : decode cX7_week 13 = .ok (.invokevirtual 66, 3) := by decide +kernel
theorem dX7_week_16 : decode cX7_week 16 = .ok (.ireturn, 1) := by decide +kernel
theorem dX7_week_17 : decode cX7_week 17 = .ok (.aload_n 0, 1) := by decide +kernel
theorem dX7_week_18 : decode cX7_week 18 = .ok (.getfield 10, 3) := by decide +kernel
theorem dX7_week_21 : decode cX7_week 21 = .ok (.invokevirtual 151, 3) := by decide +kernel
theorem dX7_week_24 : decode cX7_week 24 = .ok (.aload_n 0, 1) := by decide +kernel
theorem dX7_week_25 : decode cX7_week 25 = .ok (.getfield 10, 3) := by decide +kernel
theorem dX7_week_28 : decode cX7_week 28 = .ok (.getfield 102, 3) := by decide +kernel
theorem dX7_week_31 : decode cX7_week 31 = .ok (.dup, 1) := by decide +kernel
theorem dX7_week_32 : decode cX7_week 32 = .ok (.getfield 166, 3) := by decide +kernel
theorem dX7_week_35 : decode cX7_week 35 = .ok (.iload_n 1, 1) := by decide +kernel
theorem dX7_week_36 : decode cX7_week 36 = .ok (.iadd, 1) := by decide +kernel
theorem dX7_week_37 : decode cX7_week 37 = .ok (.putfield 166, 3) := by decide +kernel
theorem dX7_week_40 : decode cX7_week 40 = .ok (.aload_n 0, 1) := by decide +kernel
theorem dX7_week_41 : decode cX7_week 41 = .ok (.getfield 10, 3) := by decide +kernel
theorem dX7_week_44 : decode cX7_week 44 = .ok (.getfield 102, 3) := by decide +kernel
theorem dX7_week_47 : decode cX7_week 47 = .ok (.getfield 166, 3) := by decide +kernel
theorem dX7_week_50 : decode cX7_week 50 = .ok (.ireturn, 1) := by decide +kernel
theorem dX7_undo_0 : decode cX7_undo 0 = .ok (.aload_n 0, 1) := by decide +kernel
theorem dX7_undo_1 : decode cX7_undo 1 = .ok (.getfield 10, 3) := by decide +kernel
theorem dX7_undo_4 : decode cX7_undo 4 = .ok (.getfield 169, 3) := by decide +kernel
theorem dX7_undo_7 : decode cX7_undo 7 = .ok (.ifCond .ne 10, 3) := by decide +kernel
theorem dX7_undo_10 : decode cX7_undo 10 = .ok (.aload_n 0, 1) := by decide +kernel
theorem dX7_undo_11 : decode cX7_undo 11 = .ok (.bipush (-3), 2) := by decide +kernel
theorem dX7_undo_13 : decode cX7_undo 13 = .ok (.invokevirtual 148, 3) := by decide +kernel
theorem dX7_undo_16 : decode cX7_undo 16 = .ok (.ireturn, 1) := by decide +kernel
theorem dX7_undo_17 : decode cX7_undo 17 = .ok (.aload_n 0, 1) := by decide +kernel
theorem dX7_undo_18 : decode cX7_undo 18 = .ok (.getfield 10, 3) := by decide +kernel
theorem dX7_undo_21 : decode cX7_undo 21 = .ok (.invokevirtual 172, 3) := by decide +kernel
theorem dX7_undo_24 : decode cX7_undo 24 = .ok (.aload_n 0, 1) := by decide +kernel
theorem dX7_undo_25 : decode cX7_undo 25 = .ok (.getfield 10, 3) := by decide +kernel
theorem dX7_undo_28 : decode cX7_undo 28 = .ok (.getfield 102, 3) := by decide +kernel
theorem dX7_undo_31 : decode cX7_undo 31 = .ok (.getfield 106, 3) := by decide +kernel
theorem dX7_undo_34 : decode cX7_undo 34 = .ok (.ireturn, 1) := by decide +kernel
theorem dX7_of_0 : decode cX7_of 0 = .ok (.aload_n 0, 1) := by decide +kernel
theorem dX7_of_1 : decode cX7_of 1 = .ok (.getfield 10, 3) := by decide +kernel
theorem dX7_of_4 : decode cX7_of 4 = .ok (.iload_n 1, 1) := by decide +kernel
theorem dX7_of_5 : decode cX7_of 5 = .ok (.invokevirtual 111, 3) := by decide +kernel
theorem dX7_of_8 : decode cX7_of 8 = .ok (.ifCond .ne 10, 3) := by decide +kernel
theorem dX7_of_11 : decode cX7_of 11 = .ok (.aload_n 0, 1) := by decide +kernel
theorem dX7_of_12 : decode cX7_of 12 = .ok (.bipush (-10), 2) := by decide +kernel
theorem dX7_of_14 : decode cX7_of 14 = .ok (.invokevirtual 66, 3) := by decide +kernel
theorem dX7_of_17 : decode cX7_of 17 = .ok (.ireturn, 1) := by decide +kernel
theorem dX7_of_18 : decode cX7_of 18 = .ok (.iload_n 2, 1) := by decide +kernel
theorem dX7_of_19 : decode cX7_of 19 = .ok (.tableswitch 85 0 3 #[29, 39, 52, 65], 29) := by decide +kernel
theorem dX7_of_48 : decode cX7_of 48 = .ok (.aload_n 0, 1) := by decide +kernel
theorem dX7_of_49 : decode cX7_of 49 = .ok (.getfield 10, 3) := by decide +kernel
theorem dX7_of_52 : decode cX7_of 52 = .ok (.getfield 175, 3) := by decide +kernel
theorem dX7_of_55 : decode cX7_of 55 = .ok (.iload_n 1, 1) := by decide +kernel
theorem dX7_of_56 : decode cX7_of 56 = .ok (.iaload, 1) := by decide +kernel
theorem dX7_of_57 : decode cX7_of 57 = .ok (.ireturn, 1) := by decide +kernel
theorem dX7_of_58 : decode cX7_of 58 = .ok (.aload_n 0, 1) := by decide +kernel
theorem dX7_of_59 : decode cX7_of 59 = .ok (.getfield 10, 3) := by decide +kernel
theorem dX7_of_62 : decode cX7_of 62 = .ok (.getfield 102, 3) := by decide +kernel
theorem dX7_of_65 : decode cX7_of 65 = .ok (.getfield 119, 3) := by decide +kernel
theorem dX7_of_68 : decode cX7_of 68 = .ok (.iload_n 1, 1) := by decide +kernel
theorem dX7_of_69 : decode cX7_of 69 = .ok (.iaload, 1) := by decide +kernel
theorem dX7_of_70 : decode cX7_of 70 = .ok (.ireturn, 1) := by decide +kernel
theorem dX7_of_71 : decode cX7_of 71 = .ok (.aload_n 0, 1) := by decide +kernel
theorem dX7_of_72 : decode cX7_of 72 = .ok (.getfield 10, 3) := by decide +kernel
theorem dX7_of_75 : decode cX7_of 75 = .ok (.getfield 102, 3) := by decide +kernel
theorem dX7_of_78 : decode cX7_of 78 = .ok (.getfield 178, 3) := by decide +kernel
theorem dX7_of_81 : decode cX7_of 81 = .ok (.iload_n 1, 1) := by decide +kernel
theorem dX7_of_82 : decode cX7_of 82 = .ok (.iaload, 1) := by decide +kernel
theorem dX7_of_83 : decode cX7_of 83 = .ok (.ireturn, 1) := by decide +kernel
theorem dX7_of_84 : decode cX7_of 84 = .ok (.aload_n 0, 1) := by decide +kernel
theorem dX7_of_85 : decode cX7_of 85 = .ok (.getfield 10, 3) := by decide +kernel
theorem dX7_of_88 : decode cX7_of 88 = .ok (.aload_n 0, 1) := by decide +kernel
theorem dX7_of_89 : decode cX7_of 89 = .ok (.getfield 10, 3) := by decide +kernel
theorem dX7_of_92 : decode cX7_of 92 = .ok (.getfield 102, 3) := by decide +kernel
theorem dX7_of_95 : decode cX7_of 95 = .ok (.getfield 119, 3) := by decide +kernel
theorem dX7_of_98 : decode cX7_of 98 = .ok (.iload_n 1, 1) := by decide +kernel
theorem dX7_of_99 : decode cX7_of 99 = .ok (.iaload, 1) := by decide +kernel
theorem dX7_of_100 : decode cX7_of 100 = .ok (.invokevirtual 145, 3) := by decide +kernel
theorem dX7_of_103 : decode cX7_of 103 = .ok (.ireturn, 1) := by decide +kernel
theorem dX7_of_104 : decode cX7_of 104 = .ok (.aload_n 0, 1) := by decide +kernel
theorem dX7_of_105 : decode cX7_of 105 = .ok (.bipush (-10), 2) := by decide +kernel
theorem dX7_of_107 : decode cX7_of 107 = .ok (.invokevirtual 66, 3) := by decide +kernel
theorem dX7_of_110 : decode cX7_of 110 = .ok (.ireturn, 1) := by decide +kernel
theorem dX7_costs_0 : decode cX7_costs 0 = .ok (.iload_n 1, 1) := by decide +kernel
theorem dX7_costs_1 : decode cX7_costs 1 = .ok (.invokestatic 114, 3) := by decide +kernel
theorem dX7_costs_4 : decode cX7_costs 4 = .ok (.ifCond .eq 14, 3) := by decide +kernel
theorem dX7_costs_7 : decode cX7_costs 7 = .ok (.aload_n 0, 1) := by decide +kernel
theorem dX7_costs_8 : decode cX7_costs 8 = .ok (.getfield 10, 3) := by decide +kernel
theorem dX7_costs_11 : decode cX7_costs 11 = .ok (.iload_n 1, 1) := by decide +kernel
theorem dX7_costs_12 : decode cX7_costs 12 = .ok (.invokevirtual 145, 3) := by decide +kernel
theorem dX7_costs_15 : decode cX7_costs 15 = .ok (.goto 9, 3) := by decide +kernel
theorem dX7_costs_18 : decode cX7_costs 18 = .ok (.aload_n 0, 1) := by decide +kernel
theorem dX7_costs_19 : decode cX7_costs 19 = .ok (.bipush (-2), 2) := by decide +kernel
theorem dX7_costs_21 : decode cX7_costs 21 = .ok (.invokevirtual 66, 3) := by decide +kernel
theorem dX7_costs_24 : decode cX7_costs 24 = .ok (.ireturn, 1) := by decide +kernel
theorem dX7_gives_0 : decode cX7_gives 0 = .ok (.iload_n 1, 1) := by decide +kernel
theorem dX7_gives_1 : decode cX7_gives 1 = .ok (.invokestatic 114, 3) := by decide +kernel
theorem dX7_gives_4 : decode cX7_gives 4 = .ok (.ifCond .eq 18, 3) := by decide +kernel
theorem dX7_gives_7 : decode cX7_gives 7 = .ok (.iload_n 2, 1) := by decide +kernel
theorem dX7_gives_8 : decode cX7_gives 8 = .ok (.iconst 0, 1) := by decide +kernel
theorem dX7_gives_9 : decode cX7_gives 9 = .ok (.aload_n 0, 1) := by decide +kernel
theorem dX7_gives_10 : decode cX7_gives 10 = .ok (.getfield 10, 3) := by decide +kernel
theorem dX7_gives_13 : decode cX7_gives 13 = .ok (.getfield 92, 3) := by decide +kernel
theorem dX7_gives_16 : decode cX7_gives 16 = .ok (.invokestatic 98, 3) := by decide +kernel
theorem dX7_gives_19 : decode cX7_gives 19 = .ok (.ifCond .ne 10, 3) := by decide +kernel
theorem dX7_gives_22 : decode cX7_gives 22 = .ok (.aload_n 0, 1) := by decide +kernel
theorem dX7_gives_23 : decode cX7_gives 23 = .ok (.bipush (-2), 2) := by decide +kernel
theorem dX7_gives_25 : decode cX7_gives 25 = .ok (.invokevirtual 66, 3) := by decide +kernel
theorem dX7_gives_28 : decode cX7_gives 28 = .ok (.ireturn, 1) := by decide +kernel
theorem dX7_gives_29 : decode cX7_gives 29 = .ok (.iload_n 1, 1) := by decide +kernel
theorem dX7_gives_30 : decode cX7_gives 30 = .ok (.iload_n 2, 1) := by decide +kernel
theorem dX7_gives_31 : decode cX7_gives 31 = .ok (.aload_n 0, 1) := by decide +kernel
theorem dX7_gives_32 : decode cX7_gives 32 = .ok (.getfield 10, 3) := by decide +kernel
theorem dX7_gives_35 : decode cX7_gives 35 = .ok (.getfield 92, 3) := by decide +kernel
theorem dX7_gives_38 : decode cX7_gives 38 = .ok (.invokestatic 181, 3) := by decide +kernel
theorem dX7_gives_41 : decode cX7_gives 41 = .ok (.ireturn, 1) := by decide +kernel
theorem dX7_stuck_0 : decode cX7_stuck 0 = .ok (.aload_n 0, 1) := by decide +kernel
theorem dX7_stuck_1 : decode cX7_stuck 1 = .ok (.getfield 10, 3) := by decide +kernel
theorem dX7_stuck_4 : decode cX7_stuck 4 = .ok (.aload_n 0, 1) := by decide +kernel
theorem dX7_stuck_5 : decode cX7_stuck 5 = .ok (.getfield 10, 3) := by decide +kernel
theorem dX7_stuck_8 : decode cX7_stuck 8 = .ok (.getfield 92, 3) := by decide +kernel
theorem dX7_stuck_11 : decode cX7_stuck 11 = .ok (.iconst (-1), 1) := by decide +kernel
theorem dX7_stuck_12 : decode cX7_stuck 12 = .ok (.invokevirtual 185, 3) := by decide +kernel
theorem dX7_stuck_15 : decode cX7_stuck 15 = .ok (.ireturn, 1) := by decide +kernel
theorem dX7_sentences_0 : decode cX7_sentences 0 = .ok (.iload_n 1, 1) := by decide +kernel
theorem dX7_sentences_1 : decode cX7_sentences 1 = .ok (.tableswitch 73 0 3 #[31, 39, 55, 64], 31) := by decide +kernel
theorem dX7_sentences_32 : decode cX7_sentences 32 = .ok (.aload_n 0, 1) := by decide +kernel
theorem dX7_sentences_33 : decode cX7_sentences 33 = .ok (.getfield 10, 3) := by decide +kernel
theorem dX7_sentences_36 : decode cX7_sentences 36 = .ok (.invokevirtual 188, 3) := by decide +kernel
theorem dX7_sentences_39 : decode cX7_sentences 39 = .ok (.ireturn, 1) := by decide +kernel
theorem dX7_sentences_40 : decode cX7_sentences 40 = .ok (.aload_n 0, 1) := by decide +kernel
theorem dX7_sentences_41 : decode cX7_sentences 41 = .ok (.getfield 10, 3) := by decide +kernel
theorem dX7_sentences_44 : decode cX7_sentences 44 = .ok (.invokevirtual 191, 3) := by decide +kernel
theorem dX7_sentences_47 : decode cX7_sentences 47 = .ok (.ifCond .eq 7, 3) := by decide +kernel
theorem dX7_sentences_50 : decode cX7_sentences 50 = .ok (.iconst 1, 1) := by decide +kernel
theorem dX7_sentences_51 : decode cX7_sentences 51 = .ok (.goto 4, 3) := by decide +kernel
theorem dX7_sentences_54 : decode cX7_sentences 54 = .ok (.iconst 0, 1) := by decide +kernel
theorem dX7_sentences_55 : decode cX7_sentences 55 = .ok (.ireturn, 1) := by decide +kernel
theorem dX7_sentences_56 : decode cX7_sentences 56 = .ok (.aload_n 0, 1) := by decide +kernel
theorem dX7_sentences_57 : decode cX7_sentences 57 = .ok (.getfield 10, 3) := by decide +kernel
theorem dX7_sentences_60 : decode cX7_sentences 60 = .ok (.iconst 0, 1) := by decide +kernel
theorem dX7_sentences_61 : decode cX7_sentences 61 = .ok (.invokevirtual 194, 3) := by decide +kernel
theorem dX7_sentences_64 : decode cX7_sentences 64 = .ok (.ireturn, 1) := by decide +kernel
theorem dX7_sentences_65 : decode cX7_sentences 65 = .ok (.aload_n 0, 1) := by decide +kernel
theorem dX7_sentences_66 : decode cX7_sentences 66 = .ok (.getfield 10, 3) := by decide +kernel
theorem dX7_sentences_69 : decode cX7_sentences 69 = .ok (.iconst 1, 1) := by decide +kernel
theorem dX7_sentences_70 : decode cX7_sentences 70 = .ok (.invokevirtual 194, 3) := by decide +kernel
theorem dX7_sentences_73 : decode cX7_sentences 73 = .ok (.ireturn, 1) := by decide +kernel
theorem dX7_sentences_74 : decode cX7_sentences 74 = .ok (.aload_n 0, 1) := by decide +kernel
theorem dX7_sentences_75 : decode cX7_sentences 75 = .ok (.bipush (-2), 2) := by decide +kernel
theorem dX7_sentences_77 : decode cX7_sentences 77 = .ok (.invokevirtual 66, 3) := by decide +kernel
theorem dX7_sentences_80 : decode cX7_sentences 80 = .ok (.ireturn, 1) := by decide +kernel
theorem dX7_cheapest_0 : decode cX7_cheapest 0 = .ok (.iload_n 1, 1) := by decide +kernel
theorem dX7_cheapest_1 : decode cX7_cheapest 1 = .ok (.invokestatic 59, 3) := by decide +kernel
theorem dX7_cheapest_4 : decode cX7_cheapest 4 = .ok (.ifCond .eq 17, 3) := by decide +kernel
theorem dX7_cheapest_7 : decode cX7_cheapest 7 = .ok (.iload_n 2, 1) := by decide +kernel
theorem dX7_cheapest_8 : decode cX7_cheapest 8 = .ok (.iconst 0, 1) := by decide +kernel
theorem dX7_cheapest_9 : decode cX7_cheapest 9 = .ok (.iconst 1, 1) := by decide +kernel
theorem dX7_cheapest_10 : decode cX7_cheapest 10 = .ok (.invokestatic 98, 3) := by decide +kernel
theorem dX7_cheapest_13 : decode cX7_cheapest 13 = .ok (.ifCond .eq 8, 3) := by decide +kernel
theorem dX7_cheapest_16 : decode cX7_cheapest 16 = .ok (.iload_n 3, 1) := by decide +kernel
theorem dX7_cheapest_17 : decode cX7_cheapest 17 = .ok (.iconst (-1), 1) := by decide +kernel
theorem dX7_cheapest_18 : decode cX7_cheapest 18 = .ok (.if_icmp .ge 10, 3) := by decide +kernel
theorem dX7_cheapest_21 : decode cX7_cheapest 21 = .ok (.aload_n 0, 1) := by decide +kernel
theorem dX7_cheapest_22 : decode cX7_cheapest 22 = .ok (.bipush (-10), 2) := by decide +kernel
theorem dX7_cheapest_24 : decode cX7_cheapest 24 = .ok (.invokevirtual 66, 3) := by decide +kernel
theorem dX7_cheapest_27 : decode cX7_cheapest 27 = .ok (.ireturn, 1) := by decide +kernel
theorem dX7_cheapest_28 : decode cX7_cheapest 28 = .ok (.aload_n 0, 1) := by decide +kernel
theorem dX7_cheapest_29 : decode cX7_cheapest 29 = .ok (.getfield 37, 3) := by decide +kernel
theorem dX7_cheapest_32 : decode cX7_cheapest 32 = .ok (.aload_n 0, 1) := by decide +kernel
theorem dX7_cheapest_33 : decode cX7_cheapest 33 = .ok (.getfield 10, 3) := by decide +kernel
theorem dX7_cheapest_36 : decode cX7_cheapest 36 = .ok (.iload_n 1, 1) := by decide +kernel
theorem dX7_cheapest_37 : decode cX7_cheapest 37 = .ok (.iload_n 2, 1) := by decide +kernel
theorem dX7_cheapest_38 : decode cX7_cheapest 38 = .ok (.iconst 1, 1) := by decide +kernel
theorem dX7_cheapest_39 : decode cX7_cheapest 39 = .ok (.if_icmp .ne 7, 3) := by decide +kernel
theorem dX7_cheapest_42 : decode cX7_cheapest 42 = .ok (.iconst 1, 1) := by decide +kernel
theorem dX7_cheapest_43 : decode cX7_cheapest 43 = .ok (.goto 4, 3) := by decide +kernel
theorem dX7_cheapest_46 : decode cX7_cheapest 46 = .ok (.iconst 0, 1) := by decide +kernel
theorem dX7_cheapest_47 : decode cX7_cheapest 47 = .ok (.invokevirtual 198, 3) := by decide +kernel
theorem dX7_cheapest_50 : decode cX7_cheapest 50 = .ok (.iload_n 3, 1) := by decide +kernel
theorem dX7_cheapest_51 : decode cX7_cheapest 51 = .ok (.aload_n 0, 1) := by decide +kernel
theorem dX7_cheapest_52 : decode cX7_cheapest 52 = .ok (.getfield 10, 3) := by decide +kernel
theorem dX7_cheapest_55 : decode cX7_cheapest 55 = .ok (.getfield 70, 3) := by decide +kernel
theorem dX7_cheapest_58 : decode cX7_cheapest 58 = .ok (.if_icmp .ge 14, 3) := by decide +kernel
theorem dX7_cheapest_61 : decode cX7_cheapest 61 = .ok (.aload_n 0, 1) := by decide +kernel
theorem dX7_cheapest_62 : decode cX7_cheapest 62 = .ok (.getfield 37, 3) := by decide +kernel
theorem dX7_cheapest_65 : decode cX7_cheapest 65 = .ok (.iload_n 1, 1) := by decide +kernel
theorem dX7_cheapest_66 : decode cX7_cheapest 66 = .ok (.invokevirtual 202, 3) := by decide +kernel
theorem dX7_cheapest_69 : decode cX7_cheapest 69 = .ok (.ifCond .ne 6, 3) := by decide +kernel
theorem dX7_cheapest_72 : decode cX7_cheapest 72 = .ok (.bipush (-5), 2) := by decide +kernel
theorem dX7_cheapest_74 : decode cX7_cheapest 74 = .ok (.ireturn, 1) := by decide +kernel
theorem dX7_cheapest_75 : decode cX7_cheapest 75 = .ok (.iload_n 3, 1) := by decide +kernel
theorem dX7_cheapest_76 : decode cX7_cheapest 76 = .ok (.iconst (-1), 1) := by decide +kernel
theorem dX7_cheapest_77 : decode cX7_cheapest 77 = .ok (.if_icmp .ne 14, 3) := by decide +kernel
theorem dX7_cheapest_80 : decode cX7_cheapest 80 = .ok (.aload_n 0, 1) := by decide +kernel
theorem dX7_cheapest_81 : decode cX7_cheapest 81 = .ok (.getfield 37, 3) := by decide +kernel
theorem dX7_cheapest_84 : decode cX7_cheapest 84 = .ok (.iload_n 1, 1) := by decide +kernel
theorem dX7_cheapest_85 : decode cX7_cheapest 85 = .ok (.invokevirtual 205, 3) := by decide +kernel
theorem dX7_cheapest_88 : decode cX7_cheapest 88 = .ok (.goto 16, 3) := by decide +kernel
theorem dX7_cheapest_91 : decode cX7_cheapest 91 = .ok (.aload_n 0, 1) := by decide +kernel
theorem dX7_cheapest_92 : decode cX7_cheapest 92 = .ok (.getfield 37, 3) := by decide +kernel
theorem dX7_cheapest_95 : decode cX7_cheapest 95 = .ok (.aload_n 0, 1) := by decide +kernel
theorem dX7_cheapest_96 : decode cX7_cheapest 96 = .ok (.getfield 10, 3) := by decide +kernel
theorem dX7_cheapest_99 : decode cX7_cheapest 99 = .ok (.iload_n 1, 1) := by decide +kernel
theorem dX7_cheapest_100 : decode cX7_cheapest 100 = .ok (.iload_n 3, 1) := by decide +kernel
theorem dX7_cheapest_101 : decode cX7_cheapest 101 = .ok (.invokevirtual 208, 3) := by decide +kernel
theorem dX7_cheapest_104 : decode cX7_cheapest 104 = .ok (.ireturn, 1) := by decide +kernel
theorem dX7_reach_0 : decode cX7_reach 0 = .ok (.iload_n 1, 1) := by decide +kernel
theorem dX7_reach_1 : decode cX7_reach 1 = .ok (.iconst 0, 1) := by decide +kernel
theorem dX7_reach_2 : decode cX7_reach 2 = .ok (.sipush 999, 3) := by decide +kernel
theorem dX7_reach_5 : decode cX7_reach 5 = .ok (.invokestatic 98, 3) := by decide +kernel
theorem dX7_reach_8 : decode cX7_reach 8 = .ok (.ifCond .eq 18, 3) := by decide +kernel
theorem dX7_reach_11 : decode cX7_reach 11 = .ok (.aload_n 0, 1) := by decide +kernel
theorem dX7_reach_12 : decode cX7_reach 12 = .ok (.getfield 37, 3) := by decide +kernel
theorem dX7_reach_15 : decode cX7_reach 15 = .ok (.aload_n 0, 1) := by decide +kernel
theorem dX7_reach_16 : decode cX7_reach 16 = .ok (.getfield 10, 3) := by decide +kernel
theorem dX7_reach_19 : decode cX7_reach 19 = .ok (.iload_n 1, 1) := by decide +kernel
theorem dX7_reach_20 : decode cX7_reach 20 = .ok (.invokevirtual 212, 3) := by decide +kernel
theorem dX7_reach_23 : decode cX7_reach 23 = .ok (.goto 9, 3) := by decide +kernel
theorem dX7_reach_26 : decode cX7_reach 26 = .ok (.aload_n 0, 1) := by decide +kernel
theorem dX7_reach_27 : decode cX7_reach 27 = .ok (.bipush (-2), 2) := by decide +kernel
theorem dX7_reach_29 : decode cX7_reach 29 = .ok (.invokevirtual 66, 3) := by decide +kernel
theorem dX7_reach_32 : decode cX7_reach 32 = .ok (.ireturn, 1) := by decide +kernel
theorem dX7_order_0 : decode cX7_order 0 = .ok (.iload_n 1, 1) := by decide +kernel
theorem dX7_order_1 : decode cX7_order 1 = .ok (.iconst (-1), 1) := by decide +kernel
theorem dX7_order_2 : decode cX7_order 2 = .ok (.if_icmp .ge 10, 3) := by decide +kernel
theorem dX7_order_5 : decode cX7_order 5 = .ok (.aload_n 0, 1) := by decide +kernel
theorem dX7_order_6 : decode cX7_order 6 = .ok (.bipush (-10), 2) := by decide +kernel
theorem dX7_order_8 : decode cX7_order 8 = .ok (.invokevirtual 66, 3) := by decide +kernel
theorem dX7_order_11 : decode cX7_order 11 = .ok (.ireturn, 1) := by decide +kernel
theorem dX7_order_12 : decode cX7_order 12 = .ok (.aload_n 0, 1) := by decide +kernel
theorem dX7_order_13 : decode cX7_order 13 = .ok (.getfield 10, 3) := by decide +kernel
theorem dX7_order_16 : decode cX7_order 16 = .ok (.getfield 70, 3) := by decide +kernel
theorem dX7_order_19 : decode cX7_order 19 = .ok (.bipush 7, 2) := by decide +kernel
theorem dX7_order_21 : decode cX7_order 21 = .ok (.if_icmp .le 10, 3) := by decide +kernel
theorem dX7_order_24 : decode cX7_order 24 = .ok (.aload_n 0, 1) := by decide +kernel
theorem dX7_order_25 : decode cX7_order 25 = .ok (.bipush (-20), 2) := by decide +kernel
theorem dX7_order_27 : decode cX7_order 27 = .ok (.invokevirtual 148, 3) := by decide +kernel
theorem dX7_order_30 : decode cX7_order 30 = .ok (.ireturn, 1) := by decide +kernel
theorem dX7_order_31 : decode cX7_order 31 = .ok (.iload_n 1, 1) := by decide +kernel
theorem dX7_order_32 : decode cX7_order 32 = .ok (.aload_n 0, 1) := by decide +kernel
theorem dX7_order_33 : decode cX7_order 33 = .ok (.getfield 10, 3) := by decide +kernel
theorem dX7_order_36 : decode cX7_order 36 = .ok (.getfield 70, 3) := by decide +kernel
theorem dX7_order_39 : decode cX7_order 39 = .ok (.if_icmp .lt 6, 3) := by decide +kernel
theorem dX7_order_42 : decode cX7_order 42 = .ok (.bipush (-5), 2) := by decide +kernel
theorem dX7_order_44 : decode cX7_order 44 = .ok (.ireturn, 1) := by decide +kernel
theorem dX7_order_45 : decode cX7_order 45 = .ok (.aload_n 0, 1) := by decide +kernel
theorem dX7_order_46 : decode cX7_order 46 = .ok (.getfield 44, 3) := by decide +kernel
theorem dX7_order_49 : decode cX7_order 49 = .ok (.aload_n 0, 1) := by decide +kernel
theorem dX7_order_50 : decode cX7_order 50 = .ok (.getfield 10, 3) := by decide +kernel
theorem dX7_order_53 : decode cX7_order 53 = .ok (.invokevirtual 216, 3) := by decide +kernel
theorem dX7_order_56 : decode cX7_order 56 = .ok (.iload_n 1, 1) := by decide +kernel
theorem dX7_order_57 : decode cX7_order 57 = .ok (.iconst (-1), 1) := by decide +kernel
theorem dX7_order_58 : decode cX7_order 58 = .ok (.if_icmp .ne 13, 3) := by decide +kernel
theorem dX7_order_61 : decode cX7_order 61 = .ok (.aload_n 0, 1) := by decide +kernel
theorem dX7_order_62 : decode cX7_order 62 = .ok (.getfield 44, 3) := by decide +kernel
theorem dX7_order_65 : decode cX7_order 65 = .ok (.getfield 219, 3) := by decide +kernel
theorem dX7_order_68 : decode cX7_order 68 = .ok (.goto 12, 3) := by decide +kernel
theorem dX7_order_71 : decode cX7_order 71 = .ok (.aload_n 0, 1) := by decide +kernel
theorem dX7_order_72 : decode cX7_order 72 = .ok (.getfield 44, 3) := by decide +kernel
theorem dX7_order_75 : decode cX7_order 75 = .ok (.getfield 222, 3) := by decide +kernel
theorem dX7_order_78 : decode cX7_order 78 = .ok (.iload_n 1, 1) := by decide +kernel
theorem dX7_order_79 : decode cX7_order 79 = .ok (.iaload, 1) := by decide +kernel
theorem dX7_order_80 : decode cX7_order 80 = .ok (.ireturn, 1) := by decide +kernel
theorem dX7_heard_0 : decode cX7_heard 0 = .ok (.iload_n 1, 1) := by decide +kernel
theorem dX7_heard_1 : decode cX7_heard 1 = .ok (.iconst (-1), 1) := by decide +kernel
theorem dX7_heard_2 : decode cX7_heard 2 = .ok (.if_icmp .eq 21, 3) := by decide +kernel
theorem dX7_heard_5 : decode cX7_heard 5 = .ok (.aload_n 0, 1) := by decide +kernel
theorem dX7_heard_6 : decode cX7_heard 6 = .ok (.getfield 10, 3) := by decide +kernel
theorem dX7_heard_9 : decode cX7_heard 9 = .ok (.iload_n 1, 1) := by decide +kernel
theorem dX7_heard_10 : decode cX7_heard 10 = .ok (.invokevirtual 111, 3) := by decide +kernel
theorem dX7_heard_13 : decode cX7_heard 13 = .ok (.ifCond .ne 10, 3) := by decide +kernel
theorem dX7_heard_16 : decode cX7_heard 16 = .ok (.aload_n 0, 1) := by decide +kernel
theorem dX7_heard_17 : decode cX7_heard 17 = .ok (.bipush (-2), 2) := by decide +kernel
theorem dX7_heard_19 : decode cX7_heard 19 = .ok (.invokevirtual 66, 3) := by decide +kernel
theorem dX7_heard_22 : decode cX7_heard 22 = .ok (.ireturn, 1) := by decide +kernel
theorem dX7_heard_23 : decode cX7_heard 23 = .ok (.aload_n 0, 1) := by decide +kernel
theorem dX7_heard_24 : decode cX7_heard 24 = .ok (.getfield 10, 3) := by decide +kernel
theorem dX7_heard_27 : decode cX7_heard 27 = .ok (.getfield 225, 3) := by decide +kernel
theorem dX7_heard_30 : decode cX7_heard 30 = .ok (.bipush 6, 2) := by decide +kernel
theorem dX7_heard_32 : decode cX7_heard 32 = .ok (.if_icmp .lt 10, 3) := by decide +kernel
theorem dX7_heard_35 : decode cX7_heard 35 = .ok (.aload_n 0, 1) := by decide +kernel
theorem dX7_heard_36 : decode cX7_heard 36 = .ok (.bipush (-4), 2) := by decide +kernel
theorem dX7_heard_38 : decode cX7_heard 38 = .ok (.invokevirtual 85, 3) := by decide +kernel
theorem dX7_heard_41 : decode cX7_heard 41 = .ok (.ireturn, 1) := by decide +kernel
theorem dX7_heard_42 : decode cX7_heard 42 = .ok (.aload_n 0, 1) := by decide +kernel
theorem dX7_heard_43 : decode cX7_heard 43 = .ok (.getfield 10, 3) := by decide +kernel
theorem dX7_heard_46 : decode cX7_heard 46 = .ok (.aload_n 0, 1) := by decide +kernel
theorem dX7_heard_47 : decode cX7_heard 47 = .ok (.getfield 10, 3) := by decide +kernel
theorem dX7_heard_50 : decode cX7_heard 50 = .ok (.iload_n 1, 1) := by decide +kernel
theorem dX7_heard_51 : decode cX7_heard 51 = .ok (.invokevirtual 228, 3) := by decide +kernel
theorem dX7_heard_54 : decode cX7_heard 54 = .ok (.invokevirtual 231, 3) := by decide +kernel
theorem dX7_heard_57 : decode cX7_heard 57 = .ok (.aload_n 0, 1) := by decide +kernel
theorem dX7_heard_58 : decode cX7_heard 58 = .ok (.getfield 10, 3) := by decide +kernel
theorem dX7_heard_61 : decode cX7_heard 61 = .ok (.getfield 225, 3) := by decide +kernel
theorem dX7_heard_64 : decode cX7_heard 64 = .ok (.ireturn, 1) := by decide +kernel
theorem dX7_forget_0 : decode cX7_forget 0 = .ok (.aload_n 0, 1) := by decide +kernel
theorem dX7_forget_1 : decode cX7_forget 1 = .ok (.getfield 10, 3) := by decide +kernel
theorem dX7_forget_4 : decode cX7_forget 4 = .ok (.getfield 225, 3) := by decide +kernel
theorem dX7_forget_7 : decode cX7_forget 7 = .ok (.istore_n 1, 1) := by decide +kernel
theorem dX7_forget_8 : decode cX7_forget 8 = .ok (.aload_n 0, 1) := by decide +kernel
theorem dX7_forget_9 : decode cX7_forget 9 = .ok (.getfield 10, 3) := by decide +kernel
theorem dX7_forget_12 : decode cX7_forget 12 = .ok (.iconst 0, 1) := by decide +kernel
theorem dX7_forget_13 : decode cX7_forget 13 = .ok (.putfield 225, 3) := by decide +kernel
theorem dX7_forget_16 : decode cX7_forget 16 = .ok (.iload_n 1, 1) := by decide +kernel
theorem dX7_forget_17 : decode cX7_forget 17 = .ok (.ireturn, 1) := by decide +kernel
theorem dX7_breaths_0 : decode cX7_breaths 0 = .ok (.aload_n 0, 1) := by decide +kernel
theorem dX7_breaths_1 : decode cX7_breaths 1 = .ok (.getfield 10, 3) := by decide +kernel
theorem dX7_breaths_4 : decode cX7_breaths 4 = .ok (.invokevirtual 234, 3) := by decide +kernel
theorem dX7_breaths_7 : decode cX7_breaths 7 = .ok (.ireturn, 1) := by decide +kernel
theorem dX7_shorter_0 : decode cX7_shorter 0 = .ok (.aload_n 0, 1) := by decide +kernel
theorem dX7_shorter_1 : decode cX7_shorter 1 = .ok (.getfield 10, 3) := by decide +kernel
theorem dX7_shorter_4 : decode cX7_shorter 4 = .ok (.invokevirtual 234, 3) := by decide +kernel
theorem dX7_shorter_7 : decode cX7_shorter 7 = .ok (.istore_n 1, 1) := by decide +kernel
theorem dX7_shorter_8 : decode cX7_shorter 8 = .ok (.iconst (-1), 1) := by decide +kernel
theorem dX7_shorter_9 : decode cX7_shorter 9 = .ok (.istore_n 2, 1) := by decide +kernel
theorem dX7_shorter_10 : decode cX7_shorter 10 = .ok (.bipush 31, 2) := by decide +kernel
theorem dX7_shorter_12 : decode cX7_shorter 12 = .ok (.istore_n 3, 1) := by decide +kernel
theorem dX7_shorter_13 : decode cX7_shorter 13 = .ok (.iload_n 1, 1) := by decide +kernel
theorem dX7_shorter_14 : decode cX7_shorter 14 = .ok (.ifCond .ne 5, 3) := by decide +kernel
theorem dX7_shorter_17 : decode cX7_shorter 17 = .ok (.iconst (-1), 1) := by decide +kernel
theorem dX7_shorter_18 : decode cX7_shorter 18 = .ok (.ireturn, 1) := by decide +kernel
theorem dX7_shorter_19 : decode cX7_shorter 19 = .ok (.iconst 0, 1) := by decide +kernel
theorem dX7_shorter_20 : decode cX7_shorter 20 = .ok (.istore 4, 2) := by decide +kernel
theorem dX7_shorter_22 : decode cX7_shorter 22 = .ok (.iload 4, 2) := by decide +kernel
theorem dX7_shorter_24 : decode cX7_shorter 24 = .ok (.aload_n 0, 1) := by decide +kernel
theorem dX7_shorter_25 : decode cX7_shorter 25 = .ok (.getfield 10, 3) := by decide +kernel
theorem dX7_shorter_28 : decode cX7_shorter 28 = .ok (.getfield 70, 3) := by decide +kernel
theorem dX7_shorter_31 : decode cX7_shorter 31 = .ok (.if_icmp .ge 30, 3) := by decide +kernel
theorem dX7_shorter_34 : decode cX7_shorter 34 = .ok (.aload_n 0, 1) := by decide +kernel
theorem dX7_shorter_35 : decode cX7_shorter 35 = .ok (.iload_n 1, 1) := by decide +kernel
theorem dX7_shorter_36 : decode cX7_shorter 36 = .ok (.iload 4, 2) := by decide +kernel
theorem dX7_shorter_38 : decode cX7_shorter 38 = .ok (.invokevirtual 237, 3) := by decide +kernel
theorem dX7_shorter_41 : decode cX7_shorter 41 = .ok (.istore 5, 2) := by decide +kernel
theorem dX7_shorter_43 : decode cX7_shorter 43 = .ok (.iload 5, 2) := by decide +kernel
theorem dX7_shorter_45 : decode cX7_shorter 45 = .ok (.iload_n 3, 1) := by decide +kernel
theorem dX7_shorter_46 : decode cX7_shorter 46 = .ok (.if_icmp .ge 9, 3) := by decide +kernel
theorem dX7_shorter_49 : decode cX7_shorter 49 = .ok (.iload 4, 2) := by decide +kernel
theorem dX7_shorter_51 : decode cX7_shorter 51 = .ok (.istore_n 2, 1) := by decide +kernel
theorem dX7_shorter_52 : decode cX7_shorter 52 = .ok (.iload 5, 2) := by decide +kernel
theorem dX7_shorter_54 : decode cX7_shorter 54 = .ok (.istore_n 3, 1) := by decide +kernel
theorem dX7_shorter_55 : decode cX7_shorter 55 = .ok (.iinc 4 1, 3) := by decide +kernel
theorem dX7_shorter_58 : decode cX7_shorter 58 = .ok (.goto (-36), 3) := by decide +kernel
theorem dX7_shorter_61 : decode cX7_shorter 61 = .ok (.iload_n 2, 1) := by decide +kernel
theorem dX7_shorter_62 : decode cX7_shorter 62 = .ok (.ireturn, 1) := by decide +kernel
theorem dX7_bid_0 : decode cX7_bid 0 = .ok (.iload_n 2, 1) := by decide +kernel
theorem dX7_bid_1 : decode cX7_bid 1 = .ok (.iconst 0, 1) := by decide +kernel
theorem dX7_bid_2 : decode cX7_bid 2 = .ok (.bipush 20, 2) := by decide +kernel
theorem dX7_bid_4 : decode cX7_bid 4 = .ok (.invokestatic 98, 3) := by decide +kernel
theorem dX7_bid_7 : decode cX7_bid 7 = .ok (.ifCond .eq 17, 3) := by decide +kernel
theorem dX7_bid_10 : decode cX7_bid 10 = .ok (.iload_n 3, 1) := by decide +kernel
theorem dX7_bid_11 : decode cX7_bid 11 = .ok (.iconst 0, 1) := by decide +kernel
theorem dX7_bid_12 : decode cX7_bid 12 = .ok (.bipush 20, 2) := by decide +kernel
theorem dX7_bid_14 : decode cX7_bid 14 = .ok (.invokestatic 98, 3) := by decide +kernel
theorem dX7_bid_17 : decode cX7_bid 17 = .ok (.ifCond .eq 7, 3) := by decide +kernel
theorem dX7_bid_20 : decode cX7_bid 20 = .ok (.iconst 1, 1) := by decide +kernel
theorem dX7_bid_21 : decode cX7_bid 21 = .ok (.goto 4, 3) := by decide +kernel
theorem dX7_bid_24 : decode cX7_bid 24 = .ok (.iconst 0, 1) := by decide +kernel
theorem dX7_bid_25 : decode cX7_bid 25 = .ok (.istore 7, 2) := by decide +kernel
theorem dX7_bid_27 : decode cX7_bid 27 = .ok (.iload 4, 2) := by decide +kernel
theorem dX7_bid_29 : decode cX7_bid 29 = .ok (.iconst 0, 1) := by decide +kernel
theorem dX7_bid_30 : decode cX7_bid 30 = .ok (.bipush 20, 2) := by decide +kernel
theorem dX7_bid_32 : decode cX7_bid 32 = .ok (.invokestatic 98, 3) := by decide +kernel
theorem dX7_bid_35 : decode cX7_bid 35 = .ok (.ifCond .eq 18, 3) := by decide +kernel
theorem dX7_bid_38 : decode cX7_bid 38 = .ok (.iload 5, 2) := by decide +kernel
theorem dX7_bid_40 : decode cX7_bid 40 = .ok (.iconst 0, 1) := by decide +kernel
theorem dX7_bid_41 : decode cX7_bid 41 = .ok (.bipush 20, 2) := by decide +kernel
theorem dX7_bid_43 : decode cX7_bid 43 = .ok (.invokestatic 98, 3) := by decide +kernel
theorem dX7_bid_46 : decode cX7_bid 46 = .ok (.ifCond .eq 7, 3) := by decide +kernel
theorem dX7_bid_49 : decode cX7_bid 49 = .ok (.iconst 1, 1) := by decide +kernel
theorem dX7_bid_50 : decode cX7_bid 50 = .ok (.goto 4, 3) := by decide +kernel
theorem dX7_bid_53 : decode cX7_bid 53 = .ok (.iconst 0, 1) := by decide +kernel
theorem dX7_bid_54 : decode cX7_bid 54 = .ok (.istore 8, 2) := by decide +kernel
theorem dX7_bid_56 : decode cX7_bid 56 = .ok (.iload_n 1, 1) := by decide +kernel
theorem dX7_bid_57 : decode cX7_bid 57 = .ok (.invokestatic 114, 3) := by decide +kernel
theorem dX7_bid_60 : decode cX7_bid 60 = .ok (.ifCond .eq 23, 3) := by decide +kernel
theorem dX7_bid_63 : decode cX7_bid 63 = .ok (.iload 7, 2) := by decide +kernel
theorem dX7_bid_65 : decode cX7_bid 65 = .ok (.ifCond .eq 18, 3) := by decide +kernel
theorem dX7_bid_68 : decode cX7_bid 68 = .ok (.iload 8, 2) := by decide +kernel
theorem dX7_bid_70 : decode cX7_bid 70 = .ok (.ifCond .eq 13, 3) := by decide +kernel
theorem dX7_bid_73 : decode cX7_bid 73 = .ok (.iload 6, 2) := by decide +kernel
theorem dX7_bid_75 : decode cX7_bid 75 = .ok (.iconst 0, 1) := by decide +kernel
theorem dX7_bid_76 : decode cX7_bid 76 = .ok (.iconst 1, 1) := by decide +kernel
theorem dX7_bid_77 : decode cX7_bid 77 = .ok (.invokestatic 98, 3) := by decide +kernel
theorem dX7_bid_80 : decode cX7_bid 80 = .ok (.ifCond .ne 10, 3) := by decide +kernel
theorem dX7_bid_83 : decode cX7_bid 83 = .ok (.aload_n 0, 1) := by decide +kernel
theorem dX7_bid_84 : decode cX7_bid 84 = .ok (.bipush (-10), 2) := by decide +kernel
theorem dX7_bid_86 : decode cX7_bid 86 = .ok (.invokevirtual 66, 3) := by decide +kernel
theorem dX7_bid_89 : decode cX7_bid 89 = .ok (.ireturn, 1) := by decide +kernel
theorem dX7_bid_90 : decode cX7_bid 90 = .ok (.aload_n 0, 1) := by decide +kernel
theorem dX7_bid_91 : decode cX7_bid 91 = .ok (.getfield 10, 3) := by decide +kernel
theorem dX7_bid_94 : decode cX7_bid 94 = .ok (.iload_n 1, 1) := by decide +kernel
theorem dX7_bid_95 : decode cX7_bid 95 = .ok (.invokevirtual 145, 3) := by decide +kernel
theorem dX7_bid_98 : decode cX7_bid 98 = .ok (.istore 9, 2) := by decide +kernel
theorem dX7_bid_100 : decode cX7_bid 100 = .ok (.iconst (-1), 1) := by decide +kernel
theorem dX7_bid_101 : decode cX7_bid 101 = .ok (.istore 10, 2) := by decide +kernel
theorem dX7_bid_103 : decode cX7_bid 103 = .ok (.iconst 0, 1) := by decide +kernel
theorem dX7_bid_104 : decode cX7_bid 104 = .ok (.istore 11, 2) := by decide +kernel
theorem dX7_bid_106 : decode cX7_bid 106 = .ok (.iconst 0, 1) := by decide +kernel
theorem dX7_bid_107 : decode cX7_bid 107 = .ok (.istore 12, 2) := by decide +kernel
theorem dX7_bid_109 : decode cX7_bid 109 = .ok (.iload 12, 2) := by decide +kernel
theorem dX7_bid_111 : decode cX7_bid 111 = .ok (.iload_n 2, 1) := by decide +kernel
theorem dX7_bid_112 : decode cX7_bid 112 = .ok (.if_icmp .gt 77, 3) := by decide +kernel
theorem dX7_bid_115 : decode cX7_bid 115 = .ok (.iconst 0, 1) := by decide +kernel
theorem dX7_bid_116 : decode cX7_bid 116 = .ok (.istore 13, 2) := by decide +kernel
theorem dX7_bid_118 : decode cX7_bid 118 = .ok (.iload 13, 2) := by decide +kernel
theorem dX7_bid_120 : decode cX7_bid 120 = .ok (.iload_n 3, 1) := by decide +kernel
theorem dX7_bid_121 : decode cX7_bid 121 = .ok (.if_icmp .gt 62, 3) := by decide +kernel
theorem dX7_bid_124 : decode cX7_bid 124 = .ok (.iload 12, 2) := by decide +kernel
theorem dX7_bid_126 : decode cX7_bid 126 = .ok (.iload_n 2, 1) := by decide +kernel
theorem dX7_bid_127 : decode cX7_bid 127 = .ok (.iload 13, 2) := by decide +kernel
theorem dX7_bid_129 : decode cX7_bid 129 = .ok (.iload 4, 2) := by decide +kernel
theorem dX7_bid_131 : decode cX7_bid 131 = .ok (.iload 9, 2) := by decide +kernel
theorem dX7_bid_133 : decode cX7_bid 133 = .ok (.invokestatic 240, 3) := by decide +kernel
theorem dX7_bid_136 : decode cX7_bid 136 = .ok (.ifCond .eq 41, 3) := by decide +kernel
theorem dX7_bid_139 : decode cX7_bid 139 = .ok (.iload 13, 2) := by decide +kernel
theorem dX7_bid_141 : decode cX7_bid 141 = .ok (.iload_n 3, 1) := by decide +kernel
theorem dX7_bid_142 : decode cX7_bid 142 = .ok (.iload 12, 2) := by decide +kernel
theorem dX7_bid_144 : decode cX7_bid 144 = .ok (.iload 5, 2) := by decide +kernel
theorem dX7_bid_146 : decode cX7_bid 146 = .ok (.iload 9, 2) := by decide +kernel
theorem dX7_bid_148 : decode cX7_bid 148 = .ok (.invokestatic 240, 3) := by decide +kernel
theorem dX7_bid_151 : decode cX7_bid 151 = .ok (.ifCond .eq 26, 3) := by decide +kernel
theorem dX7_bid_154 : decode cX7_bid 154 = .ok (.iload 11, 2) := by decide +kernel
theorem dX7_bid_156 : decode cX7_bid 156 = .ok (.ifCond .ne 14, 3) := by decide +kernel
theorem dX7_bid_159 : decode cX7_bid 159 = .ok (.bipush 100, 2) := by decide +kernel
theorem dX7_bid_161 : decode cX7_bid 161 = .ok (.iload 12, 2) := by decide +kernel
theorem dX7_bid_163 : decode cX7_bid 163 = .ok (.imul, 1) := by decide +kernel
theorem dX7_bid_164 : decode cX7_bid 164 = .ok (.iload 13, 2) := by decide +kernel
theorem dX7_bid_166 : decode cX7_bid 166 = .ok (.iadd, 1) := by decide +kernel
theorem dX7_bid_167 : decode cX7_bid 167 = .ok (.goto 5, 3) := by decide +kernel
theorem dX7_bid_170 : decode cX7_bid 170 = .ok (.iload 10, 2) := by decide +kernel
theorem dX7_bid_172 : decode cX7_bid 172 = .ok (.istore 10, 2) := by decide +kernel
theorem dX7_bid_174 : decode cX7_bid 174 = .ok (.iinc 11 1, 3) := by decide +kernel
theorem dX7_bid_177 : decode cX7_bid 177 = .ok (.iinc 13 1, 3) := by decide +kernel
theorem dX7_bid_180 : decode cX7_bid 180 = .ok (.goto (-62), 3) := by decide +kernel
theorem dX7_bid_183 : decode cX7_bid 183 = .ok (.iinc 12 1, 3) := by decide +kernel
theorem dX7_bid_186 : decode cX7_bid 186 = .ok (.goto (-77), 3) := by decide +kernel
theorem dX7_bid_189 : decode cX7_bid 189 = .ok (.iload 6, 2) := by decide +kernel
theorem dX7_bid_191 : decode cX7_bid 191 = .ok (.ifCond .ne 8, 3) := by decide +kernel
theorem dX7_bid_194 : decode cX7_bid 194 = .ok (.iload 11, 2) := by decide +kernel
theorem dX7_bid_196 : decode cX7_bid 196 = .ok (.goto 5, 3) := by decide +kernel
theorem dX7_bid_199 : decode cX7_bid 199 = .ok (.iload 10, 2) := by decide +kernel
theorem dX7_bid_201 : decode cX7_bid 201 = .ok (.ireturn, 1) := by decide +kernel
theorem dX7_odds_0 : decode cX7_odds 0 = .ok (.iload_n 1, 1) := by decide +kernel
theorem dX7_odds_1 : decode cX7_odds 1 = .ok (.iconst 0, 1) := by decide +kernel
theorem dX7_odds_2 : decode cX7_odds 2 = .ok (.bipush 10, 2) := by decide +kernel
theorem dX7_odds_4 : decode cX7_odds 4 = .ok (.invokestatic 98, 3) := by decide +kernel
theorem dX7_odds_7 : decode cX7_odds 7 = .ok (.ifCond .ne 10, 3) := by decide +kernel
theorem dX7_odds_10 : decode cX7_odds 10 = .ok (.aload_n 0, 1) := by decide +kernel
theorem dX7_odds_11 : decode cX7_odds 11 = .ok (.bipush (-2), 2) := by decide +kernel
theorem dX7_odds_13 : decode cX7_odds 13 = .ok (.invokevirtual 66, 3) := by decide +kernel
theorem dX7_odds_16 : decode cX7_odds 16 = .ok (.ireturn, 1) := by decide +kernel
theorem dX7_odds_17 : decode cX7_odds 17 = .ok (.aload_n 0, 1) := by decide +kernel
theorem dX7_odds_18 : decode cX7_odds 18 = .ok (.getfield 51, 3) := by decide +kernel
theorem dX7_odds_21 : decode cX7_odds 21 = .ok (.aload_n 0, 1) := by decide +kernel
theorem dX7_odds_22 : decode cX7_odds 22 = .ok (.getfield 10, 3) := by decide +kernel
theorem dX7_odds_25 : decode cX7_odds 25 = .ok (.iload_n 1, 1) := by decide +kernel
theorem dX7_odds_26 : decode cX7_odds 26 = .ok (.invokevirtual 244, 3) := by decide +kernel
theorem dX7_odds_29 : decode cX7_odds 29 = .ok (.iconst 1, 1) := by decide +kernel
theorem dX7_odds_30 : decode cX7_odds 30 = .ok (.ireturn, 1) := by decide +kernel
theorem dX7_drawn_0 : decode cX7_drawn 0 = .ok (.iload_n 1, 1) := by decide +kernel
theorem dX7_drawn_1 : decode cX7_drawn 1 = .ok (.iconst 0, 1) := by decide +kernel
theorem dX7_drawn_2 : decode cX7_drawn 2 = .ok (.ldc 248, 2) := by decide +kernel
theorem dX7_drawn_4 : decode cX7_drawn 4 = .ok (.invokestatic 98, 3) := by decide +kernel
theorem dX7_drawn_7 : decode cX7_drawn 7 = .ok (.ifCond .eq 13, 3) := by decide +kernel
theorem dX7_drawn_10 : decode cX7_drawn 10 = .ok (.iload_n 2, 1) := by decide +kernel
theorem dX7_drawn_11 : decode cX7_drawn 11 = .ok (.iconst 0, 1) := by decide +kernel
theorem dX7_drawn_12 : decode cX7_drawn 12 = .ok (.bipush 60, 2) := by decide +kernel
theorem dX7_drawn_14 : decode cX7_drawn 14 = .ok (.invokestatic 98, 3) := by decide +kernel
theorem dX7_drawn_17 : decode cX7_drawn 17 = .ok (.ifCond .ne 10, 3) := by decide +kernel
theorem dX7_drawn_20 : decode cX7_drawn 20 = .ok (.aload_n 0, 1) := by decide +kernel
theorem dX7_drawn_21 : decode cX7_drawn 21 = .ok (.bipush (-2), 2) := by decide +kernel
theorem dX7_drawn_23 : decode cX7_drawn 23 = .ok (.invokevirtual 66, 3) := by decide +kernel
theorem dX7_drawn_26 : decode cX7_drawn 26 = .ok (.ireturn, 1) := by decide +kernel
theorem dX7_drawn_27 : decode cX7_drawn 27 = .ok (.iload_n 1, 1) := by decide +kernel
theorem dX7_drawn_28 : decode cX7_drawn 28 = .ok (.i2l, 1) := by decide +kernel
theorem dX7_drawn_29 : decode cX7_drawn 29 = .ok (.lstore_n 3, 1) := by decide +kernel
theorem dX7_drawn_30 : decode cX7_drawn 30 = .ok (.iconst 0, 1) := by decide +kernel
theorem dX7_drawn_31 : decode cX7_drawn 31 = .ok (.istore 5, 2) := by decide +kernel
theorem dX7_drawn_33 : decode cX7_drawn 33 = .ok (.iconst 0, 1) := by decide +kernel
theorem dX7_drawn_34 : decode cX7_drawn 34 = .ok (.istore 6, 2) := by decide +kernel
theorem dX7_drawn_36 : decode cX7_drawn 36 = .ok (.iload 6, 2) := by decide +kernel
theorem dX7_drawn_38 : decode cX7_drawn 38 = .ok (.iload_n 2, 1) := by decide +kernel
theorem dX7_drawn_39 : decode cX7_drawn 39 = .ok (.if_icmp .ge 98, 3) := by decide +kernel
theorem dX7_drawn_42 : decode cX7_drawn 42 = .ok (.aload_n 0, 1) := by decide +kernel
theorem dX7_drawn_43 : decode cX7_drawn 43 = .ok (.getfield 10, 3) := by decide +kernel
theorem dX7_drawn_46 : decode cX7_drawn 46 = .ok (.getfield 92, 3) := by decide +kernel
theorem dX7_drawn_49 : decode cX7_drawn 49 = .ok (.istore 7, 2) := by decide +kernel
theorem dX7_drawn_51 : decode cX7_drawn 51 = .ok (.iconst 0, 1) := by decide +kernel
theorem dX7_drawn_52 : decode cX7_drawn 52 = .ok (.istore 8, 2) := by decide +kernel
theorem dX7_drawn_54 : decode cX7_drawn 54 = .ok (.iload 8, 2) := by decide +kernel
theorem dX7_drawn_56 : decode cX7_drawn 56 = .ok (.aload_n 0, 1) := by decide +kernel
theorem dX7_drawn_57 : decode cX7_drawn 57 = .ok (.getfield 10, 3) := by decide +kernel
theorem dX7_drawn_60 : decode cX7_drawn 60 = .ok (.getfield 70, 3) := by decide +kernel
theorem dX7_drawn_63 : decode cX7_drawn 63 = .ok (.if_icmp .ge 59, 3) := by decide +kernel
theorem dX7_drawn_66 : decode cX7_drawn 66 = .ok (.lload_n 3, 1) := by decide +kernel
theorem dX7_drawn_67 : decode cX7_drawn 67 = .ok (.ldc2_w 249, 3) := by decide +kernel
theorem dX7_drawn_70 : decode cX7_drawn 70 = .ok (.lmul, 1) := by decide +kernel
theorem dX7_drawn_71 : decode cX7_drawn 71 = .ok (.ldc2_w 251, 3) := by decide +kernel
theorem dX7_drawn_74 : decode cX7_drawn 74 = .ok (.ladd, 1) := by decide +kernel
theorem dX7_drawn_75 : decode cX7_drawn 75 = .ok (.ldc2_w 253, 3) := by decide +kernel
theorem dX7_drawn_78 : decode cX7_drawn 78 = .ok (.lrem, 1) := by decide +kernel
theorem dX7_drawn_79 : decode cX7_drawn 79 = .ok (.lstore_n 3, 1) := by decide +kernel
theorem dX7_drawn_80 : decode cX7_drawn 80 = .ok (.lload_n 3, 1) := by decide +kernel
theorem dX7_drawn_81 : decode cX7_drawn 81 = .ok (.ldc2_w 255, 3) := by decide +kernel
theorem dX7_drawn_84 : decode cX7_drawn 84 = .ok (.ldiv, 1) := by decide +kernel
theorem dX7_drawn_85 : decode cX7_drawn 85 = .ok (.ldc2_w 257, 3) := by decide +kernel
theorem dX7_drawn_88 : decode cX7_drawn 88 = .ok (.lrem, 1) := by decide +kernel
theorem dX7_drawn_89 : decode cX7_drawn 89 = .ok (.l2i, 1) := by decide +kernel
theorem dX7_drawn_90 : decode cX7_drawn 90 = .ok (.iconst 1, 1) := by decide +kernel
theorem dX7_drawn_91 : decode cX7_drawn 91 = .ok (.iadd, 1) := by decide +kernel
theorem dX7_drawn_92 : decode cX7_drawn 92 = .ok (.istore 9, 2) := by decide +kernel
theorem dX7_drawn_94 : decode cX7_drawn 94 = .ok (.aload_n 0, 1) := by decide +kernel
theorem dX7_drawn_95 : decode cX7_drawn 95 = .ok (.getfield 10, 3) := by decide +kernel
theorem dX7_drawn_98 : decode cX7_drawn 98 = .ok (.iload 8, 2) := by decide +kernel
theorem dX7_drawn_100 : decode cX7_drawn 100 = .ok (.iload 9, 2) := by decide +kernel
theorem dX7_drawn_102 : decode cX7_drawn 102 = .ok (.iload 7, 2) := by decide +kernel
theorem dX7_drawn_104 : decode cX7_drawn 104 = .ok (.aload_n 0, 1) := by decide +kernel
theorem dX7_drawn_105 : decode cX7_drawn 105 = .ok (.getfield 10, 3) := by decide +kernel
theorem dX7_drawn_108 : decode cX7_drawn 108 = .ok (.getfield 92, 3) := by decide +kernel
theorem dX7_drawn_111 : decode cX7_drawn 111 = .ok (.invokevirtual 259, 3) := by decide +kernel
theorem dX7_drawn_114 : decode cX7_drawn 114 = .ok (.istore 7, 2) := by decide +kernel
theorem dX7_drawn_116 : decode cX7_drawn 116 = .ok (.iinc 8 1, 3) := by decide +kernel
theorem dX7_drawn_119 : decode cX7_drawn 119 = .ok (.goto (-65), 3) := by decide +kernel
theorem dX7_drawn_122 : decode cX7_drawn 122 = .ok (.iload 7, 2) := by decide +kernel
theorem dX7_drawn_124 : decode cX7_drawn 124 = .ok (.iconst (-1), 1) := by decide +kernel
theorem dX7_drawn_125 : decode cX7_drawn 125 = .ok (.if_icmp .eq 6, 3) := by decide +kernel
theorem dX7_drawn_128 : decode cX7_drawn 128 = .ok (.iinc 5 1, 3) := by decide +kernel
theorem dX7_drawn_131 : decode cX7_drawn 131 = .ok (.iinc 6 1, 3) := by decide +kernel
theorem dX7_drawn_134 : decode cX7_drawn 134 = .ok (.goto (-98), 3) := by decide +kernel
theorem dX7_drawn_137 : decode cX7_drawn 137 = .ok (.iload 5, 2) := by decide +kernel
theorem dX7_drawn_139 : decode cX7_drawn 139 = .ok (.ireturn, 1) := by decide +kernel
theorem dX7_part_0 : decode cX7_part 0 = .ok (.iload_n 1, 1) := by decide +kernel
theorem dX7_part_1 : decode cX7_part 1 = .ok (.iconst 0, 1) := by decide +kernel
theorem dX7_part_2 : decode cX7_part 2 = .ok (.iconst 1, 1) := by decide +kernel
theorem dX7_part_3 : decode cX7_part 3 = .ok (.invokestatic 98, 3) := by decide +kernel
theorem dX7_part_6 : decode cX7_part 6 = .ok (.ifCond .ne 11, 3) := by decide +kernel
theorem dX7_part_9 : decode cX7_part 9 = .ok (.aload_n 0, 1) := by decide +kernel
theorem dX7_part_10 : decode cX7_part 10 = .ok (.bipush (-2), 2) := by decide +kernel
theorem dX7_part_12 : decode cX7_part 12 = .ok (.invokevirtual 66, 3) := by decide +kernel
theorem dX7_part_15 : decode cX7_part 15 = .ok (.i2l, 1) := by decide +kernel
theorem dX7_part_16 : decode cX7_part 16 = .ok (.lreturn, 1) := by decide +kernel
theorem dX7_part_17 : decode cX7_part 17 = .ok (.iload_n 1, 1) := by decide +kernel
theorem dX7_part_18 : decode cX7_part 18 = .ok (.ifCond .ne 13, 3) := by decide +kernel
theorem dX7_part_21 : decode cX7_part 21 = .ok (.aload_n 0, 1) := by decide +kernel
theorem dX7_part_22 : decode cX7_part 22 = .ok (.getfield 51, 3) := by decide +kernel
theorem dX7_part_25 : decode cX7_part 25 = .ok (.getfield 263, 3) := by decide +kernel
theorem dX7_part_28 : decode cX7_part 28 = .ok (.goto 10, 3) := by decide +kernel
theorem dX7_part_31 : decode cX7_part 31 = .ok (.aload_n 0, 1) := by decide +kernel
theorem dX7_part_32 : decode cX7_part 32 = .ok (.getfield 51, 3) := by decide +kernel
theorem dX7_part_35 : decode cX7_part 35 = .ok (.getfield 267, 3) := by decide +kernel
theorem dX7_part_38 : decode cX7_part 38 = .ok (.lreturn, 1) := by decide +kernel
theorem dX7_image_0 : decode cX7_image 0 = .ok (.iload_n 1, 1) := by decide +kernel
theorem dX7_image_1 : decode cX7_image 1 = .ok (.iconst 0, 1) := by decide +kernel
theorem dX7_image_2 : decode cX7_image 2 = .ok (.iconst 1, 1) := by decide +kernel
theorem dX7_image_3 : decode cX7_image 3 = .ok (.invokestatic 98, 3) := by decide +kernel
theorem dX7_image_6 : decode cX7_image 6 = .ok (.ifCond .ne 10, 3) := by decide +kernel
theorem dX7_image_9 : decode cX7_image 9 = .ok (.aload_n 0, 1) := by decide +kernel
theorem dX7_image_10 : decode cX7_image 10 = .ok (.bipush (-2), 2) := by decide +kernel
theorem dX7_image_12 : decode cX7_image 12 = .ok (.invokevirtual 66, 3) := by decide +kernel
theorem dX7_image_15 : decode cX7_image 15 = .ok (.ireturn, 1) := by decide +kernel
theorem dX7_image_16 : decode cX7_image 16 = .ok (.aload_n 0, 1) := by decide +kernel
theorem dX7_image_17 : decode cX7_image 17 = .ok (.getfield 19, 3) := by decide +kernel
theorem dX7_image_20 : decode cX7_image 20 = .ok (.iload_n 1, 1) := by decide +kernel
theorem dX7_image_21 : decode cX7_image 21 = .ok (.aaload, 1) := by decide +kernel
theorem dX7_image_22 : decode cX7_image 22 = .ok (.aload_n 0, 1) := by decide +kernel
theorem dX7_image_23 : decode cX7_image 23 = .ok (.getfield 10, 3) := by decide +kernel
theorem dX7_image_26 : decode cX7_image 26 = .ok (.invokevirtual 141, 3) := by decide +kernel
theorem dX7_image_29 : decode cX7_image 29 = .ok (.aload_n 0, 1) := by decide +kernel
theorem dX7_image_30 : decode cX7_image 30 = .ok (.getfield 23, 3) := by decide +kernel
theorem dX7_image_33 : decode cX7_image 33 = .ok (.iload_n 1, 1) := by decide +kernel
theorem dX7_image_34 : decode cX7_image 34 = .ok (.iconst 1, 1) := by decide +kernel
theorem dX7_image_35 : decode cX7_image 35 = .ok (.bastore, 1) := by decide +kernel
theorem dX7_image_36 : decode cX7_image 36 = .ok (.iconst 1, 1) := by decide +kernel
theorem dX7_image_37 : decode cX7_image 37 = .ok (.ireturn, 1) := by decide +kernel
theorem dX7_from_0 : decode cX7_from 0 = .ok (.iload_n 1, 1) := by decide +kernel
theorem dX7_from_1 : decode cX7_from 1 = .ok (.iconst 0, 1) := by decide +kernel
theorem dX7_from_2 : decode cX7_from 2 = .ok (.iconst 1, 1) := by decide +kernel
theorem dX7_from_3 : decode cX7_from 3 = .ok (.invokestatic 98, 3) := by decide +kernel
theorem dX7_from_6 : decode cX7_from 6 = .ok (.ifCond .ne 10, 3) := by decide +kernel
theorem dX7_from_9 : decode cX7_from 9 = .ok (.aload_n 0, 1) := by decide +kernel
theorem dX7_from_10 : decode cX7_from 10 = .ok (.bipush (-2), 2) := by decide +kernel
theorem dX7_from_12 : decode cX7_from 12 = .ok (.invokevirtual 66, 3) := by decide +kernel
theorem dX7_from_15 : decode cX7_from 15 = .ok (.ireturn, 1) := by decide +kernel
theorem dX7_from_16 : decode cX7_from 16 = .ok (.aload_n 0, 1) := by decide +kernel
theorem dX7_from_17 : decode cX7_from 17 = .ok (.getfield 23, 3) := by decide +kernel
theorem dX7_from_20 : decode cX7_from 20 = .ok (.iload_n 1, 1) := by decide +kernel
theorem dX7_from_21 : decode cX7_from 21 = .ok (.baload, 1) := by decide +kernel
theorem dX7_from_22 : decode cX7_from 22 = .ok (.ifCond .ne 10, 3) := by decide +kernel
theorem dX7_from_25 : decode cX7_from 25 = .ok (.aload_n 0, 1) := by decide +kernel
theorem dX7_from_26 : decode cX7_from 26 = .ok (.bipush (-3), 2) := by decide +kernel
theorem dX7_from_28 : decode cX7_from 28 = .ok (.invokevirtual 148, 3) := by decide +kernel
theorem dX7_from_31 : decode cX7_from 31 = .ok (.ireturn, 1) := by decide +kernel
theorem dX7_from_32 : decode cX7_from 32 = .ok (.aload_n 0, 1) := by decide +kernel
theorem dX7_from_33 : decode cX7_from 33 = .ok (.getfield 10, 3) := by decide +kernel
theorem dX7_from_36 : decode cX7_from 36 = .ok (.aload_n 0, 1) := by decide +kernel
theorem dX7_from_37 : decode cX7_from 37 = .ok (.getfield 19, 3) := by decide +kernel
theorem dX7_from_40 : decode cX7_from 40 = .ok (.iload_n 1, 1) := by decide +kernel
theorem dX7_from_41 : decode cX7_from 41 = .ok (.aaload, 1) := by decide +kernel
theorem dX7_from_42 : decode cX7_from 42 = .ok (.invokevirtual 141, 3) := by decide +kernel
theorem dX7_from_45 : decode cX7_from 45 = .ok (.iconst 1, 1) := by decide +kernel
theorem dX7_from_46 : decode cX7_from 46 = .ok (.ireturn, 1) := by decide +kernel
theorem dX7_status_0 : decode cX7_status 0 = .ok (.iload_n 1, 1) := by decide +kernel
theorem dX7_status_1 : decode cX7_status 1 = .ok (.tableswitch 42 0 2 #[27, 32, 37], 27) := by decide +kernel
theorem dX7_status_28 : decode cX7_status 28 = .ok (.aload_n 0, 1) := by decide +kernel
theorem dX7_status_29 : decode cX7_status 29 = .ok (.getfield 270, 3) := by decide +kernel
theorem dX7_status_32 : decode cX7_status 32 = .ok (.ireturn, 1) := by decide +kernel
theorem dX7_status_33 : decode cX7_status 33 = .ok (.aload_n 0, 1) := by decide +kernel
theorem dX7_status_34 : decode cX7_status 34 = .ok (.getfield 273, 3) := by decide +kernel
theorem dX7_status_37 : decode cX7_status 37 = .ok (.ireturn, 1) := by decide +kernel
theorem dX7_status_38 : decode cX7_status 38 = .ok (.aload_n 0, 1) := by decide +kernel
theorem dX7_status_39 : decode cX7_status 39 = .ok (.getfield 276, 3) := by decide +kernel
theorem dX7_status_42 : decode cX7_status 42 = .ok (.ireturn, 1) := by decide +kernel
theorem dX7_status_43 : decode cX7_status 43 = .ok (.aload_n 0, 1) := by decide +kernel
theorem dX7_status_44 : decode cX7_status 44 = .ok (.iconst (-1), 1) := by decide +kernel
theorem dX7_status_45 : decode cX7_status 45 = .ok (.invokevirtual 66, 3) := by decide +kernel
theorem dX7_status_48 : decode cX7_status 48 = .ok (.ireturn, 1) := by decide +kernel
theorem dX7_count_0 : decode cX7_count 0 = .ok (.iload_n 1, 1) := by decide +kernel
theorem dX7_count_1 : decode cX7_count 1 = .ok (.iconst 0, 1) := by decide +kernel
theorem dX7_count_2 : decode cX7_count 2 = .ok (.bipush 8, 2) := by decide +kernel
theorem dX7_count_4 : decode cX7_count 4 = .ok (.invokestatic 98, 3) := by decide +kernel
theorem dX7_count_7 : decode cX7_count 7 = .ok (.ifCond .eq 11, 3) := by decide +kernel
theorem dX7_count_10 : decode cX7_count 10 = .ok (.aload_n 0, 1) := by decide +kernel
theorem dX7_count_11 : decode cX7_count 11 = .ok (.iload_n 1, 1) := by decide +kernel
theorem dX7_count_12 : decode cX7_count 12 = .ok (.invokevirtual 279, 3) := by decide +kernel
theorem dX7_count_15 : decode cX7_count 15 = .ok (.goto 9, 3) := by decide +kernel
theorem dX7_count_18 : decode cX7_count 18 = .ok (.aload_n 0, 1) := by decide +kernel
theorem dX7_count_19 : decode cX7_count 19 = .ok (.bipush (-2), 2) := by decide +kernel
theorem dX7_count_21 : decode cX7_count 21 = .ok (.invokevirtual 66, 3) := by decide +kernel
theorem dX7_count_24 : decode cX7_count 24 = .ok (.ireturn, 1) := by decide +kernel
theorem dX7_digest_0 : decode cX7_digest 0 = .ok (.ldc2_w 282, 3) := by decide +kernel
theorem dX7_digest_3 : decode cX7_digest 3 = .ok (.lstore_n 1, 1) := by decide +kernel
theorem dX7_digest_4 : decode cX7_digest 4 = .ok (.iconst 0, 1) := by decide +kernel
theorem dX7_digest_5 : decode cX7_digest 5 = .ok (.istore_n 3, 1) := by decide +kernel
theorem dX7_digest_6 : decode cX7_digest 6 = .ok (.iload_n 3, 1) := by decide +kernel
theorem dX7_digest_7 : decode cX7_digest 7 = .ok (.bipush 9, 2) := by decide +kernel
theorem dX7_digest_9 : decode cX7_digest 9 = .ok (.if_icmp .ge 22, 3) := by decide +kernel
theorem dX7_digest_12 : decode cX7_digest 12 = .ok (.ldc2_w 284, 3) := by decide +kernel
theorem dX7_digest_15 : decode cX7_digest 15 = .ok (.lload_n 1, 1) := by decide +kernel
theorem dX7_digest_16 : decode cX7_digest 16 = .ok (.lmul, 1) := by decide +kernel
theorem dX7_digest_17 : decode cX7_digest 17 = .ok (.aload_n 0, 1) := by decide +kernel
theorem dX7_digest_18 : decode cX7_digest 18 = .ok (.iload_n 3, 1) := by decide +kernel
theorem dX7_digest_19 : decode cX7_digest 19 = .ok (.invokevirtual 279, 3) := by decide +kernel
theorem dX7_digest_22 : decode cX7_digest 22 = .ok (.i2l, 1) := by decide +kernel
theorem dX7_digest_23 : decode cX7_digest 23 = .ok (.ladd, 1) := by decide +kernel
theorem dX7_digest_24 : decode cX7_digest 24 = .ok (.lstore_n 1, 1) := by decide +kernel
theorem dX7_digest_25 : decode cX7_digest 25 = .ok (.iinc 3 1, 3) := by decide +kernel
theorem dX7_digest_28 : decode cX7_digest 28 = .ok (.goto (-22), 3) := by decide +kernel
theorem dX7_digest_31 : decode cX7_digest 31 = .ok (.iconst 0, 1) := by decide +kernel
theorem dX7_digest_32 : decode cX7_digest 32 = .ok (.istore_n 3, 1) := by decide +kernel
theorem dX7_digest_33 : decode cX7_digest 33 = .ok (.iload_n 3, 1) := by decide +kernel
theorem dX7_digest_34 : decode cX7_digest 34 = .ok (.aload_n 0, 1) := by decide +kernel
theorem dX7_digest_35 : decode cX7_digest 35 = .ok (.getfield 10, 3) := by decide +kernel
theorem dX7_digest_38 : decode cX7_digest 38 = .ok (.getfield 70, 3) := by decide +kernel
theorem dX7_digest_41 : decode cX7_digest 41 = .ok (.if_icmp .ge 66, 3) := by decide +kernel
theorem dX7_digest_44 : decode cX7_digest 44 = .ok (.ldc2_w 284, 3) := by decide +kernel
theorem dX7_digest_47 : decode cX7_digest 47 = .ok (.lload_n 1, 1) := by decide +kernel
theorem dX7_digest_48 : decode cX7_digest 48 = .ok (.lmul, 1) := by decide +kernel
theorem dX7_digest_49 : decode cX7_digest 49 = .ok (.aload_n 0, 1) := by decide +kernel
theorem dX7_digest_50 : decode cX7_digest 50 = .ok (.getfield 10, 3) := by decide +kernel
theorem dX7_digest_53 : decode cX7_digest 53 = .ok (.getfield 175, 3) := by decide +kernel
theorem dX7_digest_56 : decode cX7_digest 56 = .ok (.iload_n 3, 1) := by decide +kernel
theorem dX7_digest_57 : decode cX7_digest 57 = .ok (.iaload, 1) := by decide +kernel
theorem dX7_digest_58 : decode cX7_digest 58 = .ok (.i2l, 1) := by decide +kernel
theorem dX7_digest_59 : decode cX7_digest 59 = .ok (.ladd, 1) := by decide +kernel
theorem dX7_digest_60 : decode cX7_digest 60 = .ok (.lstore_n 1, 1) := by decide +kernel
theorem dX7_digest_61 : decode cX7_digest 61 = .ok (.ldc2_w 284, 3) := by decide +kernel
theorem dX7_digest_64 : decode cX7_digest 64 = .ok (.lload_n 1, 1) := by decide +kernel
theorem dX7_digest_65 : decode cX7_digest 65 = .ok (.lmul, 1) := by decide +kernel
theorem dX7_digest_66 : decode cX7_digest 66 = .ok (.aload_n 0, 1) := by decide +kernel
theorem dX7_digest_67 : decode cX7_digest 67 = .ok (.getfield 10, 3) := by decide +kernel
theorem dX7_digest_70 : decode cX7_digest 70 = .ok (.getfield 102, 3) := by decide +kernel
theorem dX7_digest_73 : decode cX7_digest 73 = .ok (.getfield 119, 3) := by decide +kernel
theorem dX7_digest_76 : decode cX7_digest 76 = .ok (.iload_n 3, 1) := by decide +kernel
theorem dX7_digest_77 : decode cX7_digest 77 = .ok (.iaload, 1) := by decide +kernel
theorem dX7_digest_78 : decode cX7_digest 78 = .ok (.i2l, 1) := by decide +kernel
theorem dX7_digest_79 : decode cX7_digest 79 = .ok (.ladd, 1) := by decide +kernel
theorem dX7_digest_80 : decode cX7_digest 80 = .ok (.lstore_n 1, 1) := by decide +kernel
theorem dX7_digest_81 : decode cX7_digest 81 = .ok (.ldc2_w 284, 3) := by decide +kernel
theorem dX7_digest_84 : decode cX7_digest 84 = .ok (.lload_n 1, 1) := by decide +kernel
theorem dX7_digest_85 : decode cX7_digest 85 = .ok (.lmul, 1) := by decide +kernel
theorem dX7_digest_86 : decode cX7_digest 86 = .ok (.aload_n 0, 1) := by decide +kernel
theorem dX7_digest_87 : decode cX7_digest 87 = .ok (.getfield 10, 3) := by decide +kernel
theorem dX7_digest_90 : decode cX7_digest 90 = .ok (.getfield 102, 3) := by decide +kernel
theorem dX7_digest_93 : decode cX7_digest 93 = .ok (.getfield 178, 3) := by decide +kernel
theorem dX7_digest_96 : decode cX7_digest 96 = .ok (.iload_n 3, 1) := by decide +kernel
theorem dX7_digest_97 : decode cX7_digest 97 = .ok (.iaload, 1) := by decide +kernel
theorem dX7_digest_98 : decode cX7_digest 98 = .ok (.i2l, 1) := by decide +kernel
theorem dX7_digest_99 : decode cX7_digest 99 = .ok (.ladd, 1) := by decide +kernel
theorem dX7_digest_100 : decode cX7_digest 100 = .ok (.lstore_n 1, 1) := by decide +kernel
theorem dX7_digest_101 : decode cX7_digest 101 = .ok (.iinc 3 1, 3) := by decide +kernel
theorem dX7_digest_104 : decode cX7_digest 104 = .ok (.goto (-71), 3) := by decide +kernel
theorem dX7_digest_107 : decode cX7_digest 107 = .ok (.iconst 0, 1) := by decide +kernel
theorem dX7_digest_108 : decode cX7_digest 108 = .ok (.istore_n 3, 1) := by decide +kernel
theorem dX7_digest_109 : decode cX7_digest 109 = .ok (.iload_n 3, 1) := by decide +kernel
theorem dX7_digest_110 : decode cX7_digest 110 = .ok (.aload_n 0, 1) := by decide +kernel
theorem dX7_digest_111 : decode cX7_digest 111 = .ok (.getfield 10, 3) := by decide +kernel
theorem dX7_digest_114 : decode cX7_digest 114 = .ok (.getfield 225, 3) := by decide +kernel
theorem dX7_digest_117 : decode cX7_digest 117 = .ok (.if_icmp .ge 26, 3) := by decide +kernel
theorem dX7_digest_120 : decode cX7_digest 120 = .ok (.ldc2_w 284, 3) := by decide +kernel
theorem dX7_digest_123 : decode cX7_digest 123 = .ok (.lload_n 1, 1) := by decide +kernel
theorem dX7_digest_124 : decode cX7_digest 124 = .ok (.lmul, 1) := by decide +kernel
theorem dX7_digest_125 : decode cX7_digest 125 = .ok (.aload_n 0, 1) := by decide +kernel
theorem dX7_digest_126 : decode cX7_digest 126 = .ok (.getfield 10, 3) := by decide +kernel
theorem dX7_digest_129 : decode cX7_digest 129 = .ok (.getfield 286, 3) := by decide +kernel
theorem dX7_digest_132 : decode cX7_digest 132 = .ok (.iload_n 3, 1) := by decide +kernel
theorem dX7_digest_133 : decode cX7_digest 133 = .ok (.iaload, 1) := by decide +kernel
theorem dX7_digest_134 : decode cX7_digest 134 = .ok (.i2l, 1) := by decide +kernel
theorem dX7_digest_135 : decode cX7_digest 135 = .ok (.ladd, 1) := by decide +kernel
theorem dX7_digest_136 : decode cX7_digest 136 = .ok (.lstore_n 1, 1) := by decide +kernel
theorem dX7_digest_137 : decode cX7_digest 137 = .ok (.iinc 3 1, 3) := by decide +kernel
theorem dX7_digest_140 : decode cX7_digest 140 = .ok (.goto (-31), 3) := by decide +kernel
theorem dX7_digest_143 : decode cX7_digest 143 = .ok (.ldc2_w 284, 3) := by decide +kernel
theorem dX7_digest_146 : decode cX7_digest 146 = .ok (.lload_n 1, 1) := by decide +kernel
theorem dX7_digest_147 : decode cX7_digest 147 = .ok (.lmul, 1) := by decide +kernel
theorem dX7_digest_148 : decode cX7_digest 148 = .ok (.aload_n 0, 1) := by decide +kernel
theorem dX7_digest_149 : decode cX7_digest 149 = .ok (.getfield 51, 3) := by decide +kernel
theorem dX7_digest_152 : decode cX7_digest 152 = .ok (.getfield 263, 3) := by decide +kernel
theorem dX7_digest_155 : decode cX7_digest 155 = .ok (.ladd, 1) := by decide +kernel
theorem dX7_digest_156 : decode cX7_digest 156 = .ok (.lstore_n 1, 1) := by decide +kernel
theorem dX7_digest_157 : decode cX7_digest 157 = .ok (.ldc2_w 284, 3) := by decide +kernel
theorem dX7_digest_160 : decode cX7_digest 160 = .ok (.lload_n 1, 1) := by decide +kernel
theorem dX7_digest_161 : decode cX7_digest 161 = .ok (.lmul, 1) := by decide +kernel
theorem dX7_digest_162 : decode cX7_digest 162 = .ok (.aload_n 0, 1) := by decide +kernel
theorem dX7_digest_163 : decode cX7_digest 163 = .ok (.getfield 51, 3) := by decide +kernel
theorem dX7_digest_166 : decode cX7_digest 166 = .ok (.getfield 267, 3) := by decide +kernel
theorem dX7_digest_169 : decode cX7_digest 169 = .ok (.ladd, 1) := by decide +kernel
theorem dX7_digest_170 : decode cX7_digest 170 = .ok (.lreturn, 1) := by decide +kernel
theorem dX7_bad_0 : decode cX7_bad 0 = .ok (.aload_n 0, 1) := by decide +kernel
theorem dX7_bad_1 : decode cX7_bad 1 = .ok (.dup, 1) := by decide +kernel
theorem dX7_bad_2 : decode cX7_bad 2 = .ok (.getfield 270, 3) := by decide +kernel
theorem dX7_bad_5 : decode cX7_bad 5 = .ok (.iconst 1, 1) := by decide +kernel
theorem dX7_bad_6 : decode cX7_bad 6 = .ok (.iadd, 1) := by decide +kernel
theorem dX7_bad_7 : decode cX7_bad 7 = .ok (.putfield 270, 3) := by decide +kernel
theorem dX7_bad_10 : decode cX7_bad 10 = .ok (.iload_n 1, 1) := by decide +kernel
theorem dX7_bad_11 : decode cX7_bad 11 = .ok (.ireturn, 1) := by decide +kernel
theorem dX7_no_0 : decode cX7_no 0 = .ok (.aload_n 0, 1) := by decide +kernel
theorem dX7_no_1 : decode cX7_no 1 = .ok (.dup, 1) := by decide +kernel
theorem dX7_no_2 : decode cX7_no 2 = .ok (.getfield 273, 3) := by decide +kernel
theorem dX7_no_5 : decode cX7_no 5 = .ok (.iconst 1, 1) := by decide +kernel
theorem dX7_no_6 : decode cX7_no 6 = .ok (.iadd, 1) := by decide +kernel
theorem dX7_no_7 : decode cX7_no 7 = .ok (.putfield 273, 3) := by decide +kernel
theorem dX7_no_10 : decode cX7_no 10 = .ok (.iload_n 1, 1) := by decide +kernel
theorem dX7_no_11 : decode cX7_no 11 = .ok (.ireturn, 1) := by decide +kernel
theorem dX7_full_0 : decode cX7_full 0 = .ok (.aload_n 0, 1) := by decide +kernel
theorem dX7_full_1 : decode cX7_full 1 = .ok (.dup, 1) := by decide +kernel
theorem dX7_full_2 : decode cX7_full 2 = .ok (.getfield 276, 3) := by decide +kernel
theorem dX7_full_5 : decode cX7_full 5 = .ok (.iconst 1, 1) := by decide +kernel
theorem dX7_full_6 : decode cX7_full 6 = .ok (.iadd, 1) := by decide +kernel
theorem dX7_full_7 : decode cX7_full 7 = .ok (.putfield 276, 3) := by decide +kernel
theorem dX7_full_10 : decode cX7_full 10 = .ok (.iload_n 1, 1) := by decide +kernel
theorem dX7_full_11 : decode cX7_full 11 = .ok (.ireturn, 1) := by decide +kernel
theorem dX7_isWithin_0 : decode cX7_isWithin 0 = .ok (.iload_n 0, 1) := by decide +kernel
theorem dX7_isWithin_1 : decode cX7_isWithin 1 = .ok (.iload_n 1, 1) := by decide +kernel
theorem dX7_isWithin_2 : decode cX7_isWithin 2 = .ok (.if_icmp .lt 12, 3) := by decide +kernel
theorem dX7_isWithin_5 : decode cX7_isWithin 5 = .ok (.iload_n 0, 1) := by decide +kernel
theorem dX7_isWithin_6 : decode cX7_isWithin 6 = .ok (.iload_n 2, 1) := by decide +kernel
theorem dX7_isWithin_7 : decode cX7_isWithin 7 = .ok (.if_icmp .gt 7, 3) := by decide +kernel
theorem dX7_isWithin_10 : decode cX7_isWithin 10 = .ok (.iconst 1, 1) := by decide +kernel
theorem dX7_isWithin_11 : decode cX7_isWithin 11 = .ok (.goto 4, 3) := by decide +kernel
theorem dX7_isWithin_14 : decode cX7_isWithin 14 = .ok (.iconst 0, 1) := by decide +kernel
theorem dX7_isWithin_15 : decode cX7_isWithin 15 = .ok (.ireturn, 1) := by decide +kernel
theorem dX7_isBreath_0 : decode cX7_isBreath 0 = .ok (.iload_n 0, 1) := by decide +kernel
theorem dX7_isBreath_1 : decode cX7_isBreath 1 = .ok (.iconst 1, 1) := by decide +kernel
theorem dX7_isBreath_2 : decode cX7_isBreath 2 = .ok (.bipush 30, 2) := by decide +kernel
theorem dX7_isBreath_4 : decode cX7_isBreath 4 = .ok (.invokestatic 98, 3) := by decide +kernel
theorem dX7_isBreath_7 : decode cX7_isBreath 7 = .ok (.ireturn, 1) := by decide +kernel
theorem dX7_isPrice_0 : decode cX7_isPrice 0 = .ok (.iload_n 0, 1) := by decide +kernel
theorem dX7_isPrice_1 : decode cX7_isPrice 1 = .ok (.iconst 1, 1) := by decide +kernel
theorem dX7_isPrice_2 : decode cX7_isPrice 2 = .ok (.bipush 9, 2) := by decide +kernel
theorem dX7_isPrice_4 : decode cX7_isPrice 4 = .ok (.invokestatic 98, 3) := by decide +kernel
theorem dX7_isPrice_7 : decode cX7_isPrice 7 = .ok (.ireturn, 1) := by decide +kernel
theorem dX7_isLength_0 : decode cX7_isLength 0 = .ok (.iload_n 0, 1) := by decide +kernel
theorem dX7_isLength_1 : decode cX7_isLength 1 = .ok (.iconst 1, 1) := by decide +kernel
theorem dX7_isLength_2 : decode cX7_isLength 2 = .ok (.bipush 9, 2) := by decide +kernel
theorem dX7_isLength_4 : decode cX7_isLength 4 = .ok (.invokestatic 98, 3) := by decide +kernel
theorem dX7_isLength_7 : decode cX7_isLength 7 = .ok (.ireturn, 1) := by decide +kernel
theorem dX7_countOf_0 : decode cX7_countOf 0 = .ok (.iload_n 1, 1) := by decide +kernel
theorem dX7_countOf_1 : decode cX7_countOf 1 = .ok (.tableswitch 117 0 7 #[47, 55, 63, 71, 79, 90, 101, 109], 47) := by decide +kernel
theorem dX7_countOf_48 : decode cX7_countOf 48 = .ok (.aload_n 0, 1) := by decide +kernel
theorem dX7_countOf_49 : decode cX7_countOf 49 = .ok (.getfield 10, 3) := by decide +kernel
theorem dX7_countOf_52 : decode cX7_countOf 52 = .ok (.getfield 70, 3) := by decide +kernel
theorem dX7_countOf_55 : decode cX7_countOf 55 = .ok (.ireturn, 1) := by decide +kernel
theorem dX7_countOf_56 : decode cX7_countOf 56 = .ok (.aload_n 0, 1) := by decide +kernel
theorem dX7_countOf_57 : decode cX7_countOf 57 = .ok (.getfield 10, 3) := by decide +kernel
theorem dX7_countOf_60 : decode cX7_countOf 60 = .ok (.invokevirtual 289, 3) := by decide +kernel
theorem dX7_countOf_63 : decode cX7_countOf 63 = .ok (.ireturn, 1) := by decide +kernel
theorem dX7_countOf_64 : decode cX7_countOf 64 = .ok (.aload_n 0, 1) := by decide +kernel
theorem dX7_countOf_65 : decode cX7_countOf 65 = .ok (.getfield 10, 3) := by decide +kernel
theorem dX7_countOf_68 : decode cX7_countOf 68 = .ok (.getfield 92, 3) := by decide +kernel
theorem dX7_countOf_71 : decode cX7_countOf 71 = .ok (.ireturn, 1) := by decide +kernel
theorem dX7_countOf_72 : decode cX7_countOf 72 = .ok (.aload_n 0, 1) := by decide +kernel
theorem dX7_countOf_73 : decode cX7_countOf 73 = .ok (.getfield 10, 3) := by decide +kernel
theorem dX7_countOf_76 : decode cX7_countOf 76 = .ok (.getfield 95, 3) := by decide +kernel
theorem dX7_countOf_79 : decode cX7_countOf 79 = .ok (.ireturn, 1) := by decide +kernel
theorem dX7_countOf_80 : decode cX7_countOf 80 = .ok (.aload_n 0, 1) := by decide +kernel
theorem dX7_countOf_81 : decode cX7_countOf 81 = .ok (.getfield 10, 3) := by decide +kernel
theorem dX7_countOf_84 : decode cX7_countOf 84 = .ok (.getfield 102, 3) := by decide +kernel
theorem dX7_countOf_87 : decode cX7_countOf 87 = .ok (.getfield 106, 3) := by decide +kernel
theorem dX7_countOf_90 : decode cX7_countOf 90 = .ok (.ireturn, 1) := by decide +kernel
theorem dX7_countOf_91 : decode cX7_countOf 91 = .ok (.aload_n 0, 1) := by decide +kernel
theorem dX7_countOf_92 : decode cX7_countOf 92 = .ok (.getfield 10, 3) := by decide +kernel
theorem dX7_countOf_95 : decode cX7_countOf 95 = .ok (.getfield 102, 3) := by decide +kernel
theorem dX7_countOf_98 : decode cX7_countOf 98 = .ok (.getfield 166, 3) := by decide +kernel
theorem dX7_countOf_101 : decode cX7_countOf 101 = .ok (.ireturn, 1) := by decide +kernel
theorem dX7_countOf_102 : decode cX7_countOf 102 = .ok (.aload_n 0, 1) := by decide +kernel
theorem dX7_countOf_103 : decode cX7_countOf 103 = .ok (.getfield 10, 3) := by decide +kernel
theorem dX7_countOf_106 : decode cX7_countOf 106 = .ok (.getfield 225, 3) := by decide +kernel
theorem dX7_countOf_109 : decode cX7_countOf 109 = .ok (.ireturn, 1) := by decide +kernel
theorem dX7_countOf_110 : decode cX7_countOf 110 = .ok (.aload_n 0, 1) := by decide +kernel
theorem dX7_countOf_111 : decode cX7_countOf 111 = .ok (.getfield 10, 3) := by decide +kernel
theorem dX7_countOf_114 : decode cX7_countOf 114 = .ok (.getfield 169, 3) := by decide +kernel
theorem dX7_countOf_117 : decode cX7_countOf 117 = .ok (.ireturn, 1) := by decide +kernel
theorem dX7_countOf_118 : decode cX7_countOf 118 = .ok (.aload_n 0, 1) := by decide +kernel
theorem dX7_countOf_119 : decode cX7_countOf 119 = .ok (.getfield 30, 3) := by decide +kernel
theorem dX7_countOf_122 : decode cX7_countOf 122 = .ok (.getfield 125, 3) := by decide +kernel
theorem dX7_countOf_125 : decode cX7_countOf 125 = .ok (.ireturn, 1) := by decide +kernel
theorem dX7_tellItem_0 : decode cX7_tellItem 0 = .ok (.aload_n 0, 1) := by decide +kernel
theorem dX7_tellItem_1 : decode cX7_tellItem 1 = .ok (.getfield 30, 3) := by decide +kernel
theorem dX7_tellItem_4 : decode cX7_tellItem 4 = .ok (.getfield 292, 3) := by decide +kernel
theorem dX7_tellItem_7 : decode cX7_tellItem 7 = .ok (.iload_n 1, 1) := by decide +kernel
theorem dX7_tellItem_8 : decode cX7_tellItem 8 = .ok (.iaload, 1) := by decide +kernel
theorem dX7_tellItem_9 : decode cX7_tellItem 9 = .ok (.istore_n 2, 1) := by decide +kernel
theorem dX7_tellItem_10 : decode cX7_tellItem 10 = .ok (.aload_n 0, 1) := by decide +kernel
theorem dX7_tellItem_11 : decode cX7_tellItem 11 = .ok (.getfield 30, 3) := by decide +kernel
theorem dX7_tellItem_14 : decode cX7_tellItem 14 = .ok (.getfield 295, 3) := by decide +kernel
theorem dX7_tellItem_17 : decode cX7_tellItem 17 = .ok (.iload_n 1, 1) := by decide +kernel
theorem dX7_tellItem_18 : decode cX7_tellItem 18 = .ok (.iaload, 1) := by decide +kernel
theorem dX7_tellItem_19 : decode cX7_tellItem 19 = .ok (.istore_n 3, 1) := by decide +kernel
theorem dX7_tellItem_20 : decode cX7_tellItem 20 = .ok (.aload_n 0, 1) := by decide +kernel
theorem dX7_tellItem_21 : decode cX7_tellItem 21 = .ok (.getfield 30, 3) := by decide +kernel
theorem dX7_tellItem_24 : decode cX7_tellItem 24 = .ok (.getfield 298, 3) := by decide +kernel
theorem dX7_tellItem_27 : decode cX7_tellItem 27 = .ok (.iload_n 1, 1) := by decide +kernel
theorem dX7_tellItem_28 : decode cX7_tellItem 28 = .ok (.iaload, 1) := by decide +kernel
theorem dX7_tellItem_29 : decode cX7_tellItem 29 = .ok (.lookupswitch 83 #[(1, 27), (2, 54)], 27) := by decide +kernel
theorem dX7_tellItem_56 : decode cX7_tellItem 56 = .ok (.iload_n 2, 1) := by decide +kernel
theorem dX7_tellItem_57 : decode cX7_tellItem 57 = .ok (.invokestatic 59, 3) := by decide +kernel
theorem dX7_tellItem_60 : decode cX7_tellItem 60 = .ok (.ifCond .eq 10, 3) := by decide +kernel
theorem dX7_tellItem_63 : decode cX7_tellItem 63 = .ok (.iload_n 3, 1) := by decide +kernel
theorem dX7_tellItem_64 : decode cX7_tellItem 64 = .ok (.invokestatic 63, 3) := by decide +kernel
theorem dX7_tellItem_67 : decode cX7_tellItem 67 = .ok (.ifCond .ne 5, 3) := by decide +kernel
theorem dX7_tellItem_70 : decode cX7_tellItem 70 = .ok (.iconst 0, 1) := by decide +kernel
theorem dX7_tellItem_71 : decode cX7_tellItem 71 = .ok (.ireturn, 1) := by decide +kernel
theorem dX7_tellItem_72 : decode cX7_tellItem 72 = .ok (.aload_n 0, 1) := by decide +kernel
theorem dX7_tellItem_73 : decode cX7_tellItem 73 = .ok (.getfield 16, 3) := by decide +kernel
theorem dX7_tellItem_76 : decode cX7_tellItem 76 = .ok (.iload_n 2, 1) := by decide +kernel
theorem dX7_tellItem_77 : decode cX7_tellItem 77 = .ok (.iload_n 3, 1) := by decide +kernel
theorem dX7_tellItem_78 : decode cX7_tellItem 78 = .ok (.invokevirtual 74, 3) := by decide +kernel
theorem dX7_tellItem_81 : decode cX7_tellItem 81 = .ok (.iconst 1, 1) := by decide +kernel
theorem dX7_tellItem_82 : decode cX7_tellItem 82 = .ok (.ireturn, 1) := by decide +kernel
theorem dX7_tellItem_83 : decode cX7_tellItem 83 = .ok (.iload_n 2, 1) := by decide +kernel
theorem dX7_tellItem_84 : decode cX7_tellItem 84 = .ok (.invokestatic 78, 3) := by decide +kernel
theorem dX7_tellItem_87 : decode cX7_tellItem 87 = .ok (.ifCond .eq 13, 3) := by decide +kernel
theorem dX7_tellItem_90 : decode cX7_tellItem 90 = .ok (.aload_n 0, 1) := by decide +kernel
theorem dX7_tellItem_91 : decode cX7_tellItem 91 = .ok (.getfield 16, 3) := by decide +kernel
theorem dX7_tellItem_94 : decode cX7_tellItem 94 = .ok (.invokevirtual 81, 3) := by decide +kernel
theorem dX7_tellItem_97 : decode cX7_tellItem 97 = .ok (.ifCond .ne 5, 3) := by decide +kernel
theorem dX7_tellItem_100 : decode cX7_tellItem 100 = .ok (.iconst 0, 1) := by decide +kernel
theorem dX7_tellItem_101 : decode cX7_tellItem 101 = .ok (.ireturn, 1) := by decide +kernel
theorem dX7_tellItem_102 : decode cX7_tellItem 102 = .ok (.aload_n 0, 1) := by decide +kernel
theorem dX7_tellItem_103 : decode cX7_tellItem 103 = .ok (.getfield 16, 3) := by decide +kernel
theorem dX7_tellItem_106 : decode cX7_tellItem 106 = .ok (.iload_n 2, 1) := by decide +kernel
theorem dX7_tellItem_107 : decode cX7_tellItem 107 = .ok (.invokevirtual 88, 3) := by decide +kernel
theorem dX7_tellItem_110 : decode cX7_tellItem 110 = .ok (.iconst 1, 1) := by decide +kernel
theorem dX7_tellItem_111 : decode cX7_tellItem 111 = .ok (.ireturn, 1) := by decide +kernel
theorem dX7_tellItem_112 : decode cX7_tellItem 112 = .ok (.aload_n 0, 1) := by decide +kernel
theorem dX7_tellItem_113 : decode cX7_tellItem 113 = .ok (.getfield 16, 3) := by decide +kernel
theorem dX7_tellItem_116 : decode cX7_tellItem 116 = .ok (.iload_n 2, 1) := by decide +kernel
theorem dX7_tellItem_117 : decode cX7_tellItem 117 = .ok (.invokevirtual 111, 3) := by decide +kernel
theorem dX7_tellItem_120 : decode cX7_tellItem 120 = .ok (.ifCond .eq 10, 3) := by decide +kernel
theorem dX7_tellItem_123 : decode cX7_tellItem 123 = .ok (.iload_n 3, 1) := by decide +kernel
theorem dX7_tellItem_124 : decode cX7_tellItem 124 = .ok (.invokestatic 114, 3) := by decide +kernel
theorem dX7_tellItem_127 : decode cX7_tellItem 127 = .ok (.ifCond .ne 5, 3) := by decide +kernel
theorem dX7_tellItem_130 : decode cX7_tellItem 130 = .ok (.iconst 0, 1) := by decide +kernel
theorem dX7_tellItem_131 : decode cX7_tellItem 131 = .ok (.ireturn, 1) := by decide +kernel
theorem dX7_tellItem_132 : decode cX7_tellItem 132 = .ok (.aload_n 0, 1) := by decide +kernel
theorem dX7_tellItem_133 : decode cX7_tellItem 133 = .ok (.getfield 16, 3) := by decide +kernel
theorem dX7_tellItem_136 : decode cX7_tellItem 136 = .ok (.iload_n 2, 1) := by decide +kernel
theorem dX7_tellItem_137 : decode cX7_tellItem 137 = .ok (.iload_n 3, 1) := by decide +kernel
theorem dX7_tellItem_138 : decode cX7_tellItem 138 = .ok (.invokevirtual 122, 3) := by decide +kernel
theorem dX7_tellItem_141 : decode cX7_tellItem 141 = .ok (.iconst 1, 1) := by decide +kernel
theorem dX7_tellItem_142 : decode cX7_tellItem 142 = .ok (.ireturn, 1) := by decide +kernel
theorem dX7_mostAlike_0 : decode cX7_mostAlike 0 = .ok (.iconst 0, 1) := by decide +kernel
theorem dX7_mostAlike_1 : decode cX7_mostAlike 1 = .ok (.istore_n 3, 1) := by decide +kernel
theorem dX7_mostAlike_2 : decode cX7_mostAlike 2 = .ok (.aload_n 0, 1) := by decide +kernel
theorem dX7_mostAlike_3 : decode cX7_mostAlike 3 = .ok (.getfield 55, 3) := by decide +kernel
theorem dX7_mostAlike_6 : decode cX7_mostAlike 6 = .ok (.iconst 0, 1) := by decide +kernel
theorem dX7_mostAlike_7 : decode cX7_mostAlike 7 = .ok (.invokestatic 301, 3) := by decide +kernel
theorem dX7_mostAlike_10 : decode cX7_mostAlike 10 = .ok (.iconst 1, 1) := by decide +kernel
theorem dX7_mostAlike_11 : decode cX7_mostAlike 11 = .ok (.istore 4, 2) := by decide +kernel
theorem dX7_mostAlike_13 : decode cX7_mostAlike 13 = .ok (.iload 4, 2) := by decide +kernel
theorem dX7_mostAlike_15 : decode cX7_mostAlike 15 = .ok (.bipush 30, 2) := by decide +kernel
theorem dX7_mostAlike_17 : decode cX7_mostAlike 17 = .ok (.if_icmp .gt 69, 3) := by decide +kernel
theorem dX7_mostAlike_20 : decode cX7_mostAlike 20 = .ok (.iload_n 1, 1) := by decide +kernel
theorem dX7_mostAlike_21 : decode cX7_mostAlike 21 = .ok (.iload 4, 2) := by decide +kernel
theorem dX7_mostAlike_23 : decode cX7_mostAlike 23 = .ok (.ishr, 1) := by decide +kernel
theorem dX7_mostAlike_24 : decode cX7_mostAlike 24 = .ok (.iconst 1, 1) := by decide +kernel
theorem dX7_mostAlike_25 : decode cX7_mostAlike 25 = .ok (.iand, 1) := by decide +kernel
theorem dX7_mostAlike_26 : decode cX7_mostAlike 26 = .ok (.iconst 1, 1) := by decide +kernel
theorem dX7_mostAlike_27 : decode cX7_mostAlike 27 = .ok (.if_icmp .ne 53, 3) := by decide +kernel
theorem dX7_mostAlike_30 : decode cX7_mostAlike 30 = .ok (.aload_n 0, 1) := by decide +kernel
theorem dX7_mostAlike_31 : decode cX7_mostAlike 31 = .ok (.getfield 10, 3) := by decide +kernel
theorem dX7_mostAlike_34 : decode cX7_mostAlike 34 = .ok (.iload 4, 2) := by decide +kernel
theorem dX7_mostAlike_36 : decode cX7_mostAlike 36 = .ok (.iload_n 2, 1) := by decide +kernel
theorem dX7_mostAlike_37 : decode cX7_mostAlike 37 = .ok (.invokevirtual 185, 3) := by decide +kernel
theorem dX7_mostAlike_40 : decode cX7_mostAlike 40 = .ok (.istore 5, 2) := by decide +kernel
theorem dX7_mostAlike_42 : decode cX7_mostAlike 42 = .ok (.iload 5, 2) := by decide +kernel
theorem dX7_mostAlike_44 : decode cX7_mostAlike 44 = .ok (.iconst (-1), 1) := by decide +kernel
theorem dX7_mostAlike_45 : decode cX7_mostAlike 45 = .ok (.if_icmp .ne 8, 3) := by decide +kernel
theorem dX7_mostAlike_48 : decode cX7_mostAlike 48 = .ok (.bipush 12, 2) := by decide +kernel
theorem dX7_mostAlike_50 : decode cX7_mostAlike 50 = .ok (.goto 5, 3) := by decide +kernel
theorem dX7_mostAlike_53 : decode cX7_mostAlike 53 = .ok (.iload 5, 2) := by decide +kernel
theorem dX7_mostAlike_55 : decode cX7_mostAlike 55 = .ok (.istore 6, 2) := by decide +kernel
theorem dX7_mostAlike_57 : decode cX7_mostAlike 57 = .ok (.aload_n 0, 1) := by decide +kernel
theorem dX7_mostAlike_58 : decode cX7_mostAlike 58 = .ok (.getfield 55, 3) := by decide +kernel
theorem dX7_mostAlike_61 : decode cX7_mostAlike 61 = .ok (.iload 6, 2) := by decide +kernel
theorem dX7_mostAlike_63 : decode cX7_mostAlike 63 = .ok (.dup2, 1) := by decide +kernel
theorem dX7_mostAlike_64 : decode cX7_mostAlike 64 = .ok (.iaload, 1) := by decide +kernel
theorem dX7_mostAlike_65 : decode cX7_mostAlike 65 = .ok (.iconst 1, 1) := by decide +kernel
theorem dX7_mostAlike_66 : decode cX7_mostAlike 66 = .ok (.iadd, 1) := by decide +kernel
theorem dX7_mostAlike_67 : decode cX7_mostAlike 67 = .ok (.iastore, 1) := by decide +kernel
theorem dX7_mostAlike_68 : decode cX7_mostAlike 68 = .ok (.iload_n 3, 1) := by decide +kernel
theorem dX7_mostAlike_69 : decode cX7_mostAlike 69 = .ok (.aload_n 0, 1) := by decide +kernel
theorem dX7_mostAlike_70 : decode cX7_mostAlike 70 = .ok (.getfield 55, 3) := by decide +kernel
theorem dX7_mostAlike_73 : decode cX7_mostAlike 73 = .ok (.iload 6, 2) := by decide +kernel
theorem dX7_mostAlike_75 : decode cX7_mostAlike 75 = .ok (.iaload, 1) := by decide +kernel
theorem dX7_mostAlike_76 : decode cX7_mostAlike 76 = .ok (.invokestatic 307, 3) := by decide +kernel
theorem dX7_mostAlike_79 : decode cX7_mostAlike 79 = .ok (.istore_n 3, 1) := by decide +kernel
theorem dX7_mostAlike_80 : decode cX7_mostAlike 80 = .ok (.iinc 4 1, 3) := by decide +kernel
theorem dX7_mostAlike_83 : decode cX7_mostAlike 83 = .ok (.goto (-70), 3) := by decide +kernel
theorem dX7_mostAlike_86 : decode cX7_mostAlike 86 = .ok (.iload_n 3, 1) := by decide +kernel
theorem dX7_mostAlike_87 : decode cX7_mostAlike 87 = .ok (.ireturn, 1) := by decide +kernel
theorem dX7_gain_0 : decode cX7_gain 0 = .ok (.iload_n 0, 1) := by decide +kernel
theorem dX7_gain_1 : decode cX7_gain 1 = .ok (.iload_n 1, 1) := by decide +kernel
theorem dX7_gain_2 : decode cX7_gain 2 = .ok (.if_icmp .le 14, 3) := by decide +kernel
theorem dX7_gain_5 : decode cX7_gain 5 = .ok (.iload_n 0, 1) := by decide +kernel
theorem dX7_gain_6 : decode cX7_gain 6 = .ok (.iload_n 3, 1) := by decide +kernel
theorem dX7_gain_7 : decode cX7_gain 7 = .ok (.if_icmp .lt 9, 3) := by decide +kernel
theorem dX7_gain_10 : decode cX7_gain 10 = .ok (.iload_n 2, 1) := by decide +kernel
theorem dX7_gain_11 : decode cX7_gain 11 = .ok (.iload_n 0, 1) := by decide +kernel
theorem dX7_gain_12 : decode cX7_gain 12 = .ok (.isub, 1) := by decide +kernel
theorem dX7_gain_13 : decode cX7_gain 13 = .ok (.goto 4, 3) := by decide +kernel
theorem dX7_gain_16 : decode cX7_gain 16 = .ok (.iconst 0, 1) := by decide +kernel
theorem dX7_gain_17 : decode cX7_gain 17 = .ok (.ireturn, 1) := by decide +kernel
theorem dX7_isBest_0 : decode cX7_isBest 0 = .ok (.iload_n 0, 1) := by decide +kernel
theorem dX7_isBest_1 : decode cX7_isBest 1 = .ok (.iload_n 2, 1) := by decide +kernel
theorem dX7_isBest_2 : decode cX7_isBest 2 = .ok (.iload_n 3, 1) := by decide +kernel
theorem dX7_isBest_3 : decode cX7_isBest 3 = .ok (.iload 4, 2) := by decide +kernel
theorem dX7_isBest_5 : decode cX7_isBest 5 = .ok (.invokestatic 310, 3) := by decide +kernel
theorem dX7_isBest_8 : decode cX7_isBest 8 = .ok (.istore 5, 2) := by decide +kernel
theorem dX7_isBest_10 : decode cX7_isBest 10 = .ok (.iconst 0, 1) := by decide +kernel
theorem dX7_isBest_11 : decode cX7_isBest 11 = .ok (.istore 6, 2) := by decide +kernel
theorem dX7_isBest_13 : decode cX7_isBest 13 = .ok (.iload 6, 2) := by decide +kernel
theorem dX7_isBest_15 : decode cX7_isBest 15 = .ok (.iload_n 1, 1) := by decide +kernel
theorem dX7_isBest_16 : decode cX7_isBest 16 = .ok (.if_icmp .gt 25, 3) := by decide +kernel
theorem dX7_isBest_19 : decode cX7_isBest 19 = .ok (.iload 6, 2) := by decide +kernel
theorem dX7_isBest_21 : decode cX7_isBest 21 = .ok (.iload_n 2, 1) := by decide +kernel
theorem dX7_isBest_22 : decode cX7_isBest 22 = .ok (.iload_n 3, 1) := by decide +kernel
theorem dX7_isBest_23 : decode cX7_isBest 23 = .ok (.iload 4, 2) := by decide +kernel
theorem dX7_isBest_25 : decode cX7_isBest 25 = .ok (.invokestatic 310, 3) := by decide +kernel
theorem dX7_isBest_28 : decode cX7_isBest 28 = .ok (.iload 5, 2) := by decide +kernel
theorem dX7_isBest_30 : decode cX7_isBest 30 = .ok (.if_icmp .le 5, 3) := by decide +kernel
theorem dX7_isBest_33 : decode cX7_isBest 33 = .ok (.iconst 0, 1) := by decide +kernel
theorem dX7_isBest_34 : decode cX7_isBest 34 = .ok (.ireturn, 1) := by decide +kernel
theorem dX7_isBest_35 : decode cX7_isBest 35 = .ok (.iinc 6 1, 3) := by decide +kernel
theorem dX7_isBest_38 : decode cX7_isBest 38 = .ok (.goto (-25), 3) := by decide +kernel
theorem dX7_isBest_41 : decode cX7_isBest 41 = .ok (.iconst 1, 1) := by decide +kernel
theorem dX7_isBest_42 : decode cX7_isBest 42 = .ok (.ireturn, 1) := by decide +kernel
theorem dJ9_max_7cf53_0 : decode cJ9_max_7cf53 0 = .ok (.iload_n 0, 1) := by decide +kernel
theorem dJ9_max_7cf53_1 : decode cJ9_max_7cf53 1 = .ok (.iload_n 1, 1) := by decide +kernel
theorem dJ9_max_7cf53_2 : decode cJ9_max_7cf53 2 = .ok (.if_icmp .lt 7, 3) := by decide +kernel
theorem dJ9_max_7cf53_5 : decode cJ9_max_7cf53 5 = .ok (.iload_n 0, 1) := by decide +kernel
theorem dJ9_max_7cf53_6 : decode cJ9_max_7cf53 6 = .ok (.goto 4, 3) := by decide +kernel
theorem dJ9_max_7cf53_9 : decode cJ9_max_7cf53 9 = .ok (.iload_n 1, 1) := by decide +kernel
theorem dJ9_max_7cf53_10 : decode cJ9_max_7cf53 10 = .ok (.ireturn, 1) := by decide +kernel
theorem dJ9_min_7cf53_0 : decode cJ9_min_7cf53 0 = .ok (.iload_n 0, 1) := by decide +kernel
theorem dJ9_min_7cf53_1 : decode cJ9_min_7cf53 1 = .ok (.iload_n 1, 1) := by decide +kernel
theorem dJ9_min_7cf53_2 : decode cJ9_min_7cf53 2 = .ok (.if_icmp .gt 7, 3) := by decide +kernel
theorem dJ9_min_7cf53_5 : decode cJ9_min_7cf53 5 = .ok (.iload_n 0, 1) := by decide +kernel
theorem dJ9_min_7cf53_6 : decode cJ9_min_7cf53 6 = .ok (.goto 4, 3) := by decide +kernel
theorem dJ9_min_7cf53_9 : decode cJ9_min_7cf53 9 = .ok (.iload_n 1, 1) := by decide +kernel
theorem dJ9_min_7cf53_10 : decode cJ9_min_7cf53 10 = .ok (.ireturn, 1) := by decide +kernel
theorem dJ0_length_8abf5_0 : decode cJ0_length_8abf5 0 = .ok (.aload_n 0, 1) := by decide +kernel
theorem dJ0_length_8abf5_1 : decode cJ0_length_8abf5 1 = .ok (.getfield 9, 3) := by decide +kernel
theorem dJ0_length_8abf5_4 : decode cJ0_length_8abf5 4 = .ok (.arraylength, 1) := by decide +kernel
theorem dJ0_length_8abf5_5 : decode cJ0_length_8abf5 5 = .ok (.aload_n 0, 1) := by decide +kernel
theorem dJ0_length_8abf5_6 : decode cJ0_length_8abf5 6 = .ok (.invokevirtual 335, 3) := by decide +kernel
theorem dJ0_length_8abf5_9 : decode cJ0_length_8abf5 9 = .ok (.ishr, 1) := by decide +kernel
theorem dJ0_length_8abf5_10 : decode cJ0_length_8abf5 10 = .ok (.ireturn, 1) := by decide +kernel
theorem dJ0_charAt_5068e_0 : decode cJ0_charAt_5068e 0 = .ok (.aload_n 0, 1) := by decide +kernel
theorem dJ0_charAt_5068e_1 : decode cJ0_charAt_5068e 1 = .ok (.invokevirtual 492, 3) := by decide +kernel
theorem dJ0_charAt_5068e_4 : decode cJ0_charAt_5068e 4 = .ok (.ifCond .eq 12, 3) := by decide +kernel
theorem dJ0_charAt_5068e_7 : decode cJ0_charAt_5068e 7 = .ok (.aload_n 0, 1) := by decide +kernel
theorem dJ0_charAt_5068e_8 : decode cJ0_charAt_5068e 8 = .ok (.getfield 9, 3) := by decide +kernel
theorem dJ0_charAt_5068e_11 : decode cJ0_charAt_5068e 11 = .ok (.iload_n 1, 1) := by decide +kernel
theorem dJ0_charAt_5068e_12 : decode cJ0_charAt_5068e 12 = .ok (.invokestatic 495, 3) := by decide +kernel
theorem dJ0_charAt_5068e_15 : decode cJ0_charAt_5068e 15 = .ok (.ireturn, 1) := by decide +kernel
theorem dJ0_charAt_5068e_16 : decode cJ0_charAt_5068e 16 = .ok (.aload_n 0, 1) := by decide +kernel
theorem dJ0_charAt_5068e_17 : decode cJ0_charAt_5068e 17 = .ok (.getfield 9, 3) := by decide +kernel
theorem dJ0_charAt_5068e_20 : decode cJ0_charAt_5068e 20 = .ok (.iload_n 1, 1) := by decide +kernel
theorem dJ0_charAt_5068e_21 : decode cJ0_charAt_5068e 21 = .ok (.invokestatic 498, 3) := by decide +kernel
theorem dJ0_charAt_5068e_24 : decode cJ0_charAt_5068e 24 = .ok (.ireturn, 1) := by decide +kernel
theorem dJ0_coder_7d493_0 : decode cJ0_coder_7d493 0 = .ok (.getstatic 38, 3) := by decide +kernel
theorem dJ0_coder_7d493_3 : decode cJ0_coder_7d493 3 = .ok (.ifCond .eq 10, 3) := by decide +kernel
theorem dJ0_coder_7d493_6 : decode cJ0_coder_7d493 6 = .ok (.aload_n 0, 1) := by decide +kernel
theorem dJ0_coder_7d493_7 : decode cJ0_coder_7d493 7 = .ok (.getfield 15, 3) := by decide +kernel
theorem dJ0_coder_7d493_10 : decode cJ0_coder_7d493 10 = .ok (.goto 4, 3) := by decide +kernel
theorem dJ0_coder_7d493_13 : decode cJ0_coder_7d493 13 = .ok (.iconst 1, 1) := by decide +kernel
theorem dJ0_coder_7d493_14 : decode cJ0_coder_7d493 14 = .ok (.ireturn, 1) := by decide +kernel
theorem dJ0_isLatin1_aae02_0 : decode cJ0_isLatin1_aae02 0 = .ok (.getstatic 38, 3) := by decide +kernel
theorem dJ0_isLatin1_aae02_3 : decode cJ0_isLatin1_aae02 3 = .ok (.ifCond .eq 14, 3) := by decide +kernel
theorem dJ0_isLatin1_aae02_6 : decode cJ0_isLatin1_aae02 6 = .ok (.aload_n 0, 1) := by decide +kernel
theorem dJ0_isLatin1_aae02_7 : decode cJ0_isLatin1_aae02 7 = .ok (.getfield 15, 3) := by decide +kernel
theorem dJ0_isLatin1_aae02_10 : decode cJ0_isLatin1_aae02 10 = .ok (.ifCond .ne 7, 3) := by decide +kernel
theorem dJ0_isLatin1_aae02_13 : decode cJ0_isLatin1_aae02 13 = .ok (.iconst 1, 1) := by decide +kernel
theorem dJ0_isLatin1_aae02_14 : decode cJ0_isLatin1_aae02 14 = .ok (.goto 4, 3) := by decide +kernel
theorem dJ0_isLatin1_aae02_17 : decode cJ0_isLatin1_aae02 17 = .ok (.iconst 0, 1) := by decide +kernel
theorem dJ0_isLatin1_aae02_18 : decode cJ0_isLatin1_aae02 18 = .ok (.ireturn, 1) := by decide +kernel
theorem dJ0_checkIndex_df160_0 : decode cJ0_checkIndex_df160 0 = .ok (.iload_n 0, 1) := by decide +kernel
theorem dJ0_checkIndex_df160_1 : decode cJ0_checkIndex_df160 1 = .ok (.iload_n 1, 1) := by decide +kernel
theorem dJ0_checkIndex_df160_2 : decode cJ0_checkIndex_df160 2 = .ok (.getstatic 1053, 3) := by decide +kernel
theorem dJ0_checkIndex_df160_5 : decode cJ0_checkIndex_df160 5 = .ok (.invokestatic 1059, 3) := by decide +kernel
theorem dJ0_checkIndex_df160_8 : decode cJ0_checkIndex_df160 8 = .ok (.pop, 1) := by decide +kernel
theorem dJ0_checkIndex_df160_9 : decode cJ0_checkIndex_df160 9 = .ok (.return_, 1) := by decide +kernel
theorem dJ1_charAt_3b067_0 : decode cJ1_charAt_3b067 0 = .ok (.iload_n 1, 1) := by decide +kernel
theorem dJ1_charAt_3b067_1 : decode cJ1_charAt_3b067 1 = .ok (.aload_n 0, 1) := by decide +kernel
theorem dJ1_charAt_3b067_2 : decode cJ1_charAt_3b067 2 = .ok (.arraylength, 1) := by decide +kernel
theorem dJ1_charAt_3b067_3 : decode cJ1_charAt_3b067 3 = .ok (.invokestatic 9, 3) := by decide +kernel
theorem dJ1_charAt_3b067_6 : decode cJ1_charAt_3b067 6 = .ok (.aload_n 0, 1) := by decide +kernel
theorem dJ1_charAt_3b067_7 : decode cJ1_charAt_3b067 7 = .ok (.iload_n 1, 1) := by decide +kernel
theorem dJ1_charAt_3b067_8 : decode cJ1_charAt_3b067 8 = .ok (.baload, 1) := by decide +kernel
theorem dJ1_charAt_3b067_9 : decode cJ1_charAt_3b067 9 = .ok (.sipush 255, 3) := by decide +kernel
theorem dJ1_charAt_3b067_12 : decode cJ1_charAt_3b067 12 = .ok (.iand, 1) := by decide +kernel
theorem dJ1_charAt_3b067_13 : decode cJ1_charAt_3b067 13 = .ok (.i2c, 1) := by decide +kernel
theorem dJ1_charAt_3b067_14 : decode cJ1_charAt_3b067 14 = .ok (.ireturn, 1) := by decide +kernel
theorem dJ2_getChar_3b067_0 : decode cJ2_getChar_3b067 0 = .ok (.getstatic 44, 3) := by decide +kernel
theorem dJ2_getChar_3b067_3 : decode cJ2_getChar_3b067 3 = .ok (.ifCond .ne 25, 3) := by decide +kernel
theorem dJ2_getChar_3b067_6 : decode cJ2_getChar_3b067 6 = .ok (.iload_n 1, 1) := by decide +kernel
theorem dJ2_getChar_3b067_7 : decode cJ2_getChar_3b067 7 = .ok (.ifCond .lt 11, 3) := by decide +kernel
theorem dJ2_getChar_3b067_10 : decode cJ2_getChar_3b067 10 = .ok (.iload_n 1, 1) := by decide +kernel
theorem dJ2_getChar_3b067_11 : decode cJ2_getChar_3b067 11 = .ok (.aload_n 0, 1) := by decide +kernel
theorem dJ2_getChar_3b067_12 : decode cJ2_getChar_3b067 12 = .ok (.invokestatic 48, 3) := by decide +kernel
theorem dJ2_getChar_3b067_15 : decode cJ2_getChar_3b067 15 = .ok (.if_icmp .lt 13, 3) := by decide +kernel
theorem dJ2_getChar_3b067_18 : decode cJ2_getChar_3b067 18 = .ok (.new 52, 3) := by decide +kernel
theorem dJ2_getChar_3b067_21 : decode cJ2_getChar_3b067 21 = .ok (.dup, 1) := by decide +kernel
theorem dJ2_getChar_3b067_22 : decode cJ2_getChar_3b067 22 = .ok (.ldc 54, 2) := by decide +kernel
theorem dJ2_getChar_3b067_24 : decode cJ2_getChar_3b067 24 = .ok (.invokespecial 56, 3) := by decide +kernel
theorem dJ2_getChar_3b067_27 : decode cJ2_getChar_3b067 27 = .ok (.athrow, 1) := by decide +kernel
theorem dJ2_getChar_3b067_28 : decode cJ2_getChar_3b067 28 = .ok (.iload_n 1, 1) := by decide +kernel
theorem dJ2_getChar_3b067_29 : decode cJ2_getChar_3b067 29 = .ok (.iconst 1, 1) := by decide +kernel
theorem dJ2_getChar_3b067_30 : decode cJ2_getChar_3b067 30 = .ok (.ishl, 1) := by decide +kernel
theorem dJ2_getChar_3b067_31 : decode cJ2_getChar_3b067 31 = .ok (.istore_n 1, 1) := by decide +kernel
theorem dJ2_getChar_3b067_32 : decode cJ2_getChar_3b067 32 = .ok (.aload_n 0, 1) := by decide +kernel
theorem dJ2_getChar_3b067_33 : decode cJ2_getChar_3b067 33 = .ok (.iload_n 1, 1) := by decide +kernel
theorem dJ2_getChar_3b067_34 : decode cJ2_getChar_3b067 34 = .ok (.iinc 1 1, 3) := by decide +kernel
theorem dJ2_getChar_3b067_37 : decode cJ2_getChar_3b067 37 = .ok (.baload, 1) := by decide +kernel
theorem dJ2_getChar_3b067_38 : decode cJ2_getChar_3b067 38 = .ok (.sipush 255, 3) := by decide +kernel
theorem dJ2_getChar_3b067_41 : decode cJ2_getChar_3b067 41 = .ok (.iand, 1) := by decide +kernel
theorem dJ2_getChar_3b067_42 : decode cJ2_getChar_3b067 42 = .ok (.getstatic 59, 3) := by decide +kernel
theorem dJ2_getChar_3b067_45 : decode cJ2_getChar_3b067 45 = .ok (.ishl, 1) := by decide +kernel
theorem dJ2_getChar_3b067_46 : decode cJ2_getChar_3b067 46 = .ok (.aload_n 0, 1) := by decide +kernel
theorem dJ2_getChar_3b067_47 : decode cJ2_getChar_3b067 47 = .ok (.iload_n 1, 1) := by decide +kernel
theorem dJ2_getChar_3b067_48 : decode cJ2_getChar_3b067 48 = .ok (.baload, 1) := by decide +kernel
theorem dJ2_getChar_3b067_49 : decode cJ2_getChar_3b067 49 = .ok (.sipush 255, 3) := by decide +kernel
theorem dJ2_getChar_3b067_52 : decode cJ2_getChar_3b067 52 = .ok (.iand, 1) := by decide +kernel
theorem dJ2_getChar_3b067_53 : decode cJ2_getChar_3b067 53 = .ok (.getstatic 63, 3) := by decide +kernel
theorem dJ2_getChar_3b067_56 : decode cJ2_getChar_3b067 56 = .ok (.ishl, 1) := by decide +kernel
theorem dJ2_getChar_3b067_57 : decode cJ2_getChar_3b067 57 = .ok (.ior, 1) := by decide +kernel
theorem dJ2_getChar_3b067_58 : decode cJ2_getChar_3b067 58 = .ok (.i2c, 1) := by decide +kernel
theorem dJ2_getChar_3b067_59 : decode cJ2_getChar_3b067 59 = .ok (.ireturn, 1) := by decide +kernel
theorem dJ2_length_9d52b_0 : decode cJ2_length_9d52b 0 = .ok (.aload_n 0, 1) := by decide +kernel
theorem dJ2_length_9d52b_1 : decode cJ2_length_9d52b 1 = .ok (.arraylength, 1) := by decide +kernel
theorem dJ2_length_9d52b_2 : decode cJ2_length_9d52b 2 = .ok (.iconst 1, 1) := by decide +kernel
theorem dJ2_length_9d52b_3 : decode cJ2_length_9d52b 3 = .ok (.ishr, 1) := by decide +kernel
theorem dJ2_length_9d52b_4 : decode cJ2_length_9d52b 4 = .ok (.ireturn, 1) := by decide +kernel
theorem dJ2_charAt_3b067_0 : decode cJ2_charAt_3b067 0 = .ok (.iload_n 1, 1) := by decide +kernel
theorem dJ2_charAt_3b067_1 : decode cJ2_charAt_3b067 1 = .ok (.aload_n 0, 1) := by decide +kernel
theorem dJ2_charAt_3b067_2 : decode cJ2_charAt_3b067 2 = .ok (.invokestatic 67, 3) := by decide +kernel
theorem dJ2_charAt_3b067_5 : decode cJ2_charAt_3b067 5 = .ok (.aload_n 0, 1) := by decide +kernel
theorem dJ2_charAt_3b067_6 : decode cJ2_charAt_3b067 6 = .ok (.iload_n 1, 1) := by decide +kernel
theorem dJ2_charAt_3b067_7 : decode cJ2_charAt_3b067 7 = .ok (.invokestatic 71, 3) := by decide +kernel
theorem dJ2_charAt_3b067_10 : decode cJ2_charAt_3b067 10 = .ok (.ireturn, 1) := by decide +kernel
theorem dJ2_checkIndex_2214a_0 : decode cJ2_checkIndex_2214a 0 = .ok (.iload_n 0, 1) := by decide +kernel
theorem dJ2_checkIndex_2214a_1 : decode cJ2_checkIndex_2214a 1 = .ok (.aload_n 1, 1) := by decide +kernel
theorem dJ2_checkIndex_2214a_2 : decode cJ2_checkIndex_2214a 2 = .ok (.invokestatic 48, 3) := by decide +kernel
theorem dJ2_checkIndex_2214a_5 : decode cJ2_checkIndex_2214a 5 = .ok (.invokestatic 414, 3) := by decide +kernel
theorem dJ2_checkIndex_2214a_8 : decode cJ2_checkIndex_2214a 8 = .ok (.return_, 1) := by decide +kernel
theorem dJ7_fill_d0a16_0 : decode cJ7_fill_d0a16 0 = .ok (.iconst 0, 1) := by decide +kernel
theorem dJ7_fill_d0a16_1 : decode cJ7_fill_d0a16 1 = .ok (.istore_n 3, 1) := by decide +kernel
theorem dJ7_fill_d0a16_2 : decode cJ7_fill_d0a16 2 = .ok (.aload_n 0, 1) := by decide +kernel
theorem dJ7_fill_d0a16_3 : decode cJ7_fill_d0a16 3 = .ok (.arraylength, 1) := by decide +kernel
theorem dJ7_fill_d0a16_4 : decode cJ7_fill_d0a16 4 = .ok (.istore 4, 2) := by decide +kernel
theorem dJ7_fill_d0a16_6 : decode cJ7_fill_d0a16 6 = .ok (.iload_n 3, 1) := by decide +kernel
theorem dJ7_fill_d0a16_7 : decode cJ7_fill_d0a16 7 = .ok (.iload 4, 2) := by decide +kernel
theorem dJ7_fill_d0a16_9 : decode cJ7_fill_d0a16 9 = .ok (.if_icmp .ge 13, 3) := by decide +kernel
theorem dJ7_fill_d0a16_12 : decode cJ7_fill_d0a16 12 = .ok (.aload_n 0, 1) := by decide +kernel
theorem dJ7_fill_d0a16_13 : decode cJ7_fill_d0a16 13 = .ok (.iload_n 3, 1) := by decide +kernel
theorem dJ7_fill_d0a16_14 : decode cJ7_fill_d0a16 14 = .ok (.lload_n 1, 1) := by decide +kernel
theorem dJ7_fill_d0a16_15 : decode cJ7_fill_d0a16 15 = .ok (.lastore, 1) := by decide +kernel
theorem dJ7_fill_d0a16_16 : decode cJ7_fill_d0a16 16 = .ok (.iinc 3 1, 3) := by decide +kernel
theorem dJ7_fill_d0a16_19 : decode cJ7_fill_d0a16 19 = .ok (.goto (-13), 3) := by decide +kernel
theorem dJ7_fill_d0a16_22 : decode cJ7_fill_d0a16 22 = .ok (.return_, 1) := by decide +kernel
theorem dJ7_fill_53178_0 : decode cJ7_fill_53178 0 = .ok (.iconst 0, 1) := by decide +kernel
theorem dJ7_fill_53178_1 : decode cJ7_fill_53178 1 = .ok (.istore_n 2, 1) := by decide +kernel
theorem dJ7_fill_53178_2 : decode cJ7_fill_53178 2 = .ok (.aload_n 0, 1) := by decide +kernel
theorem dJ7_fill_53178_3 : decode cJ7_fill_53178 3 = .ok (.arraylength, 1) := by decide +kernel
theorem dJ7_fill_53178_4 : decode cJ7_fill_53178 4 = .ok (.istore_n 3, 1) := by decide +kernel
theorem dJ7_fill_53178_5 : decode cJ7_fill_53178 5 = .ok (.iload_n 2, 1) := by decide +kernel
theorem dJ7_fill_53178_6 : decode cJ7_fill_53178 6 = .ok (.iload_n 3, 1) := by decide +kernel
theorem dJ7_fill_53178_7 : decode cJ7_fill_53178 7 = .ok (.if_icmp .ge 13, 3) := by decide +kernel
theorem dJ7_fill_53178_10 : decode cJ7_fill_53178 10 = .ok (.aload_n 0, 1) := by decide +kernel
theorem dJ7_fill_53178_11 : decode cJ7_fill_53178 11 = .ok (.iload_n 2, 1) := by decide +kernel
theorem dJ7_fill_53178_12 : decode cJ7_fill_53178 12 = .ok (.iload_n 1, 1) := by decide +kernel
theorem dJ7_fill_53178_13 : decode cJ7_fill_53178 13 = .ok (.iastore, 1) := by decide +kernel
theorem dJ7_fill_53178_14 : decode cJ7_fill_53178 14 = .ok (.iinc 2 1, 3) := by decide +kernel
theorem dJ7_fill_53178_17 : decode cJ7_fill_53178 17 = .ok (.goto (-12), 3) := by decide +kernel
theorem dJ7_fill_53178_20 : decode cJ7_fill_53178 20 = .ok (.return_, 1) := by decide +kernel
theorem dJ3_checkIndex_8e157_0 : decode cJ3_checkIndex_8e157 0 = .ok (.iload_n 0, 1) := by decide +kernel
theorem dJ3_checkIndex_8e157_1 : decode cJ3_checkIndex_8e157 1 = .ok (.ifCond .lt 8, 3) := by decide +kernel
theorem dJ3_checkIndex_8e157_4 : decode cJ3_checkIndex_8e157 4 = .ok (.iload_n 0, 1) := by decide +kernel
theorem dJ3_checkIndex_8e157_5 : decode cJ3_checkIndex_8e157 5 = .ok (.iload_n 1, 1) := by decide +kernel
theorem dJ3_checkIndex_8e157_6 : decode cJ3_checkIndex_8e157 6 = .ok (.if_icmp .lt 10, 3) := by decide +kernel
theorem dJ3_checkIndex_8e157_9 : decode cJ3_checkIndex_8e157 9 = .ok (.aload_n 2, 1) := by decide +kernel
theorem dJ3_checkIndex_8e157_10 : decode cJ3_checkIndex_8e157 10 = .ok (.iload_n 0, 1) := by decide +kernel
theorem dJ3_checkIndex_8e157_11 : decode cJ3_checkIndex_8e157 11 = .ok (.iload_n 1, 1) := by decide +kernel
theorem dJ3_checkIndex_8e157_12 : decode cJ3_checkIndex_8e157 12 = .ok (.invokestatic 95, 3) := by decide +kernel
theorem dJ3_checkIndex_8e157_15 : decode cJ3_checkIndex_8e157 15 = .ok (.athrow, 1) := by decide +kernel
theorem dJ3_checkIndex_8e157_16 : decode cJ3_checkIndex_8e157 16 = .ok (.iload_n 0, 1) := by decide +kernel
theorem dJ3_checkIndex_8e157_17 : decode cJ3_checkIndex_8e157 17 = .ok (.ireturn, 1) := by decide +kernel
end
section
/-! the JDK's members over the three String constants -/
def sC (t k : Nat) : Int32 := (bytW.getD t []).getD k 0 &&& 255
def rmJ (k : Nat) : Room := { frames := 2 * k, cells := 0, slots := 0, locals := 100 * k }
theorem lenW_4 : ∀ t, t < 3 → lenW.getD t 0 = 4 := by decide
section SSJ
variable {p : Program} {l : Launch} {e : Env} {R : Room} {s : State} {m : MethodId} {args : Array Value} {below : List Frame} {meth : Method} {c : Code} {H : Heap} {locs : List Loc} {cells slots : Nat} {Q : State → Prop}
variable {cc : ByteArray} {pc : Nat} {ls : Array Slot} {rest : List Value} {w : Nat} {D : va_G} {Y : Nat → ClassId} {A : ss_A} {σ : ss_M} {H0 : Heap} {own : String} {Ts : List Cond}
theorem rvX_i {nL n index maxL : Nat} {y : MethodName} {bytes : ByteArray} {ret : Option FieldType} {ws : List Cond} {rm : Room} {C : String} {b : Nat} {As st0 : List Value} {σ' : ss_M} {r : Int32} (S : CallFix p m c cc nL s args Ts own) (hM : Met l y ws rm (Pc0 w D Y A σ (.ref b :: As)) (Qi0 w D Y A r σ') 0 0 (FA w A)) (cw : CallW R s args own C index y bytes maxL ret ws rm 0 0 n) (hW : sW w D Y A σ s s.heap H locs) (hrc : ∃ cell : Cell, H[b]? = some cell ∧ cell.vm.isStatics = false ∧ s.vm.findClass C = some cell.cls) (hst : st0 = As.reverse ++ .ref b :: rest) (hn : As.length = n) (hsz : ls.size = nL) (hR : (rest.map fun v => v.category).sum ≤ 8) (hcs : cells ≤ R.cells ∧ slots ≤ R.slots) (hdg : decode cc pc = .ok (.invokevirtual index, 3)) (kk : ∀ (H1 : Heap) (locs1 : List Loc), sW w D Y A σ' s s.heap H1 locs1 → W p l e R s m args below meth c H1 locs1 cells slots Q (F0 m (pc + 3) ls (.int r :: rest))) : W p l e R s m args below meth c H locs cells slots Q (F0 m pc ls st0) :=
  va_calli (va_runV (As := As) (rest := rest) (b := b) (g := F0 m pc ls st0) S hM cw ⟨ss_blind, hrc, ss_pre hW⟩ rfl hn hsz hst (lv_room hR) hdg hcs) hW.2.2.2.1 (fun q _ h => h) (fun q h => h) (fun r1 u t H1 locs1 ht hvm hp hB _ _ hS => by obtain ⟨rfl, rfl⟩ := hp; exact kk H1 locs1 (ss_back hW ht hvm hB hS))
theorem ss_strC {t : Nat} (hW : sW 0 D Y A σ s s.heap H locs) (ht : t < 3) : ∃ cell : Cell, H[A 5 0 t]? = some cell ∧ cell.vm.isStatics = false ∧ s.vm.findClass "java/lang/String" = some cell.cls := vk_recv (hW.2.2.2.2 rfl).1 ht hW.2.2.2.1
theorem re_n (hx : p.tables.exec = Jvm.exec) (hb : c.code = cc) {ty : FieldType} (hr : meth.sig.returnType = some ty) (hlocks : meth.locks = false) (hW : sW w D Y A σ s s.heap H locs) {v r : Int32} {σ' : ss_M} (hv : narrow ty (.int v) = .int v) (hf : (v, σ) = (r, σ')) (hdg : decode cc pc = .ok (.ireturn, 1)) : W p l e R s m args below meth c H locs 0 0 (MQ below (Qi0 w D Y A r σ') args s 0 0 (FA w A)) (F0 m pc ls [.int v]) :=
  W.zret hx hb hr hv (fun t ht hw => ⟨⟨v, σ', rfl, ⟨congrArg Prod.fst hf, rfl⟩, ss_end hW (congrArg Prod.snd hf) ht hw⟩, hW.2.2.2.1.F ht⟩) hW.2.2.2.1.2.2 hdg hlocks
end SSJ
theorem hd_J0_coder_7d493 : yJ0_coder_7d493.cls = RJ0 ∧ yJ0_coder_7d493.cls ≠ "java/lang/invoke/MethodHandle" ∧ yJ0_coder_7d493.cls ≠ "java/lang/invoke/VarHandle" ∧ (parseMethodDescriptor yJ0_coder_7d493.desc).map (fun d => d.parameters.length) = some 0 := by decide +kernel
set_option maxHeartbeats 4000000 in
set_option maxRecDepth 100000 in
theorem c_J0_coder_7d493 (l : Launch) {D : va_G} {Y : Nat → ClassId} {A : ss_A} (hAD : AD 0 A) {t : Nat} (ht : t < 3) {σ : ss_M} : Met l yJ0_coder_7d493 wsJ0_coder_7d493 (rmJ 0) (Pc0 0 D Y A σ [.ref (A 5 0 t)]) (Qi0 0 D Y A 0 σ) 0 0 (FA 0 A) := by
  refine Met0 (cc := cJ0_coder_7d493) (maxL := 1) (ret := some .byte) (own := RJ0) (by decide +kernel) rfl hAD rfl (Nat.le_of_ble_eq_true rfl) ?_
  intro p e s m args below meth c S hr hlocks hW ls hl
  obtain ⟨hx, hb, hml, hown, hts⟩ := id S
  have hE := hW.2.2.2.2 rfl
  have hl : lv_has ls 1 [(0, .ref (A 5 0 t))] := hl
  refine va_gets hx hb hE.2.2.2.2.1 hW.2.2.2.1 hown (hts _ (List.mem_of_getElem? (i := 1) rfl)) (fun _ h => h) dJ0_coder_7d493_0 ?_
  refine lv_if_eq (tgt := 13) hx hb dJ0_coder_7d493_3 (by decide) (fun q => absurd q (by decide)) (fun _ => ?_)
  refine lv_aload_n hx hb dJ0_coder_7d493_6 rfl (lv_at hl 0 rfl) ?_
  refine vk_getf hx hb (hE.1.1 t ht).2.1 hW.2.2.2.1 hown (hts _ (List.mem_of_getElem? (i := 2) rfl)) (fun _ h => h) dJ0_coder_7d493_7 ?_
  refine lv_goto (tgt := 14) hx hb dJ0_coder_7d493_10 (by decide) ?_
  exact re_n hx hb hr hlocks hW (by decide) rfl dJ0_coder_7d493_14
theorem hd_J0_length_8abf5 : yJ0_length_8abf5.cls = RJ0 ∧ yJ0_length_8abf5.cls ≠ "java/lang/invoke/MethodHandle" ∧ yJ0_length_8abf5.cls ≠ "java/lang/invoke/VarHandle" ∧ (parseMethodDescriptor yJ0_length_8abf5.desc).map (fun d => d.parameters.length) = some 0 := by decide +kernel
set_option maxHeartbeats 4000000 in
set_option maxRecDepth 100000 in
theorem c_J0_length_8abf5 (l : Launch) {D : va_G} {Y : Nat → ClassId} {A : ss_A} (hAD : AD 0 A) {t : Nat} (ht : t < 3) {σ : ss_M} : Met l yJ0_length_8abf5 wsJ0_length_8abf5 (rmJ 1) (Pc0 0 D Y A σ [.ref (A 5 0 t)]) (Qi0 0 D Y A 4 σ) 0 0 (FA 0 A) := by
  refine Met0 (cc := cJ0_length_8abf5) (maxL := 1) (ret := some .int) (own := RJ0) (by decide +kernel) rfl hAD rfl (Nat.le_of_ble_eq_true rfl) ?_
  intro p e s m args below meth c S hr hlocks hW ls hl
  obtain ⟨hx, hb, hml, hown, hts⟩ := id S
  have hE := hW.2.2.2.2 rfl
  have hl : lv_has ls 1 [(0, .ref (A 5 0 t))] := hl
  refine lv_aload_n hx hb dJ0_length_8abf5_0 rfl (lv_at hl 0 rfl) ?_
  refine vk_getf hx hb (hE.1.1 t ht).2.2.1 hW.2.2.2.1 hown (hts _ (List.mem_of_getElem? (i := 1) rfl)) (fun _ h => h) dJ0_length_8abf5_1 ?_
  refine va_tlen (v := (4 : Int32)) hx hb (hE.1.1 t ht).2.2.2 hW.2.2.2.1 (by rw [lenW_4 t ht]; decide) dJ0_length_8abf5_4 ?_
  refine lv_aload_n hx hb dJ0_length_8abf5_5 rfl (lv_at hl 0 rfl) ?_
  refine rvX_i S (c_J0_coder_7d493 l hAD ht) (cwV 0 hts gJ0_length_8abf5_J0_coder_7d493 rfl rfl rfl hd_J0_coder_7d493 ⟨(Nat.le_of_ble_eq_true rfl), (Nat.le_of_ble_eq_true rfl)⟩) hW (ss_strC hW ht) rfl rfl hl.1 (Nat.le_of_ble_eq_true rfl) ⟨Nat.zero_le _, Nat.zero_le _⟩ dJ0_length_8abf5_6 (fun H locs hW => ?_)
  refine lv_ishr hx hb dJ0_length_8abf5_9 ?_
  exact re_i hx hb hr hlocks hW (by rw [show ((4 : Int32) >>> ((0 : Int32) &&& 31)) = 4 from by decide]) dJ0_length_8abf5_10
theorem hd_J0_isLatin1_aae02 : yJ0_isLatin1_aae02.cls = RJ0 ∧ yJ0_isLatin1_aae02.cls ≠ "java/lang/invoke/MethodHandle" ∧ yJ0_isLatin1_aae02.cls ≠ "java/lang/invoke/VarHandle" ∧ (parseMethodDescriptor yJ0_isLatin1_aae02.desc).map (fun d => d.parameters.length) = some 0 := by decide +kernel
set_option maxHeartbeats 4000000 in
set_option maxRecDepth 100000 in
theorem c_J0_isLatin1_aae02 (l : Launch) {D : va_G} {Y : Nat → ClassId} {A : ss_A} (hAD : AD 0 A) {t : Nat} (ht : t < 3) {σ : ss_M} : Met l yJ0_isLatin1_aae02 wsJ0_isLatin1_aae02 (rmJ 0) (Pc0 0 D Y A σ [.ref (A 5 0 t)]) (Qi0 0 D Y A 1 σ) 0 0 (FA 0 A) := by
  refine Met0 (cc := cJ0_isLatin1_aae02) (maxL := 1) (ret := some .boolean) (own := RJ0) (by decide +kernel) rfl hAD rfl (Nat.le_of_ble_eq_true rfl) ?_
  intro p e s m args below meth c S hr hlocks hW ls hl
  obtain ⟨hx, hb, hml, hown, hts⟩ := id S
  have hE := hW.2.2.2.2 rfl
  have hl : lv_has ls 1 [(0, .ref (A 5 0 t))] := hl
  refine va_gets hx hb hE.2.2.2.2.1 hW.2.2.2.1 hown (hts _ (List.mem_of_getElem? (i := 1) rfl)) (fun _ h => h) dJ0_isLatin1_aae02_0 ?_
  refine lv_if_eq (tgt := 17) hx hb dJ0_isLatin1_aae02_3 (by decide) (fun q => absurd q (by decide)) (fun _ => ?_)
  refine lv_aload_n hx hb dJ0_isLatin1_aae02_6 rfl (lv_at hl 0 rfl) ?_
  refine vk_getf hx hb (hE.1.1 t ht).2.1 hW.2.2.2.1 hown (hts _ (List.mem_of_getElem? (i := 2) rfl)) (fun _ h => h) dJ0_isLatin1_aae02_7 ?_
  refine lv_if_ne (tgt := 17) hx hb dJ0_isLatin1_aae02_10 (by decide) (fun q => absurd rfl q) (fun _ => ?_)
  refine lv_iconst (v := (1 : Int32)) hx hb dJ0_isLatin1_aae02_13 (by decide) ?_
  refine lv_goto (tgt := 18) hx hb dJ0_isLatin1_aae02_14 (by decide) ?_
  exact re_n hx hb hr hlocks hW (by decide) rfl dJ0_isLatin1_aae02_18
theorem hd_J3_checkIndex_8e157 : yJ3_checkIndex_8e157.cls ≠ "java/lang/invoke/MethodHandle" ∧ yJ3_checkIndex_8e157.cls ≠ "java/lang/invoke/VarHandle" ∧ (parseMethodDescriptor yJ3_checkIndex_8e157.desc).map (fun d => d.parameters.length) = some 3 := by decide +kernel
set_option maxHeartbeats 4000000 in
set_option maxRecDepth 100000 in
theorem c_J3_checkIndex_8e157 (l : Launch) {D : va_G} {Y : Nat → ClassId} {A : ss_A} (hAD : AD 0 A) {i n : Int32} {v : Option Nat} (h0 : ¬ i < 0) (h1 : i < n) {σ : ss_M} : Met l yJ3_checkIndex_8e157 wsJ3_checkIndex_8e157 (rmJ 0) (Pc0 0 D Y A σ [.int i, .int n, va_rf v]) (Qi0 0 D Y A i σ) 0 0 (FA 0 A) := by
  cases v
  all_goals
    refine Met0 (cc := cJ3_checkIndex_8e157) (maxL := 3) (ret := some .int) (own := RJ3) (by decide +kernel) rfl hAD rfl (Nat.le_of_ble_eq_true rfl) ?_
    intro p e s m args below meth c S hr hlocks hW ls hl
    obtain ⟨hx, hb, hml, hown, hts⟩ := id S
    have hE := hW.2.2.2.2 rfl
    have hl : lv_has ls 3 [(0, .int i), (1, .int n)] := lv_sub hl [0, 1] rfl
    refine lv_iload_n hx hb dJ3_checkIndex_8e157_0 rfl (lv_at hl 0 rfl) ?_
    refine lv_if_lt (tgt := 9) hx hb dJ3_checkIndex_8e157_1 (by decide) (fun q => absurd q h0) (fun _ => ?_)
    refine lv_iload_n hx hb dJ3_checkIndex_8e157_4 rfl (lv_at hl 0 rfl) ?_
    refine lv_iload_n hx hb dJ3_checkIndex_8e157_5 rfl (lv_at hl 1 rfl) ?_
    refine lv_icmp_lt (tgt := 16) hx hb dJ3_checkIndex_8e157_6 (by decide) (fun _ => ?_) (fun q => absurd h1 q)
    refine lv_iload_n hx hb dJ3_checkIndex_8e157_16 rfl (lv_at hl 0 rfl) ?_
    exact re_i hx hb hr hlocks hW rfl dJ3_checkIndex_8e157_17
theorem hd_J0_checkIndex_df160 : yJ0_checkIndex_df160.cls ≠ "java/lang/invoke/MethodHandle" ∧ yJ0_checkIndex_df160.cls ≠ "java/lang/invoke/VarHandle" ∧ (parseMethodDescriptor yJ0_checkIndex_df160.desc).map (fun d => d.parameters.length) = some 2 := by decide +kernel
set_option maxHeartbeats 4000000 in
set_option maxRecDepth 100000 in
theorem c_J0_checkIndex_df160 (l : Launch) {D : va_G} {Y : Nat → ClassId} {A : ss_A} (hAD : AD 0 A) {i n : Int32} (h0 : ¬ i < 0) (h1 : i < n) {σ : ss_M} : Met l yJ0_checkIndex_df160 wsJ0_checkIndex_df160 (rmJ 1) (Pc0 0 D Y A σ [.int i, .int n]) (Qv0 0 D Y A σ) 0 0 (FA 0 A) := by
  refine Met0 (cc := cJ0_checkIndex_df160) (maxL := 2) (ret := none) (own := RJ0) (by decide +kernel) rfl hAD rfl (Nat.le_of_ble_eq_true rfl) ?_
  intro p e s m args below meth c S hr hlocks hW ls hl
  obtain ⟨hx, hb, hml, hown, hts⟩ := id S
  have hE := hW.2.2.2.2 rfl
  have hl : lv_has ls 2 [(0, .int i), (1, .int n)] := hl
  obtain ⟨v, hv⟩ := hE.2.2.2.2.2
  refine lv_iload_n hx hb dJ0_checkIndex_df160_0 rfl (lv_at hl 0 rfl) ?_
  refine lv_iload_n hx hb dJ0_checkIndex_df160_1 rfl (lv_at hl 1 rfl) ?_
  refine va_gets hx hb hv hW.2.2.2.1 hown (hts _ (List.mem_of_getElem? (i := 1) rfl)) (fun _ h => h) dJ0_checkIndex_df160_2 ?_
  refine rt_i S (c_J3_checkIndex_8e157 l hAD (v := v) h0 h1) (va_cwS 3 hts gJ0_checkIndex_df160_J3_checkIndex_8e157 rfl rfl rfl hd_J3_checkIndex_8e157 ⟨(Nat.le_of_ble_eq_true rfl), (Nat.le_of_ble_eq_true rfl)⟩) hW rfl rfl hl.1 (Nat.le_of_ble_eq_true rfl) ⟨Nat.zero_le _, Nat.zero_le _⟩ dJ0_checkIndex_df160_5 (fun H locs hW => ?_)
  refine lv_pop hx hb dJ0_checkIndex_df160_8 rfl ?_
  exact re_v hx hb hr hlocks hW rfl dJ0_checkIndex_df160_9
theorem hd_J1_charAt_3b067 : yJ1_charAt_3b067.cls ≠ "java/lang/invoke/MethodHandle" ∧ yJ1_charAt_3b067.cls ≠ "java/lang/invoke/VarHandle" ∧ (parseMethodDescriptor yJ1_charAt_3b067.desc).map (fun d => d.parameters.length) = some 2 := by decide +kernel
set_option maxHeartbeats 4000000 in
set_option maxRecDepth 100000 in
theorem c_J1_charAt_3b067 (l : Launch) {D : va_G} {Y : Nat → ClassId} {A : ss_A} (hAD : AD 0 A) {t : Nat} {i : Int32} (ht : t < 3) (hg : gd i 4 = true) {σ : ss_M} : Met l yJ1_charAt_3b067 wsJ1_charAt_3b067 (rmJ 2) (Pc0 0 D Y A σ [.ref (A 5 1 t), .int i]) (Qi0 0 D Y A (sC t i.toNatClampNeg) σ) 0 0 (FA 0 A) := by
  refine Met0 (cc := cJ1_charAt_3b067) (maxL := 2) (ret := some .char) (own := RJ1) (by decide +kernel) rfl hAD rfl (Nat.le_of_ble_eq_true rfl) ?_
  intro p e s m args below meth c S hr hlocks hW ls hl
  obtain ⟨hx, hb, hml, hown, hts⟩ := id S
  have hE := hW.2.2.2.2 rfl
  have hl : lv_has ls 2 [(0, .ref (A 5 1 t)), (1, .int i)] := hl
  have h0 : ¬ i < 0 := fun q => gd_in hg (Or.inl q)
  have h1 : i < (4 : Int32) := gd_lti hg (by decide)
  refine lv_iload_n hx hb dJ1_charAt_3b067_0 rfl (lv_at hl 1 rfl) ?_
  refine lv_aload_n hx hb dJ1_charAt_3b067_1 rfl (lv_at hl 0 rfl) ?_
  refine va_tlen (v := (4 : Int32)) hx hb (hE.1.1 t ht).2.2.2 hW.2.2.2.1 (by rw [lenW_4 t ht]; decide) dJ1_charAt_3b067_2 ?_
  refine rt_v S (c_J0_checkIndex_df160 l hAD h0 h1) (va_cwS 2 hts gJ1_charAt_3b067_J0_checkIndex_df160 rfl rfl rfl hd_J0_checkIndex_df160 ⟨(Nat.le_of_ble_eq_true rfl), (Nat.le_of_ble_eq_true rfl)⟩) hW rfl rfl hl.1 (Nat.le_of_ble_eq_true rfl) ⟨Nat.zero_le _, Nat.zero_le _⟩ dJ1_charAt_3b067_3 (fun H locs hW => ?_)
  refine lv_aload_n hx hb dJ1_charAt_3b067_6 rfl (lv_at hl 0 rfl) ?_
  refine lv_iload_n hx hb dJ1_charAt_3b067_7 rfl (lv_at hl 1 rfl) ?_
  refine va_tb (v := .int ((bytW.getD t []).getD i.toNatClampNeg 0)) hx hb (hE.1.1 t ht).2.2.2 hW.2.2.2.1 (by rw [lenW_4 t ht]; exact gd_in hg) rfl dJ1_charAt_3b067_8 ?_
  refine lv_sipush (v := (255 : Int32)) hx hb dJ1_charAt_3b067_9 (by decide) ?_
  refine lv_iand hx hb dJ1_charAt_3b067_12 ?_
  refine lv_i2c (v := (bytW.getD t []).getD i.toNatClampNeg 0 &&& 255) hx hb dJ1_charAt_3b067_13 (sc_c2 _) ?_
  exact re_n hx hb hr hlocks hW (sc_nar _) rfl dJ1_charAt_3b067_14
theorem hd_J0_charAt_5068e : yJ0_charAt_5068e.cls = RJ0 ∧ yJ0_charAt_5068e.cls ≠ "java/lang/invoke/MethodHandle" ∧ yJ0_charAt_5068e.cls ≠ "java/lang/invoke/VarHandle" ∧ (parseMethodDescriptor yJ0_charAt_5068e.desc).map (fun d => d.parameters.length) = some 1 := by decide +kernel
set_option maxHeartbeats 4000000 in
set_option maxRecDepth 100000 in
theorem c_J0_charAt_5068e (l : Launch) {D : va_G} {Y : Nat → ClassId} {A : ss_A} (hAD : AD 0 A) {t : Nat} {i : Int32} (ht : t < 3) (hg : gd i 4 = true) {σ : ss_M} : Met l yJ0_charAt_5068e wsJ0_charAt_5068e (rmJ 3) (Pc0 0 D Y A σ [.ref (A 5 0 t), .int i]) (Qi0 0 D Y A (sC t i.toNatClampNeg) σ) 0 0 (FA 0 A) := by
  refine Met0 (cc := cJ0_charAt_5068e) (maxL := 2) (ret := some .char) (own := RJ0) (by decide +kernel) rfl hAD rfl (Nat.le_of_ble_eq_true rfl) ?_
  intro p e s m args below meth c S hr hlocks hW ls hl
  obtain ⟨hx, hb, hml, hown, hts⟩ := id S
  have hE := hW.2.2.2.2 rfl
  have hl : lv_has ls 2 [(0, .ref (A 5 0 t)), (1, .int i)] := hl
  refine lv_aload_n hx hb dJ0_charAt_5068e_0 rfl (lv_at hl 0 rfl) ?_
  refine rvX_i S (c_J0_isLatin1_aae02 l hAD ht) (cwV 0 hts gJ0_charAt_5068e_J0_isLatin1_aae02 rfl rfl rfl hd_J0_isLatin1_aae02 ⟨(Nat.le_of_ble_eq_true rfl), (Nat.le_of_ble_eq_true rfl)⟩) hW (ss_strC hW ht) rfl rfl hl.1 (Nat.le_of_ble_eq_true rfl) ⟨Nat.zero_le _, Nat.zero_le _⟩ dJ0_charAt_5068e_1 (fun H locs hW => ?_)
  refine lv_if_eq (tgt := 16) hx hb dJ0_charAt_5068e_4 (by decide) (fun q => absurd q (by decide)) (fun _ => ?_)
  refine lv_aload_n hx hb dJ0_charAt_5068e_7 rfl (lv_at hl 0 rfl) ?_
  refine vk_getf hx hb (hE.1.1 t ht).2.2.1 hW.2.2.2.1 hown (hts _ (List.mem_of_getElem? (i := 1) rfl)) (fun _ h => h) dJ0_charAt_5068e_8 ?_
  refine lv_iload_n hx hb dJ0_charAt_5068e_11 rfl (lv_at hl 1 rfl) ?_
  refine rt_i S (c_J1_charAt_3b067 l hAD ht hg) (va_cwS 2 hts gJ0_charAt_5068e_J1_charAt_3b067 rfl rfl rfl hd_J1_charAt_3b067 ⟨(Nat.le_of_ble_eq_true rfl), (Nat.le_of_ble_eq_true rfl)⟩) hW rfl rfl hl.1 (Nat.le_of_ble_eq_true rfl) ⟨Nat.zero_le _, Nat.zero_le _⟩ dJ0_charAt_5068e_12 (fun H locs hW => ?_)
  exact re_n hx hb hr hlocks hW (sc_nar _) rfl dJ0_charAt_5068e_15
end
section
def f_X1_breathBehind (p0 : Int32) (p1 : Int32) (p2 : Int32) (σ : ss_M) : Option (Int32 × ss_M) :=
  if p0 = (0 : Int32) then (some ((if p2 < (p1 + (3 : Int32)) then p2 else (p1 + (3 : Int32))), σ)) else if p0 = (1 : Int32) then (some (p2, σ)) else if p0 = (2 : Int32) then (some (p2, σ)) else if p0 = (3 : Int32) then (some (p2, σ)) else if p0 = (4 : Int32) then (some ((if p2 < ((if p2 < (p1 + (3 : Int32)) then p2 else (p1 + (3 : Int32))) + (3 : Int32)) then p2 else ((if p2 < (p1 + (3 : Int32)) then p2 else (p1 + (3 : Int32))) + (3 : Int32))), σ)) else if p0 = (5 : Int32) then (some ((if (if p2 < ((if p2 < (p1 + (3 : Int32)) then p2 else (p1 + (3 : Int32))) + (3 : Int32)) then p2 else ((if p2 < (p1 + (3 : Int32)) then p2 else (p1 + (3 : Int32))) + (3 : Int32))) < (p2 / (2 : Int32)) then (p2 / (2 : Int32)) else (if p2 < ((if p2 < (p1 + (3 : Int32)) then p2 else (p1 + (3 : Int32))) + (3 : Int32)) then p2 else ((if p2 < (p1 + (3 : Int32)) then p2 else (p1 + (3 : Int32))) + (3 : Int32)))), σ)) else (some (p1, σ))
def rm_X1_breathBehind : Room := { frames := 2, cells := 0, slots := 0, locals := 100 }
theorem hd_X1_breathBehind : yX1_breathBehind.cls ≠ "java/lang/invoke/MethodHandle" ∧ yX1_breathBehind.cls ≠ "java/lang/invoke/VarHandle" ∧ (parseMethodDescriptor yX1_breathBehind.desc).map (fun d => d.parameters.length) = some 3 := by decide +kernel
set_option maxHeartbeats 4000000 in
set_option maxRecDepth 100000 in
theorem c_X1_breathBehind (l : Launch) {D : va_G} {Y : Nat → ClassId} {A : ss_A} (hAD : AD 0 A) {p0 : Int32} {p1 : Int32} {p2 : Int32}  {r : Int32} {σ σ' : ss_M} (hf : f_X1_breathBehind p0 p1 p2 σ = some (r, σ')) : Met l yX1_breathBehind wsX1_breathBehind rm_X1_breathBehind (Pc0 0 D Y A σ [.int p0, .int p1, .int p2]) (Qi0 0 D Y A r σ') 0 0 (FA 0 A) := by
  rw [f_X1_breathBehind] at hf
  refine Met0 (cc := cX1_breathBehind) (maxL := 5) (ret := (some .int)) (own := RX1) (by decide +kernel) rfl hAD rfl (Nat.le_of_ble_eq_true rfl) ?_
  intro p e s m args below meth c S hr hlocks hW ls hl
  obtain ⟨hx, hb, hml, hown, hts⟩ := id S
  have hl : lv_has ls 5 [(0, .int p0), (1, .int p1), (2, .int p2)] := hl
  refine lv_iload_n hx hb dX1_breathBehind_0 rfl (lv_at hl 1 rfl) ?_
  refine lv_iconst (v := (3 : Int32)) hx hb dX1_breathBehind_1 (by decide) ?_
  refine lv_iadd hx hb dX1_breathBehind_2 ?_
  refine lv_iload_n hx hb dX1_breathBehind_3 rfl (lv_at hl 2 rfl) ?_
  refine va_mmin hx hb (hml.trans hl.1.symm) hown (hts _ (List.mem_of_getElem? (i := 1) rfl)) (hts _ (List.mem_of_getElem? (i := 2) rfl)) (hts _ (List.mem_of_getElem? (i := 3) rfl)) (hts _ (List.mem_of_getElem? (i := 4) rfl)) (Nat.le_of_ble_eq_true rfl) (Nat.le_of_ble_eq_true rfl) (Nat.zero_le _) (Nat.zero_le _) dX1_breathBehind_4 ?_
  refine lv_istore_n (lv' := [(3, .int (if p2 < (p1 + (3 : Int32)) then p2 else (p1 + (3 : Int32)))), (0, .int p0), (1, .int p1), (2, .int p2)]) hx hb dX1_breathBehind_7 rfl hl (by decide) rfl (fun ls hl => ?_)
  refine lv_iload_n hx hb dX1_breathBehind_8 rfl (lv_at hl 0 rfl) ?_
  refine lv_iconst (v := (3 : Int32)) hx hb dX1_breathBehind_9 (by decide) ?_
  refine lv_iadd hx hb dX1_breathBehind_10 ?_
  refine lv_iload_n hx hb dX1_breathBehind_11 rfl (lv_at hl 3 rfl) ?_
  refine va_mmin hx hb (hml.trans hl.1.symm) hown (hts _ (List.mem_of_getElem? (i := 1) rfl)) (hts _ (List.mem_of_getElem? (i := 2) rfl)) (hts _ (List.mem_of_getElem? (i := 3) rfl)) (hts _ (List.mem_of_getElem? (i := 4) rfl)) (Nat.le_of_ble_eq_true rfl) (Nat.le_of_ble_eq_true rfl) (Nat.zero_le _) (Nat.zero_le _) dX1_breathBehind_12 ?_
  refine lv_istore (lv' := [(4, .int (if p2 < ((if p2 < (p1 + (3 : Int32)) then p2 else (p1 + (3 : Int32))) + (3 : Int32)) then p2 else ((if p2 < (p1 + (3 : Int32)) then p2 else (p1 + (3 : Int32))) + (3 : Int32)))), (3, .int (if p2 < (p1 + (3 : Int32)) then p2 else (p1 + (3 : Int32)))), (0, .int p0), (1, .int p1), (2, .int p2)]) hx hb dX1_breathBehind_15 hl (by decide) rfl (fun ls hl => ?_)
  refine lv_iload_n hx hb dX1_breathBehind_17 rfl (lv_at hl 2 rfl) ?_
  by_cases q1 : p0 = (0 : Int32)
  · rw [if_pos q1] at hf
    refine lv_tableIn (off := 38) (tgt := 56) hx hb dX1_breathBehind_18 (by rw [q1]; decide) (by rw [q1]; decide) (by rw [q1]; decide) (by decide) ?_
    refine lv_iload_n hx hb dX1_breathBehind_56 rfl (lv_at hl 1 rfl) ?_
    exact re_i hx hb hr hlocks hW (Option.some.inj hf) dX1_breathBehind_57
  · rw [if_neg q1] at hf
    by_cases q2 : p0 = (1 : Int32)
    · rw [if_pos q2] at hf
      refine lv_tableIn (off := 40) (tgt := 58) hx hb dX1_breathBehind_18 (by rw [q2]; decide) (by rw [q2]; decide) (by rw [q2]; decide) (by decide) ?_
      refine lv_iload_n hx hb dX1_breathBehind_58 rfl (lv_at hl 4 rfl) ?_
      exact re_i hx hb hr hlocks hW (Option.some.inj hf) dX1_breathBehind_59
    · rw [if_neg q2] at hf
      by_cases q3 : p0 = (2 : Int32)
      · rw [if_pos q3] at hf
        refine lv_tableIn (off := 40) (tgt := 58) hx hb dX1_breathBehind_18 (by rw [q3]; decide) (by rw [q3]; decide) (by rw [q3]; decide) (by decide) ?_
        refine lv_iload_n hx hb dX1_breathBehind_58 rfl (lv_at hl 4 rfl) ?_
        exact re_i hx hb hr hlocks hW (Option.some.inj hf) dX1_breathBehind_59
      · rw [if_neg q3] at hf
        by_cases q4 : p0 = (3 : Int32)
        · rw [if_pos q4] at hf
          refine lv_tableIn (off := 40) (tgt := 58) hx hb dX1_breathBehind_18 (by rw [q4]; decide) (by rw [q4]; decide) (by rw [q4]; decide) (by decide) ?_
          refine lv_iload_n hx hb dX1_breathBehind_58 rfl (lv_at hl 4 rfl) ?_
          exact re_i hx hb hr hlocks hW (Option.some.inj hf) dX1_breathBehind_59
        · rw [if_neg q4] at hf
          by_cases q5 : p0 = (4 : Int32)
          · rw [if_pos q5] at hf
            refine lv_tableIn (off := 42) (tgt := 60) hx hb dX1_breathBehind_18 (by rw [q5]; decide) (by rw [q5]; decide) (by rw [q5]; decide) (by decide) ?_
            refine lv_iload hx hb dX1_breathBehind_60 (lv_at hl 0 rfl) ?_
            exact re_i hx hb hr hlocks hW (Option.some.inj hf) dX1_breathBehind_62
          · rw [if_neg q5] at hf
            by_cases q6 : p0 = (5 : Int32)
            · rw [if_pos q6] at hf
              refine lv_tableIn (off := 45) (tgt := 63) hx hb dX1_breathBehind_18 (by rw [q6]; decide) (by rw [q6]; decide) (by rw [q6]; decide) (by decide) ?_
              refine lv_iload hx hb dX1_breathBehind_63 (lv_at hl 0 rfl) ?_
              refine lv_iload_n hx hb dX1_breathBehind_65 rfl (lv_at hl 4 rfl) ?_
              refine lv_iconst (v := (2 : Int32)) hx hb dX1_breathBehind_66 (by decide) ?_
              refine lv_idiv hx hb dX1_breathBehind_67 (by decide) ?_
              refine va_mmax hx hb (hml.trans hl.1.symm) hown (hts _ (List.mem_of_getElem? (i := 5) rfl)) (hts _ (List.mem_of_getElem? (i := 6) rfl)) (hts _ (List.mem_of_getElem? (i := 3) rfl)) (hts _ (List.mem_of_getElem? (i := 7) rfl)) (Nat.le_of_ble_eq_true rfl) (Nat.le_of_ble_eq_true rfl) (Nat.zero_le _) (Nat.zero_le _) dX1_breathBehind_68 ?_
              exact re_i hx hb hr hlocks hW (Option.some.inj hf) dX1_breathBehind_71
            · rw [if_neg q6] at hf
              refine lv_tableOut (tgt := 72) hx hb dX1_breathBehind_18 (by have z := And.intro (lv_neT q1 (a := 0) rfl) (And.intro (lv_neT q2 (a := 1) rfl) (And.intro (lv_neT q3 (a := 2) rfl) (And.intro (lv_neT q4 (a := 3) rfl) (And.intro (lv_neT q5 (a := 4) rfl) (lv_neT q6 (a := 5) rfl))))); omega) (by decide) ?_
              refine lv_iload_n hx hb dX1_breathBehind_72 rfl (lv_at hl 3 rfl) ?_
              exact re_i hx hb hr hlocks hW (Option.some.inj hf) dX1_breathBehind_73
def f_X1_isOne (p0 : Int32) (σ : ss_M) : Option (Int32 × ss_M) :=
  if p0 < (0 : Int32) then (some ((0 : Int32), σ)) else (if (5 : Int32) < p0 then (some ((0 : Int32), σ)) else (some ((1 : Int32), σ)))
def rm_X1_isOne : Room := { frames := 0, cells := 0, slots := 0, locals := 0 }
theorem hd_X1_isOne : yX1_isOne.cls ≠ "java/lang/invoke/MethodHandle" ∧ yX1_isOne.cls ≠ "java/lang/invoke/VarHandle" ∧ (parseMethodDescriptor yX1_isOne.desc).map (fun d => d.parameters.length) = some 1 := by decide +kernel
set_option maxHeartbeats 4000000 in
set_option maxRecDepth 100000 in
theorem c_X1_isOne (l : Launch) {D : va_G} {Y : Nat → ClassId} {A : ss_A} (hAD : AD 0 A) {p0 : Int32}  {r : Int32} {σ σ' : ss_M} (hf : f_X1_isOne p0 σ = some (r, σ')) : Met l yX1_isOne wsX1_isOne rm_X1_isOne (Pc0 0 D Y A σ [.int p0]) (Qi0 0 D Y A r σ') 0 0 (FA 0 A) := by
  rw [f_X1_isOne] at hf
  refine Met0 (cc := cX1_isOne) (maxL := 1) (ret := (some .boolean)) (own := RX1) (by decide +kernel) rfl hAD rfl (Nat.le_of_ble_eq_true rfl) ?_
  intro p e s m args below meth c S hr hlocks hW ls hl
  obtain ⟨hx, hb, hml, hown, hts⟩ := id S
  have hl : lv_has ls 1 [(0, .int p0)] := hl
  refine lv_iload_n hx hb dX1_isOne_0 rfl (lv_at hl 0 rfl) ?_
  refine lv_if_lt (tgt := 13) hx hb dX1_isOne_1 (by decide) (fun q1 => ?_) (fun q1 => ?_)
  · rw [if_pos q1] at hf
    refine lv_iconst (v := (0 : Int32)) hx hb dX1_isOne_13 (by decide) ?_
    exact re_z hx hb hr hlocks hW (by decide) (Option.some.inj hf) dX1_isOne_14
  · rw [if_neg q1] at hf
    refine lv_iload_n hx hb dX1_isOne_4 rfl (lv_at hl 0 rfl) ?_
    refine lv_iconst (v := (5 : Int32)) hx hb dX1_isOne_5 (by decide) ?_
    refine lv_icmp_gt (tgt := 13) hx hb dX1_isOne_6 (by decide) (fun q2 => ?_) (fun q2 => ?_)
    · rw [if_pos q2] at hf
      refine lv_iconst (v := (0 : Int32)) hx hb dX1_isOne_13 (by decide) ?_
      exact re_z hx hb hr hlocks hW (by decide) (Option.some.inj hf) dX1_isOne_14
    · rw [if_neg q2] at hf
      refine lv_iconst (v := (1 : Int32)) hx hb dX1_isOne_9 (by decide) ?_
      refine lv_goto (tgt := 14) hx hb dX1_isOne_10 (by decide) ?_
      exact re_z hx hb hr hlocks hW (by decide) (Option.some.inj hf) dX1_isOne_14
def f_X1_cost (p0 : Int32) (p1 : Int32) (p2 : Int32) (σ : ss_M) : Option (Int32 × ss_M) :=
  if p0 = (0 : Int32) then (some (p1, σ)) else if p0 = (1 : Int32) then (some (((3 : Int32) * p1), σ)) else if p0 = (2 : Int32) then (if (p2 - p2 / (2 : Int32) * (2 : Int32)) = (0 : Int32) then (some (((3 : Int32) * p1), σ)) else (some ((((3 : Int32) * p1) - p1), σ))) else if p0 = (3 : Int32) then (some ((((2 : Int32) * ((3 : Int32) * p1)) + (p2 - p2 / (4 : Int32) * (4 : Int32))), σ)) else if p0 = (4 : Int32) then (some ((p1 + (1 : Int32)), σ)) else if p0 = (5 : Int32) then (some (((2 : Int32) * (p1 + (1 : Int32))), σ)) else (some ((0 : Int32), σ))
def rm_X1_cost : Room := { frames := 0, cells := 0, slots := 0, locals := 0 }
theorem hd_X1_cost : yX1_cost.cls ≠ "java/lang/invoke/MethodHandle" ∧ yX1_cost.cls ≠ "java/lang/invoke/VarHandle" ∧ (parseMethodDescriptor yX1_cost.desc).map (fun d => d.parameters.length) = some 3 := by decide +kernel
set_option maxHeartbeats 4000000 in
set_option maxRecDepth 100000 in
theorem c_X1_cost (l : Launch) {D : va_G} {Y : Nat → ClassId} {A : ss_A} (hAD : AD 0 A) {p0 : Int32} {p1 : Int32} {p2 : Int32}  {r : Int32} {σ σ' : ss_M} (hf : f_X1_cost p0 p1 p2 σ = some (r, σ')) : Met l yX1_cost wsX1_cost rm_X1_cost (Pc0 0 D Y A σ [.int p0, .int p1, .int p2]) (Qi0 0 D Y A r σ') 0 0 (FA 0 A) := by
  rw [f_X1_cost] at hf
  refine Met0 (cc := cX1_cost) (maxL := 5) (ret := (some .int)) (own := RX1) (by decide +kernel) rfl hAD rfl (Nat.le_of_ble_eq_true rfl) ?_
  intro p e s m args below meth c S hr hlocks hW ls hl
  obtain ⟨hx, hb, hml, hown, hts⟩ := id S
  have hl : lv_has ls 5 [(0, .int p0), (1, .int p1), (2, .int p2)] := hl
  refine lv_iconst (v := (3 : Int32)) hx hb dX1_cost_0 (by decide) ?_
  refine lv_iload_n hx hb dX1_cost_1 rfl (lv_at hl 1 rfl) ?_
  refine lv_imul hx hb dX1_cost_2 ?_
  refine lv_istore_n (lv' := [(3, .int ((3 : Int32) * p1)), (0, .int p0), (1, .int p1), (2, .int p2)]) hx hb dX1_cost_3 rfl hl (by decide) rfl (fun ls hl => ?_)
  refine lv_iload_n hx hb dX1_cost_4 rfl (lv_at hl 2 rfl) ?_
  refine lv_iconst (v := (1 : Int32)) hx hb dX1_cost_5 (by decide) ?_
  refine lv_iadd hx hb dX1_cost_6 ?_
  refine lv_istore (lv' := [(4, .int (p1 + (1 : Int32))), (3, .int ((3 : Int32) * p1)), (0, .int p0), (1, .int p1), (2, .int p2)]) hx hb dX1_cost_7 hl (by decide) rfl (fun ls hl => ?_)
  refine lv_iload_n hx hb dX1_cost_9 rfl (lv_at hl 2 rfl) ?_
  by_cases q1 : p0 = (0 : Int32)
  · rw [if_pos q1] at hf
    refine lv_tableIn (off := 38) (tgt := 48) hx hb dX1_cost_10 (by rw [q1]; decide) (by rw [q1]; decide) (by rw [q1]; decide) (by decide) ?_
    refine lv_iload_n hx hb dX1_cost_48 rfl (lv_at hl 3 rfl) ?_
    exact re_i hx hb hr hlocks hW (Option.some.inj hf) dX1_cost_49
  · rw [if_neg q1] at hf
    by_cases q2 : p0 = (1 : Int32)
    · rw [if_pos q2] at hf
      refine lv_tableIn (off := 40) (tgt := 50) hx hb dX1_cost_10 (by rw [q2]; decide) (by rw [q2]; decide) (by rw [q2]; decide) (by decide) ?_
      refine lv_iload_n hx hb dX1_cost_50 rfl (lv_at hl 1 rfl) ?_
      exact re_i hx hb hr hlocks hW (Option.some.inj hf) dX1_cost_51
    · rw [if_neg q2] at hf
      by_cases q3 : p0 = (2 : Int32)
      · rw [if_pos q3] at hf
        refine lv_tableIn (off := 42) (tgt := 52) hx hb dX1_cost_10 (by rw [q3]; decide) (by rw [q3]; decide) (by rw [q3]; decide) (by decide) ?_
        refine lv_iload_n hx hb dX1_cost_52 rfl (lv_at hl 4 rfl) ?_
        refine lv_iconst (v := (2 : Int32)) hx hb dX1_cost_53 (by decide) ?_
        refine lv_irem hx hb dX1_cost_54 (by decide) ?_
        refine lv_if_ne (tgt := 62) hx hb dX1_cost_55 (by decide) (fun q4 => ?_) (fun q4 => ?_)
        · rw [if_neg q4] at hf
          refine lv_iload_n hx hb dX1_cost_62 rfl (lv_at hl 1 rfl) ?_
          refine lv_iload_n hx hb dX1_cost_63 rfl (lv_at hl 3 rfl) ?_
          refine lv_isub hx hb dX1_cost_64 ?_
          exact re_i hx hb hr hlocks hW (Option.some.inj hf) dX1_cost_65
        · rw [if_pos q4] at hf
          refine lv_iload_n hx hb dX1_cost_58 rfl (lv_at hl 1 rfl) ?_
          refine lv_goto (tgt := 65) hx hb dX1_cost_59 (by decide) ?_
          exact re_i hx hb hr hlocks hW (Option.some.inj hf) dX1_cost_65
      · rw [if_neg q3] at hf
        by_cases q5 : p0 = (3 : Int32)
        · rw [if_pos q5] at hf
          refine lv_tableIn (off := 56) (tgt := 66) hx hb dX1_cost_10 (by rw [q5]; decide) (by rw [q5]; decide) (by rw [q5]; decide) (by decide) ?_
          refine lv_iconst (v := (2 : Int32)) hx hb dX1_cost_66 (by decide) ?_
          refine lv_iload_n hx hb dX1_cost_67 rfl (lv_at hl 1 rfl) ?_
          refine lv_imul hx hb dX1_cost_68 ?_
          refine lv_iload_n hx hb dX1_cost_69 rfl (lv_at hl 4 rfl) ?_
          refine lv_iconst (v := (4 : Int32)) hx hb dX1_cost_70 (by decide) ?_
          refine lv_irem hx hb dX1_cost_71 (by decide) ?_
          refine lv_iadd hx hb dX1_cost_72 ?_
          exact re_i hx hb hr hlocks hW (Option.some.inj hf) dX1_cost_73
        · rw [if_neg q5] at hf
          by_cases q6 : p0 = (4 : Int32)
          · rw [if_pos q6] at hf
            refine lv_tableIn (off := 64) (tgt := 74) hx hb dX1_cost_10 (by rw [q6]; decide) (by rw [q6]; decide) (by rw [q6]; decide) (by decide) ?_
            refine lv_iload hx hb dX1_cost_74 (lv_at hl 0 rfl) ?_
            exact re_i hx hb hr hlocks hW (Option.some.inj hf) dX1_cost_76
          · rw [if_neg q6] at hf
            by_cases q7 : p0 = (5 : Int32)
            · rw [if_pos q7] at hf
              refine lv_tableIn (off := 67) (tgt := 77) hx hb dX1_cost_10 (by rw [q7]; decide) (by rw [q7]; decide) (by rw [q7]; decide) (by decide) ?_
              refine lv_iconst (v := (2 : Int32)) hx hb dX1_cost_77 (by decide) ?_
              refine lv_iload hx hb dX1_cost_78 (lv_at hl 0 rfl) ?_
              refine lv_imul hx hb dX1_cost_80 ?_
              exact re_i hx hb hr hlocks hW (Option.some.inj hf) dX1_cost_81
            · rw [if_neg q7] at hf
              refine lv_tableOut (tgt := 82) hx hb dX1_cost_10 (by have z := And.intro (lv_neT q1 (a := 0) rfl) (And.intro (lv_neT q2 (a := 1) rfl) (And.intro (lv_neT q3 (a := 2) rfl) (And.intro (lv_neT q5 (a := 3) rfl) (And.intro (lv_neT q6 (a := 4) rfl) (lv_neT q7 (a := 5) rfl))))); omega) (by decide) ?_
              refine lv_iconst (v := (0 : Int32)) hx hb dX1_cost_82 (by decide) ?_
              exact re_i hx hb hr hlocks hW (Option.some.inj hf) dX1_cost_83
def f_X1_lasts (p0 : Int32) (σ : ss_M) : Option (Int32 × ss_M) :=
  if p0 = (0 : Int32) then (some ((9 : Int32), σ)) else if p0 = (1 : Int32) then (some ((0 : Int32), σ)) else if p0 = (2 : Int32) then (some ((4 : Int32), σ)) else if p0 = (3 : Int32) then (some ((0 : Int32), σ)) else if p0 = (4 : Int32) then (some ((5 : Int32), σ)) else if p0 = (5 : Int32) then (some ((5 : Int32), σ)) else (some ((0 : Int32), σ))
def rm_X1_lasts : Room := { frames := 0, cells := 0, slots := 0, locals := 0 }
theorem hd_X1_lasts : yX1_lasts.cls ≠ "java/lang/invoke/MethodHandle" ∧ yX1_lasts.cls ≠ "java/lang/invoke/VarHandle" ∧ (parseMethodDescriptor yX1_lasts.desc).map (fun d => d.parameters.length) = some 1 := by decide +kernel
set_option maxHeartbeats 4000000 in
set_option maxRecDepth 100000 in
theorem c_X1_lasts (l : Launch) {D : va_G} {Y : Nat → ClassId} {A : ss_A} (hAD : AD 0 A) {p0 : Int32}  {r : Int32} {σ σ' : ss_M} (hf : f_X1_lasts p0 σ = some (r, σ')) : Met l yX1_lasts wsX1_lasts rm_X1_lasts (Pc0 0 D Y A σ [.int p0]) (Qi0 0 D Y A r σ') 0 0 (FA 0 A) := by
  rw [f_X1_lasts] at hf
  refine Met0 (cc := cX1_lasts) (maxL := 1) (ret := (some .int)) (own := RX1) (by decide +kernel) rfl hAD rfl (Nat.le_of_ble_eq_true rfl) ?_
  intro p e s m args below meth c S hr hlocks hW ls hl
  obtain ⟨hx, hb, hml, hown, hts⟩ := id S
  have hl : lv_has ls 1 [(0, .int p0)] := hl
  refine lv_iload_n hx hb dX1_lasts_0 rfl (lv_at hl 0 rfl) ?_
  by_cases q1 : p0 = (0 : Int32)
  · rw [if_pos q1] at hf
    refine lv_tableIn (off := 39) (tgt := 40) hx hb dX1_lasts_1 (by rw [q1]; decide) (by rw [q1]; decide) (by rw [q1]; decide) (by decide) ?_
    refine lv_bipush (v := (9 : Int32)) hx hb dX1_lasts_40 (by decide) ?_
    exact re_i hx hb hr hlocks hW (Option.some.inj hf) dX1_lasts_42
  · rw [if_neg q1] at hf
    by_cases q2 : p0 = (1 : Int32)
    · rw [if_pos q2] at hf
      refine lv_tableIn (off := 46) (tgt := 47) hx hb dX1_lasts_1 (by rw [q2]; decide) (by rw [q2]; decide) (by rw [q2]; decide) (by decide) ?_
      refine lv_iconst (v := (0 : Int32)) hx hb dX1_lasts_47 (by decide) ?_
      exact re_i hx hb hr hlocks hW (Option.some.inj hf) dX1_lasts_48
    · rw [if_neg q2] at hf
      by_cases q3 : p0 = (2 : Int32)
      · rw [if_pos q3] at hf
        refine lv_tableIn (off := 42) (tgt := 43) hx hb dX1_lasts_1 (by rw [q3]; decide) (by rw [q3]; decide) (by rw [q3]; decide) (by decide) ?_
        refine lv_iconst (v := (4 : Int32)) hx hb dX1_lasts_43 (by decide) ?_
        exact re_i hx hb hr hlocks hW (Option.some.inj hf) dX1_lasts_44
      · rw [if_neg q3] at hf
        by_cases q4 : p0 = (3 : Int32)
        · rw [if_pos q4] at hf
          refine lv_tableIn (off := 46) (tgt := 47) hx hb dX1_lasts_1 (by rw [q4]; decide) (by rw [q4]; decide) (by rw [q4]; decide) (by decide) ?_
          refine lv_iconst (v := (0 : Int32)) hx hb dX1_lasts_47 (by decide) ?_
          exact re_i hx hb hr hlocks hW (Option.some.inj hf) dX1_lasts_48
        · rw [if_neg q4] at hf
          by_cases q5 : p0 = (4 : Int32)
          · rw [if_pos q5] at hf
            refine lv_tableIn (off := 44) (tgt := 45) hx hb dX1_lasts_1 (by rw [q5]; decide) (by rw [q5]; decide) (by rw [q5]; decide) (by decide) ?_
            refine lv_iconst (v := (5 : Int32)) hx hb dX1_lasts_45 (by decide) ?_
            exact re_i hx hb hr hlocks hW (Option.some.inj hf) dX1_lasts_46
          · rw [if_neg q5] at hf
            by_cases q6 : p0 = (5 : Int32)
            · rw [if_pos q6] at hf
              refine lv_tableIn (off := 44) (tgt := 45) hx hb dX1_lasts_1 (by rw [q6]; decide) (by rw [q6]; decide) (by rw [q6]; decide) (by decide) ?_
              refine lv_iconst (v := (5 : Int32)) hx hb dX1_lasts_45 (by decide) ?_
              exact re_i hx hb hr hlocks hW (Option.some.inj hf) dX1_lasts_46
            · rw [if_neg q6] at hf
              refine lv_tableOut (tgt := 47) hx hb dX1_lasts_1 (by have z := And.intro (lv_neT q1 (a := 0) rfl) (And.intro (lv_neT q2 (a := 1) rfl) (And.intro (lv_neT q3 (a := 2) rfl) (And.intro (lv_neT q4 (a := 3) rfl) (And.intro (lv_neT q5 (a := 4) rfl) (lv_neT q6 (a := 5) rfl))))); omega) (by decide) ?_
              refine lv_iconst (v := (0 : Int32)) hx hb dX1_lasts_47 (by decide) ?_
              exact re_i hx hb hr hlocks hW (Option.some.inj hf) dX1_lasts_48
def f_X1_ends_j20 (σ20_ : ss_M) : Option (Int32 × ss_M) :=
  some ((1 : Int32), σ20_)
def f_X1_ends (p0 : Int32) (σ : ss_M) : Option (Int32 × ss_M) :=
  if p0 = (1 : Int32) then (f_X1_ends_j20 σ) else (if p0 = (2 : Int32) then (f_X1_ends_j20 σ) else (if p0 = (3 : Int32) then (f_X1_ends_j20 σ) else (if p0 = (5 : Int32) then (f_X1_ends_j20 σ) else (some ((0 : Int32), σ)))))
def rm_X1_ends : Room := { frames := 0, cells := 0, slots := 0, locals := 0 }
theorem hd_X1_ends : yX1_ends.cls ≠ "java/lang/invoke/MethodHandle" ∧ yX1_ends.cls ≠ "java/lang/invoke/VarHandle" ∧ (parseMethodDescriptor yX1_ends.desc).map (fun d => d.parameters.length) = some 1 := by decide +kernel
set_option maxHeartbeats 4000000 in
set_option maxRecDepth 100000 in
theorem c_X1_ends (l : Launch) {D : va_G} {Y : Nat → ClassId} {A : ss_A} (hAD : AD 0 A) {p0 : Int32}  {r : Int32} {σ σ' : ss_M} (hf : f_X1_ends p0 σ = some (r, σ')) : Met l yX1_ends wsX1_ends rm_X1_ends (Pc0 0 D Y A σ [.int p0]) (Qi0 0 D Y A r σ') 0 0 (FA 0 A) := by
  rw [f_X1_ends] at hf
  refine Met0 (cc := cX1_ends) (maxL := 1) (ret := (some .boolean)) (own := RX1) (by decide +kernel) rfl hAD rfl (Nat.le_of_ble_eq_true rfl) ?_
  intro p e s m args below meth c S hr hlocks hW ls hl
  obtain ⟨hx, hb, hml, hown, hts⟩ := id S
  have hl : lv_has ls 1 [(0, .int p0)] := hl
  refine lv_iload_n hx hb dX1_ends_0 rfl (lv_at hl 0 rfl) ?_
  refine lv_iconst (v := (1 : Int32)) hx hb dX1_ends_1 (by decide) ?_
  have J20 : ∀ (σ20_ : ss_M) (H : Heap) (locs : List Loc) (ls : Array Slot), sW 0 D Y A σ20_ s s.heap H locs → lv_has ls 1 [] → f_X1_ends_j20 σ20_ = some (r, σ') → W p l e rm_X1_ends s m args below meth c H locs 0 0 (MQ below (Qi0 0 D Y A r σ') args s 0 0 (FA 0 A)) (F0 m 20 ls []) := by
    intro σ20_ H locs ls hW hl hf
    rw [f_X1_ends_j20] at hf
    refine lv_iconst (v := (1 : Int32)) hx hb dX1_ends_20 (by decide) ?_
    refine lv_goto (tgt := 25) hx hb dX1_ends_21 (by decide) ?_
    exact re_z hx hb hr hlocks hW (by decide) (Option.some.inj hf) dX1_ends_25
  refine lv_icmp_eq (tgt := 20) hx hb dX1_ends_2 (by decide) (fun q1 => ?_) (fun q1 => ?_)
  · rw [if_pos q1] at hf
    exact J20 σ _ _ _ hW (lv_sub hl [] rfl) hf
  · rw [if_neg q1] at hf
    refine lv_iload_n hx hb dX1_ends_5 rfl (lv_at hl 0 rfl) ?_
    refine lv_iconst (v := (2 : Int32)) hx hb dX1_ends_6 (by decide) ?_
    refine lv_icmp_eq (tgt := 20) hx hb dX1_ends_7 (by decide) (fun q2 => ?_) (fun q2 => ?_)
    · rw [if_pos q2] at hf
      exact J20 σ _ _ _ hW (lv_sub hl [] rfl) hf
    · rw [if_neg q2] at hf
      refine lv_iload_n hx hb dX1_ends_10 rfl (lv_at hl 0 rfl) ?_
      refine lv_iconst (v := (3 : Int32)) hx hb dX1_ends_11 (by decide) ?_
      refine lv_icmp_eq (tgt := 20) hx hb dX1_ends_12 (by decide) (fun q3 => ?_) (fun q3 => ?_)
      · rw [if_pos q3] at hf
        exact J20 σ _ _ _ hW (lv_sub hl [] rfl) hf
      · rw [if_neg q3] at hf
        refine lv_iload_n hx hb dX1_ends_15 rfl (lv_at hl 0 rfl) ?_
        refine lv_iconst (v := (5 : Int32)) hx hb dX1_ends_16 (by decide) ?_
        refine lv_icmp_ne (tgt := 24) hx hb dX1_ends_17 (by decide) (fun q4 => ?_) (fun q4 => ?_)
        · rw [if_neg q4] at hf
          refine lv_iconst (v := (0 : Int32)) hx hb dX1_ends_24 (by decide) ?_
          exact re_z hx hb hr hlocks hW (by decide) (Option.some.inj hf) dX1_ends_25
        · rw [if_pos q4] at hf
          exact J20 σ _ _ _ hW (lv_sub hl [] rfl) hf
def f_X2_set (o : Nat) (p0 : Int32) (p1 : Int32) (σ : ss_M) : Option ss_M :=
  if gd p0 12 = true then (if gd p0 12 = true then (ss_let (sAu (sAu σ 0 o (upd (sA σ 0 o) (p0).toNatClampNeg p1)) 1 o (upd (sA (sAu σ 0 o (upd (sA σ 0 o) (p0).toNatClampNeg p1)) 1 o) (p0).toNatClampNeg (0 : Int32))) (fun σm3 => some σm3)) else none) else none
def rm_X2_set : Room := { frames := 0, cells := 0, slots := 0, locals := 0 }
theorem hd_X2_set : yX2_set.cls = RX2 ∧ yX2_set.cls ≠ "java/lang/invoke/MethodHandle" ∧ yX2_set.cls ≠ "java/lang/invoke/VarHandle" ∧ (parseMethodDescriptor yX2_set.desc).map (fun d => d.parameters.length) = some 2 := by decide +kernel
set_option maxHeartbeats 4000000 in
set_option maxRecDepth 100000 in
theorem c_X2_set (l : Launch) {D : va_G} {Y : Nat → ClassId} {A : ss_A} (hAD : AD 0 A) {o : Nat} {p0 : Int32} {p1 : Int32} (ho : o < 36) {σ σ' : ss_M} (hf : f_X2_set o p0 p1 σ = some σ') : Met l yX2_set wsX2_set rm_X2_set (Pc0 0 D Y A σ [.ref (A 0 1 o), .int p0, .int p1]) (Qv0 0 D Y A σ') 0 0 (FA 0 A) := by
  rw [f_X2_set] at hf
  refine Met0 (cc := cX2_set) (maxL := 3) (ret := none) (own := RX2) (by decide +kernel) rfl hAD rfl (Nat.le_of_ble_eq_true rfl) ?_
  intro p e s m args below meth c S hr hlocks hW ls hl
  obtain ⟨hx, hb, hml, hown, hts⟩ := id S
  have iX2 : ∀ q ∈ wsX20, q ∈ wsX2_set := fun q h => List.mem_cons_of_mem _ (List.mem_append_right _ (h))
  have hl : lv_has ls 3 [(0, .ref (A 0 1 o)), (1, .int p0), (2, .int p1)] := hl
  refine lv_aload_n hx hb dX2_set_0 rfl (lv_at hl 0 rfl) ?_
  refine gf_X2_kinds hx hb hts hown hW (kS_in ho) iX2 (List.mem_of_getElem? (i := 1) rfl) dX2_set_1 ?_
  refine lv_iload_n hx hb dX2_set_4 rfl (lv_at hl 1 rfl) ?_
  refine lv_iload_n hx hb dX2_set_5 rfl (lv_at hl 2 rfl) ?_
  obtain ⟨g1, hf⟩ := ss_if hf
  refine rs_i hx hb hW (kS_in ho) g1 dX2_set_6 (fun H locs hW => ?_)
  refine lv_aload_n hx hb dX2_set_7 rfl (lv_at hl 0 rfl) ?_
  refine gf_X2_reads hx hb hts hown hW (kS_in ho) iX2 (List.mem_of_getElem? (i := 2) rfl) dX2_set_8 ?_
  refine lv_iload_n hx hb dX2_set_11 rfl (lv_at hl 1 rfl) ?_
  refine lv_iconst (v := (0 : Int32)) hx hb dX2_set_12 (by decide) ?_
  obtain ⟨g2, hf⟩ := ss_if hf
  refine rs_i hx hb hW (kS_in ho) g2 dX2_set_13 (fun H locs hW => ?_)
  obtain ⟨σm3, eσm3, hf⟩ := ss_let_some hf
  rw [← eσm3] at hW
  exact re_v hx hb hr hlocks hW (Option.some.inj hf) dX2_set_14
def f_X2_readOnce (o : Nat) (p0 : Int32) (σ : ss_M) : Option ss_M :=
  if gd p0 12 = true then (if (sA σ 0 o (p0).toNatClampNeg) = (-1 : Int32) then (some σ) else (if gd p0 12 = true then (if gd p0 12 = true then (if gd p0 12 = true then (ss_bd (f_X1_lasts (sA σ 0 o (p0).toNatClampNeg) (sAu σ 1 o (upd (sA σ 1 o) (p0).toNatClampNeg ((sA σ 1 o (p0).toNatClampNeg) + (1 : Int32))))) (fun r6 σ6 => if (sA (sAu σ 1 o (upd (sA σ 1 o) (p0).toNatClampNeg ((sA σ 1 o (p0).toNatClampNeg) + (1 : Int32)))) 1 o (p0).toNatClampNeg) = r6 then (Option.bind (f_X2_set o p0 (-1 : Int32) σ6) (fun σ8 => some σ8)) else (some σ6))) else none) else none) else none)) else none
def rm_X2_readOnce : Room := { frames := 2, cells := 0, slots := 0, locals := 100 }
theorem hd_X2_readOnce : yX2_readOnce.cls = RX2 ∧ yX2_readOnce.cls ≠ "java/lang/invoke/MethodHandle" ∧ yX2_readOnce.cls ≠ "java/lang/invoke/VarHandle" ∧ (parseMethodDescriptor yX2_readOnce.desc).map (fun d => d.parameters.length) = some 1 := by decide +kernel
set_option maxHeartbeats 4000000 in
set_option maxRecDepth 100000 in
theorem c_X2_readOnce (l : Launch) {D : va_G} {Y : Nat → ClassId} {A : ss_A} (hAD : AD 0 A) {o : Nat} {p0 : Int32} (ho : o < 36) {σ σ' : ss_M} (hf : f_X2_readOnce o p0 σ = some σ') : Met l yX2_readOnce wsX2_readOnce rm_X2_readOnce (Pc0 0 D Y A σ [.ref (A 0 1 o), .int p0]) (Qv0 0 D Y A σ') 0 0 (FA 0 A) := by
  rw [f_X2_readOnce] at hf
  refine Met0 (cc := cX2_readOnce) (maxL := 3) (ret := none) (own := RX2) (by decide +kernel) rfl hAD rfl (Nat.le_of_ble_eq_true rfl) ?_
  intro p e s m args below meth c S hr hlocks hW ls hl
  obtain ⟨hx, hb, hml, hown, hts⟩ := id S
  have iX2 : ∀ q ∈ wsX20, q ∈ wsX2_readOnce := fun q h => List.mem_cons_of_mem _ (List.mem_append_right _ (h))
  have hl : lv_has ls 3 [(0, .ref (A 0 1 o)), (1, .int p0)] := hl
  refine lv_aload_n hx hb dX2_readOnce_0 rfl (lv_at hl 0 rfl) ?_
  refine gf_X2_kinds hx hb hts hown hW (kS_in ho) iX2 (List.mem_of_getElem? (i := 1) rfl) dX2_readOnce_1 ?_
  refine lv_iload_n hx hb dX2_readOnce_4 rfl (lv_at hl 1 rfl) ?_
  obtain ⟨g1, hf⟩ := ss_if hf
  refine ra_i hx hb hW (kS_in ho) g1 dX2_readOnce_5 ?_
  refine lv_istore_n (lv' := [(2, .int (sA σ 0 o (p0).toNatClampNeg)), (0, .ref (A 0 1 o)), (1, .int p0)]) hx hb dX2_readOnce_6 rfl hl (by decide) rfl (fun ls hl => ?_)
  refine lv_iload_n hx hb dX2_readOnce_7 rfl (lv_at hl 0 rfl) ?_
  refine lv_iconst (v := (-1 : Int32)) hx hb dX2_readOnce_8 (by decide) ?_
  refine lv_icmp_ne (tgt := 13) hx hb dX2_readOnce_9 (by decide) (fun q2 => ?_) (fun q2 => ?_)
  · rw [if_neg q2] at hf
    refine lv_aload_n hx hb dX2_readOnce_13 rfl (lv_at hl 1 rfl) ?_
    refine gf_X2_reads hx hb hts hown hW (kS_in ho) iX2 (List.mem_of_getElem? (i := 2) rfl) dX2_readOnce_14 ?_
    refine lv_iload_n hx hb dX2_readOnce_17 rfl (lv_at hl 2 rfl) ?_
    refine lv_dup2_11 hx hb dX2_readOnce_18 rfl rfl ?_
    obtain ⟨g3, hf⟩ := ss_if hf
    refine ra_i hx hb hW (kS_in ho) g3 dX2_readOnce_19 ?_
    refine lv_iconst (v := (1 : Int32)) hx hb dX2_readOnce_20 (by decide) ?_
    refine lv_iadd hx hb dX2_readOnce_21 ?_
    obtain ⟨g4, hf⟩ := ss_if hf
    refine rs_i hx hb hW (kS_in ho) g4 dX2_readOnce_22 (fun H locs hW => ?_)
    refine lv_aload_n hx hb dX2_readOnce_23 rfl (lv_at hl 1 rfl) ?_
    refine gf_X2_reads hx hb hts hown hW (kS_in ho) iX2 (List.mem_of_getElem? (i := 2) rfl) dX2_readOnce_24 ?_
    refine lv_iload_n hx hb dX2_readOnce_27 rfl (lv_at hl 2 rfl) ?_
    obtain ⟨g5, hf⟩ := ss_if hf
    refine ra_i hx hb hW (kS_in ho) g5 dX2_readOnce_28 ?_
    refine lv_iload_n hx hb dX2_readOnce_29 rfl (lv_at hl 0 rfl) ?_
    obtain ⟨r6, σ6, hf6, hf⟩ := ss_bd_some hf
    refine rt_i S (c_X1_lasts l hAD  hf6) (va_cwS 1 hts gX2_readOnce_X1_lasts rfl rfl rfl hd_X1_lasts ⟨(Nat.le_of_ble_eq_true rfl), (Nat.le_of_ble_eq_true rfl)⟩) hW rfl rfl hl.1 (Nat.le_of_ble_eq_true rfl) ⟨Nat.zero_le _, Nat.zero_le _⟩ dX2_readOnce_30 (fun H locs hW => ?_)
    refine lv_icmp_ne (tgt := 42) hx hb dX2_readOnce_33 (by decide) (fun q7 => ?_) (fun q7 => ?_)
    · rw [if_neg q7] at hf
      exact re_v hx hb hr hlocks hW (Option.some.inj hf) dX2_readOnce_42
    · rw [if_pos q7] at hf
      refine lv_aload_n hx hb dX2_readOnce_36 rfl (lv_at hl 1 rfl) ?_
      refine lv_iload_n hx hb dX2_readOnce_37 rfl (lv_at hl 2 rfl) ?_
      refine lv_iconst (v := (-1 : Int32)) hx hb dX2_readOnce_38 (by decide) ?_
      obtain ⟨σ8, hf8, hf⟩ := ss_bind hf
      refine rv_v S (c_X2_set l hAD ho hf8) (cwV 2 hts gX2_readOnce_X2_set rfl rfl rfl hd_X2_set ⟨(Nat.le_of_ble_eq_true rfl), (Nat.le_of_ble_eq_true rfl)⟩) hW (kS_in ho) rfl rfl rfl hl.1 (Nat.le_of_ble_eq_true rfl) ⟨Nat.zero_le _, Nat.zero_le _⟩ dX2_readOnce_39 (fun H locs hW => ?_)
      exact re_v hx hb hr hlocks hW (Option.some.inj hf) dX2_readOnce_42
  · rw [if_pos q2] at hf
    exact re_v hx hb hr hlocks hW (Option.some.inj hf) dX2_readOnce_12
def f_X2_copy (o : Nat) (o0 : Nat) (σ : ss_M) : Option ss_M :=
  if gdc (0 : Int32) (0 : Int32) (12 : Int32) 12 12 = true then (ss_let (sAu (sGu (sGu σ 0 o (sG σ 0 o0)) 1 o (sG (sGu σ 0 o (sG σ 0 o0)) 1 o0)) 0 o (va_cpy (sA (sGu (sGu σ 0 o (sG σ 0 o0)) 1 o (sG (sGu σ 0 o (sG σ 0 o0)) 1 o0)) 0 o0) (sA (sGu (sGu σ 0 o (sG σ 0 o0)) 1 o (sG (sGu σ 0 o (sG σ 0 o0)) 1 o0)) 0 o) ((0 : Int32)).toNatClampNeg ((0 : Int32)).toNatClampNeg ((12 : Int32)).toNatClampNeg)) (fun σm2 => if gdc (0 : Int32) (0 : Int32) (12 : Int32) 12 12 = true then (some (sAu σm2 1 o (va_cpy (sA σm2 1 o0) (sA σm2 1 o) ((0 : Int32)).toNatClampNeg ((0 : Int32)).toNatClampNeg ((12 : Int32)).toNatClampNeg))) else none)) else none
def rm_X2_copy : Room := { frames := 2, cells := 0, slots := 0, locals := 100 }
theorem hd_X2_copy : yX2_copy.cls = RX2 ∧ yX2_copy.cls ≠ "java/lang/invoke/MethodHandle" ∧ yX2_copy.cls ≠ "java/lang/invoke/VarHandle" ∧ (parseMethodDescriptor yX2_copy.desc).map (fun d => d.parameters.length) = some 1 := by decide +kernel
set_option maxHeartbeats 4000000 in
set_option maxRecDepth 100000 in
theorem c_X2_copy (l : Launch) {D : va_G} {Y : Nat → ClassId} {A : ss_A} (hAD : AD 0 A) {o : Nat} {o0 : Nat} (ho : o < 36) (ho0 : o0 < 36) {σ σ' : ss_M} (hf : f_X2_copy o o0 σ = some σ') : Met l yX2_copy wsX2_copy rm_X2_copy (Pc0 0 D Y A σ [.ref (A 0 1 o), .ref (A 0 1 o0)]) (Qv0 0 D Y A σ') 0 0 (FA 0 A) := by
  rw [f_X2_copy] at hf
  refine Met0 (cc := cX2_copy) (maxL := 2) (ret := none) (own := RX2) (by decide +kernel) rfl hAD rfl (Nat.le_of_ble_eq_true rfl) ?_
  intro p e s m args below meth c S hr hlocks hW ls hl
  obtain ⟨hx, hb, hml, hown, hts⟩ := id S
  have iX2 : ∀ q ∈ wsX20, q ∈ wsX2_copy := fun q h => List.mem_cons_of_mem _ (List.mem_append_right _ (h))
  have hl : lv_has ls 2 [(0, .ref (A 0 1 o)), (1, .ref (A 0 1 o0))] := hl
  refine lv_aload_n hx hb dX2_copy_0 rfl (lv_at hl 0 rfl) ?_
  refine lv_aload_n hx hb dX2_copy_1 rfl (lv_at hl 1 rfl) ?_
  refine gf_X2_purse hx hb hts hown hW (kS_in ho0) iX2 (List.mem_of_getElem? (i := 1) rfl) dX2_copy_2 ?_
  refine pf_X2_purse hx hb hts hown hW (kS_in ho) iX2 (List.mem_of_getElem? (i := 1) rfl) dX2_copy_5 (fun H locs hW => ?_)
  refine lv_aload_n hx hb dX2_copy_8 rfl (lv_at hl 0 rfl) ?_
  refine lv_aload_n hx hb dX2_copy_9 rfl (lv_at hl 1 rfl) ?_
  refine gf_X2_week hx hb hts hown hW (kS_in ho0) iX2 (List.mem_of_getElem? (i := 2) rfl) dX2_copy_10 ?_
  refine pf_X2_week hx hb hts hown hW (kS_in ho) iX2 (List.mem_of_getElem? (i := 2) rfl) dX2_copy_13 (fun H locs hW => ?_)
  refine lv_aload_n hx hb dX2_copy_16 rfl (lv_at hl 1 rfl) ?_
  refine gf_X2_kinds hx hb hts hown hW (kS_in ho0) iX2 (List.mem_of_getElem? (i := 3) rfl) dX2_copy_17 ?_
  refine lv_iconst (v := (0 : Int32)) hx hb dX2_copy_20 (by decide) ?_
  refine lv_aload_n hx hb dX2_copy_21 rfl (lv_at hl 0 rfl) ?_
  refine gf_X2_kinds hx hb hts hown hW (kS_in ho) iX2 (List.mem_of_getElem? (i := 3) rfl) dX2_copy_22 ?_
  refine lv_iconst (v := (0 : Int32)) hx hb dX2_copy_25 (by decide) ?_
  refine lv_bipush (v := (12 : Int32)) hx hb dX2_copy_26 (by decide) ?_
  obtain ⟨g1, hf⟩ := ss_if hf
  refine rcp hx hb hts hown (hml.trans hl.1.symm) (List.mem_of_getElem? (i := 4) rfl) (List.mem_of_getElem? (i := 5) rfl) (List.mem_of_getElem? (i := 6) rfl) (List.mem_of_getElem? (i := 7) rfl) hW (kS_in ho0) (kS_in ho) g1 (Nat.le_of_ble_eq_true rfl) (Nat.le_of_ble_eq_true rfl) dX2_copy_28 (fun H locs hW => ?_)
  obtain ⟨σm2, eσm2, hf⟩ := ss_let_some hf
  rw [← eσm2] at hW
  refine lv_aload_n hx hb dX2_copy_31 rfl (lv_at hl 1 rfl) ?_
  refine gf_X2_reads hx hb hts hown hW (kS_in ho0) iX2 (List.mem_of_getElem? (i := 8) rfl) dX2_copy_32 ?_
  refine lv_iconst (v := (0 : Int32)) hx hb dX2_copy_35 (by decide) ?_
  refine lv_aload_n hx hb dX2_copy_36 rfl (lv_at hl 0 rfl) ?_
  refine gf_X2_reads hx hb hts hown hW (kS_in ho) iX2 (List.mem_of_getElem? (i := 8) rfl) dX2_copy_37 ?_
  refine lv_iconst (v := (0 : Int32)) hx hb dX2_copy_40 (by decide) ?_
  refine lv_bipush (v := (12 : Int32)) hx hb dX2_copy_41 (by decide) ?_
  obtain ⟨g3, hf⟩ := ss_if hf
  refine rcp hx hb hts hown (hml.trans hl.1.symm) (List.mem_of_getElem? (i := 4) rfl) (List.mem_of_getElem? (i := 5) rfl) (List.mem_of_getElem? (i := 6) rfl) (List.mem_of_getElem? (i := 7) rfl) hW (kS_in ho0) (kS_in ho) g3 (Nat.le_of_ble_eq_true rfl) (Nat.le_of_ble_eq_true rfl) dX2_copy_43 (fun H locs hW => ?_)
  exact re_v hx hb hr hlocks hW (Option.some.inj hf) dX2_copy_46
end
