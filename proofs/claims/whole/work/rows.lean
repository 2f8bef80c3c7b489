section
-- ===== PART A: goes FIRST, ahead of the names: the tables' words, and 'selects' of the private methods out of them =====
/-- a private method of a class that the tables say can be made, by its rows of tables_1 -/
def lw_okq (q : MethodName × Nat) : Prop := (q.1.cls ≠ "java/lang/invoke/MethodHandle" ∧ q.1.cls ≠ "java/lang/invoke/VarHandle") ∧ Cond.instantiable q.1.cls q.2 ∈ tables_1 ∧ Cond.privateMethod q.1 ∈ tables_1 ∧ Cond.instanceMethod q.1 ∈ tables_1
theorem lw_p0 : lw_okq (⟨"SoldStops", "bad", "(I)I"⟩, 12) := ⟨⟨by decide +kernel, by decide +kernel⟩, List.mem_of_getElem? (i := 18) (by decide +kernel), List.mem_of_getElem? (i := 270) (by decide +kernel), List.mem_of_getElem? (i := 271) (by decide +kernel)⟩
theorem lw_p1 : lw_okq (⟨"SoldStops", "full", "(I)I"⟩, 12) := ⟨⟨by decide +kernel, by decide +kernel⟩, List.mem_of_getElem? (i := 18) (by decide +kernel), List.mem_of_getElem? (i := 289) (by decide +kernel), List.mem_of_getElem? (i := 290) (by decide +kernel)⟩
theorem lw_p2 : lw_okq (⟨"SoldStops$Text", "next", "()V"⟩, 10) := ⟨⟨by decide +kernel, by decide +kernel⟩, List.mem_of_getElem? (i := 110) (by decide +kernel), List.mem_of_getElem? (i := 348) (by decide +kernel), List.mem_of_getElem? (i := 349) (by decide +kernel)⟩
theorem lw_p3 : lw_okq (⟨"SoldStops$Text", "runEnd", "(III)I"⟩, 10) := ⟨⟨by decide +kernel, by decide +kernel⟩, List.mem_of_getElem? (i := 110) (by decide +kernel), List.mem_of_getElem? (i := 352) (by decide +kernel), List.mem_of_getElem? (i := 353) (by decide +kernel)⟩
theorem lw_p4 : lw_okq (⟨"SoldStops$Text", "wordHere", "()I"⟩, 10) := ⟨⟨by decide +kernel, by decide +kernel⟩, List.mem_of_getElem? (i := 110) (by decide +kernel), List.mem_of_getElem? (i := 356) (by decide +kernel), List.mem_of_getElem? (i := 357) (by decide +kernel)⟩
theorem lw_p5 : lw_okq (⟨"SoldStops$Text", "isHere", "(Ljava/lang/String;)Z"⟩, 10) := ⟨⟨by decide +kernel, by decide +kernel⟩, List.mem_of_getElem? (i := 110) (by decide +kernel), List.mem_of_getElem? (i := 361) (by decide +kernel), List.mem_of_getElem? (i := 362) (by decide +kernel)⟩
theorem lw_p6 : lw_okq (⟨"SoldStops$Text", "numberHere", "()I"⟩, 10) := ⟨⟨by decide +kernel, by decide +kernel⟩, List.mem_of_getElem? (i := 110) (by decide +kernel), List.mem_of_getElem? (i := 415) (by decide +kernel), List.mem_of_getElem? (i := 416) (by decide +kernel)⟩
theorem lw_p7 : lw_okq (⟨"SoldStops$Text", "mayBegin", "()Z"⟩, 10) := ⟨⟨by decide +kernel, by decide +kernel⟩, List.mem_of_getElem? (i := 110) (by decide +kernel), List.mem_of_getElem? (i := 419) (by decide +kernel), List.mem_of_getElem? (i := 420) (by decide +kernel)⟩
theorem lw_p8 : lw_okq (⟨"SoldStops$Text", "takeItem", "()Z"⟩, 10) := ⟨⟨by decide +kernel, by decide +kernel⟩, List.mem_of_getElem? (i := 110) (by decide +kernel), List.mem_of_getElem? (i := 423) (by decide +kernel), List.mem_of_getElem? (i := 424) (by decide +kernel)⟩
theorem lw_p9 : lw_okq (⟨"SoldStops", "tellItem", "(I)Z"⟩, 12) := ⟨⟨by decide +kernel, by decide +kernel⟩, List.mem_of_getElem? (i := 18) (by decide +kernel), List.mem_of_getElem? (i := 427) (by decide +kernel), List.mem_of_getElem? (i := 428) (by decide +kernel)⟩
theorem lw_p10 : lw_okq (⟨"SoldStops", "no", "(I)I"⟩, 12) := ⟨⟨by decide +kernel, by decide +kernel⟩, List.mem_of_getElem? (i := 18) (by decide +kernel), List.mem_of_getElem? (i := 455) (by decide +kernel), List.mem_of_getElem? (i := 456) (by decide +kernel)⟩
theorem lw_p11 : lw_okq (⟨"SoldStops$Page", "dropOldest", "()V"⟩, 9) := ⟨⟨by decide +kernel, by decide +kernel⟩, List.mem_of_getElem? (i := 26) (by decide +kernel), List.mem_of_getElem? (i := 463) (by decide +kernel), List.mem_of_getElem? (i := 464) (by decide +kernel)⟩
theorem lw_p12 : lw_okq (⟨"SoldStops$Plan", "choose", "(LSoldStops$Page;IIIZ)V"⟩, 5) := ⟨⟨by decide +kernel, by decide +kernel⟩, List.mem_of_getElem? (i := 153) (by decide +kernel), List.mem_of_getElem? (i := 567) (by decide +kernel), List.mem_of_getElem? (i := 568) (by decide +kernel)⟩
theorem lw_p13 : lw_okq (⟨"SoldStops$Plan", "spread", "(LSoldStops$Page;II)V"⟩, 5) := ⟨⟨by decide +kernel, by decide +kernel⟩, List.mem_of_getElem? (i := 153) (by decide +kernel), List.mem_of_getElem? (i := 594) (by decide +kernel), List.mem_of_getElem? (i := 595) (by decide +kernel)⟩
theorem lw_p14 : lw_okq (⟨"SoldStops$Order", "keepRow", "(II)V"⟩, 4) := ⟨⟨by decide +kernel, by decide +kernel⟩, List.mem_of_getElem? (i := 177) (by decide +kernel), List.mem_of_getElem? (i := 611) (by decide +kernel), List.mem_of_getElem? (i := 612) (by decide +kernel)⟩
theorem lw_p15 : lw_okq (⟨"SoldStops", "mostAlike", "(II)I"⟩, 12) := ⟨⟨by decide +kernel, by decide +kernel⟩, List.mem_of_getElem? (i := 18) (by decide +kernel), List.mem_of_getElem? (i := 647) (by decide +kernel), List.mem_of_getElem? (i := 648) (by decide +kernel)⟩
def lw_privs_1 : List (MethodName × Nat) := [(⟨"SoldStops", "bad", "(I)I"⟩, 12), (⟨"SoldStops", "full", "(I)I"⟩, 12), (⟨"SoldStops$Text", "next", "()V"⟩, 10), (⟨"SoldStops$Text", "runEnd", "(III)I"⟩, 10), (⟨"SoldStops$Text", "wordHere", "()I"⟩, 10), (⟨"SoldStops$Text", "isHere", "(Ljava/lang/String;)Z"⟩, 10), (⟨"SoldStops$Text", "numberHere", "()I"⟩, 10), (⟨"SoldStops$Text", "mayBegin", "()Z"⟩, 10), (⟨"SoldStops$Text", "takeItem", "()Z"⟩, 10), (⟨"SoldStops", "tellItem", "(I)Z"⟩, 12), (⟨"SoldStops", "no", "(I)I"⟩, 12), (⟨"SoldStops$Page", "dropOldest", "()V"⟩, 9), (⟨"SoldStops$Plan", "choose", "(LSoldStops$Page;IIIZ)V"⟩, 5), (⟨"SoldStops$Plan", "spread", "(LSoldStops$Page;II)V"⟩, 5), (⟨"SoldStops$Order", "keepRow", "(II)V"⟩, 4), (⟨"SoldStops", "mostAlike", "(II)I"⟩, 12)]
theorem lw_r1 : ∀ q ∈ lw_privs_1, lw_okq q := List.forall_mem_cons.mpr ⟨lw_p0, List.forall_mem_cons.mpr ⟨lw_p1, List.forall_mem_cons.mpr ⟨lw_p2, List.forall_mem_cons.mpr ⟨lw_p3, List.forall_mem_cons.mpr ⟨lw_p4, List.forall_mem_cons.mpr ⟨lw_p5, List.forall_mem_cons.mpr ⟨lw_p6, List.forall_mem_cons.mpr ⟨lw_p7, List.forall_mem_cons.mpr ⟨lw_p8, List.forall_mem_cons.mpr ⟨lw_p9, List.forall_mem_cons.mpr ⟨lw_p10, List.forall_mem_cons.mpr ⟨lw_p11, List.forall_mem_cons.mpr ⟨lw_p12, List.forall_mem_cons.mpr ⟨lw_p13, List.forall_mem_cons.mpr ⟨lw_p14, List.forall_mem_cons.mpr ⟨lw_p15, fun _ h => absurd h List.not_mem_nil⟩⟩⟩⟩⟩⟩⟩⟩⟩⟩⟩⟩⟩⟩⟩⟩
theorem lw_p16 : lw_okq (⟨"SoldStops$Chance", "step", "(LSoldStops$Page;III)V"⟩, 4) := ⟨⟨by decide +kernel, by decide +kernel⟩, List.mem_of_getElem? (i := 198) (by decide +kernel), List.mem_of_getElem? (i := 674) (by decide +kernel), List.mem_of_getElem? (i := 675) (by decide +kernel)⟩
theorem lw_p17 : lw_okq (⟨"SoldStops$Chance", "setLowest", "(JJ)V"⟩, 4) := ⟨⟨by decide +kernel, by decide +kernel⟩, List.mem_of_getElem? (i := 198) (by decide +kernel), List.mem_of_getElem? (i := 681) (by decide +kernel), List.mem_of_getElem? (i := 682) (by decide +kernel)⟩
theorem lw_p18 : lw_okq (⟨"SoldStops", "countOf", "(I)I"⟩, 12) := ⟨⟨by decide +kernel, by decide +kernel⟩, List.mem_of_getElem? (i := 18) (by decide +kernel), List.mem_of_getElem? (i := 716) (by decide +kernel), List.mem_of_getElem? (i := 717) (by decide +kernel)⟩
theorem lw_p19 : lw_okq (⟨"SoldStopsModel", "begin", "(II)V"⟩, 32) := ⟨⟨by decide +kernel, by decide +kernel⟩, List.mem_of_getElem? (i := 730) (by decide +kernel), List.mem_of_getElem? (i := 736) (by decide +kernel), List.mem_of_getElem? (i := 737) (by decide +kernel)⟩
theorem lw_p20 : lw_okq (⟨"SoldStopsModel", "bad", "()I"⟩, 32) := ⟨⟨by decide +kernel, by decide +kernel⟩, List.mem_of_getElem? (i := 730) (by decide +kernel), List.mem_of_getElem? (i := 847) (by decide +kernel), List.mem_of_getElem? (i := 848) (by decide +kernel)⟩
theorem lw_p21 : lw_okq (⟨"SoldStopsModel", "full", "()I"⟩, 32) := ⟨⟨by decide +kernel, by decide +kernel⟩, List.mem_of_getElem? (i := 730) (by decide +kernel), List.mem_of_getElem? (i := 855) (by decide +kernel), List.mem_of_getElem? (i := 856) (by decide +kernel)⟩
theorem lw_p22 : lw_okq (⟨"SoldStopsModel", "add", "(I)I"⟩, 32) := ⟨⟨by decide +kernel, by decide +kernel⟩, List.mem_of_getElem? (i := 730) (by decide +kernel), List.mem_of_getElem? (i := 859) (by decide +kernel), List.mem_of_getElem? (i := 860) (by decide +kernel)⟩
theorem lw_p23 : lw_okq (⟨"SoldStopsModel", "isPiece", "(I)Z"⟩, 32) := ⟨⟨by decide +kernel, by decide +kernel⟩, List.mem_of_getElem? (i := 730) (by decide +kernel), List.mem_of_getElem? (i := 879) (by decide +kernel), List.mem_of_getElem? (i := 880) (by decide +kernel)⟩
theorem lw_p24 : lw_okq (⟨"SoldStopsModel", "ten", "()I"⟩, 32) := ⟨⟨by decide +kernel, by decide +kernel⟩, List.mem_of_getElem? (i := 730) (by decide +kernel), List.mem_of_getElem? (i := 886) (by decide +kernel), List.mem_of_getElem? (i := 887) (by decide +kernel)⟩
theorem lw_p25 : lw_okq (⟨"SoldStopsModel", "mark", "(II)V"⟩, 32) := ⟨⟨by decide +kernel, by decide +kernel⟩, List.mem_of_getElem? (i := 730) (by decide +kernel), List.mem_of_getElem? (i := 890) (by decide +kernel), List.mem_of_getElem? (i := 891) (by decide +kernel)⟩
theorem lw_p26 : lw_okq (⟨"SoldStopsModel", "readsPage", "()Z"⟩, 32) := ⟨⟨by decide +kernel, by decide +kernel⟩, List.mem_of_getElem? (i := 730) (by decide +kernel), List.mem_of_getElem? (i := 906) (by decide +kernel), List.mem_of_getElem? (i := 907) (by decide +kernel)⟩
theorem lw_p27 : lw_okq (⟨"SoldStopsModel", "skip", "()V"⟩, 32) := ⟨⟨by decide +kernel, by decide +kernel⟩, List.mem_of_getElem? (i := 730) (by decide +kernel), List.mem_of_getElem? (i := 910) (by decide +kernel), List.mem_of_getElem? (i := 911) (by decide +kernel)⟩
theorem lw_p28 : lw_okq (⟨"SoldStopsModel", "here", "()I"⟩, 32) := ⟨⟨by decide +kernel, by decide +kernel⟩, List.mem_of_getElem? (i := 730) (by decide +kernel), List.mem_of_getElem? (i := 914) (by decide +kernel), List.mem_of_getElem? (i := 915) (by decide +kernel)⟩
theorem lw_p29 : lw_okq (⟨"SoldStopsModel", "readsItem", "()Z"⟩, 32) := ⟨⟨by decide +kernel, by decide +kernel⟩, List.mem_of_getElem? (i := 730) (by decide +kernel), List.mem_of_getElem? (i := 918) (by decide +kernel), List.mem_of_getElem? (i := 919) (by decide +kernel)⟩
theorem lw_p30 : lw_okq (⟨"SoldStopsModel", "wordHere", "()I"⟩, 32) := ⟨⟨by decide +kernel, by decide +kernel⟩, List.mem_of_getElem? (i := 730) (by decide +kernel), List.mem_of_getElem? (i := 922) (by decide +kernel), List.mem_of_getElem? (i := 923) (by decide +kernel)⟩
theorem lw_p31 : lw_okq (⟨"SoldStopsModel", "wordSize", "()I"⟩, 32) := ⟨⟨by decide +kernel, by decide +kernel⟩, List.mem_of_getElem? (i := 730) (by decide +kernel), List.mem_of_getElem? (i := 926) (by decide +kernel), List.mem_of_getElem? (i := 927) (by decide +kernel)⟩
def lw_privs_2 : List (MethodName × Nat) := [(⟨"SoldStops$Chance", "step", "(LSoldStops$Page;III)V"⟩, 4), (⟨"SoldStops$Chance", "setLowest", "(JJ)V"⟩, 4), (⟨"SoldStops", "countOf", "(I)I"⟩, 12), (⟨"SoldStopsModel", "begin", "(II)V"⟩, 32), (⟨"SoldStopsModel", "bad", "()I"⟩, 32), (⟨"SoldStopsModel", "full", "()I"⟩, 32), (⟨"SoldStopsModel", "add", "(I)I"⟩, 32), (⟨"SoldStopsModel", "isPiece", "(I)Z"⟩, 32), (⟨"SoldStopsModel", "ten", "()I"⟩, 32), (⟨"SoldStopsModel", "mark", "(II)V"⟩, 32), (⟨"SoldStopsModel", "readsPage", "()Z"⟩, 32), (⟨"SoldStopsModel", "skip", "()V"⟩, 32), (⟨"SoldStopsModel", "here", "()I"⟩, 32), (⟨"SoldStopsModel", "readsItem", "()Z"⟩, 32), (⟨"SoldStopsModel", "wordHere", "()I"⟩, 32), (⟨"SoldStopsModel", "wordSize", "()I"⟩, 32)]
theorem lw_r2 : ∀ q ∈ lw_privs_2, lw_okq q := List.forall_mem_cons.mpr ⟨lw_p16, List.forall_mem_cons.mpr ⟨lw_p17, List.forall_mem_cons.mpr ⟨lw_p18, List.forall_mem_cons.mpr ⟨lw_p19, List.forall_mem_cons.mpr ⟨lw_p20, List.forall_mem_cons.mpr ⟨lw_p21, List.forall_mem_cons.mpr ⟨lw_p22, List.forall_mem_cons.mpr ⟨lw_p23, List.forall_mem_cons.mpr ⟨lw_p24, List.forall_mem_cons.mpr ⟨lw_p25, List.forall_mem_cons.mpr ⟨lw_p26, List.forall_mem_cons.mpr ⟨lw_p27, List.forall_mem_cons.mpr ⟨lw_p28, List.forall_mem_cons.mpr ⟨lw_p29, List.forall_mem_cons.mpr ⟨lw_p30, List.forall_mem_cons.mpr ⟨lw_p31, fun _ h => absurd h List.not_mem_nil⟩⟩⟩⟩⟩⟩⟩⟩⟩⟩⟩⟩⟩⟩⟩⟩
theorem lw_p32 : lw_okq (⟨"SoldStopsModel", "letter", "(I)I"⟩, 32) := ⟨⟨by decide +kernel, by decide +kernel⟩, List.mem_of_getElem? (i := 730) (by decide +kernel), List.mem_of_getElem? (i := 933) (by decide +kernel), List.mem_of_getElem? (i := 934) (by decide +kernel)⟩
theorem lw_p33 : lw_okq (⟨"SoldStopsModel", "number", "()Z"⟩, 32) := ⟨⟨by decide +kernel, by decide +kernel⟩, List.mem_of_getElem? (i := 730) (by decide +kernel), List.mem_of_getElem? (i := 937) (by decide +kernel), List.mem_of_getElem? (i := 938) (by decide +kernel)⟩
theorem lw_p34 : lw_okq (⟨"SoldStopsModel", "refusedItem", "()I"⟩, 32) := ⟨⟨by decide +kernel, by decide +kernel⟩, List.mem_of_getElem? (i := 730) (by decide +kernel), List.mem_of_getElem? (i := 944) (by decide +kernel), List.mem_of_getElem? (i := 945) (by decide +kernel)⟩
theorem lw_p35 : lw_okq (⟨"SoldStopsModel", "costOf", "(I)I"⟩, 32) := ⟨⟨by decide +kernel, by decide +kernel⟩, List.mem_of_getElem? (i := 730) (by decide +kernel), List.mem_of_getElem? (i := 952) (by decide +kernel), List.mem_of_getElem? (i := 953) (by decide +kernel)⟩
theorem lw_p36 : lw_okq (⟨"SoldStopsModel", "no", "()I"⟩, 32) := ⟨⟨by decide +kernel, by decide +kernel⟩, List.mem_of_getElem? (i := 730) (by decide +kernel), List.mem_of_getElem? (i := 956) (by decide +kernel), List.mem_of_getElem? (i := 957) (by decide +kernel)⟩
theorem lw_p37 : lw_okq (⟨"SoldStopsModel", "notes", "()V"⟩, 32) := ⟨⟨by decide +kernel, by decide +kernel⟩, List.mem_of_getElem? (i := 730) (by decide +kernel), List.mem_of_getElem? (i := 960) (by decide +kernel), List.mem_of_getElem? (i := 961) (by decide +kernel)⟩
theorem lw_p38 : lw_okq (⟨"SoldStopsModel", "stuckBy", "(II)I"⟩, 32) := ⟨⟨by decide +kernel, by decide +kernel⟩, List.mem_of_getElem? (i := 730) (by decide +kernel), List.mem_of_getElem? (i := 1008) (by decide +kernel), List.mem_of_getElem? (i := 1009) (by decide +kernel)⟩
theorem lw_p39 : lw_okq (⟨"SoldStopsModel", "setLeast", "(IZ)V"⟩, 32) := ⟨⟨by decide +kernel, by decide +kernel⟩, List.mem_of_getElem? (i := 730) (by decide +kernel), List.mem_of_getElem? (i := 1023) (by decide +kernel), List.mem_of_getElem? (i := 1024) (by decide +kernel)⟩
theorem lw_p40 : lw_okq (⟨"SoldStopsModel", "optionsAt", "(I)I"⟩, 32) := ⟨⟨by decide +kernel, by decide +kernel⟩, List.mem_of_getElem? (i := 730) (by decide +kernel), List.mem_of_getElem? (i := 1031) (by decide +kernel), List.mem_of_getElem? (i := 1032) (by decide +kernel)⟩
theorem lw_p41 : lw_okq (⟨"SoldStopsModel", "costBy", "(IIIIZ)I"⟩, 32) := ⟨⟨by decide +kernel, by decide +kernel⟩, List.mem_of_getElem? (i := 730) (by decide +kernel), List.mem_of_getElem? (i := 1035) (by decide +kernel), List.mem_of_getElem? (i := 1036) (by decide +kernel)⟩
theorem lw_p42 : lw_okq (⟨"SoldStopsModel", "twenty", "()I"⟩, 32) := ⟨⟨by decide +kernel, by decide +kernel⟩, List.mem_of_getElem? (i := 730) (by decide +kernel), List.mem_of_getElem? (i := 1047) (by decide +kernel), List.mem_of_getElem? (i := 1048) (by decide +kernel)⟩
theorem lw_p43 : lw_okq (⟨"SoldStopsModel", "readBy", "()I"⟩, 32) := ⟨⟨by decide +kernel, by decide +kernel⟩, List.mem_of_getElem? (i := 730) (by decide +kernel), List.mem_of_getElem? (i := 1051) (by decide +kernel), List.mem_of_getElem? (i := 1052) (by decide +kernel)⟩
theorem lw_p44 : lw_okq (⟨"SoldStopsModel", "nextLine", "()Z"⟩, 32) := ⟨⟨by decide +kernel, by decide +kernel⟩, List.mem_of_getElem? (i := 730) (by decide +kernel), List.mem_of_getElem? (i := 1055) (by decide +kernel), List.mem_of_getElem? (i := 1056) (by decide +kernel)⟩
theorem lw_p45 : lw_okq (⟨"SoldStopsModel", "breathSet", "()I"⟩, 32) := ⟨⟨by decide +kernel, by decide +kernel⟩, List.mem_of_getElem? (i := 730) (by decide +kernel), List.mem_of_getElem? (i := 1071) (by decide +kernel), List.mem_of_getElem? (i := 1072) (by decide +kernel)⟩
theorem lw_p46 : lw_okq (⟨"SoldStopsModel", "alike", "(II)I"⟩, 32) := ⟨⟨by decide +kernel, by decide +kernel⟩, List.mem_of_getElem? (i := 730) (by decide +kernel), List.mem_of_getElem? (i := 1080) (by decide +kernel), List.mem_of_getElem? (i := 1081) (by decide +kernel)⟩
theorem lw_p47 : lw_okq (⟨"SoldStopsModel", "lay", "(JJ)V"⟩, 32) := ⟨⟨by decide +kernel, by decide +kernel⟩, List.mem_of_getElem? (i := 730) (by decide +kernel), List.mem_of_getElem? (i := 1099) (by decide +kernel), List.mem_of_getElem? (i := 1100) (by decide +kernel)⟩
def lw_privs_3 : List (MethodName × Nat) := [(⟨"SoldStopsModel", "letter", "(I)I"⟩, 32), (⟨"SoldStopsModel", "number", "()Z"⟩, 32), (⟨"SoldStopsModel", "refusedItem", "()I"⟩, 32), (⟨"SoldStopsModel", "costOf", "(I)I"⟩, 32), (⟨"SoldStopsModel", "no", "()I"⟩, 32), (⟨"SoldStopsModel", "notes", "()V"⟩, 32), (⟨"SoldStopsModel", "stuckBy", "(II)I"⟩, 32), (⟨"SoldStopsModel", "setLeast", "(IZ)V"⟩, 32), (⟨"SoldStopsModel", "optionsAt", "(I)I"⟩, 32), (⟨"SoldStopsModel", "costBy", "(IIIIZ)I"⟩, 32), (⟨"SoldStopsModel", "twenty", "()I"⟩, 32), (⟨"SoldStopsModel", "readBy", "()I"⟩, 32), (⟨"SoldStopsModel", "nextLine", "()Z"⟩, 32), (⟨"SoldStopsModel", "breathSet", "()I"⟩, 32), (⟨"SoldStopsModel", "alike", "(II)I"⟩, 32), (⟨"SoldStopsModel", "lay", "(JJ)V"⟩, 32)]
theorem lw_r3 : ∀ q ∈ lw_privs_3, lw_okq q := List.forall_mem_cons.mpr ⟨lw_p32, List.forall_mem_cons.mpr ⟨lw_p33, List.forall_mem_cons.mpr ⟨lw_p34, List.forall_mem_cons.mpr ⟨lw_p35, List.forall_mem_cons.mpr ⟨lw_p36, List.forall_mem_cons.mpr ⟨lw_p37, List.forall_mem_cons.mpr ⟨lw_p38, List.forall_mem_cons.mpr ⟨lw_p39, List.forall_mem_cons.mpr ⟨lw_p40, List.forall_mem_cons.mpr ⟨lw_p41, List.forall_mem_cons.mpr ⟨lw_p42, List.forall_mem_cons.mpr ⟨lw_p43, List.forall_mem_cons.mpr ⟨lw_p44, List.forall_mem_cons.mpr ⟨lw_p45, List.forall_mem_cons.mpr ⟨lw_p46, List.forall_mem_cons.mpr ⟨lw_p47, fun _ h => absurd h List.not_mem_nil⟩⟩⟩⟩⟩⟩⟩⟩⟩⟩⟩⟩⟩⟩⟩⟩
theorem lw_p48 : lw_okq (⟨"SoldStopsModel", "countOf", "(I)I"⟩, 32) := ⟨⟨by decide +kernel, by decide +kernel⟩, List.mem_of_getElem? (i := 730) (by decide +kernel), List.mem_of_getElem? (i := 1133) (by decide +kernel), List.mem_of_getElem? (i := 1134) (by decide +kernel)⟩
theorem lw_p49 : lw_okq (⟨"SoldStopsModel", "mix", "(J)V"⟩, 32) := ⟨⟨by decide +kernel, by decide +kernel⟩, List.mem_of_getElem? (i := 730) (by decide +kernel), List.mem_of_getElem? (i := 1142) (by decide +kernel), List.mem_of_getElem? (i := 1143) (by decide +kernel)⟩
def lw_privs_4 : List (MethodName × Nat) := [(⟨"SoldStopsModel", "countOf", "(I)I"⟩, 32), (⟨"SoldStopsModel", "mix", "(J)V"⟩, 32)]
theorem lw_r4 : ∀ q ∈ lw_privs_4, lw_okq q := List.forall_mem_cons.mpr ⟨lw_p48, List.forall_mem_cons.mpr ⟨lw_p49, fun _ h => absurd h List.not_mem_nil⟩⟩
def lw_privs : List (MethodName × Nat) := lw_privs_1 ++ (lw_privs_2 ++ (lw_privs_3 ++ (lw_privs_4)))
def lw_tbl : List Cond := k2_sels lw_privs ++ tables_1
theorem lw_privs_ok : ∀ q ∈ lw_privs, lw_okq q := by
  show ∀ q ∈ lw_privs_1 ++ (lw_privs_2 ++ (lw_privs_3 ++ (lw_privs_4))), lw_okq q
  exact List.forall_mem_append.mpr ⟨lw_r1, List.forall_mem_append.mpr ⟨lw_r2, List.forall_mem_append.mpr ⟨lw_r3, lw_r4⟩⟩⟩
-- ===== end of PART A; then your names; then what follows =====
/-! ===== BEGIN words of one list among another's, by their places ===== -/
theorem goodIn_r {big : List Cond} (ws : List Cond) (ps : List Nat) (hp : ws = ps.filterMap (fun i => big[i]?)) (h : ws.all goodWord = true) : GoodIn big ws := by
  intro w hw
  have h1 := List.all_eq_true.mp h w hw
  rw [hp] at hw
  obtain ⟨i, -, hi⟩ := List.mem_filterMap.mp hw
  have hm : w ∈ big := by first | exact List.mem_of_getElem? hi | exact List.getElem?_mem hi
  exact ⟨hm, good_of_word h1⟩
theorem goodIn_app {big a b : List Cond} (ha : GoodIn big a) (hb : GoodIn big b) : GoodIn big (a ++ b) := fun w h => (List.mem_append.mp h).elim (ha w) (hb w)
theorem goodIn_ca {big a b : List Cond} {c : Cond} (ha : GoodIn big (c :: a)) (hb : GoodIn big b) : GoodIn big (c :: (a ++ b)) := fun w h => (List.mem_cons.mp h).elim (fun e => ha w (List.mem_cons.mpr (Or.inl e))) (fun h => (List.mem_append.mp h).elim (fun h => ha w (List.mem_cons.mpr (Or.inr h))) (hb w))
theorem goodIn_sub {big ws : List Cond} (hm : ∀ w ∈ ws, w ∈ big) (h : ws.all goodWord = true) : GoodIn big ws := fun w hw => ⟨hm w hw, good_of_word (List.all_eq_true.mp h w hw)⟩
/-! ===== END ===== -/


/-! ===== BEGIN printed: names, fields, word lists, decode rows ===== -/
def RX0 : String := "SoldStops$Chance"
def TX0 : u_T := fun k => match k with
  | 0 => ("SoldStops$Chance", "above", "J", false)
  | 1 => ("SoldStops$Chance", "below", "J", false)
  | 2 => ("SoldStops$Chance", "now", "[J", true)
  | _ => ("SoldStops$Chance", "then", "[J", true)
def tyX0 : Nat → FieldType := fun k => match k with
  | 0 => .long
  | 1 => .long
  | 2 => .array .long
  | _ => .array .long
abbrev wsX00 : List Cond := u_ws RX0 TX0 4
theorem nmX0 : ∀ a, a < 4 → ∀ b, b < 4 → a ≠ b → (TX0 a).2.1 ≠ (TX0 b).2.1 := by decide +kernel
theorem tyX0_ok : ∀ k, k < 4 → parseFieldDescriptor (TX0 k).2.2.1 = some (tyX0 k) := by decide +kernel
abbrev cX0_init : ByteArray := prog_2_method_1_code
def yX0_init : MethodName := ⟨RX0, "<init>", "()V"⟩
abbrev cX0_reckon : ByteArray := prog_2_method_2_code
def yX0_reckon : MethodName := ⟨RX0, "reckon", "(LSoldStops$Page;I)V"⟩
abbrev cX0_step : ByteArray := prog_2_method_3_code
def yX0_step : MethodName := ⟨RX0, "step", "(LSoldStops$Page;III)V"⟩
abbrev cX0_setLowest : ByteArray := prog_2_method_4_code
def yX0_setLowest : MethodName := ⟨RX0, "setLowest", "(JJ)V"⟩
def RX1 : String := "SoldStops$Kinds"
def TX1 : u_T := fun k => match k with
  | _ => ("", "", "", false)
def tyX1 : Nat → FieldType := fun k => match k with
  | _ => .int
abbrev wsX10 : List Cond := u_ws RX1 TX1 0
theorem nmX1 : ∀ a, a < 0 → ∀ b, b < 0 → a ≠ b → (TX1 a).2.1 ≠ (TX1 b).2.1 := by decide +kernel
theorem tyX1_ok : ∀ k, k < 0 → parseFieldDescriptor (TX1 k).2.2.1 = some (tyX1 k) := by decide +kernel
abbrev cX1_isOne : ByteArray := prog_3_method_2_code
def yX1_isOne : MethodName := ⟨RX1, "isOne", "(I)Z"⟩
abbrev cX1_cost : ByteArray := prog_3_method_3_code
def yX1_cost : MethodName := ⟨RX1, "cost", "(III)I"⟩
abbrev cX1_breathBehind : ByteArray := prog_3_method_4_code
def yX1_breathBehind : MethodName := ⟨RX1, "breathBehind", "(III)I"⟩
abbrev cX1_lasts : ByteArray := prog_3_method_5_code
def yX1_lasts : MethodName := ⟨RX1, "lasts", "(I)I"⟩
abbrev cX1_ends : ByteArray := prog_3_method_6_code
def yX1_ends : MethodName := ⟨RX1, "ends", "(I)Z"⟩
def RX2 : String := "SoldStops$Marks"
def TX2 : u_T := fun k => match k with
  | 0 => ("SoldStops$Marks", "purse", "I", false)
  | 1 => ("SoldStops$Marks", "week", "I", false)
  | 2 => ("SoldStops$Marks", "kinds", "[I", true)
  | _ => ("SoldStops$Marks", "reads", "[I", true)
def tyX2 : Nat → FieldType := fun k => match k with
  | 0 => .int
  | 1 => .int
  | 2 => .array .int
  | _ => .array .int
abbrev wsX20 : List Cond := u_ws RX2 TX2 4
theorem nmX2 : ∀ a, a < 4 → ∀ b, b < 4 → a ≠ b → (TX2 a).2.1 ≠ (TX2 b).2.1 := by decide +kernel
theorem tyX2_ok : ∀ k, k < 4 → parseFieldDescriptor (TX2 k).2.2.1 = some (tyX2 k) := by decide +kernel
abbrev cX2_init : ByteArray := prog_4_method_1_code
def yX2_init : MethodName := ⟨RX2, "<init>", "()V"⟩
abbrev cX2_set : ByteArray := prog_4_method_2_code
def yX2_set : MethodName := ⟨RX2, "set", "(II)V"⟩
abbrev cX2_readOnce : ByteArray := prog_4_method_3_code
def yX2_readOnce : MethodName := ⟨RX2, "readOnce", "(I)V"⟩
abbrev cX2_copy : ByteArray := prog_4_method_4_code
def yX2_copy : MethodName := ⟨RX2, "copy", "(LSoldStops$Marks;)V"⟩
def RX3 : String := "SoldStops$Order"
def TX3 : u_T := fun k => match k with
  | 0 => ("SoldStops$Order", "most", "I", false)
  | 1 => ("SoldStops$Order", "best", "[I", true)
  | 2 => ("SoldStops$Order", "row", "[I", true)
  | _ => ("SoldStops$Order", "used", "[Z", true)
def tyX3 : Nat → FieldType := fun k => match k with
  | 0 => .int
  | 1 => .array .int
  | 2 => .array .int
  | _ => .array .boolean
abbrev wsX30 : List Cond := u_ws RX3 TX3 4
theorem nmX3 : ∀ a, a < 4 → ∀ b, b < 4 → a ≠ b → (TX3 a).2.1 ≠ (TX3 b).2.1 := by decide +kernel
theorem tyX3_ok : ∀ k, k < 4 → parseFieldDescriptor (TX3 k).2.2.1 = some (tyX3 k) := by decide +kernel
abbrev cX3_init : ByteArray := prog_5_method_1_code
def yX3_init : MethodName := ⟨RX3, "<init>", "()V"⟩
abbrev cX3_search : ByteArray := prog_5_method_2_code
def yX3_search : MethodName := ⟨RX3, "search", "(LSoldStops$Page;)V"⟩
abbrev cX3_extend : ByteArray := prog_5_method_3_code
def yX3_extend : MethodName := ⟨RX3, "extend", "(LSoldStops$Order;LSoldStops$Page;II)V"⟩
abbrev cX3_keepRow : ByteArray := prog_5_method_4_code
def yX3_keepRow : MethodName := ⟨RX3, "keepRow", "(II)V"⟩
def RX4 : String := "SoldStops$Page"
def TX4 : u_T := fun k => match k with
  | 0 => ("SoldStops$Page", "breath", "I", false)
  | 1 => ("SoldStops$Page", "price", "I", false)
  | 2 => ("SoldStops$Page", "words", "I", false)
  | 3 => ("SoldStops$Page", "heards", "I", false)
  | 4 => ("SoldStops$Page", "pasts", "I", false)
  | 5 => ("SoldStops$Page", "lengths", "[I", true)
  | 6 => ("SoldStops$Page", "marks", "LSoldStops$Marks;", true)
  | 7 => ("SoldStops$Page", "heard", "[I", true)
  | _ => ("SoldStops$Page", "past", "[LSoldStops$Marks;", true)
def tyX4 : Nat → FieldType := fun k => match k with
  | 0 => .int
  | 1 => .int
  | 2 => .int
  | 3 => .int
  | 4 => .int
  | 5 => .array .int
  | 6 => .object "SoldStops$Marks"
  | 7 => .array .int
  | _ => .array (.object "SoldStops$Marks")
abbrev wsX40 : List Cond := u_ws RX4 TX4 9
theorem nmX4 : ∀ a, a < 9 → ∀ b, b < 9 → a ≠ b → (TX4 a).2.1 ≠ (TX4 b).2.1 := by decide +kernel
theorem tyX4_ok : ∀ k, k < 9 → parseFieldDescriptor (TX4 k).2.2.1 = some (tyX4 k) := by decide +kernel
abbrev cX4_init : ByteArray := prog_6_method_1_code
def yX4_init : MethodName := ⟨RX4, "<init>", "()V"⟩
abbrev cX4_begin : ByteArray := prog_6_method_2_code
def yX4_begin : MethodName := ⟨RX4, "begin", "(II)V"⟩
abbrev cX4_copy : ByteArray := prog_6_method_3_code
def yX4_copy : MethodName := ⟨RX4, "copy", "(LSoldStops$Page;)V"⟩
abbrev cX4_has : ByteArray := prog_6_method_4_code
def yX4_has : MethodName := ⟨RX4, "has", "(I)Z"⟩
abbrev cX4_hasRoom : ByteArray := prog_6_method_5_code
def yX4_hasRoom : MethodName := ⟨RX4, "hasRoom", "()Z"⟩
abbrev cX4_addWord : ByteArray := prog_6_method_6_code
def yX4_addWord : MethodName := ⟨RX4, "addWord", "(I)V"⟩
abbrev cX4_setMark : ByteArray := prog_6_method_7_code
def yX4_setMark : MethodName := ⟨RX4, "setMark", "(II)V"⟩
abbrev cX4_costOf : ByteArray := prog_6_method_8_code
def yX4_costOf : MethodName := ⟨RX4, "costOf", "(I)I"⟩
abbrev cX4_howManyMarks : ByteArray := prog_6_method_9_code
def yX4_howManyMarks : MethodName := ⟨RX4, "howManyMarks", "()I"⟩
abbrev cX4_remember : ByteArray := prog_6_method_10_code
def yX4_remember : MethodName := ⟨RX4, "remember", "()V"⟩
abbrev cX4_dropOldest : ByteArray := prog_6_method_11_code
def yX4_dropOldest : MethodName := ⟨RX4, "dropOldest", "()V"⟩
abbrev cX4_goBack : ByteArray := prog_6_method_12_code
def yX4_goBack : MethodName := ⟨RX4, "goBack", "()V"⟩
abbrev cX4_leftBehind : ByteArray := prog_6_method_13_code
def yX4_leftBehind : MethodName := ⟨RX4, "leftBehind", "(IIII)I"⟩
abbrev cX4_say : ByteArray := prog_6_method_14_code
def yX4_say : MethodName := ⟨RX4, "say", "()I"⟩
abbrev cX4_stuckAt : ByteArray := prog_6_method_15_code
def yX4_stuckAt : MethodName := ⟨RX4, "stuckAt", "(II)I"⟩
abbrev cX4_breathsStuckAt : ByteArray := prog_6_method_16_code
def yX4_breathsStuckAt : MethodName := ⟨RX4, "breathsStuckAt", "(I)I"⟩
abbrev cX4_addHeard : ByteArray := prog_6_method_17_code
def yX4_addHeard : MethodName := ⟨RX4, "addHeard", "(I)V"⟩
abbrev cX4_breathsHeard : ByteArray := prog_6_method_18_code
def yX4_breathsHeard : MethodName := ⟨RX4, "breathsHeard", "()I"⟩
abbrev cX4_lastIsEnded : ByteArray := prog_6_method_19_code
def yX4_lastIsEnded : MethodName := ⟨RX4, "lastIsEnded", "()Z"⟩
abbrev cX4_howManySentences : ByteArray := prog_6_method_20_code
def yX4_howManySentences : MethodName := ⟨RX4, "howManySentences", "()I"⟩
abbrev cX4_longestSentence : ByteArray := prog_6_method_21_code
def yX4_longestSentence : MethodName := ⟨RX4, "longestSentence", "(Z)I"⟩
def RX5 : String := "SoldStops$Plan"
def TX5 : u_T := fun k => match k with
  | 0 => ("SoldStops$Plan", "costs", "[[I", true)
  | 1 => ("SoldStops$Plan", "fewest", "[[I", true)
  | 2 => ("SoldStops$Plan", "choices", "[[I", true)
  | 3 => ("SoldStops$Plan", "now", "[I", true)
  | _ => ("SoldStops$Plan", "then", "[I", true)
def tyX5 : Nat → FieldType := fun k => match k with
  | 0 => .array (.array .int)
  | 1 => .array (.array .int)
  | 2 => .array (.array .int)
  | 3 => .array .int
  | _ => .array .int
abbrev wsX50 : List Cond := u_ws RX5 TX5 5
theorem nmX5 : ∀ a, a < 5 → ∀ b, b < 5 → a ≠ b → (TX5 a).2.1 ≠ (TX5 b).2.1 := by decide +kernel
theorem tyX5_ok : ∀ k, k < 5 → parseFieldDescriptor (TX5 k).2.2.1 = some (tyX5 k) := by decide +kernel
abbrev cX5_init : ByteArray := prog_7_method_1_code
def yX5_init : MethodName := ⟨RX5, "<init>", "()V"⟩
abbrev cX5_make : ByteArray := prog_7_method_2_code
def yX5_make : MethodName := ⟨RX5, "make", "(LSoldStops$Page;IZ)V"⟩
abbrev cX5_choose : ByteArray := prog_7_method_3_code
def yX5_choose : MethodName := ⟨RX5, "choose", "(LSoldStops$Page;IIIZ)V"⟩
abbrev cX5_isThere : ByteArray := prog_7_method_4_code
def yX5_isThere : MethodName := ⟨RX5, "isThere", "(I)Z"⟩
abbrev cX5_cost : ByteArray := prog_7_method_5_code
def yX5_cost : MethodName := ⟨RX5, "cost", "(I)I"⟩
abbrev cX5_kindBehind : ByteArray := prog_7_method_6_code
def yX5_kindBehind : MethodName := ⟨RX5, "kindBehind", "(LSoldStops$Page;II)I"⟩
abbrev cX5_reachFor : ByteArray := prog_7_method_7_code
def yX5_reachFor : MethodName := ⟨RX5, "reachFor", "(LSoldStops$Page;I)I"⟩
abbrev cX5_spread : ByteArray := prog_7_method_8_code
def yX5_spread : MethodName := ⟨RX5, "spread", "(LSoldStops$Page;II)V"⟩
def RX6 : String := "SoldStops$Text"
def TX6 : u_T := fun k => match k with
  | 0 => ("SoldStops$Text", "size", "I", false)
  | 1 => ("SoldStops$Text", "items", "I", false)
  | 2 => ("SoldStops$Text", "bytes", "[I", true)
  | 3 => ("SoldStops$Text", "whats", "[I", true)
  | 4 => ("SoldStops$Text", "firsts", "[I", true)
  | 5 => ("SoldStops$Text", "seconds", "[I", true)
  | 6 => ("SoldStops$Text", "token", "I", false)
  | 7 => ("SoldStops$Text", "value", "I", false)
  | 8 => ("SoldStops$Text", "place", "I", false)
  | _ => ("SoldStops$Text", "behind", "I", false)
def tyX6 : Nat → FieldType := fun k => match k with
  | 0 => .int
  | 1 => .int
  | 2 => .array .int
  | 3 => .array .int
  | 4 => .array .int
  | 5 => .array .int
  | 6 => .int
  | 7 => .int
  | 8 => .int
  | _ => .int
abbrev wsX60 : List Cond := u_ws RX6 TX6 10
theorem nmX6 : ∀ a, a < 10 → ∀ b, b < 10 → a ≠ b → (TX6 a).2.1 ≠ (TX6 b).2.1 := by decide +kernel
theorem tyX6_ok : ∀ k, k < 10 → parseFieldDescriptor (TX6 k).2.2.1 = some (tyX6 k) := by decide +kernel
abbrev cX6_init : ByteArray := prog_8_method_1_code
def yX6_init : MethodName := ⟨RX6, "<init>", "()V"⟩
abbrev cX6_add : ByteArray := prog_8_method_2_code
def yX6_add : MethodName := ⟨RX6, "add", "(I)V"⟩
abbrev cX6_findFault : ByteArray := prog_8_method_3_code
def yX6_findFault : MethodName := ⟨RX6, "findFault", "()I"⟩
abbrev cX6_mayBegin : ByteArray := prog_8_method_4_code
def yX6_mayBegin : MethodName := ⟨RX6, "mayBegin", "()Z"⟩
abbrev cX6_takeItem : ByteArray := prog_8_method_5_code
def yX6_takeItem : MethodName := ⟨RX6, "takeItem", "()Z"⟩
abbrev cX6_next : ByteArray := prog_8_method_6_code
def yX6_next : MethodName := ⟨RX6, "next", "()V"⟩
abbrev cX6_runEnd : ByteArray := prog_8_method_7_code
def yX6_runEnd : MethodName := ⟨RX6, "runEnd", "(III)I"⟩
abbrev cX6_wordHere : ByteArray := prog_8_method_8_code
def yX6_wordHere : MethodName := ⟨RX6, "wordHere", "()I"⟩
abbrev cX6_isHere : ByteArray := prog_8_method_9_code
def yX6_isHere : MethodName := ⟨RX6, "isHere", "(Ljava/lang/String;)Z"⟩
abbrev cX6_numberHere : ByteArray := prog_8_method_10_code
def yX6_numberHere : MethodName := ⟨RX6, "numberHere", "()I"⟩
def RX7 : String := "SoldStops"
def TX7 : u_T := fun k => match k with
  | 0 => ("SoldStops", "page", "LSoldStops$Page;", true)
  | 1 => ("SoldStops", "spare", "LSoldStops$Page;", true)
  | 2 => ("SoldStops", "images", "[LSoldStops$Page;", true)
  | 3 => ("SoldStops", "kept", "[Z", true)
  | 4 => ("SoldStops", "text", "LSoldStops$Text;", true)
  | 5 => ("SoldStops", "plan", "LSoldStops$Plan;", true)
  | 6 => ("SoldStops", "order", "LSoldStops$Order;", true)
  | 7 => ("SoldStops", "chance", "LSoldStops$Chance;", true)
  | 8 => ("SoldStops", "alike", "[I", true)
  | 9 => ("SoldStops", "bads", "I", false)
  | 10 => ("SoldStops", "nos", "I", false)
  | _ => ("SoldStops", "fulls", "I", false)
def tyX7 : Nat → FieldType := fun k => match k with
  | 0 => .object "SoldStops$Page"
  | 1 => .object "SoldStops$Page"
  | 2 => .array (.object "SoldStops$Page")
  | 3 => .array .boolean
  | 4 => .object "SoldStops$Text"
  | 5 => .object "SoldStops$Plan"
  | 6 => .object "SoldStops$Order"
  | 7 => .object "SoldStops$Chance"
  | 8 => .array .int
  | 9 => .int
  | 10 => .int
  | _ => .int
abbrev wsX70 : List Cond := u_ws RX7 TX7 12
theorem nmX7 : ∀ a, a < 12 → ∀ b, b < 12 → a ≠ b → (TX7 a).2.1 ≠ (TX7 b).2.1 := by decide +kernel
theorem tyX7_ok : ∀ k, k < 12 → parseFieldDescriptor (TX7 k).2.2.1 = some (tyX7 k) := by decide +kernel
abbrev cX7_init : ByteArray := prog_1_method_1_code
def yX7_init : MethodName := ⟨RX7, "<init>", "()V"⟩
abbrev cX7_page : ByteArray := prog_1_method_2_code
def yX7_page : MethodName := ⟨RX7, "page", "(II)I"⟩
abbrev cX7_word : ByteArray := prog_1_method_3_code
def yX7_word : MethodName := ⟨RX7, "word", "(I)I"⟩
abbrev cX7_breath : ByteArray := prog_1_method_4_code
def yX7_breath : MethodName := ⟨RX7, "breath", "(I)I"⟩
abbrev cX7_price : ByteArray := prog_1_method_5_code
def yX7_price : MethodName := ⟨RX7, "price", "(I)I"⟩
abbrev cX7_purse : ByteArray := prog_1_method_6_code
def yX7_purse : MethodName := ⟨RX7, "purse", "(I)I"⟩
abbrev cX7_put : ByteArray := prog_1_method_7_code
def yX7_put : MethodName := ⟨RX7, "put", "(II)I"⟩
abbrev cX7_type : ByteArray := prog_1_method_8_code
def yX7_type : MethodName := ⟨RX7, "type", "(I)I"⟩
abbrev cX7_clear : ByteArray := prog_1_method_9_code
def yX7_clear : MethodName := ⟨RX7, "clear", "()I"⟩
abbrev cX7_read : ByteArray := prog_1_method_10_code
def yX7_read : MethodName := ⟨RX7, "read", "()I"⟩
abbrev cX7_buy : ByteArray := prog_1_method_11_code
def yX7_buy : MethodName := ⟨RX7, "buy", "(II)I"⟩
abbrev cX7_sell : ByteArray := prog_1_method_12_code
def yX7_sell : MethodName := ⟨RX7, "sell", "(I)I"⟩
abbrev cX7_readOut : ByteArray := prog_1_method_13_code
def yX7_readOut : MethodName := ⟨RX7, "readOut", "()I"⟩
abbrev cX7_week : ByteArray := prog_1_method_14_code
def yX7_week : MethodName := ⟨RX7, "week", "(I)I"⟩
abbrev cX7_undo : ByteArray := prog_1_method_15_code
def yX7_undo : MethodName := ⟨RX7, "undo", "()I"⟩
abbrev cX7_of : ByteArray := prog_1_method_16_code
def yX7_of : MethodName := ⟨RX7, "of", "(II)I"⟩
abbrev cX7_costs : ByteArray := prog_1_method_17_code
def yX7_costs : MethodName := ⟨RX7, "costs", "(I)I"⟩
abbrev cX7_gives : ByteArray := prog_1_method_18_code
def yX7_gives : MethodName := ⟨RX7, "gives", "(II)I"⟩
abbrev cX7_stuck : ByteArray := prog_1_method_19_code
def yX7_stuck : MethodName := ⟨RX7, "stuck", "()I"⟩
abbrev cX7_sentences : ByteArray := prog_1_method_20_code
def yX7_sentences : MethodName := ⟨RX7, "sentences", "(I)I"⟩
abbrev cX7_cheapest : ByteArray := prog_1_method_21_code
def yX7_cheapest : MethodName := ⟨RX7, "cheapest", "(III)I"⟩
abbrev cX7_reach : ByteArray := prog_1_method_22_code
def yX7_reach : MethodName := ⟨RX7, "reach", "(I)I"⟩
abbrev cX7_order : ByteArray := prog_1_method_23_code
def yX7_order : MethodName := ⟨RX7, "order", "(I)I"⟩
abbrev cX7_heard : ByteArray := prog_1_method_24_code
def yX7_heard : MethodName := ⟨RX7, "heard", "(I)I"⟩
abbrev cX7_forget : ByteArray := prog_1_method_25_code
def yX7_forget : MethodName := ⟨RX7, "forget", "()I"⟩
abbrev cX7_breaths : ByteArray := prog_1_method_26_code
def yX7_breaths : MethodName := ⟨RX7, "breaths", "()I"⟩
abbrev cX7_shorter : ByteArray := prog_1_method_27_code
def yX7_shorter : MethodName := ⟨RX7, "shorter", "()I"⟩
abbrev cX7_bid : ByteArray := prog_1_method_28_code
def yX7_bid : MethodName := ⟨RX7, "bid", "(IIIIII)I"⟩
abbrev cX7_odds : ByteArray := prog_1_method_29_code
def yX7_odds : MethodName := ⟨RX7, "odds", "(I)I"⟩
abbrev cX7_drawn : ByteArray := prog_1_method_30_code
def yX7_drawn : MethodName := ⟨RX7, "drawn", "(II)I"⟩
abbrev cX7_part : ByteArray := prog_1_method_31_code
def yX7_part : MethodName := ⟨RX7, "part", "(I)J"⟩
abbrev cX7_image : ByteArray := prog_1_method_32_code
def yX7_image : MethodName := ⟨RX7, "image", "(I)I"⟩
abbrev cX7_from : ByteArray := prog_1_method_33_code
def yX7_from : MethodName := ⟨RX7, "from", "(I)I"⟩
abbrev cX7_status : ByteArray := prog_1_method_34_code
def yX7_status : MethodName := ⟨RX7, "status", "(I)I"⟩
abbrev cX7_count : ByteArray := prog_1_method_35_code
def yX7_count : MethodName := ⟨RX7, "count", "(I)I"⟩
abbrev cX7_digest : ByteArray := prog_1_method_36_code
def yX7_digest : MethodName := ⟨RX7, "digest", "()J"⟩
abbrev cX7_bad : ByteArray := prog_1_method_37_code
def yX7_bad : MethodName := ⟨RX7, "bad", "(I)I"⟩
abbrev cX7_no : ByteArray := prog_1_method_38_code
def yX7_no : MethodName := ⟨RX7, "no", "(I)I"⟩
abbrev cX7_full : ByteArray := prog_1_method_39_code
def yX7_full : MethodName := ⟨RX7, "full", "(I)I"⟩
abbrev cX7_isWithin : ByteArray := prog_1_method_40_code
def yX7_isWithin : MethodName := ⟨RX7, "isWithin", "(III)Z"⟩
abbrev cX7_isBreath : ByteArray := prog_1_method_41_code
def yX7_isBreath : MethodName := ⟨RX7, "isBreath", "(I)Z"⟩
abbrev cX7_isPrice : ByteArray := prog_1_method_42_code
def yX7_isPrice : MethodName := ⟨RX7, "isPrice", "(I)Z"⟩
abbrev cX7_isLength : ByteArray := prog_1_method_43_code
def yX7_isLength : MethodName := ⟨RX7, "isLength", "(I)Z"⟩
abbrev cX7_countOf : ByteArray := prog_1_method_44_code
def yX7_countOf : MethodName := ⟨RX7, "countOf", "(I)I"⟩
abbrev cX7_tellItem : ByteArray := prog_1_method_45_code
def yX7_tellItem : MethodName := ⟨RX7, "tellItem", "(I)Z"⟩
abbrev cX7_mostAlike : ByteArray := prog_1_method_46_code
def yX7_mostAlike : MethodName := ⟨RX7, "mostAlike", "(II)I"⟩
abbrev cX7_gain : ByteArray := prog_1_method_47_code
def yX7_gain : MethodName := ⟨RX7, "gain", "(IIII)I"⟩
abbrev cX7_isBest : ByteArray := prog_1_method_48_code
def yX7_isBest : MethodName := ⟨RX7, "isBest", "(IIIII)Z"⟩
def RX8 : String := "SoldStopsModel"
def TX8 : u_T := fun k => match k with
  | 0 => ("SoldStopsModel", "refused", "[I", true)
  | 1 => ("SoldStopsModel", "many", "I", false)
  | 2 => ("SoldStopsModel", "breath", "I", false)
  | 3 => ("SoldStopsModel", "price", "I", false)
  | 4 => ("SoldStopsModel", "purse", "I", false)
  | 5 => ("SoldStopsModel", "week", "I", false)
  | 6 => ("SoldStopsModel", "lengths", "[I", true)
  | 7 => ("SoldStopsModel", "kinds", "[I", true)
  | 8 => ("SoldStopsModel", "reads", "[I", true)
  | 9 => ("SoldStopsModel", "heardMany", "I", false)
  | 10 => ("SoldStopsModel", "heards", "[I", true)
  | 11 => ("SoldStopsModel", "text", "[I", true)
  | 12 => ("SoldStopsModel", "typed", "I", false)
  | 13 => ("SoldStopsModel", "readAt", "I", false)
  | 14 => ("SoldStopsModel", "readNumber", "I", false)
  | 15 => ("SoldStopsModel", "itemMany", "I", false)
  | 16 => ("SoldStopsModel", "items", "[I", true)
  | 17 => ("SoldStopsModel", "ahead", "[I", true)
  | 18 => ("SoldStopsModel", "undoMany", "I", false)
  | 19 => ("SoldStopsModel", "least", "[I", true)
  | 20 => ("SoldStopsModel", "bought", "[I", true)
  | 21 => ("SoldStopsModel", "paid", "[I", true)
  | 22 => ("SoldStopsModel", "then", "[I", true)
  | 23 => ("SoldStopsModel", "line", "[I", true)
  | 24 => ("SoldStopsModel", "bestLine", "[I", true)
  | 25 => ("SoldStopsModel", "groups", "[I", true)
  | 26 => ("SoldStopsModel", "above", "J", false)
  | 27 => ("SoldStopsModel", "below", "J", false)
  | 28 => ("SoldStopsModel", "ways", "[J", true)
  | 29 => ("SoldStopsModel", "waysThen", "[J", true)
  | 30 => ("SoldStopsModel", "images", "[I", true)
  | _ => ("SoldStopsModel", "h0", "J", false)
def tyX8 : Nat → FieldType := fun k => match k with
  | 0 => .array .int
  | 1 => .int
  | 2 => .int
  | 3 => .int
  | 4 => .int
  | 5 => .int
  | 6 => .array .int
  | 7 => .array .int
  | 8 => .array .int
  | 9 => .int
  | 10 => .array .int
  | 11 => .array .int
  | 12 => .int
  | 13 => .int
  | 14 => .int
  | 15 => .int
  | 16 => .array .int
  | 17 => .array .int
  | 18 => .int
  | 19 => .array .int
  | 20 => .array .int
  | 21 => .array .int
  | 22 => .array .int
  | 23 => .array .int
  | 24 => .array .int
  | 25 => .array .int
  | 26 => .long
  | 27 => .long
  | 28 => .array .long
  | 29 => .array .long
  | 30 => .array .int
  | _ => .long
abbrev wsX80 : List Cond := u_ws RX8 TX8 32
theorem nmX8 : ∀ a, a < 32 → ∀ b, b < 32 → a ≠ b → (TX8 a).2.1 ≠ (TX8 b).2.1 := by decide +kernel
theorem tyX8_ok : ∀ k, k < 32 → parseFieldDescriptor (TX8 k).2.2.1 = some (tyX8 k) := by decide +kernel
abbrev cX8_bad : ByteArray := prog_10_method_1_code
def yX8_bad : MethodName := ⟨RX8, "bad", "()I"⟩
abbrev cX8_ten : ByteArray := prog_10_method_2_code
def yX8_ten : MethodName := ⟨RX8, "ten", "()I"⟩
abbrev cX8_twenty : ByteArray := prog_10_method_3_code
def yX8_twenty : MethodName := ⟨RX8, "twenty", "()I"⟩
abbrev cX8_no : ByteArray := prog_10_method_4_code
def yX8_no : MethodName := ⟨RX8, "no", "()I"⟩
abbrev cX8_full : ByteArray := prog_10_method_5_code
def yX8_full : MethodName := ⟨RX8, "full", "()I"⟩
abbrev cX8_in : ByteArray := prog_10_method_6_code
def yX8_in : MethodName := ⟨RX8, "in", "(III)Z"⟩
abbrev cX8_init : ByteArray := prog_10_method_7_code
def yX8_init : MethodName := ⟨RX8, "<init>", "()V"⟩
abbrev cX8_begin : ByteArray := prog_10_method_8_code
def yX8_begin : MethodName := ⟨RX8, "begin", "(II)V"⟩
abbrev cX8_isPiece : ByteArray := prog_10_method_9_code
def yX8_isPiece : MethodName := ⟨RX8, "isPiece", "(I)Z"⟩
abbrev cX8_isKind : ByteArray := prog_10_method_10_code
def yX8_isKind : MethodName := ⟨RX8, "isKind", "(I)Z"⟩
abbrev cX8_isPage : ByteArray := prog_10_method_11_code
def yX8_isPage : MethodName := ⟨RX8, "isPage", "(II)Z"⟩
abbrev cX8_page : ByteArray := prog_10_method_12_code
def yX8_page : MethodName := ⟨RX8, "page", "(II)I"⟩
abbrev cX8_add : ByteArray := prog_10_method_13_code
def yX8_add : MethodName := ⟨RX8, "add", "(I)I"⟩
abbrev cX8_word : ByteArray := prog_10_method_14_code
def yX8_word : MethodName := ⟨RX8, "word", "(I)I"⟩
abbrev cX8_breath : ByteArray := prog_10_method_15_code
def yX8_breath : MethodName := ⟨RX8, "breath", "(I)I"⟩
abbrev cX8_price : ByteArray := prog_10_method_16_code
def yX8_price : MethodName := ⟨RX8, "price", "(I)I"⟩
abbrev cX8_purse : ByteArray := prog_10_method_17_code
def yX8_purse : MethodName := ⟨RX8, "purse", "(I)I"⟩
abbrev cX8_mark : ByteArray := prog_10_method_18_code
def yX8_mark : MethodName := ⟨RX8, "mark", "(II)V"⟩
abbrev cX8_put : ByteArray := prog_10_method_19_code
def yX8_put : MethodName := ⟨RX8, "put", "(II)I"⟩
abbrev cX8_type : ByteArray := prog_10_method_20_code
def yX8_type : MethodName := ⟨RX8, "type", "(I)I"⟩
abbrev cX8_clear : ByteArray := prog_10_method_21_code
def yX8_clear : MethodName := ⟨RX8, "clear", "()I"⟩
abbrev cX8_here : ByteArray := prog_10_method_22_code
def yX8_here : MethodName := ⟨RX8, "here", "()I"⟩
abbrev cX8_skip : ByteArray := prog_10_method_23_code
def yX8_skip : MethodName := ⟨RX8, "skip", "()V"⟩
abbrev cX8_isLetter : ByteArray := prog_10_method_24_code
def yX8_isLetter : MethodName := ⟨RX8, "isLetter", "(I)Z"⟩
abbrev cX8_isFigure : ByteArray := prog_10_method_25_code
def yX8_isFigure : MethodName := ⟨RX8, "isFigure", "(I)Z"⟩
abbrev cX8_wordSize : ByteArray := prog_10_method_26_code
def yX8_wordSize : MethodName := ⟨RX8, "wordSize", "()I"⟩
abbrev cX8_letter : ByteArray := prog_10_method_27_code
def yX8_letter : MethodName := ⟨RX8, "letter", "(I)I"⟩
abbrev cX8_wordHere : ByteArray := prog_10_method_28_code
def yX8_wordHere : MethodName := ⟨RX8, "wordHere", "()I"⟩
abbrev cX8_number : ByteArray := prog_10_method_29_code
def yX8_number : MethodName := ⟨RX8, "number", "()Z"⟩
abbrev cX8_readsItem : ByteArray := prog_10_method_30_code
def yX8_readsItem : MethodName := ⟨RX8, "readsItem", "()Z"⟩
abbrev cX8_readsPage : ByteArray := prog_10_method_31_code
def yX8_readsPage : MethodName := ⟨RX8, "readsPage", "()Z"⟩
abbrev cX8_refusedItem : ByteArray := prog_10_method_32_code
def yX8_refusedItem : MethodName := ⟨RX8, "refusedItem", "()I"⟩
abbrev cX8_read : ByteArray := prog_10_method_33_code
def yX8_read : MethodName := ⟨RX8, "read", "()I"⟩
abbrev cX8_costOf : ByteArray := prog_10_method_34_code
def yX8_costOf : MethodName := ⟨RX8, "costOf", "(I)I"⟩
abbrev cX8_lesser : ByteArray := prog_10_method_35_code
def yX8_lesser : MethodName := ⟨RX8, "lesser", "(II)I"⟩
abbrev cX8_greater : ByteArray := prog_10_method_36_code
def yX8_greater : MethodName := ⟨RX8, "greater", "(II)I"⟩
abbrev cX8_givenBy : ByteArray := prog_10_method_37_code
def yX8_givenBy : MethodName := ⟨RX8, "givenBy", "(III)I"⟩
abbrev cX8_ends : ByteArray := prog_10_method_38_code
def yX8_ends : MethodName := ⟨RX8, "ends", "(I)Z"⟩
abbrev cX8_dries : ByteArray := prog_10_method_39_code
def yX8_dries : MethodName := ⟨RX8, "dries", "(I)I"⟩
abbrev cX8_notes : ByteArray := prog_10_method_40_code
def yX8_notes : MethodName := ⟨RX8, "notes", "()V"⟩
abbrev cX8_buy : ByteArray := prog_10_method_41_code
def yX8_buy : MethodName := ⟨RX8, "buy", "(II)I"⟩
abbrev cX8_sell : ByteArray := prog_10_method_42_code
def yX8_sell : MethodName := ⟨RX8, "sell", "(I)I"⟩
abbrev cX8_readOut : ByteArray := prog_10_method_43_code
def yX8_readOut : MethodName := ⟨RX8, "readOut", "()I"⟩
abbrev cX8_week : ByteArray := prog_10_method_44_code
def yX8_week : MethodName := ⟨RX8, "week", "(I)I"⟩
abbrev cX8_undo : ByteArray := prog_10_method_45_code
def yX8_undo : MethodName := ⟨RX8, "undo", "()I"⟩
abbrev cX8_of : ByteArray := prog_10_method_46_code
def yX8_of : MethodName := ⟨RX8, "of", "(II)I"⟩
abbrev cX8_costs : ByteArray := prog_10_method_47_code
def yX8_costs : MethodName := ⟨RX8, "costs", "(I)I"⟩
abbrev cX8_gives : ByteArray := prog_10_method_48_code
def yX8_gives : MethodName := ⟨RX8, "gives", "(II)I"⟩
abbrev cX8_stuckBy : ByteArray := prog_10_method_49_code
def yX8_stuckBy : MethodName := ⟨RX8, "stuckBy", "(II)I"⟩
abbrev cX8_stuck : ByteArray := prog_10_method_50_code
def yX8_stuck : MethodName := ⟨RX8, "stuck", "()I"⟩
abbrev cX8_sentences : ByteArray := prog_10_method_51_code
def yX8_sentences : MethodName := ⟨RX8, "sentences", "(I)I"⟩
abbrev cX8_cellOf : ByteArray := prog_10_method_52_code
def yX8_cellOf : MethodName := ⟨RX8, "cellOf", "(II)I"⟩
abbrev cX8_costBy : ByteArray := prog_10_method_53_code
def yX8_costBy : MethodName := ⟨RX8, "costBy", "(IIIIZ)I"⟩
abbrev cX8_optionsAt : ByteArray := prog_10_method_54_code
def yX8_optionsAt : MethodName := ⟨RX8, "optionsAt", "(I)I"⟩
abbrev cX8_setLeast : ByteArray := prog_10_method_55_code
def yX8_setLeast : MethodName := ⟨RX8, "setLeast", "(IZ)V"⟩
abbrev cX8_cheapest : ByteArray := prog_10_method_56_code
def yX8_cheapest : MethodName := ⟨RX8, "cheapest", "(III)I"⟩
abbrev cX8_reach : ByteArray := prog_10_method_57_code
def yX8_reach : MethodName := ⟨RX8, "reach", "(I)I"⟩
abbrev cX8_readBy : ByteArray := prog_10_method_58_code
def yX8_readBy : MethodName := ⟨RX8, "readBy", "()I"⟩
abbrev cX8_nextLine : ByteArray := prog_10_method_59_code
def yX8_nextLine : MethodName := ⟨RX8, "nextLine", "()Z"⟩
abbrev cX8_order : ByteArray := prog_10_method_60_code
def yX8_order : MethodName := ⟨RX8, "order", "(I)I"⟩
abbrev cX8_heard : ByteArray := prog_10_method_61_code
def yX8_heard : MethodName := ⟨RX8, "heard", "(I)I"⟩
abbrev cX8_forget : ByteArray := prog_10_method_62_code
def yX8_forget : MethodName := ⟨RX8, "forget", "()I"⟩
abbrev cX8_breathSet : ByteArray := prog_10_method_63_code
def yX8_breathSet : MethodName := ⟨RX8, "breathSet", "()I"⟩
abbrev cX8_breaths : ByteArray := prog_10_method_64_code
def yX8_breaths : MethodName := ⟨RX8, "breaths", "()I"⟩
abbrev cX8_alike : ByteArray := prog_10_method_65_code
def yX8_alike : MethodName := ⟨RX8, "alike", "(II)I"⟩
abbrev cX8_shorter : ByteArray := prog_10_method_66_code
def yX8_shorter : MethodName := ⟨RX8, "shorter", "()I"⟩
abbrev cX8_gain : ByteArray := prog_10_method_67_code
def yX8_gain : MethodName := ⟨RX8, "gain", "(IIII)I"⟩
abbrev cX8_rests : ByteArray := prog_10_method_68_code
def yX8_rests : MethodName := ⟨RX8, "rests", "(IIIII)Z"⟩
abbrev cX8_bid : ByteArray := prog_10_method_69_code
def yX8_bid : MethodName := ⟨RX8, "bid", "(IIIIII)I"⟩
abbrev cX8_lay : ByteArray := prog_10_method_70_code
def yX8_lay : MethodName := ⟨RX8, "lay", "(JJ)V"⟩
abbrev cX8_odds : ByteArray := prog_10_method_71_code
def yX8_odds : MethodName := ⟨RX8, "odds", "(I)I"⟩
abbrev cX8_drawn : ByteArray := prog_10_method_72_code
def yX8_drawn : MethodName := ⟨RX8, "drawn", "(II)I"⟩
abbrev cX8_part : ByteArray := prog_10_method_73_code
def yX8_part : MethodName := ⟨RX8, "part", "(I)J"⟩
abbrev cX8_image : ByteArray := prog_10_method_74_code
def yX8_image : MethodName := ⟨RX8, "image", "(I)I"⟩
abbrev cX8_from : ByteArray := prog_10_method_75_code
def yX8_from : MethodName := ⟨RX8, "from", "(I)I"⟩
abbrev cX8_status : ByteArray := prog_10_method_76_code
def yX8_status : MethodName := ⟨RX8, "status", "(I)I"⟩
abbrev cX8_countOf : ByteArray := prog_10_method_77_code
def yX8_countOf : MethodName := ⟨RX8, "countOf", "(I)I"⟩
abbrev cX8_count : ByteArray := prog_10_method_78_code
def yX8_count : MethodName := ⟨RX8, "count", "(I)I"⟩
abbrev cX8_mix : ByteArray := prog_10_method_79_code
def yX8_mix : MethodName := ⟨RX8, "mix", "(J)V"⟩
abbrev cX8_digest : ByteArray := prog_10_method_80_code
def yX8_digest : MethodName := ⟨RX8, "digest", "()J"⟩
def RJx145de : String := "java/io/Serializable"
def TJx145de : u_T := fun k => match k with
  | _ => ("", "", "", false)
def tyJx145de : Nat → FieldType := fun k => match k with
  | _ => .int
abbrev wsJx145de0 : List Cond := u_ws RJx145de TJx145de 0
theorem nmJx145de : ∀ a, a < 0 → ∀ b, b < 0 → a ≠ b → (TJx145de a).2.1 ≠ (TJx145de b).2.1 := by decide +kernel
theorem tyJx145de_ok : ∀ k, k < 0 → parseFieldDescriptor (TJx145de k).2.2.1 = some (tyJx145de k) := by decide +kernel
def RJx9f9b0 : String := "java/lang/CharSequence"
def TJx9f9b0 : u_T := fun k => match k with
  | _ => ("", "", "", false)
def tyJx9f9b0 : Nat → FieldType := fun k => match k with
  | _ => .int
abbrev wsJx9f9b00 : List Cond := u_ws RJx9f9b0 TJx9f9b0 0
theorem nmJx9f9b0 : ∀ a, a < 0 → ∀ b, b < 0 → a ≠ b → (TJx9f9b0 a).2.1 ≠ (TJx9f9b0 b).2.1 := by decide +kernel
theorem tyJx9f9b0_ok : ∀ k, k < 0 → parseFieldDescriptor (TJx9f9b0 k).2.2.1 = some (tyJx9f9b0 k) := by decide +kernel
def RJxb160c : String := "java/lang/Comparable"
def TJxb160c : u_T := fun k => match k with
  | _ => ("", "", "", false)
def tyJxb160c : Nat → FieldType := fun k => match k with
  | _ => .int
abbrev wsJxb160c0 : List Cond := u_ws RJxb160c TJxb160c 0
theorem nmJxb160c : ∀ a, a < 0 → ∀ b, b < 0 → a ≠ b → (TJxb160c a).2.1 ≠ (TJxb160c b).2.1 := by decide +kernel
theorem tyJxb160c_ok : ∀ k, k < 0 → parseFieldDescriptor (TJxb160c k).2.2.1 = some (tyJxb160c k) := by decide +kernel
def RJ9 : String := "java/lang/Math"
def TJ9 : u_T := fun k => match k with
  | _ => ("", "", "", false)
def tyJ9 : Nat → FieldType := fun k => match k with
  | _ => .int
abbrev wsJ90 : List Cond := u_ws RJ9 TJ9 0
theorem nmJ9 : ∀ a, a < 0 → ∀ b, b < 0 → a ≠ b → (TJ9 a).2.1 ≠ (TJ9 b).2.1 := by decide +kernel
theorem tyJ9_ok : ∀ k, k < 0 → parseFieldDescriptor (TJ9 k).2.2.1 = some (tyJ9 k) := by decide +kernel
abbrev cJ9_max_7cf53 : ByteArray := prog_11_method_65_code
def yJ9_max_7cf53 : MethodName := ⟨RJ9, "max", "(II)I"⟩
abbrev cJ9_min_7cf53 : ByteArray := prog_11_method_69_code
def yJ9_min_7cf53 : MethodName := ⟨RJ9, "min", "(II)I"⟩
def RJ0 : String := "java/lang/String"
def TJ0 : u_T := fun k => match k with
  | _ => ("", "", "", false)
def tyJ0 : Nat → FieldType := fun k => match k with
  | _ => .int
abbrev wsJ00 : List Cond := u_ws RJ0 TJ0 0
theorem nmJ0 : ∀ a, a < 0 → ∀ b, b < 0 → a ≠ b → (TJ0 a).2.1 ≠ (TJ0 b).2.1 := by decide +kernel
theorem tyJ0_ok : ∀ k, k < 0 → parseFieldDescriptor (TJ0 k).2.2.1 = some (tyJ0 k) := by decide +kernel
abbrev cJ0_length_8abf5 : ByteArray := prog_12_method_54_code
def yJ0_length_8abf5 : MethodName := ⟨RJ0, "length", "()I"⟩
abbrev cJ0_charAt_5068e : ByteArray := prog_12_method_56_code
def yJ0_charAt_5068e : MethodName := ⟨RJ0, "charAt", "(I)C"⟩
abbrev cJ0_coder_7d493 : ByteArray := prog_12_method_152_code
def yJ0_coder_7d493 : MethodName := ⟨RJ0, "coder", "()B"⟩
abbrev cJ0_isLatin1_aae02 : ByteArray := prog_12_method_154_code
def yJ0_isLatin1_aae02 : MethodName := ⟨RJ0, "isLatin1", "()Z"⟩
abbrev cJ0_checkIndex_df160 : ByteArray := prog_12_method_155_code
def yJ0_checkIndex_df160 : MethodName := ⟨RJ0, "checkIndex", "(II)V"⟩
def RJ1 : String := "java/lang/StringLatin1"
def TJ1 : u_T := fun k => match k with
  | _ => ("", "", "", false)
def tyJ1 : Nat → FieldType := fun k => match k with
  | _ => .int
abbrev wsJ10 : List Cond := u_ws RJ1 TJ1 0
theorem nmJ1 : ∀ a, a < 0 → ∀ b, b < 0 → a ≠ b → (TJ1 a).2.1 ≠ (TJ1 b).2.1 := by decide +kernel
theorem tyJ1_ok : ∀ k, k < 0 → parseFieldDescriptor (TJ1 k).2.2.1 = some (tyJ1 k) := by decide +kernel
abbrev cJ1_charAt_3b067 : ByteArray := prog_13_method_2_code
def yJ1_charAt_3b067 : MethodName := ⟨RJ1, "charAt", "([BI)C"⟩
def RJ2 : String := "java/lang/StringUTF16"
def TJ2 : u_T := fun k => match k with
  | _ => ("", "", "", false)
def tyJ2 : Nat → FieldType := fun k => match k with
  | _ => .int
abbrev wsJ20 : List Cond := u_ws RJ2 TJ2 0
theorem nmJ2 : ∀ a, a < 0 → ∀ b, b < 0 → a ≠ b → (TJ2 a).2.1 ≠ (TJ2 b).2.1 := by decide +kernel
theorem tyJ2_ok : ∀ k, k < 0 → parseFieldDescriptor (TJ2 k).2.2.1 = some (tyJ2 k) := by decide +kernel
abbrev cJ2_getChar_3b067 : ByteArray := prog_14_method_5_code
def yJ2_getChar_3b067 : MethodName := ⟨RJ2, "getChar", "([BI)C"⟩
abbrev cJ2_length_9d52b : ByteArray := prog_14_method_6_code
def yJ2_length_9d52b : MethodName := ⟨RJ2, "length", "([B)I"⟩
abbrev cJ2_charAt_3b067 : ByteArray := prog_14_method_83_code
def yJ2_charAt_3b067 : MethodName := ⟨RJ2, "charAt", "([BI)C"⟩
abbrev cJ2_checkIndex_2214a : ByteArray := prog_14_method_91_code
def yJ2_checkIndex_2214a : MethodName := ⟨RJ2, "checkIndex", "(I[B)V"⟩
def RJ10 : String := "java/lang/System"
def TJ10 : u_T := fun k => match k with
  | _ => ("", "", "", false)
def tyJ10 : Nat → FieldType := fun k => match k with
  | _ => .int
abbrev wsJ100 : List Cond := u_ws RJ10 TJ10 0
theorem nmJ10 : ∀ a, a < 0 → ∀ b, b < 0 → a ≠ b → (TJ10 a).2.1 ≠ (TJ10 b).2.1 := by decide +kernel
theorem tyJ10_ok : ∀ k, k < 0 → parseFieldDescriptor (TJ10 k).2.2.1 = some (tyJ10 k) := by decide +kernel
def RJxfd54e : String := "java/lang/constant/Constable"
def TJxfd54e : u_T := fun k => match k with
  | _ => ("", "", "", false)
def tyJxfd54e : Nat → FieldType := fun k => match k with
  | _ => .int
abbrev wsJxfd54e0 : List Cond := u_ws RJxfd54e TJxfd54e 0
theorem nmJxfd54e : ∀ a, a < 0 → ∀ b, b < 0 → a ≠ b → (TJxfd54e a).2.1 ≠ (TJxfd54e b).2.1 := by decide +kernel
theorem tyJxfd54e_ok : ∀ k, k < 0 → parseFieldDescriptor (TJxfd54e k).2.2.1 = some (tyJxfd54e k) := by decide +kernel
def RJx3cf43 : String := "java/lang/constant/ConstantDesc"
def TJx3cf43 : u_T := fun k => match k with
  | _ => ("", "", "", false)
def tyJx3cf43 : Nat → FieldType := fun k => match k with
  | _ => .int
abbrev wsJx3cf430 : List Cond := u_ws RJx3cf43 TJx3cf43 0
theorem nmJx3cf43 : ∀ a, a < 0 → ∀ b, b < 0 → a ≠ b → (TJx3cf43 a).2.1 ≠ (TJx3cf43 b).2.1 := by decide +kernel
theorem tyJx3cf43_ok : ∀ k, k < 0 → parseFieldDescriptor (TJx3cf43 k).2.2.1 = some (tyJx3cf43 k) := by decide +kernel
def RJ7 : String := "java/util/Arrays"
def TJ7 : u_T := fun k => match k with
  | _ => ("", "", "", false)
def tyJ7 : Nat → FieldType := fun k => match k with
  | _ => .int
abbrev wsJ70 : List Cond := u_ws RJ7 TJ7 0
theorem nmJ7 : ∀ a, a < 0 → ∀ b, b < 0 → a ≠ b → (TJ7 a).2.1 ≠ (TJ7 b).2.1 := by decide +kernel
theorem tyJ7_ok : ∀ k, k < 0 → parseFieldDescriptor (TJ7 k).2.2.1 = some (tyJ7 k) := by decide +kernel
abbrev cJ7_fill_d0a16 : ByteArray := prog_16_method_101_code
def yJ7_fill_d0a16 : MethodName := ⟨RJ7, "fill", "([JJ)V"⟩
abbrev cJ7_fill_53178 : ByteArray := prog_16_method_103_code
def yJ7_fill_53178 : MethodName := ⟨RJ7, "fill", "([II)V"⟩
def RJ3 : String := "jdk/internal/util/Preconditions"
def TJ3 : u_T := fun k => match k with
  | _ => ("", "", "", false)
def tyJ3 : Nat → FieldType := fun k => match k with
  | _ => .int
abbrev wsJ30 : List Cond := u_ws RJ3 TJ3 0
theorem nmJ3 : ∀ a, a < 0 → ∀ b, b < 0 → a ≠ b → (TJ3 a).2.1 ≠ (TJ3 b).2.1 := by decide +kernel
theorem tyJ3_ok : ∀ k, k < 0 → parseFieldDescriptor (TJ3 k).2.2.1 = some (tyJ3 k) := by decide +kernel
abbrev cJ3_checkIndex_8e157 : ByteArray := prog_17_method_11_code
def yJ3_checkIndex_8e157 : MethodName := ⟨RJ3, "checkIndex", "(IILjava/util/function/BiFunction;)I"⟩
def RL : String := "SoldStopsLaw"
abbrev cL_law : ByteArray := code
def yL_law : MethodName := ⟨RL, "law", "([I)Z"⟩
def wsX0_init : List Cond := .code yX0_init cX0_init 1 none :: ([.methodLink RX0 3 objectInit, .instanceMethod objectInit, .code objectInit ⟨#[0xb1]⟩ 1 none, .fieldLink RX0 9 "SoldStops$Chance" "above" "J", .fieldLink RX0 15 "SoldStops$Chance" "below" "J", .arrayClass .long, .fieldLink RX0 18 "SoldStops$Chance" "now" "[J", .fieldLink RX0 22 "SoldStops$Chance" "then" "[J"] ++ wsX00)
def wsJ7_fill_d0a16 : List Cond := .code yJ7_fill_d0a16 cJ7_fill_d0a16 5 none :: ([])
def wsX1_breathBehind : List Cond := .code yX1_breathBehind cX1_breathBehind 5 (some .int) :: ([.methodLink RX1 9 Lib.Math.min.name, .static Lib.Math.min.name, .initialized "java/lang/Math", .code Lib.Math.min.name Lib.Math.min.code 2 (some .int), .methodLink RX1 15 Lib.Math.max.name, .static Lib.Math.max.name, .code Lib.Math.max.name Lib.Math.max.code 2 (some .int)])
def wsX0_step_r1 : List Cond := [Cond.fieldLink RX0 22 "SoldStops$Chance" "then" "[J", Cond.fieldLink RX0 60 "SoldStops$Page" "lengths" "[I", Cond.fieldLink RX0 31 "SoldStops$Page" "breath" "I", Cond.fieldLink RX0 40 "SoldStops$Page" "marks" "LSoldStops$Marks;", Cond.fieldLink RX0 44 "SoldStops$Marks" "kinds" "[I", Cond.fieldLink RX0 18 "SoldStops$Chance" "now" "[J", Cond.methodLink RX0 69 arraycopyName, Cond.native arraycopyName, Cond.static arraycopyName, Cond.initialized "java/lang/System", Cond.methodLink RX0 25 yJ7_fill_d0a16, Cond.static yJ7_fill_d0a16, Cond.initialized RJ7, Cond.code yJ7_fill_d0a16 cJ7_fill_d0a16 5 none, Cond.methodLink RX0 63 yX1_breathBehind, Cond.static yX1_breathBehind, Cond.initialized RX1, Cond.code yX1_breathBehind cX1_breathBehind 5 (some .int), Cond.methodLink RX1 9 Lib.Math.min.name, Cond.static Lib.Math.min.name, Cond.initialized "java/lang/Math", Cond.code Lib.Math.min.name Lib.Math.min.code 2 (some .int), Cond.methodLink RX1 15 Lib.Math.max.name, Cond.static Lib.Math.max.name]
def wsX0_step_r2 : List Cond := [Cond.code Lib.Math.max.name Lib.Math.max.code 2 (some .int)]
def wsX0_step : List Cond := .code yX0_step cX0_step 8 none :: ((wsX0_step_r1 ++ wsX0_step_r2) ++ wsX00 ++ wsX40 ++ wsX20)
def wsX0_setLowest : List Cond := .code yX0_setLowest cX0_setLowest 12 none :: ([.fieldLink RX0 9 "SoldStops$Chance" "above" "J", .fieldLink RX0 15 "SoldStops$Chance" "below" "J"] ++ wsX00)
def wsX0_reckon_r1 : List Cond := [Cond.fieldLink RX0 18 "SoldStops$Chance" "now" "[J", Cond.fieldLink RX0 31 "SoldStops$Page" "breath" "I", Cond.fieldLink RX0 37 "SoldStops$Page" "words" "I", Cond.fieldLink RX0 40 "SoldStops$Page" "marks" "LSoldStops$Marks;", Cond.fieldLink RX0 44 "SoldStops$Marks" "kinds" "[I", Cond.constantLong RX0 54 (10), Cond.methodLink RX0 25 yJ7_fill_d0a16, Cond.static yJ7_fill_d0a16, Cond.initialized RJ7, Cond.code yJ7_fill_d0a16 cJ7_fill_d0a16 5 none, Cond.methodLink RX0 50 yX0_step, Cond.instanceMethod yX0_step, Cond.selects RX0 yX0_step yX0_step, Cond.initialized RX0, Cond.code yX0_step cX0_step 8 none, Cond.fieldLink RX0 22 "SoldStops$Chance" "then" "[J", Cond.fieldLink RX0 60 "SoldStops$Page" "lengths" "[I", Cond.methodLink RX0 69 arraycopyName, Cond.native arraycopyName, Cond.static arraycopyName, Cond.initialized "java/lang/System", Cond.methodLink RX0 63 yX1_breathBehind, Cond.static yX1_breathBehind, Cond.initialized RX1]
def wsX0_reckon_r2 : List Cond := [Cond.code yX1_breathBehind cX1_breathBehind 5 (some .int), Cond.methodLink RX1 9 Lib.Math.min.name, Cond.static Lib.Math.min.name, Cond.initialized "java/lang/Math", Cond.code Lib.Math.min.name Lib.Math.min.code 2 (some .int), Cond.methodLink RX1 15 Lib.Math.max.name, Cond.static Lib.Math.max.name, Cond.code Lib.Math.max.name Lib.Math.max.code 2 (some .int), Cond.methodLink RX0 56 yX0_setLowest, Cond.instanceMethod yX0_setLowest, Cond.selects RX0 yX0_setLowest yX0_setLowest, Cond.code yX0_setLowest cX0_setLowest 12 none, Cond.fieldLink RX0 9 "SoldStops$Chance" "above" "J", Cond.fieldLink RX0 15 "SoldStops$Chance" "below" "J"]
def wsX0_reckon : List Cond := .code yX0_reckon cX0_reckon 8 none :: ((wsX0_reckon_r1 ++ wsX0_reckon_r2) ++ wsX00 ++ wsX40 ++ wsX20)
def wsX1_isOne : List Cond := .code yX1_isOne cX1_isOne 1 (some .boolean) :: ([])
def wsX1_cost : List Cond := .code yX1_cost cX1_cost 5 (some .int) :: ([])
def wsX1_lasts : List Cond := .code yX1_lasts cX1_lasts 1 (some .int) :: ([])
def wsX1_ends : List Cond := .code yX1_ends cX1_ends 1 (some .boolean) :: ([])
def wsX2_init : List Cond := .code yX2_init cX2_init 1 none :: ([.methodLink RX2 3 objectInit, .instanceMethod objectInit, .code objectInit ⟨#[0xb1]⟩ 1 none, .arrayClass .int, .fieldLink RX2 9 "SoldStops$Marks" "kinds" "[I", .fieldLink RX2 15 "SoldStops$Marks" "reads" "[I"] ++ wsX20)
def wsX2_set : List Cond := .code yX2_set cX2_set 3 none :: ([.fieldLink RX2 9 "SoldStops$Marks" "kinds" "[I", .fieldLink RX2 15 "SoldStops$Marks" "reads" "[I"] ++ wsX20)
def wsX2_readOnce : List Cond := .code yX2_readOnce cX2_readOnce 3 none :: ([.fieldLink RX2 9 "SoldStops$Marks" "kinds" "[I", .fieldLink RX2 15 "SoldStops$Marks" "reads" "[I", .methodLink RX2 18 yX1_lasts, .static yX1_lasts, .initialized RX1, .code yX1_lasts cX1_lasts 1 (some .int), .methodLink RX2 24 yX2_set, .instanceMethod yX2_set, .selects RX2 yX2_set yX2_set, .initialized RX2, .code yX2_set cX2_set 3 none] ++ wsX20)
def wsX2_copy : List Cond := .code yX2_copy cX2_copy 2 none :: ([.fieldLink RX2 28 "SoldStops$Marks" "purse" "I", .fieldLink RX2 32 "SoldStops$Marks" "week" "I", .fieldLink RX2 9 "SoldStops$Marks" "kinds" "[I", .methodLink RX2 35 arraycopyName, .native arraycopyName, .static arraycopyName, .initialized "java/lang/System", .fieldLink RX2 15 "SoldStops$Marks" "reads" "[I"] ++ wsX20)
def wsX3_init : List Cond := .code yX3_init cX3_init 1 none :: ([.methodLink RX3 3 objectInit, .instanceMethod objectInit, .code objectInit ⟨#[0xb1]⟩ 1 none, .arrayClass .int, .fieldLink RX3 9 "SoldStops$Order" "best" "[I", .fieldLink RX3 15 "SoldStops$Order" "row" "[I", .arrayClass .boolean, .fieldLink RX3 18 "SoldStops$Order" "used" "[Z"] ++ wsX30)
def wsX3_keepRow : List Cond := .code yX3_keepRow cX3_keepRow 5 none :: ([.fieldLink RX3 22 "SoldStops$Order" "most" "I", .fieldLink RX3 15 "SoldStops$Order" "row" "[I", .fieldLink RX3 9 "SoldStops$Order" "best" "[I", .methodLink RX3 49 arraycopyName, .native arraycopyName, .static arraycopyName, .initialized "java/lang/System", .fieldLink RX3 18 "SoldStops$Order" "used" "[Z"] ++ wsX30)
def wsX4_leftBehind : List Cond := .code yX4_leftBehind cX4_leftBehind 5 (some .int) :: ([.fieldLink RX4 25 "SoldStops$Page" "marks" "LSoldStops$Marks;", .fieldLink RX4 71 "SoldStops$Marks" "kinds" "[I", .methodLink RX4 77 yX1_breathBehind, .static yX1_breathBehind, .initialized RX1, .code yX1_breathBehind cX1_breathBehind 5 (some .int), .methodLink RX1 9 Lib.Math.min.name, .static Lib.Math.min.name, .initialized "java/lang/Math", .code Lib.Math.min.name Lib.Math.min.code 2 (some .int), .methodLink RX1 15 Lib.Math.max.name, .static Lib.Math.max.name, .code Lib.Math.max.name Lib.Math.max.code 2 (some .int)] ++ wsX40 ++ wsX20)
def wsX3_extend_r1 : List Cond := [Cond.fieldLink RX3 22 "SoldStops$Order" "most" "I", Cond.fieldLink RX3 35 "SoldStops$Page" "words" "I", Cond.fieldLink RX3 42 "SoldStops$Page" "lengths" "[I", Cond.fieldLink RX3 26 "SoldStops$Page" "breath" "I", Cond.fieldLink RX3 18 "SoldStops$Order" "used" "[Z", Cond.fieldLink RX3 15 "SoldStops$Order" "row" "[I", Cond.methodLink RX3 38 yX3_keepRow, Cond.instanceMethod yX3_keepRow, Cond.selects RX3 yX3_keepRow yX3_keepRow, Cond.initialized RX3, Cond.code yX3_keepRow cX3_keepRow 5 none, Cond.fieldLink RX3 9 "SoldStops$Order" "best" "[I", Cond.methodLink RX3 49 arraycopyName, Cond.native arraycopyName, Cond.static arraycopyName, Cond.initialized "java/lang/System", Cond.methodLink RX3 45 yX4_leftBehind, Cond.instanceMethod yX4_leftBehind, Cond.selects RX4 yX4_leftBehind yX4_leftBehind, Cond.initialized RX4, Cond.code yX4_leftBehind cX4_leftBehind 5 (some .int), Cond.fieldLink RX4 25 "SoldStops$Page" "marks" "LSoldStops$Marks;", Cond.fieldLink RX4 71 "SoldStops$Marks" "kinds" "[I", Cond.methodLink RX4 77 yX1_breathBehind]
def wsX3_extend_r2 : List Cond := [Cond.static yX1_breathBehind, Cond.initialized RX1, Cond.code yX1_breathBehind cX1_breathBehind 5 (some .int), Cond.methodLink RX1 9 Lib.Math.min.name, Cond.static Lib.Math.min.name, Cond.initialized "java/lang/Math", Cond.code Lib.Math.min.name Lib.Math.min.code 2 (some .int), Cond.methodLink RX1 15 Lib.Math.max.name, Cond.static Lib.Math.max.name, Cond.code Lib.Math.max.name Lib.Math.max.code 2 (some .int), Cond.methodLink RX3 31 yX3_extend, Cond.static yX3_extend]
def wsX3_extend : List Cond := .code yX3_extend cX3_extend 6 none :: ((wsX3_extend_r1 ++ wsX3_extend_r2) ++ wsX30 ++ wsX40 ++ wsX20)
def wsX3_search_r1 : List Cond := [Cond.fieldLink RX3 22 "SoldStops$Order" "most" "I", Cond.fieldLink RX3 9 "SoldStops$Order" "best" "[I", Cond.fieldLink RX3 18 "SoldStops$Order" "used" "[Z", Cond.fieldLink RX3 26 "SoldStops$Page" "breath" "I", Cond.methodLink RX3 31 yX3_extend, Cond.static yX3_extend, Cond.initialized RX3, Cond.code yX3_extend cX3_extend 6 none, Cond.fieldLink RX3 35 "SoldStops$Page" "words" "I", Cond.fieldLink RX3 42 "SoldStops$Page" "lengths" "[I", Cond.fieldLink RX3 15 "SoldStops$Order" "row" "[I", Cond.methodLink RX3 38 yX3_keepRow, Cond.instanceMethod yX3_keepRow, Cond.selects RX3 yX3_keepRow yX3_keepRow, Cond.code yX3_keepRow cX3_keepRow 5 none, Cond.methodLink RX3 49 arraycopyName, Cond.native arraycopyName, Cond.static arraycopyName, Cond.initialized "java/lang/System", Cond.methodLink RX3 45 yX4_leftBehind, Cond.instanceMethod yX4_leftBehind, Cond.selects RX4 yX4_leftBehind yX4_leftBehind, Cond.initialized RX4, Cond.code yX4_leftBehind cX4_leftBehind 5 (some .int)]
def wsX3_search_r2 : List Cond := [Cond.fieldLink RX4 25 "SoldStops$Page" "marks" "LSoldStops$Marks;", Cond.fieldLink RX4 71 "SoldStops$Marks" "kinds" "[I", Cond.methodLink RX4 77 yX1_breathBehind, Cond.static yX1_breathBehind, Cond.initialized RX1, Cond.code yX1_breathBehind cX1_breathBehind 5 (some .int), Cond.methodLink RX1 9 Lib.Math.min.name, Cond.static Lib.Math.min.name, Cond.initialized "java/lang/Math", Cond.code Lib.Math.min.name Lib.Math.min.code 2 (some .int), Cond.methodLink RX1 15 Lib.Math.max.name, Cond.static Lib.Math.max.name, Cond.code Lib.Math.max.name Lib.Math.max.code 2 (some .int)]
def wsX3_search : List Cond := .code yX3_search cX3_search 3 none :: ((wsX3_search_r1 ++ wsX3_search_r2) ++ wsX30 ++ wsX40 ++ wsX20)
def wsX4_init : List Cond := .code yX4_init cX4_init 2 none :: ([.methodLink RX4 3 objectInit, .instanceMethod objectInit, .code objectInit ⟨#[0xb1]⟩ 1 none, .fieldLink RX4 9 "SoldStops$Page" "breath" "I", .fieldLink RX4 15 "SoldStops$Page" "price" "I", .arrayClass .int, .fieldLink RX4 18 "SoldStops$Page" "lengths" "[I", .classLink RX4 22 RX2, .instantiable RX2 4, .initialized RX2, .fieldLink RX4 25 "SoldStops$Page" "marks" "LSoldStops$Marks;", .fieldLink RX4 29 "SoldStops$Page" "heard" "[I", .fieldLink RX4 32 "SoldStops$Page" "past" "[LSoldStops$Marks;", .instanceMethod yX2_init, .code yX2_init cX2_init 1 none, .methodLink RX2 3 objectInit, .fieldLink RX2 9 "SoldStops$Marks" "kinds" "[I", .fieldLink RX2 15 "SoldStops$Marks" "reads" "[I"] ++ wsX40 ++ wsX20)
def wsX4_begin : List Cond := .code yX4_begin cX4_begin 3 none :: ([.fieldLink RX4 9 "SoldStops$Page" "breath" "I", .fieldLink RX4 15 "SoldStops$Page" "price" "I", .fieldLink RX4 25 "SoldStops$Page" "marks" "LSoldStops$Marks;", .fieldLink RX4 36 "SoldStops$Marks" "purse" "I", .fieldLink RX4 39 "SoldStops$Marks" "week" "I", .fieldLink RX4 42 "SoldStops$Page" "words" "I", .fieldLink RX4 45 "SoldStops$Page" "heards" "I", .fieldLink RX4 48 "SoldStops$Page" "pasts" "I"] ++ wsX40 ++ wsX20)
def wsX4_copy : List Cond := .code yX4_copy cX4_copy 3 none :: ([.fieldLink RX4 9 "SoldStops$Page" "breath" "I", .fieldLink RX4 15 "SoldStops$Page" "price" "I", .fieldLink RX4 42 "SoldStops$Page" "words" "I", .fieldLink RX4 45 "SoldStops$Page" "heards" "I", .fieldLink RX4 48 "SoldStops$Page" "pasts" "I", .fieldLink RX4 18 "SoldStops$Page" "lengths" "[I", .methodLink RX4 51 arraycopyName, .native arraycopyName, .static arraycopyName, .initialized "java/lang/System", .fieldLink RX4 29 "SoldStops$Page" "heard" "[I", .fieldLink RX4 25 "SoldStops$Page" "marks" "LSoldStops$Marks;", .fieldLink RX4 32 "SoldStops$Page" "past" "[LSoldStops$Marks;", .methodLink RX4 57 yX2_copy, .instanceMethod yX2_copy, .selects RX2 yX2_copy yX2_copy, .initialized RX2, .code yX2_copy cX2_copy 2 none, .fieldLink RX2 28 "SoldStops$Marks" "purse" "I", .fieldLink RX2 32 "SoldStops$Marks" "week" "I", .fieldLink RX2 9 "SoldStops$Marks" "kinds" "[I", .methodLink RX2 35 arraycopyName, .fieldLink RX2 15 "SoldStops$Marks" "reads" "[I"] ++ wsX40 ++ wsX20)
def wsX4_has : List Cond := .code yX4_has cX4_has 2 (some .boolean) :: ([.fieldLink RX4 42 "SoldStops$Page" "words" "I"] ++ wsX40)
def wsX4_hasRoom : List Cond := .code yX4_hasRoom cX4_hasRoom 1 (some .boolean) :: ([.fieldLink RX4 42 "SoldStops$Page" "words" "I"] ++ wsX40)
def wsX4_addWord : List Cond := .code yX4_addWord cX4_addWord 2 none :: ([.fieldLink RX4 18 "SoldStops$Page" "lengths" "[I", .fieldLink RX4 42 "SoldStops$Page" "words" "I", .fieldLink RX4 25 "SoldStops$Page" "marks" "LSoldStops$Marks;", .fieldLink RX4 48 "SoldStops$Page" "pasts" "I", .methodLink RX4 61 yX2_set, .instanceMethod yX2_set, .selects RX2 yX2_set yX2_set, .initialized RX2, .code yX2_set cX2_set 3 none, .fieldLink RX2 9 "SoldStops$Marks" "kinds" "[I", .fieldLink RX2 15 "SoldStops$Marks" "reads" "[I"] ++ wsX40 ++ wsX20)
def wsX4_setMark : List Cond := .code yX4_setMark cX4_setMark 3 none :: ([.fieldLink RX4 25 "SoldStops$Page" "marks" "LSoldStops$Marks;", .fieldLink RX4 48 "SoldStops$Page" "pasts" "I", .methodLink RX4 61 yX2_set, .instanceMethod yX2_set, .selects RX2 yX2_set yX2_set, .initialized RX2, .code yX2_set cX2_set 3 none, .fieldLink RX2 9 "SoldStops$Marks" "kinds" "[I", .fieldLink RX2 15 "SoldStops$Marks" "reads" "[I"] ++ wsX40 ++ wsX20)
def wsX4_costOf : List Cond := .code yX4_costOf cX4_costOf 2 (some .int) :: ([.fieldLink RX4 15 "SoldStops$Page" "price" "I", .fieldLink RX4 25 "SoldStops$Page" "marks" "LSoldStops$Marks;", .fieldLink RX4 39 "SoldStops$Marks" "week" "I", .methodLink RX4 65 yX1_cost, .static yX1_cost, .initialized RX1, .code yX1_cost cX1_cost 5 (some .int)] ++ wsX40 ++ wsX20)
def wsX4_howManyMarks : List Cond := .code yX4_howManyMarks cX4_howManyMarks 3 (some .int) :: ([.fieldLink RX4 42 "SoldStops$Page" "words" "I", .fieldLink RX4 25 "SoldStops$Page" "marks" "LSoldStops$Marks;", .fieldLink RX4 71 "SoldStops$Marks" "kinds" "[I"] ++ wsX40 ++ wsX20)
def wsX4_dropOldest : List Cond := .code yX4_dropOldest cX4_dropOldest 3 none :: ([.fieldLink RX4 32 "SoldStops$Page" "past" "[LSoldStops$Marks;", .fieldLink RX4 48 "SoldStops$Page" "pasts" "I"] ++ wsX40)
def wsX4_remember : List Cond := .code yX4_remember cX4_remember 1 none :: ([.fieldLink RX4 48 "SoldStops$Page" "pasts" "I", .fieldLink RX4 32 "SoldStops$Page" "past" "[LSoldStops$Marks;", .fieldLink RX4 25 "SoldStops$Page" "marks" "LSoldStops$Marks;", .methodLink RX4 74 yX4_dropOldest, .instanceMethod yX4_dropOldest, .selects RX4 yX4_dropOldest yX4_dropOldest, .initialized RX4, .code yX4_dropOldest cX4_dropOldest 3 none, .methodLink RX4 57 yX2_copy, .instanceMethod yX2_copy, .selects RX2 yX2_copy yX2_copy, .initialized RX2, .code yX2_copy cX2_copy 2 none, .fieldLink RX2 28 "SoldStops$Marks" "purse" "I", .fieldLink RX2 32 "SoldStops$Marks" "week" "I", .fieldLink RX2 9 "SoldStops$Marks" "kinds" "[I", .methodLink RX2 35 arraycopyName, .native arraycopyName, .static arraycopyName, .initialized "java/lang/System", .fieldLink RX2 15 "SoldStops$Marks" "reads" "[I"] ++ wsX40 ++ wsX20)
def wsX4_goBack : List Cond := .code yX4_goBack cX4_goBack 1 none :: ([.fieldLink RX4 48 "SoldStops$Page" "pasts" "I", .fieldLink RX4 25 "SoldStops$Page" "marks" "LSoldStops$Marks;", .fieldLink RX4 32 "SoldStops$Page" "past" "[LSoldStops$Marks;", .methodLink RX4 57 yX2_copy, .instanceMethod yX2_copy, .selects RX2 yX2_copy yX2_copy, .initialized RX2, .code yX2_copy cX2_copy 2 none, .fieldLink RX2 28 "SoldStops$Marks" "purse" "I", .fieldLink RX2 32 "SoldStops$Marks" "week" "I", .fieldLink RX2 9 "SoldStops$Marks" "kinds" "[I", .methodLink RX2 35 arraycopyName, .native arraycopyName, .static arraycopyName, .initialized "java/lang/System", .fieldLink RX2 15 "SoldStops$Marks" "reads" "[I"] ++ wsX40 ++ wsX20)
def wsX4_say_r1 : List Cond := [Cond.fieldLink RX4 9 "SoldStops$Page" "breath" "I", Cond.fieldLink RX4 42 "SoldStops$Page" "words" "I", Cond.fieldLink RX4 18 "SoldStops$Page" "lengths" "[I", Cond.fieldLink RX4 25 "SoldStops$Page" "marks" "LSoldStops$Marks;", Cond.methodLink RX4 80 yX4_leftBehind, Cond.instanceMethod yX4_leftBehind, Cond.selects RX4 yX4_leftBehind yX4_leftBehind, Cond.initialized RX4, Cond.code yX4_leftBehind cX4_leftBehind 5 (some .int), Cond.fieldLink RX4 71 "SoldStops$Marks" "kinds" "[I", Cond.methodLink RX4 77 yX1_breathBehind, Cond.static yX1_breathBehind, Cond.initialized RX1, Cond.code yX1_breathBehind cX1_breathBehind 5 (some .int), Cond.methodLink RX1 9 Lib.Math.min.name, Cond.static Lib.Math.min.name, Cond.initialized "java/lang/Math", Cond.code Lib.Math.min.name Lib.Math.min.code 2 (some .int), Cond.methodLink RX1 15 Lib.Math.max.name, Cond.static Lib.Math.max.name, Cond.code Lib.Math.max.name Lib.Math.max.code 2 (some .int), Cond.methodLink RX4 84 yX2_readOnce, Cond.instanceMethod yX2_readOnce, Cond.selects RX2 yX2_readOnce yX2_readOnce]
def wsX4_say_r2 : List Cond := [Cond.initialized RX2, Cond.code yX2_readOnce cX2_readOnce 3 none, Cond.fieldLink RX2 9 "SoldStops$Marks" "kinds" "[I", Cond.fieldLink RX2 15 "SoldStops$Marks" "reads" "[I", Cond.methodLink RX2 18 yX1_lasts, Cond.static yX1_lasts, Cond.code yX1_lasts cX1_lasts 1 (some .int), Cond.methodLink RX2 24 yX2_set, Cond.instanceMethod yX2_set, Cond.selects RX2 yX2_set yX2_set, Cond.code yX2_set cX2_set 3 none]
def wsX4_say : List Cond := .code yX4_say cX4_say 3 (some .int) :: ((wsX4_say_r1 ++ wsX4_say_r2) ++ wsX40 ++ wsX20)
def wsX4_stuckAt : List Cond := .code yX4_stuckAt cX4_stuckAt 5 (some .int) :: ([.fieldLink RX4 42 "SoldStops$Page" "words" "I", .fieldLink RX4 18 "SoldStops$Page" "lengths" "[I", .methodLink RX4 80 yX4_leftBehind, .instanceMethod yX4_leftBehind, .selects RX4 yX4_leftBehind yX4_leftBehind, .initialized RX4, .code yX4_leftBehind cX4_leftBehind 5 (some .int), .fieldLink RX4 25 "SoldStops$Page" "marks" "LSoldStops$Marks;", .fieldLink RX4 71 "SoldStops$Marks" "kinds" "[I", .methodLink RX4 77 yX1_breathBehind, .static yX1_breathBehind, .initialized RX1, .code yX1_breathBehind cX1_breathBehind 5 (some .int), .methodLink RX1 9 Lib.Math.min.name, .static Lib.Math.min.name, .initialized "java/lang/Math", .code Lib.Math.min.name Lib.Math.min.code 2 (some .int), .methodLink RX1 15 Lib.Math.max.name, .static Lib.Math.max.name, .code Lib.Math.max.name Lib.Math.max.code 2 (some .int)] ++ wsX40 ++ wsX20)
def wsX4_breathsStuckAt : List Cond := .code yX4_breathsStuckAt cX4_breathsStuckAt 4 (some .int) :: ([.methodLink RX4 88 yX4_stuckAt, .instanceMethod yX4_stuckAt, .selects RX4 yX4_stuckAt yX4_stuckAt, .initialized RX4, .code yX4_stuckAt cX4_stuckAt 5 (some .int), .fieldLink RX4 42 "SoldStops$Page" "words" "I", .fieldLink RX4 18 "SoldStops$Page" "lengths" "[I", .methodLink RX4 80 yX4_leftBehind, .instanceMethod yX4_leftBehind, .selects RX4 yX4_leftBehind yX4_leftBehind, .code yX4_leftBehind cX4_leftBehind 5 (some .int), .fieldLink RX4 25 "SoldStops$Page" "marks" "LSoldStops$Marks;", .fieldLink RX4 71 "SoldStops$Marks" "kinds" "[I", .methodLink RX4 77 yX1_breathBehind, .static yX1_breathBehind, .initialized RX1, .code yX1_breathBehind cX1_breathBehind 5 (some .int), .methodLink RX1 9 Lib.Math.min.name, .static Lib.Math.min.name, .initialized "java/lang/Math", .code Lib.Math.min.name Lib.Math.min.code 2 (some .int), .methodLink RX1 15 Lib.Math.max.name, .static Lib.Math.max.name, .code Lib.Math.max.name Lib.Math.max.code 2 (some .int)] ++ wsX40 ++ wsX20)
def wsX4_addHeard : List Cond := .code yX4_addHeard cX4_addHeard 2 none :: ([.fieldLink RX4 29 "SoldStops$Page" "heard" "[I", .fieldLink RX4 45 "SoldStops$Page" "heards" "I"] ++ wsX40)
def wsX4_breathsHeard : List Cond := .code yX4_breathsHeard cX4_breathsHeard 3 (some .int) :: ([.constant RX4 92 (2147483646), .fieldLink RX4 45 "SoldStops$Page" "heards" "I", .fieldLink RX4 29 "SoldStops$Page" "heard" "[I"] ++ wsX40)
def wsX4_lastIsEnded : List Cond := .code yX4_lastIsEnded cX4_lastIsEnded 1 (some .boolean) :: ([.fieldLink RX4 42 "SoldStops$Page" "words" "I", .fieldLink RX4 25 "SoldStops$Page" "marks" "LSoldStops$Marks;", .fieldLink RX4 71 "SoldStops$Marks" "kinds" "[I", .methodLink RX4 93 yX1_ends, .static yX1_ends, .initialized RX1, .code yX1_ends cX1_ends 1 (some .boolean)] ++ wsX40 ++ wsX20)
def wsX4_howManySentences : List Cond := .code yX4_howManySentences cX4_howManySentences 3 (some .int) :: ([.fieldLink RX4 42 "SoldStops$Page" "words" "I", .fieldLink RX4 25 "SoldStops$Page" "marks" "LSoldStops$Marks;", .fieldLink RX4 71 "SoldStops$Marks" "kinds" "[I", .methodLink RX4 93 yX1_ends, .static yX1_ends, .initialized RX1, .code yX1_ends cX1_ends 1 (some .boolean), .methodLink RX4 97 yX4_lastIsEnded, .instanceMethod yX4_lastIsEnded, .selects RX4 yX4_lastIsEnded yX4_lastIsEnded, .initialized RX4, .code yX4_lastIsEnded cX4_lastIsEnded 1 (some .boolean)] ++ wsX40 ++ wsX20)
def wsX4_longestSentence : List Cond := .code yX4_longestSentence cX4_longestSentence 7 (some .int) :: ([.fieldLink RX4 42 "SoldStops$Page" "words" "I", .fieldLink RX4 25 "SoldStops$Page" "marks" "LSoldStops$Marks;", .fieldLink RX4 71 "SoldStops$Marks" "kinds" "[I", .methodLink RX4 93 yX1_ends, .static yX1_ends, .initialized RX1, .code yX1_ends cX1_ends 1 (some .boolean)] ++ wsX40 ++ wsX20)
def wsX5_init : List Cond := .code yX5_init cX5_init 1 none :: ([.methodLink RX5 3 objectInit, .instanceMethod objectInit, .code objectInit ⟨#[0xb1]⟩ 1 none, .classLink RX5 9 "[[I", .arrayClass .int, .fieldLink RX5 11 "SoldStops$Plan" "costs" "[[I", .fieldLink RX5 16 "SoldStops$Plan" "fewest" "[[I", .fieldLink RX5 19 "SoldStops$Plan" "choices" "[[I", .fieldLink RX5 22 "SoldStops$Plan" "now" "[I", .fieldLink RX5 26 "SoldStops$Plan" "then" "[I"] ++ wsX50)
def wsJ7_fill_53178 : List Cond := .code yJ7_fill_53178 cJ7_fill_53178 4 none :: ([])
def wsX5_choose_r1 : List Cond := [Cond.fieldLink RX5 49 "SoldStops$Page" "marks" "LSoldStops$Marks;", Cond.fieldLink RX5 53 "SoldStops$Marks" "kinds" "[I", Cond.fieldLink RX5 42 "SoldStops$Page" "lengths" "[I", Cond.fieldLink RX5 11 "SoldStops$Plan" "costs" "[[I", Cond.fieldLink RX5 16 "SoldStops$Plan" "fewest" "[[I", Cond.constant RX5 41 (1000000), Cond.fieldLink RX5 19 "SoldStops$Plan" "choices" "[[I", Cond.methodLink RX5 60 yX1_breathBehind, Cond.static yX1_breathBehind, Cond.initialized RX1, Cond.code yX1_breathBehind cX1_breathBehind 5 (some .int), Cond.methodLink RX1 9 Lib.Math.min.name, Cond.static Lib.Math.min.name, Cond.initialized "java/lang/Math", Cond.code Lib.Math.min.name Lib.Math.min.code 2 (some .int), Cond.methodLink RX1 15 Lib.Math.max.name, Cond.static Lib.Math.max.name, Cond.code Lib.Math.max.name Lib.Math.max.code 2 (some .int), Cond.methodLink RX5 64 yX4_costOf, Cond.instanceMethod yX4_costOf, Cond.selects RX4 yX4_costOf yX4_costOf, Cond.initialized RX4, Cond.code yX4_costOf cX4_costOf 2 (some .int), Cond.fieldLink RX4 15 "SoldStops$Page" "price" "I"]
def wsX5_choose_r2 : List Cond := [Cond.fieldLink RX4 25 "SoldStops$Page" "marks" "LSoldStops$Marks;", Cond.fieldLink RX4 39 "SoldStops$Marks" "week" "I", Cond.methodLink RX4 65 yX1_cost, Cond.static yX1_cost, Cond.code yX1_cost cX1_cost 5 (some .int), Cond.methodLink RX5 68 yX1_ends, Cond.static yX1_ends, Cond.code yX1_ends cX1_ends 1 (some .boolean)]
def wsX5_choose : List Cond := .code yX5_choose cX5_choose 14 none :: ((wsX5_choose_r1 ++ wsX5_choose_r2) ++ wsX40 ++ wsX20 ++ wsX50)
def wsX5_make_r1 : List Cond := [Cond.fieldLink RX5 29 "SoldStops$Page" "words" "I", Cond.fieldLink RX5 11 "SoldStops$Plan" "costs" "[[I", Cond.fieldLink RX5 16 "SoldStops$Plan" "fewest" "[[I", Cond.constant RX5 41 (1000000), Cond.fieldLink RX5 19 "SoldStops$Plan" "choices" "[[I", Cond.fieldLink RX5 42 "SoldStops$Page" "lengths" "[I", Cond.methodLink RX5 35 yJ7_fill_53178, Cond.static yJ7_fill_53178, Cond.initialized RJ7, Cond.code yJ7_fill_53178 cJ7_fill_53178 4 none, Cond.methodLink RX5 45 yX5_choose, Cond.instanceMethod yX5_choose, Cond.selects RX5 yX5_choose yX5_choose, Cond.initialized RX5, Cond.code yX5_choose cX5_choose 14 none, Cond.fieldLink RX5 49 "SoldStops$Page" "marks" "LSoldStops$Marks;", Cond.fieldLink RX5 53 "SoldStops$Marks" "kinds" "[I", Cond.methodLink RX5 60 yX1_breathBehind, Cond.static yX1_breathBehind, Cond.initialized RX1, Cond.code yX1_breathBehind cX1_breathBehind 5 (some .int), Cond.methodLink RX1 9 Lib.Math.min.name, Cond.static Lib.Math.min.name, Cond.initialized "java/lang/Math"]
def wsX5_make_r2 : List Cond := [Cond.code Lib.Math.min.name Lib.Math.min.code 2 (some .int), Cond.methodLink RX1 15 Lib.Math.max.name, Cond.static Lib.Math.max.name, Cond.code Lib.Math.max.name Lib.Math.max.code 2 (some .int), Cond.methodLink RX5 64 yX4_costOf, Cond.instanceMethod yX4_costOf, Cond.selects RX4 yX4_costOf yX4_costOf, Cond.initialized RX4, Cond.code yX4_costOf cX4_costOf 2 (some .int), Cond.fieldLink RX4 15 "SoldStops$Page" "price" "I", Cond.fieldLink RX4 25 "SoldStops$Page" "marks" "LSoldStops$Marks;", Cond.fieldLink RX4 39 "SoldStops$Marks" "week" "I", Cond.methodLink RX4 65 yX1_cost, Cond.static yX1_cost, Cond.code yX1_cost cX1_cost 5 (some .int), Cond.methodLink RX5 68 yX1_ends, Cond.static yX1_ends, Cond.code yX1_ends cX1_ends 1 (some .boolean)]
def wsX5_make : List Cond := .code yX5_make cX5_make 8 none :: ((wsX5_make_r1 ++ wsX5_make_r2) ++ wsX40 ++ wsX50 ++ wsX20)
def wsX5_isThere : List Cond := .code yX5_isThere cX5_isThere 2 (some .boolean) :: ([.fieldLink RX5 11 "SoldStops$Plan" "costs" "[[I", .constant RX5 41 (1000000)] ++ wsX50)
def wsX5_cost : List Cond := .code yX5_cost cX5_cost 2 (some .int) :: ([.fieldLink RX5 11 "SoldStops$Plan" "costs" "[[I"] ++ wsX50)
def wsX5_kindBehind : List Cond := .code yX5_kindBehind cX5_kindBehind 8 (some .int) :: ([.fieldLink RX5 49 "SoldStops$Page" "marks" "LSoldStops$Marks;", .fieldLink RX5 53 "SoldStops$Marks" "kinds" "[I", .fieldLink RX5 19 "SoldStops$Plan" "choices" "[[I", .fieldLink RX5 42 "SoldStops$Page" "lengths" "[I", .methodLink RX5 60 yX1_breathBehind, .static yX1_breathBehind, .initialized RX1, .code yX1_breathBehind cX1_breathBehind 5 (some .int), .methodLink RX1 9 Lib.Math.min.name, .static Lib.Math.min.name, .initialized "java/lang/Math", .code Lib.Math.min.name Lib.Math.min.code 2 (some .int), .methodLink RX1 15 Lib.Math.max.name, .static Lib.Math.max.name, .code Lib.Math.max.name Lib.Math.max.code 2 (some .int)] ++ wsX40 ++ wsX20 ++ wsX50)
def wsX5_spread_r1 : List Cond := [Cond.fieldLink RX5 49 "SoldStops$Page" "marks" "LSoldStops$Marks;", Cond.fieldLink RX5 53 "SoldStops$Marks" "kinds" "[I", Cond.fieldLink RX5 42 "SoldStops$Page" "lengths" "[I", Cond.fieldLink RX5 72 "SoldStops$Page" "breath" "I", Cond.fieldLink RX5 26 "SoldStops$Plan" "then" "[I", Cond.fieldLink RX5 22 "SoldStops$Plan" "now" "[I", Cond.methodLink RX5 85 Lib.Math.min.name, Cond.static Lib.Math.min.name, Cond.initialized "java/lang/Math", Cond.code Lib.Math.min.name Lib.Math.min.code 2 (some .int), Cond.methodLink RX5 60 yX1_breathBehind, Cond.static yX1_breathBehind, Cond.initialized RX1, Cond.code yX1_breathBehind cX1_breathBehind 5 (some .int), Cond.methodLink RX1 9 Lib.Math.min.name, Cond.methodLink RX1 15 Lib.Math.max.name, Cond.static Lib.Math.max.name, Cond.code Lib.Math.max.name Lib.Math.max.code 2 (some .int), Cond.methodLink RX5 64 yX4_costOf, Cond.instanceMethod yX4_costOf, Cond.selects RX4 yX4_costOf yX4_costOf, Cond.initialized RX4, Cond.code yX4_costOf cX4_costOf 2 (some .int), Cond.fieldLink RX4 15 "SoldStops$Page" "price" "I"]
def wsX5_spread_r2 : List Cond := [Cond.fieldLink RX4 25 "SoldStops$Page" "marks" "LSoldStops$Marks;", Cond.fieldLink RX4 39 "SoldStops$Marks" "week" "I", Cond.methodLink RX4 65 yX1_cost, Cond.static yX1_cost, Cond.code yX1_cost cX1_cost 5 (some .int)]
def wsX5_spread : List Cond := .code yX5_spread cX5_spread 9 none :: ((wsX5_spread_r1 ++ wsX5_spread_r2) ++ wsX40 ++ wsX20 ++ wsX50)
def wsX5_reachFor_r1 : List Cond := [Cond.fieldLink RX5 22 "SoldStops$Plan" "now" "[I", Cond.constant RX5 41 (1000000), Cond.fieldLink RX5 72 "SoldStops$Page" "breath" "I", Cond.fieldLink RX5 29 "SoldStops$Page" "words" "I", Cond.fieldLink RX5 26 "SoldStops$Plan" "then" "[I", Cond.fieldLink RX5 42 "SoldStops$Page" "lengths" "[I", Cond.methodLink RX5 79 arraycopyName, Cond.native arraycopyName, Cond.static arraycopyName, Cond.initialized "java/lang/System", Cond.methodLink RX5 35 yJ7_fill_53178, Cond.static yJ7_fill_53178, Cond.initialized RJ7, Cond.code yJ7_fill_53178 cJ7_fill_53178 4 none, Cond.methodLink RX5 75 yX5_spread, Cond.instanceMethod yX5_spread, Cond.selects RX5 yX5_spread yX5_spread, Cond.initialized RX5, Cond.code yX5_spread cX5_spread 9 none, Cond.fieldLink RX5 49 "SoldStops$Page" "marks" "LSoldStops$Marks;", Cond.fieldLink RX5 53 "SoldStops$Marks" "kinds" "[I", Cond.methodLink RX5 85 Lib.Math.min.name, Cond.static Lib.Math.min.name, Cond.initialized "java/lang/Math"]
def wsX5_reachFor_r2 : List Cond := [Cond.code Lib.Math.min.name Lib.Math.min.code 2 (some .int), Cond.methodLink RX5 60 yX1_breathBehind, Cond.static yX1_breathBehind, Cond.initialized RX1, Cond.code yX1_breathBehind cX1_breathBehind 5 (some .int), Cond.methodLink RX1 9 Lib.Math.min.name, Cond.methodLink RX1 15 Lib.Math.max.name, Cond.static Lib.Math.max.name, Cond.code Lib.Math.max.name Lib.Math.max.code 2 (some .int), Cond.methodLink RX5 64 yX4_costOf, Cond.instanceMethod yX4_costOf, Cond.selects RX4 yX4_costOf yX4_costOf, Cond.initialized RX4, Cond.code yX4_costOf cX4_costOf 2 (some .int), Cond.fieldLink RX4 15 "SoldStops$Page" "price" "I", Cond.fieldLink RX4 25 "SoldStops$Page" "marks" "LSoldStops$Marks;", Cond.fieldLink RX4 39 "SoldStops$Marks" "week" "I", Cond.methodLink RX4 65 yX1_cost, Cond.static yX1_cost, Cond.code yX1_cost cX1_cost 5 (some .int)]
def wsX5_reachFor : List Cond := .code yX5_reachFor cX5_reachFor 6 (some .int) :: ((wsX5_reachFor_r1 ++ wsX5_reachFor_r2) ++ wsX50 ++ wsX40 ++ wsX20)
def wsX6_init : List Cond := .code yX6_init cX6_init 1 none :: ([.methodLink RX6 3 objectInit, .instanceMethod objectInit, .code objectInit ⟨#[0xb1]⟩ 1 none, .arrayClass .int, .fieldLink RX6 9 "SoldStops$Text" "bytes" "[I", .fieldLink RX6 15 "SoldStops$Text" "whats" "[I", .fieldLink RX6 18 "SoldStops$Text" "firsts" "[I", .fieldLink RX6 21 "SoldStops$Text" "seconds" "[I"] ++ wsX60)
def wsX6_add : List Cond := .code yX6_add cX6_add 2 none :: ([.fieldLink RX6 9 "SoldStops$Text" "bytes" "[I", .fieldLink RX6 24 "SoldStops$Text" "size" "I"] ++ wsX60)
def wsX6_runEnd : List Cond := .code yX6_runEnd cX6_runEnd 5 (some .int) :: ([.fieldLink RX6 24 "SoldStops$Text" "size" "I", .fieldLink RX6 9 "SoldStops$Text" "bytes" "[I"] ++ wsX60)
def wsJ0_coder_7d493 : List Cond := .code yJ0_coder_7d493 cJ0_coder_7d493 1 (some .byte) :: ([.fieldLink RJ0 38 "java/lang/String" "COMPACT_STRINGS" "Z", .fieldLink RJ0 15 "java/lang/String" "coder" "B"])
def wsJ0_length_8abf5 : List Cond := .code yJ0_length_8abf5 cJ0_length_8abf5 1 (some .int) :: ([.fieldLink RJ0 9 "java/lang/String" "value" "[B", .methodLink RJ0 335 yJ0_coder_7d493, .instanceMethod yJ0_coder_7d493, .selects RJ0 yJ0_coder_7d493 yJ0_coder_7d493, .initialized RJ0, .code yJ0_coder_7d493 cJ0_coder_7d493 1 (some .byte), .fieldLink RJ0 38 "java/lang/String" "COMPACT_STRINGS" "Z", .fieldLink RJ0 15 "java/lang/String" "coder" "B"])
def wsJ0_isLatin1_aae02 : List Cond := .code yJ0_isLatin1_aae02 cJ0_isLatin1_aae02 1 (some .boolean) :: ([.fieldLink RJ0 38 "java/lang/String" "COMPACT_STRINGS" "Z", .fieldLink RJ0 15 "java/lang/String" "coder" "B"])
def wsJ3_checkIndex_8e157 : List Cond := .code yJ3_checkIndex_8e157 cJ3_checkIndex_8e157 3 (some .int) :: ([])
def wsJ0_checkIndex_df160 : List Cond := .code yJ0_checkIndex_df160 cJ0_checkIndex_df160 2 none :: ([.fieldLink RJ0 1053 "jdk/internal/util/Preconditions" "SIOOBE_FORMATTER" "Ljava/util/function/BiFunction;", .methodLink RJ0 1059 yJ3_checkIndex_8e157, .static yJ3_checkIndex_8e157, .initialized RJ3, .code yJ3_checkIndex_8e157 cJ3_checkIndex_8e157 3 (some .int)])
def wsJ1_charAt_3b067 : List Cond := .code yJ1_charAt_3b067 cJ1_charAt_3b067 2 (some .char) :: ([.methodLink RJ1 9 yJ0_checkIndex_df160, .static yJ0_checkIndex_df160, .initialized RJ0, .code yJ0_checkIndex_df160 cJ0_checkIndex_df160 2 none, .fieldLink RJ0 1053 "jdk/internal/util/Preconditions" "SIOOBE_FORMATTER" "Ljava/util/function/BiFunction;", .methodLink RJ0 1059 yJ3_checkIndex_8e157, .static yJ3_checkIndex_8e157, .initialized RJ3, .code yJ3_checkIndex_8e157 cJ3_checkIndex_8e157 3 (some .int)])
def wsJ2_length_9d52b : List Cond := .code yJ2_length_9d52b cJ2_length_9d52b 1 (some .int) :: ([])
def wsJ2_checkIndex_2214a : List Cond := .code yJ2_checkIndex_2214a cJ2_checkIndex_2214a 2 none :: ([.methodLink RJ2 48 yJ2_length_9d52b, .static yJ2_length_9d52b, .initialized RJ2, .code yJ2_length_9d52b cJ2_length_9d52b 1 (some .int), .methodLink RJ2 414 yJ0_checkIndex_df160, .static yJ0_checkIndex_df160, .initialized RJ0, .code yJ0_checkIndex_df160 cJ0_checkIndex_df160 2 none, .fieldLink RJ0 1053 "jdk/internal/util/Preconditions" "SIOOBE_FORMATTER" "Ljava/util/function/BiFunction;", .methodLink RJ0 1059 yJ3_checkIndex_8e157, .static yJ3_checkIndex_8e157, .initialized RJ3, .code yJ3_checkIndex_8e157 cJ3_checkIndex_8e157 3 (some .int)])
def wsJ2_getChar_3b067 : List Cond := .code yJ2_getChar_3b067 cJ2_getChar_3b067 2 (some .char) :: ([.fieldLink RJ2 44 "java/lang/StringUTF16" "$assertionsDisabled" "Z", .fieldLink RJ2 59 "java/lang/StringUTF16" "HI_BYTE_SHIFT" "I", .fieldLink RJ2 63 "java/lang/StringUTF16" "LO_BYTE_SHIFT" "I", .methodLink RJ2 48 yJ2_length_9d52b, .static yJ2_length_9d52b, .initialized RJ2, .code yJ2_length_9d52b cJ2_length_9d52b 1 (some .int)])
def wsJ2_charAt_3b067 : List Cond := .code yJ2_charAt_3b067 cJ2_charAt_3b067 2 (some .char) :: ([.methodLink RJ2 67 yJ2_checkIndex_2214a, .static yJ2_checkIndex_2214a, .initialized RJ2, .code yJ2_checkIndex_2214a cJ2_checkIndex_2214a 2 none, .methodLink RJ2 48 yJ2_length_9d52b, .static yJ2_length_9d52b, .code yJ2_length_9d52b cJ2_length_9d52b 1 (some .int), .methodLink RJ2 414 yJ0_checkIndex_df160, .static yJ0_checkIndex_df160, .initialized RJ0, .code yJ0_checkIndex_df160 cJ0_checkIndex_df160 2 none, .fieldLink RJ0 1053 "jdk/internal/util/Preconditions" "SIOOBE_FORMATTER" "Ljava/util/function/BiFunction;", .methodLink RJ0 1059 yJ3_checkIndex_8e157, .static yJ3_checkIndex_8e157, .initialized RJ3, .code yJ3_checkIndex_8e157 cJ3_checkIndex_8e157 3 (some .int), .methodLink RJ2 71 yJ2_getChar_3b067, .static yJ2_getChar_3b067, .code yJ2_getChar_3b067 cJ2_getChar_3b067 2 (some .char), .fieldLink RJ2 44 "java/lang/StringUTF16" "$assertionsDisabled" "Z", .fieldLink RJ2 59 "java/lang/StringUTF16" "HI_BYTE_SHIFT" "I", .fieldLink RJ2 63 "java/lang/StringUTF16" "LO_BYTE_SHIFT" "I"])
def wsJ0_charAt_5068e_r1 : List Cond := [Cond.fieldLink RJ0 9 "java/lang/String" "value" "[B", Cond.methodLink RJ0 492 yJ0_isLatin1_aae02, Cond.instanceMethod yJ0_isLatin1_aae02, Cond.selects RJ0 yJ0_isLatin1_aae02 yJ0_isLatin1_aae02, Cond.initialized RJ0, Cond.code yJ0_isLatin1_aae02 cJ0_isLatin1_aae02 1 (some .boolean), Cond.fieldLink RJ0 38 "java/lang/String" "COMPACT_STRINGS" "Z", Cond.fieldLink RJ0 15 "java/lang/String" "coder" "B", Cond.methodLink RJ0 495 yJ1_charAt_3b067, Cond.static yJ1_charAt_3b067, Cond.initialized RJ1, Cond.code yJ1_charAt_3b067 cJ1_charAt_3b067 2 (some .char), Cond.methodLink RJ1 9 yJ0_checkIndex_df160, Cond.static yJ0_checkIndex_df160, Cond.code yJ0_checkIndex_df160 cJ0_checkIndex_df160 2 none, Cond.fieldLink RJ0 1053 "jdk/internal/util/Preconditions" "SIOOBE_FORMATTER" "Ljava/util/function/BiFunction;", Cond.methodLink RJ0 1059 yJ3_checkIndex_8e157, Cond.static yJ3_checkIndex_8e157, Cond.initialized RJ3, Cond.code yJ3_checkIndex_8e157 cJ3_checkIndex_8e157 3 (some .int), Cond.methodLink RJ0 498 yJ2_charAt_3b067, Cond.static yJ2_charAt_3b067, Cond.initialized RJ2, Cond.code yJ2_charAt_3b067 cJ2_charAt_3b067 2 (some .char)]
def wsJ0_charAt_5068e_r2 : List Cond := [Cond.methodLink RJ2 67 yJ2_checkIndex_2214a, Cond.static yJ2_checkIndex_2214a, Cond.code yJ2_checkIndex_2214a cJ2_checkIndex_2214a 2 none, Cond.methodLink RJ2 48 yJ2_length_9d52b, Cond.static yJ2_length_9d52b, Cond.code yJ2_length_9d52b cJ2_length_9d52b 1 (some .int), Cond.methodLink RJ2 414 yJ0_checkIndex_df160, Cond.methodLink RJ2 71 yJ2_getChar_3b067, Cond.static yJ2_getChar_3b067, Cond.code yJ2_getChar_3b067 cJ2_getChar_3b067 2 (some .char), Cond.fieldLink RJ2 44 "java/lang/StringUTF16" "$assertionsDisabled" "Z", Cond.fieldLink RJ2 59 "java/lang/StringUTF16" "HI_BYTE_SHIFT" "I", Cond.fieldLink RJ2 63 "java/lang/StringUTF16" "LO_BYTE_SHIFT" "I"]
def wsJ0_charAt_5068e : List Cond := .code yJ0_charAt_5068e cJ0_charAt_5068e 2 (some .char) :: ((wsJ0_charAt_5068e_r1 ++ wsJ0_charAt_5068e_r2))
def wsX6_isHere_r1 : List Cond := [Cond.fieldLink RX6 28 "SoldStops$Text" "behind" "I", Cond.fieldLink RX6 47 "SoldStops$Text" "place" "I", Cond.fieldLink RX6 9 "SoldStops$Text" "bytes" "[I", Cond.methodLink RX6 74 yJ0_length_8abf5, Cond.instanceMethod yJ0_length_8abf5, Cond.selects RJ0 yJ0_length_8abf5 yJ0_length_8abf5, Cond.initialized RJ0, Cond.code yJ0_length_8abf5 cJ0_length_8abf5 1 (some .int), Cond.fieldLink RJ0 9 "java/lang/String" "value" "[B", Cond.methodLink RJ0 335 yJ0_coder_7d493, Cond.instanceMethod yJ0_coder_7d493, Cond.selects RJ0 yJ0_coder_7d493 yJ0_coder_7d493, Cond.code yJ0_coder_7d493 cJ0_coder_7d493 1 (some .byte), Cond.fieldLink RJ0 38 "java/lang/String" "COMPACT_STRINGS" "Z", Cond.fieldLink RJ0 15 "java/lang/String" "coder" "B", Cond.methodLink RX6 79 yJ0_charAt_5068e, Cond.instanceMethod yJ0_charAt_5068e, Cond.selects RJ0 yJ0_charAt_5068e yJ0_charAt_5068e, Cond.code yJ0_charAt_5068e cJ0_charAt_5068e 2 (some .char), Cond.methodLink RJ0 492 yJ0_isLatin1_aae02, Cond.instanceMethod yJ0_isLatin1_aae02, Cond.selects RJ0 yJ0_isLatin1_aae02 yJ0_isLatin1_aae02, Cond.code yJ0_isLatin1_aae02 cJ0_isLatin1_aae02 1 (some .boolean), Cond.methodLink RJ0 495 yJ1_charAt_3b067]
def wsX6_isHere_r2 : List Cond := [Cond.static yJ1_charAt_3b067, Cond.initialized RJ1, Cond.code yJ1_charAt_3b067 cJ1_charAt_3b067 2 (some .char), Cond.methodLink RJ1 9 yJ0_checkIndex_df160, Cond.static yJ0_checkIndex_df160, Cond.code yJ0_checkIndex_df160 cJ0_checkIndex_df160 2 none, Cond.fieldLink RJ0 1053 "jdk/internal/util/Preconditions" "SIOOBE_FORMATTER" "Ljava/util/function/BiFunction;", Cond.methodLink RJ0 1059 yJ3_checkIndex_8e157, Cond.static yJ3_checkIndex_8e157, Cond.initialized RJ3, Cond.code yJ3_checkIndex_8e157 cJ3_checkIndex_8e157 3 (some .int), Cond.methodLink RJ0 498 yJ2_charAt_3b067, Cond.static yJ2_charAt_3b067, Cond.initialized RJ2, Cond.code yJ2_charAt_3b067 cJ2_charAt_3b067 2 (some .char), Cond.methodLink RJ2 67 yJ2_checkIndex_2214a, Cond.static yJ2_checkIndex_2214a, Cond.code yJ2_checkIndex_2214a cJ2_checkIndex_2214a 2 none, Cond.methodLink RJ2 48 yJ2_length_9d52b, Cond.static yJ2_length_9d52b, Cond.code yJ2_length_9d52b cJ2_length_9d52b 1 (some .int), Cond.methodLink RJ2 414 yJ0_checkIndex_df160, Cond.methodLink RJ2 71 yJ2_getChar_3b067, Cond.static yJ2_getChar_3b067]
def wsX6_isHere_r3 : List Cond := [Cond.code yJ2_getChar_3b067 cJ2_getChar_3b067 2 (some .char), Cond.fieldLink RJ2 44 "java/lang/StringUTF16" "$assertionsDisabled" "Z", Cond.fieldLink RJ2 59 "java/lang/StringUTF16" "HI_BYTE_SHIFT" "I", Cond.fieldLink RJ2 63 "java/lang/StringUTF16" "LO_BYTE_SHIFT" "I"]
def wsX6_isHere : List Cond := .code yX6_isHere cX6_isHere 3 (some .boolean) :: ((wsX6_isHere_r1 ++ (wsX6_isHere_r2 ++ wsX6_isHere_r3)) ++ wsX60)
def wsX6_wordHere_r1 : List Cond := [Cond.methodLink RX6 66 yX6_isHere, Cond.instanceMethod yX6_isHere, Cond.selects RX6 yX6_isHere yX6_isHere, Cond.initialized RX6, Cond.code yX6_isHere cX6_isHere 3 (some .boolean), Cond.fieldLink RX6 28 "SoldStops$Text" "behind" "I", Cond.fieldLink RX6 47 "SoldStops$Text" "place" "I", Cond.fieldLink RX6 9 "SoldStops$Text" "bytes" "[I", Cond.methodLink RX6 74 yJ0_length_8abf5, Cond.instanceMethod yJ0_length_8abf5, Cond.selects RJ0 yJ0_length_8abf5 yJ0_length_8abf5, Cond.initialized RJ0, Cond.code yJ0_length_8abf5 cJ0_length_8abf5 1 (some .int), Cond.fieldLink RJ0 9 "java/lang/String" "value" "[B", Cond.methodLink RJ0 335 yJ0_coder_7d493, Cond.instanceMethod yJ0_coder_7d493, Cond.selects RJ0 yJ0_coder_7d493 yJ0_coder_7d493, Cond.code yJ0_coder_7d493 cJ0_coder_7d493 1 (some .byte), Cond.fieldLink RJ0 38 "java/lang/String" "COMPACT_STRINGS" "Z", Cond.fieldLink RJ0 15 "java/lang/String" "coder" "B", Cond.methodLink RX6 79 yJ0_charAt_5068e, Cond.instanceMethod yJ0_charAt_5068e, Cond.selects RJ0 yJ0_charAt_5068e yJ0_charAt_5068e, Cond.code yJ0_charAt_5068e cJ0_charAt_5068e 2 (some .char)]
def wsX6_wordHere_r2 : List Cond := [Cond.methodLink RJ0 492 yJ0_isLatin1_aae02, Cond.instanceMethod yJ0_isLatin1_aae02, Cond.selects RJ0 yJ0_isLatin1_aae02 yJ0_isLatin1_aae02, Cond.code yJ0_isLatin1_aae02 cJ0_isLatin1_aae02 1 (some .boolean), Cond.methodLink RJ0 495 yJ1_charAt_3b067, Cond.static yJ1_charAt_3b067, Cond.initialized RJ1, Cond.code yJ1_charAt_3b067 cJ1_charAt_3b067 2 (some .char), Cond.methodLink RJ1 9 yJ0_checkIndex_df160, Cond.static yJ0_checkIndex_df160, Cond.code yJ0_checkIndex_df160 cJ0_checkIndex_df160 2 none, Cond.fieldLink RJ0 1053 "jdk/internal/util/Preconditions" "SIOOBE_FORMATTER" "Ljava/util/function/BiFunction;", Cond.methodLink RJ0 1059 yJ3_checkIndex_8e157, Cond.static yJ3_checkIndex_8e157, Cond.initialized RJ3, Cond.code yJ3_checkIndex_8e157 cJ3_checkIndex_8e157 3 (some .int), Cond.methodLink RJ0 498 yJ2_charAt_3b067, Cond.static yJ2_charAt_3b067, Cond.initialized RJ2, Cond.code yJ2_charAt_3b067 cJ2_charAt_3b067 2 (some .char), Cond.methodLink RJ2 67 yJ2_checkIndex_2214a, Cond.static yJ2_checkIndex_2214a, Cond.code yJ2_checkIndex_2214a cJ2_checkIndex_2214a 2 none, Cond.methodLink RJ2 48 yJ2_length_9d52b]
def wsX6_wordHere_r3 : List Cond := [Cond.static yJ2_length_9d52b, Cond.code yJ2_length_9d52b cJ2_length_9d52b 1 (some .int), Cond.methodLink RJ2 414 yJ0_checkIndex_df160, Cond.methodLink RJ2 71 yJ2_getChar_3b067, Cond.static yJ2_getChar_3b067, Cond.code yJ2_getChar_3b067 cJ2_getChar_3b067 2 (some .char), Cond.fieldLink RJ2 44 "java/lang/StringUTF16" "$assertionsDisabled" "Z", Cond.fieldLink RJ2 59 "java/lang/StringUTF16" "HI_BYTE_SHIFT" "I", Cond.fieldLink RJ2 63 "java/lang/StringUTF16" "LO_BYTE_SHIFT" "I"]
def wsX6_wordHere : List Cond := .code yX6_wordHere cX6_wordHere 1 (some .int) :: ((wsX6_wordHere_r1 ++ (wsX6_wordHere_r2 ++ wsX6_wordHere_r3)) ++ wsX60)
def wsX6_numberHere : List Cond := .code yX6_numberHere cX6_numberHere 2 (some .int) :: ([.fieldLink RX6 28 "SoldStops$Text" "behind" "I", .fieldLink RX6 47 "SoldStops$Text" "place" "I", .fieldLink RX6 50 "SoldStops$Text" "value" "I", .fieldLink RX6 9 "SoldStops$Text" "bytes" "[I"] ++ wsX60)
def wsX6_next_r1 : List Cond := [Cond.fieldLink RX6 28 "SoldStops$Text" "behind" "I", Cond.fieldLink RX6 47 "SoldStops$Text" "place" "I", Cond.fieldLink RX6 24 "SoldStops$Text" "size" "I", Cond.fieldLink RX6 37 "SoldStops$Text" "token" "I", Cond.fieldLink RX6 9 "SoldStops$Text" "bytes" "[I", Cond.methodLink RX6 53 yX6_runEnd, Cond.instanceMethod yX6_runEnd, Cond.selects RX6 yX6_runEnd yX6_runEnd, Cond.initialized RX6, Cond.code yX6_runEnd cX6_runEnd 5 (some .int), Cond.methodLink RX6 57 yX6_wordHere, Cond.instanceMethod yX6_wordHere, Cond.selects RX6 yX6_wordHere yX6_wordHere, Cond.code yX6_wordHere cX6_wordHere 1 (some .int), Cond.methodLink RX6 66 yX6_isHere, Cond.instanceMethod yX6_isHere, Cond.selects RX6 yX6_isHere yX6_isHere, Cond.code yX6_isHere cX6_isHere 3 (some .boolean), Cond.methodLink RX6 74 yJ0_length_8abf5, Cond.instanceMethod yJ0_length_8abf5, Cond.selects RJ0 yJ0_length_8abf5 yJ0_length_8abf5, Cond.initialized RJ0, Cond.code yJ0_length_8abf5 cJ0_length_8abf5 1 (some .int), Cond.fieldLink RJ0 9 "java/lang/String" "value" "[B"]
def wsX6_next_r2 : List Cond := [Cond.methodLink RJ0 335 yJ0_coder_7d493, Cond.instanceMethod yJ0_coder_7d493, Cond.selects RJ0 yJ0_coder_7d493 yJ0_coder_7d493, Cond.code yJ0_coder_7d493 cJ0_coder_7d493 1 (some .byte), Cond.fieldLink RJ0 38 "java/lang/String" "COMPACT_STRINGS" "Z", Cond.fieldLink RJ0 15 "java/lang/String" "coder" "B", Cond.methodLink RX6 79 yJ0_charAt_5068e, Cond.instanceMethod yJ0_charAt_5068e, Cond.selects RJ0 yJ0_charAt_5068e yJ0_charAt_5068e, Cond.code yJ0_charAt_5068e cJ0_charAt_5068e 2 (some .char), Cond.methodLink RJ0 492 yJ0_isLatin1_aae02, Cond.instanceMethod yJ0_isLatin1_aae02, Cond.selects RJ0 yJ0_isLatin1_aae02 yJ0_isLatin1_aae02, Cond.code yJ0_isLatin1_aae02 cJ0_isLatin1_aae02 1 (some .boolean), Cond.methodLink RJ0 495 yJ1_charAt_3b067, Cond.static yJ1_charAt_3b067, Cond.initialized RJ1, Cond.code yJ1_charAt_3b067 cJ1_charAt_3b067 2 (some .char), Cond.methodLink RJ1 9 yJ0_checkIndex_df160, Cond.static yJ0_checkIndex_df160, Cond.code yJ0_checkIndex_df160 cJ0_checkIndex_df160 2 none, Cond.fieldLink RJ0 1053 "jdk/internal/util/Preconditions" "SIOOBE_FORMATTER" "Ljava/util/function/BiFunction;", Cond.methodLink RJ0 1059 yJ3_checkIndex_8e157, Cond.static yJ3_checkIndex_8e157]
def wsX6_next_r3 : List Cond := [Cond.initialized RJ3, Cond.code yJ3_checkIndex_8e157 cJ3_checkIndex_8e157 3 (some .int), Cond.methodLink RJ0 498 yJ2_charAt_3b067, Cond.static yJ2_charAt_3b067, Cond.initialized RJ2, Cond.code yJ2_charAt_3b067 cJ2_charAt_3b067 2 (some .char), Cond.methodLink RJ2 67 yJ2_checkIndex_2214a, Cond.static yJ2_checkIndex_2214a, Cond.code yJ2_checkIndex_2214a cJ2_checkIndex_2214a 2 none, Cond.methodLink RJ2 48 yJ2_length_9d52b, Cond.static yJ2_length_9d52b, Cond.code yJ2_length_9d52b cJ2_length_9d52b 1 (some .int), Cond.methodLink RJ2 414 yJ0_checkIndex_df160, Cond.methodLink RJ2 71 yJ2_getChar_3b067, Cond.static yJ2_getChar_3b067, Cond.code yJ2_getChar_3b067 cJ2_getChar_3b067 2 (some .char), Cond.fieldLink RJ2 44 "java/lang/StringUTF16" "$assertionsDisabled" "Z", Cond.fieldLink RJ2 59 "java/lang/StringUTF16" "HI_BYTE_SHIFT" "I", Cond.fieldLink RJ2 63 "java/lang/StringUTF16" "LO_BYTE_SHIFT" "I", Cond.methodLink RX6 61 yX6_numberHere, Cond.instanceMethod yX6_numberHere, Cond.selects RX6 yX6_numberHere yX6_numberHere, Cond.code yX6_numberHere cX6_numberHere 2 (some .int), Cond.fieldLink RX6 50 "SoldStops$Text" "value" "I"]
def wsX6_next : List Cond := .code yX6_next cX6_next 2 none :: ((wsX6_next_r1 ++ (wsX6_next_r2 ++ wsX6_next_r3)) ++ wsX60)
def wsX6_mayBegin : List Cond := .code yX6_mayBegin cX6_mayBegin 1 (some .boolean) :: ([.fieldLink RX6 34 "SoldStops$Text" "items" "I", .fieldLink RX6 37 "SoldStops$Text" "token" "I"] ++ wsX60)
def wsX6_takeItem_r1 : List Cond := [Cond.fieldLink RX6 15 "SoldStops$Text" "whats" "[I", Cond.fieldLink RX6 34 "SoldStops$Text" "items" "I", Cond.fieldLink RX6 37 "SoldStops$Text" "token" "I", Cond.fieldLink RX6 18 "SoldStops$Text" "firsts" "[I", Cond.fieldLink RX6 50 "SoldStops$Text" "value" "I", Cond.fieldLink RX6 21 "SoldStops$Text" "seconds" "[I", Cond.methodLink RX6 31 yX6_next, Cond.instanceMethod yX6_next, Cond.selects RX6 yX6_next yX6_next, Cond.initialized RX6, Cond.code yX6_next cX6_next 2 none, Cond.fieldLink RX6 28 "SoldStops$Text" "behind" "I", Cond.fieldLink RX6 47 "SoldStops$Text" "place" "I", Cond.fieldLink RX6 24 "SoldStops$Text" "size" "I", Cond.fieldLink RX6 9 "SoldStops$Text" "bytes" "[I", Cond.methodLink RX6 53 yX6_runEnd, Cond.instanceMethod yX6_runEnd, Cond.selects RX6 yX6_runEnd yX6_runEnd, Cond.code yX6_runEnd cX6_runEnd 5 (some .int), Cond.methodLink RX6 57 yX6_wordHere, Cond.instanceMethod yX6_wordHere, Cond.selects RX6 yX6_wordHere yX6_wordHere, Cond.code yX6_wordHere cX6_wordHere 1 (some .int), Cond.methodLink RX6 66 yX6_isHere]
def wsX6_takeItem_r2 : List Cond := [Cond.instanceMethod yX6_isHere, Cond.selects RX6 yX6_isHere yX6_isHere, Cond.code yX6_isHere cX6_isHere 3 (some .boolean), Cond.methodLink RX6 74 yJ0_length_8abf5, Cond.instanceMethod yJ0_length_8abf5, Cond.selects RJ0 yJ0_length_8abf5 yJ0_length_8abf5, Cond.initialized RJ0, Cond.code yJ0_length_8abf5 cJ0_length_8abf5 1 (some .int), Cond.fieldLink RJ0 9 "java/lang/String" "value" "[B", Cond.methodLink RJ0 335 yJ0_coder_7d493, Cond.instanceMethod yJ0_coder_7d493, Cond.selects RJ0 yJ0_coder_7d493 yJ0_coder_7d493, Cond.code yJ0_coder_7d493 cJ0_coder_7d493 1 (some .byte), Cond.fieldLink RJ0 38 "java/lang/String" "COMPACT_STRINGS" "Z", Cond.fieldLink RJ0 15 "java/lang/String" "coder" "B", Cond.methodLink RX6 79 yJ0_charAt_5068e, Cond.instanceMethod yJ0_charAt_5068e, Cond.selects RJ0 yJ0_charAt_5068e yJ0_charAt_5068e, Cond.code yJ0_charAt_5068e cJ0_charAt_5068e 2 (some .char), Cond.methodLink RJ0 492 yJ0_isLatin1_aae02, Cond.instanceMethod yJ0_isLatin1_aae02, Cond.selects RJ0 yJ0_isLatin1_aae02 yJ0_isLatin1_aae02, Cond.code yJ0_isLatin1_aae02 cJ0_isLatin1_aae02 1 (some .boolean), Cond.methodLink RJ0 495 yJ1_charAt_3b067]
def wsX6_takeItem_r3 : List Cond := [Cond.static yJ1_charAt_3b067, Cond.initialized RJ1, Cond.code yJ1_charAt_3b067 cJ1_charAt_3b067 2 (some .char), Cond.methodLink RJ1 9 yJ0_checkIndex_df160, Cond.static yJ0_checkIndex_df160, Cond.code yJ0_checkIndex_df160 cJ0_checkIndex_df160 2 none, Cond.fieldLink RJ0 1053 "jdk/internal/util/Preconditions" "SIOOBE_FORMATTER" "Ljava/util/function/BiFunction;", Cond.methodLink RJ0 1059 yJ3_checkIndex_8e157, Cond.static yJ3_checkIndex_8e157, Cond.initialized RJ3, Cond.code yJ3_checkIndex_8e157 cJ3_checkIndex_8e157 3 (some .int), Cond.methodLink RJ0 498 yJ2_charAt_3b067, Cond.static yJ2_charAt_3b067, Cond.initialized RJ2, Cond.code yJ2_charAt_3b067 cJ2_charAt_3b067 2 (some .char), Cond.methodLink RJ2 67 yJ2_checkIndex_2214a, Cond.static yJ2_checkIndex_2214a, Cond.code yJ2_checkIndex_2214a cJ2_checkIndex_2214a 2 none, Cond.methodLink RJ2 48 yJ2_length_9d52b, Cond.static yJ2_length_9d52b, Cond.code yJ2_length_9d52b cJ2_length_9d52b 1 (some .int), Cond.methodLink RJ2 414 yJ0_checkIndex_df160, Cond.methodLink RJ2 71 yJ2_getChar_3b067, Cond.static yJ2_getChar_3b067]
def wsX6_takeItem_r4 : List Cond := [Cond.code yJ2_getChar_3b067 cJ2_getChar_3b067 2 (some .char), Cond.fieldLink RJ2 44 "java/lang/StringUTF16" "$assertionsDisabled" "Z", Cond.fieldLink RJ2 59 "java/lang/StringUTF16" "HI_BYTE_SHIFT" "I", Cond.fieldLink RJ2 63 "java/lang/StringUTF16" "LO_BYTE_SHIFT" "I", Cond.methodLink RX6 61 yX6_numberHere, Cond.instanceMethod yX6_numberHere, Cond.selects RX6 yX6_numberHere yX6_numberHere, Cond.code yX6_numberHere cX6_numberHere 2 (some .int)]
def wsX6_takeItem : List Cond := .code yX6_takeItem cX6_takeItem 2 (some .boolean) :: ((wsX6_takeItem_r1 ++ (wsX6_takeItem_r2 ++ (wsX6_takeItem_r3 ++ wsX6_takeItem_r4))) ++ wsX60)
def wsX6_findFault_r1 : List Cond := [Cond.fieldLink RX6 28 "SoldStops$Text" "behind" "I", Cond.fieldLink RX6 34 "SoldStops$Text" "items" "I", Cond.fieldLink RX6 37 "SoldStops$Text" "token" "I", Cond.fieldLink RX6 47 "SoldStops$Text" "place" "I", Cond.fieldLink RX6 24 "SoldStops$Text" "size" "I", Cond.methodLink RX6 31 yX6_next, Cond.instanceMethod yX6_next, Cond.selects RX6 yX6_next yX6_next, Cond.initialized RX6, Cond.code yX6_next cX6_next 2 none, Cond.fieldLink RX6 9 "SoldStops$Text" "bytes" "[I", Cond.methodLink RX6 53 yX6_runEnd, Cond.instanceMethod yX6_runEnd, Cond.selects RX6 yX6_runEnd yX6_runEnd, Cond.code yX6_runEnd cX6_runEnd 5 (some .int), Cond.methodLink RX6 57 yX6_wordHere, Cond.instanceMethod yX6_wordHere, Cond.selects RX6 yX6_wordHere yX6_wordHere, Cond.code yX6_wordHere cX6_wordHere 1 (some .int), Cond.methodLink RX6 66 yX6_isHere, Cond.instanceMethod yX6_isHere, Cond.selects RX6 yX6_isHere yX6_isHere, Cond.code yX6_isHere cX6_isHere 3 (some .boolean), Cond.methodLink RX6 74 yJ0_length_8abf5]
def wsX6_findFault_r2 : List Cond := [Cond.instanceMethod yJ0_length_8abf5, Cond.selects RJ0 yJ0_length_8abf5 yJ0_length_8abf5, Cond.initialized RJ0, Cond.code yJ0_length_8abf5 cJ0_length_8abf5 1 (some .int), Cond.fieldLink RJ0 9 "java/lang/String" "value" "[B", Cond.methodLink RJ0 335 yJ0_coder_7d493, Cond.instanceMethod yJ0_coder_7d493, Cond.selects RJ0 yJ0_coder_7d493 yJ0_coder_7d493, Cond.code yJ0_coder_7d493 cJ0_coder_7d493 1 (some .byte), Cond.fieldLink RJ0 38 "java/lang/String" "COMPACT_STRINGS" "Z", Cond.fieldLink RJ0 15 "java/lang/String" "coder" "B", Cond.methodLink RX6 79 yJ0_charAt_5068e, Cond.instanceMethod yJ0_charAt_5068e, Cond.selects RJ0 yJ0_charAt_5068e yJ0_charAt_5068e, Cond.code yJ0_charAt_5068e cJ0_charAt_5068e 2 (some .char), Cond.methodLink RJ0 492 yJ0_isLatin1_aae02, Cond.instanceMethod yJ0_isLatin1_aae02, Cond.selects RJ0 yJ0_isLatin1_aae02 yJ0_isLatin1_aae02, Cond.code yJ0_isLatin1_aae02 cJ0_isLatin1_aae02 1 (some .boolean), Cond.methodLink RJ0 495 yJ1_charAt_3b067, Cond.static yJ1_charAt_3b067, Cond.initialized RJ1, Cond.code yJ1_charAt_3b067 cJ1_charAt_3b067 2 (some .char), Cond.methodLink RJ1 9 yJ0_checkIndex_df160]
def wsX6_findFault_r3 : List Cond := [Cond.static yJ0_checkIndex_df160, Cond.code yJ0_checkIndex_df160 cJ0_checkIndex_df160 2 none, Cond.fieldLink RJ0 1053 "jdk/internal/util/Preconditions" "SIOOBE_FORMATTER" "Ljava/util/function/BiFunction;", Cond.methodLink RJ0 1059 yJ3_checkIndex_8e157, Cond.static yJ3_checkIndex_8e157, Cond.initialized RJ3, Cond.code yJ3_checkIndex_8e157 cJ3_checkIndex_8e157 3 (some .int), Cond.methodLink RJ0 498 yJ2_charAt_3b067, Cond.static yJ2_charAt_3b067, Cond.initialized RJ2, Cond.code yJ2_charAt_3b067 cJ2_charAt_3b067 2 (some .char), Cond.methodLink RJ2 67 yJ2_checkIndex_2214a, Cond.static yJ2_checkIndex_2214a, Cond.code yJ2_checkIndex_2214a cJ2_checkIndex_2214a 2 none, Cond.methodLink RJ2 48 yJ2_length_9d52b, Cond.static yJ2_length_9d52b, Cond.code yJ2_length_9d52b cJ2_length_9d52b 1 (some .int), Cond.methodLink RJ2 414 yJ0_checkIndex_df160, Cond.methodLink RJ2 71 yJ2_getChar_3b067, Cond.static yJ2_getChar_3b067, Cond.code yJ2_getChar_3b067 cJ2_getChar_3b067 2 (some .char), Cond.fieldLink RJ2 44 "java/lang/StringUTF16" "$assertionsDisabled" "Z", Cond.fieldLink RJ2 59 "java/lang/StringUTF16" "HI_BYTE_SHIFT" "I", Cond.fieldLink RJ2 63 "java/lang/StringUTF16" "LO_BYTE_SHIFT" "I"]
def wsX6_findFault_r4 : List Cond := [Cond.methodLink RX6 61 yX6_numberHere, Cond.instanceMethod yX6_numberHere, Cond.selects RX6 yX6_numberHere yX6_numberHere, Cond.code yX6_numberHere cX6_numberHere 2 (some .int), Cond.fieldLink RX6 50 "SoldStops$Text" "value" "I", Cond.methodLink RX6 40 yX6_mayBegin, Cond.instanceMethod yX6_mayBegin, Cond.selects RX6 yX6_mayBegin yX6_mayBegin, Cond.code yX6_mayBegin cX6_mayBegin 1 (some .boolean), Cond.methodLink RX6 44 yX6_takeItem, Cond.instanceMethod yX6_takeItem, Cond.selects RX6 yX6_takeItem yX6_takeItem, Cond.code yX6_takeItem cX6_takeItem 2 (some .boolean), Cond.fieldLink RX6 15 "SoldStops$Text" "whats" "[I", Cond.fieldLink RX6 18 "SoldStops$Text" "firsts" "[I", Cond.fieldLink RX6 21 "SoldStops$Text" "seconds" "[I"]
def wsX6_findFault : List Cond := .code yX6_findFault cX6_findFault 1 (some .int) :: ((wsX6_findFault_r1 ++ (wsX6_findFault_r2 ++ (wsX6_findFault_r3 ++ wsX6_findFault_r4))) ++ wsX60)
def wsX7_init_r1 : List Cond := [Cond.methodLink RX7 1 objectInit, Cond.instanceMethod objectInit, Cond.code objectInit ⟨#[0xb1]⟩ 1 none, Cond.classLink RX7 7 RX4, Cond.instantiable RX4 9, Cond.initialized RX4, Cond.fieldLink RX7 10 "SoldStops" "page" "LSoldStops$Page;", Cond.fieldLink RX7 16 "SoldStops" "spare" "LSoldStops$Page;", Cond.fieldLink RX7 19 "SoldStops" "images" "[LSoldStops$Page;", Cond.arrayClass .boolean, Cond.fieldLink RX7 23 "SoldStops" "kept" "[Z", Cond.classLink RX7 27 RX6, Cond.instantiable RX6 10, Cond.initialized RX6, Cond.fieldLink RX7 30 "SoldStops" "text" "LSoldStops$Text;", Cond.classLink RX7 34 RX5, Cond.instantiable RX5 5, Cond.initialized RX5, Cond.fieldLink RX7 37 "SoldStops" "plan" "LSoldStops$Plan;", Cond.classLink RX7 41 RX3, Cond.instantiable RX3 4, Cond.initialized RX3, Cond.fieldLink RX7 44 "SoldStops" "order" "LSoldStops$Order;", Cond.classLink RX7 48 RX0]
def wsX7_init_r2 : List Cond := [Cond.instantiable RX0 4, Cond.initialized RX0, Cond.fieldLink RX7 51 "SoldStops" "chance" "LSoldStops$Chance;", Cond.arrayClass .int, Cond.fieldLink RX7 55 "SoldStops" "alike" "[I", Cond.methodLink RX7 9 yX4_init, Cond.instanceMethod yX4_init, Cond.code yX4_init cX4_init 2 none, Cond.methodLink RX4 3 objectInit, Cond.fieldLink RX4 9 "SoldStops$Page" "breath" "I", Cond.fieldLink RX4 15 "SoldStops$Page" "price" "I", Cond.fieldLink RX4 18 "SoldStops$Page" "lengths" "[I", Cond.classLink RX4 22 RX2, Cond.instantiable RX2 4, Cond.initialized RX2, Cond.fieldLink RX4 25 "SoldStops$Page" "marks" "LSoldStops$Marks;", Cond.fieldLink RX4 29 "SoldStops$Page" "heard" "[I", Cond.fieldLink RX4 32 "SoldStops$Page" "past" "[LSoldStops$Marks;", Cond.instanceMethod yX2_init, Cond.code yX2_init cX2_init 1 none, Cond.methodLink RX2 3 objectInit, Cond.fieldLink RX2 9 "SoldStops$Marks" "kinds" "[I", Cond.fieldLink RX2 15 "SoldStops$Marks" "reads" "[I", Cond.instanceMethod yX6_init]
def wsX7_init_r3 : List Cond := [Cond.code yX6_init cX6_init 1 none, Cond.methodLink RX6 3 objectInit, Cond.fieldLink RX6 9 "SoldStops$Text" "bytes" "[I", Cond.fieldLink RX6 15 "SoldStops$Text" "whats" "[I", Cond.fieldLink RX6 18 "SoldStops$Text" "firsts" "[I", Cond.fieldLink RX6 21 "SoldStops$Text" "seconds" "[I", Cond.instanceMethod yX5_init, Cond.code yX5_init cX5_init 1 none, Cond.methodLink RX5 3 objectInit, Cond.classLink RX5 9 "[[I", Cond.fieldLink RX5 11 "SoldStops$Plan" "costs" "[[I", Cond.fieldLink RX5 16 "SoldStops$Plan" "fewest" "[[I", Cond.fieldLink RX5 19 "SoldStops$Plan" "choices" "[[I", Cond.fieldLink RX5 22 "SoldStops$Plan" "now" "[I", Cond.fieldLink RX5 26 "SoldStops$Plan" "then" "[I", Cond.instanceMethod yX3_init, Cond.code yX3_init cX3_init 1 none, Cond.methodLink RX3 3 objectInit, Cond.fieldLink RX3 9 "SoldStops$Order" "best" "[I", Cond.fieldLink RX3 15 "SoldStops$Order" "row" "[I", Cond.fieldLink RX3 18 "SoldStops$Order" "used" "[Z", Cond.instanceMethod yX0_init, Cond.code yX0_init cX0_init 1 none, Cond.methodLink RX0 3 objectInit]
def wsX7_init_r4 : List Cond := [Cond.fieldLink RX0 9 "SoldStops$Chance" "above" "J", Cond.fieldLink RX0 15 "SoldStops$Chance" "below" "J", Cond.arrayClass .long, Cond.fieldLink RX0 18 "SoldStops$Chance" "now" "[J", Cond.fieldLink RX0 22 "SoldStops$Chance" "then" "[J"]
def wsX7_init : List Cond := .code yX7_init cX7_init 1 none :: ((wsX7_init_r1 ++ (wsX7_init_r2 ++ (wsX7_init_r3 ++ wsX7_init_r4))) ++ wsX40 ++ wsX70 ++ wsX60 ++ wsX50 ++ wsX30 ++ wsX00 ++ wsX20)
def wsX7_isWithin : List Cond := .code yX7_isWithin cX7_isWithin 3 (some .boolean) :: ([])
def wsX7_isBreath : List Cond := .code yX7_isBreath cX7_isBreath 1 (some .boolean) :: ([.methodLink RX7 98 yX7_isWithin, .static yX7_isWithin, .initialized RX7, .code yX7_isWithin cX7_isWithin 3 (some .boolean)])
def wsX7_isPrice : List Cond := .code yX7_isPrice cX7_isPrice 1 (some .boolean) :: ([.methodLink RX7 98 yX7_isWithin, .static yX7_isWithin, .initialized RX7, .code yX7_isWithin cX7_isWithin 3 (some .boolean)])
def wsX7_bad : List Cond := .code yX7_bad cX7_bad 2 (some .int) :: ([.fieldLink RX7 270 "SoldStops" "bads" "I"] ++ wsX70)
def wsX7_page_r1 : List Cond := [Cond.fieldLink RX7 10 "SoldStops" "page" "LSoldStops$Page;", Cond.fieldLink RX7 70 "SoldStops$Page" "words" "I", Cond.methodLink RX7 59 yX7_isBreath, Cond.static yX7_isBreath, Cond.initialized RX7, Cond.code yX7_isBreath cX7_isBreath 1 (some .boolean), Cond.methodLink RX7 98 yX7_isWithin, Cond.static yX7_isWithin, Cond.code yX7_isWithin cX7_isWithin 3 (some .boolean), Cond.methodLink RX7 63 yX7_isPrice, Cond.static yX7_isPrice, Cond.code yX7_isPrice cX7_isPrice 1 (some .boolean), Cond.methodLink RX7 66 yX7_bad, Cond.instanceMethod yX7_bad, Cond.selects RX7 yX7_bad yX7_bad, Cond.code yX7_bad cX7_bad 2 (some .int), Cond.fieldLink RX7 270 "SoldStops" "bads" "I", Cond.methodLink RX7 74 yX4_begin, Cond.instanceMethod yX4_begin, Cond.selects RX4 yX4_begin yX4_begin, Cond.initialized RX4, Cond.code yX4_begin cX4_begin 3 none, Cond.fieldLink RX4 9 "SoldStops$Page" "breath" "I", Cond.fieldLink RX4 15 "SoldStops$Page" "price" "I"]
def wsX7_page_r2 : List Cond := [Cond.fieldLink RX4 25 "SoldStops$Page" "marks" "LSoldStops$Marks;", Cond.fieldLink RX4 36 "SoldStops$Marks" "purse" "I", Cond.fieldLink RX4 39 "SoldStops$Marks" "week" "I", Cond.fieldLink RX4 42 "SoldStops$Page" "words" "I", Cond.fieldLink RX4 45 "SoldStops$Page" "heards" "I", Cond.fieldLink RX4 48 "SoldStops$Page" "pasts" "I"]
def wsX7_page : List Cond := .code yX7_page cX7_page 4 (some .int) :: ((wsX7_page_r1 ++ wsX7_page_r2) ++ wsX70 ++ wsX40 ++ wsX20)
def wsX7_isLength : List Cond := .code yX7_isLength cX7_isLength 1 (some .boolean) :: ([.methodLink RX7 98 yX7_isWithin, .static yX7_isWithin, .initialized RX7, .code yX7_isWithin cX7_isWithin 3 (some .boolean)])
def wsX7_full : List Cond := .code yX7_full cX7_full 2 (some .int) :: ([.fieldLink RX7 276 "SoldStops" "fulls" "I"] ++ wsX70)
def wsX7_word_r1 : List Cond := [Cond.fieldLink RX7 10 "SoldStops" "page" "LSoldStops$Page;", Cond.fieldLink RX7 70 "SoldStops$Page" "words" "I", Cond.methodLink RX7 78 yX7_isLength, Cond.static yX7_isLength, Cond.initialized RX7, Cond.code yX7_isLength cX7_isLength 1 (some .boolean), Cond.methodLink RX7 98 yX7_isWithin, Cond.static yX7_isWithin, Cond.code yX7_isWithin cX7_isWithin 3 (some .boolean), Cond.methodLink RX7 66 yX7_bad, Cond.instanceMethod yX7_bad, Cond.selects RX7 yX7_bad yX7_bad, Cond.code yX7_bad cX7_bad 2 (some .int), Cond.fieldLink RX7 270 "SoldStops" "bads" "I", Cond.methodLink RX7 81 yX4_hasRoom, Cond.instanceMethod yX4_hasRoom, Cond.selects RX4 yX4_hasRoom yX4_hasRoom, Cond.initialized RX4, Cond.code yX4_hasRoom cX4_hasRoom 1 (some .boolean), Cond.fieldLink RX4 42 "SoldStops$Page" "words" "I", Cond.methodLink RX7 85 yX7_full, Cond.instanceMethod yX7_full, Cond.selects RX7 yX7_full yX7_full, Cond.code yX7_full cX7_full 2 (some .int)]
def wsX7_word_r2 : List Cond := [Cond.fieldLink RX7 276 "SoldStops" "fulls" "I", Cond.methodLink RX7 88 yX4_addWord, Cond.instanceMethod yX4_addWord, Cond.selects RX4 yX4_addWord yX4_addWord, Cond.code yX4_addWord cX4_addWord 2 none, Cond.fieldLink RX4 18 "SoldStops$Page" "lengths" "[I", Cond.fieldLink RX4 25 "SoldStops$Page" "marks" "LSoldStops$Marks;", Cond.fieldLink RX4 48 "SoldStops$Page" "pasts" "I", Cond.methodLink RX4 61 yX2_set, Cond.instanceMethod yX2_set, Cond.selects RX2 yX2_set yX2_set, Cond.initialized RX2, Cond.code yX2_set cX2_set 3 none, Cond.fieldLink RX2 9 "SoldStops$Marks" "kinds" "[I", Cond.fieldLink RX2 15 "SoldStops$Marks" "reads" "[I"]
def wsX7_word : List Cond := .code yX7_word cX7_word 2 (some .int) :: ((wsX7_word_r1 ++ wsX7_word_r2) ++ wsX70 ++ wsX40 ++ wsX20)
def wsX7_breath : List Cond := .code yX7_breath cX7_breath 3 (some .int) :: ([.fieldLink RX7 10 "SoldStops" "page" "LSoldStops$Page;", .fieldLink RX7 92 "SoldStops$Page" "breath" "I", .methodLink RX7 59 yX7_isBreath, .static yX7_isBreath, .initialized RX7, .code yX7_isBreath cX7_isBreath 1 (some .boolean), .methodLink RX7 98 yX7_isWithin, .static yX7_isWithin, .code yX7_isWithin cX7_isWithin 3 (some .boolean), .methodLink RX7 66 yX7_bad, .instanceMethod yX7_bad, .selects RX7 yX7_bad yX7_bad, .code yX7_bad cX7_bad 2 (some .int), .fieldLink RX7 270 "SoldStops" "bads" "I"] ++ wsX70 ++ wsX40)
def wsX7_price : List Cond := .code yX7_price cX7_price 3 (some .int) :: ([.fieldLink RX7 10 "SoldStops" "page" "LSoldStops$Page;", .fieldLink RX7 95 "SoldStops$Page" "price" "I", .methodLink RX7 63 yX7_isPrice, .static yX7_isPrice, .initialized RX7, .code yX7_isPrice cX7_isPrice 1 (some .boolean), .methodLink RX7 98 yX7_isWithin, .static yX7_isWithin, .code yX7_isWithin cX7_isWithin 3 (some .boolean), .methodLink RX7 66 yX7_bad, .instanceMethod yX7_bad, .selects RX7 yX7_bad yX7_bad, .code yX7_bad cX7_bad 2 (some .int), .fieldLink RX7 270 "SoldStops" "bads" "I"] ++ wsX70 ++ wsX40)
def wsX7_purse : List Cond := .code yX7_purse cX7_purse 3 (some .int) :: ([.fieldLink RX7 10 "SoldStops" "page" "LSoldStops$Page;", .fieldLink RX7 102 "SoldStops$Page" "marks" "LSoldStops$Marks;", .fieldLink RX7 106 "SoldStops$Marks" "purse" "I", .methodLink RX7 98 yX7_isWithin, .static yX7_isWithin, .initialized RX7, .code yX7_isWithin cX7_isWithin 3 (some .boolean), .methodLink RX7 66 yX7_bad, .instanceMethod yX7_bad, .selects RX7 yX7_bad yX7_bad, .code yX7_bad cX7_bad 2 (some .int), .fieldLink RX7 270 "SoldStops" "bads" "I"] ++ wsX70 ++ wsX40 ++ wsX20)
def wsX7_put_r1 : List Cond := [Cond.fieldLink RX7 10 "SoldStops" "page" "LSoldStops$Page;", Cond.fieldLink RX7 102 "SoldStops$Page" "marks" "LSoldStops$Marks;", Cond.fieldLink RX7 119 "SoldStops$Marks" "kinds" "[I", Cond.methodLink RX7 111 yX4_has, Cond.instanceMethod yX4_has, Cond.selects RX4 yX4_has yX4_has, Cond.initialized RX4, Cond.code yX4_has cX4_has 2 (some .boolean), Cond.fieldLink RX4 42 "SoldStops$Page" "words" "I", Cond.methodLink RX7 114 yX1_isOne, Cond.static yX1_isOne, Cond.initialized RX1, Cond.code yX1_isOne cX1_isOne 1 (some .boolean), Cond.methodLink RX7 66 yX7_bad, Cond.instanceMethod yX7_bad, Cond.selects RX7 yX7_bad yX7_bad, Cond.initialized RX7, Cond.code yX7_bad cX7_bad 2 (some .int), Cond.fieldLink RX7 270 "SoldStops" "bads" "I", Cond.methodLink RX7 122 yX4_setMark, Cond.instanceMethod yX4_setMark, Cond.selects RX4 yX4_setMark yX4_setMark, Cond.code yX4_setMark cX4_setMark 3 none, Cond.fieldLink RX4 25 "SoldStops$Page" "marks" "LSoldStops$Marks;"]
def wsX7_put_r2 : List Cond := [Cond.fieldLink RX4 48 "SoldStops$Page" "pasts" "I", Cond.methodLink RX4 61 yX2_set, Cond.instanceMethod yX2_set, Cond.selects RX2 yX2_set yX2_set, Cond.initialized RX2, Cond.code yX2_set cX2_set 3 none, Cond.fieldLink RX2 9 "SoldStops$Marks" "kinds" "[I", Cond.fieldLink RX2 15 "SoldStops$Marks" "reads" "[I"]
def wsX7_put : List Cond := .code yX7_put cX7_put 4 (some .int) :: ((wsX7_put_r1 ++ wsX7_put_r2) ++ wsX70 ++ wsX40 ++ wsX20)
def wsX7_type : List Cond := .code yX7_type cX7_type 2 (some .int) :: ([.fieldLink RX7 30 "SoldStops" "text" "LSoldStops$Text;", .fieldLink RX7 125 "SoldStops$Text" "size" "I", .methodLink RX7 98 yX7_isWithin, .static yX7_isWithin, .initialized RX7, .code yX7_isWithin cX7_isWithin 3 (some .boolean), .methodLink RX7 66 yX7_bad, .instanceMethod yX7_bad, .selects RX7 yX7_bad yX7_bad, .code yX7_bad cX7_bad 2 (some .int), .fieldLink RX7 270 "SoldStops" "bads" "I", .methodLink RX7 85 yX7_full, .instanceMethod yX7_full, .selects RX7 yX7_full yX7_full, .code yX7_full cX7_full 2 (some .int), .fieldLink RX7 276 "SoldStops" "fulls" "I", .methodLink RX7 128 yX6_add, .instanceMethod yX6_add, .selects RX6 yX6_add yX6_add, .initialized RX6, .code yX6_add cX6_add 2 none, .fieldLink RX6 9 "SoldStops$Text" "bytes" "[I", .fieldLink RX6 24 "SoldStops$Text" "size" "I"] ++ wsX70 ++ wsX60)
def wsX7_clear : List Cond := .code yX7_clear cX7_clear 2 (some .int) :: ([.fieldLink RX7 30 "SoldStops" "text" "LSoldStops$Text;", .fieldLink RX7 125 "SoldStops$Text" "size" "I"] ++ wsX70 ++ wsX60)
def wsX7_tellItem_r1 : List Cond := [Cond.fieldLink RX7 30 "SoldStops" "text" "LSoldStops$Text;", Cond.fieldLink RX7 292 "SoldStops$Text" "firsts" "[I", Cond.fieldLink RX7 295 "SoldStops$Text" "seconds" "[I", Cond.fieldLink RX7 298 "SoldStops$Text" "whats" "[I", Cond.fieldLink RX7 16 "SoldStops" "spare" "LSoldStops$Page;", Cond.methodLink RX7 59 yX7_isBreath, Cond.static yX7_isBreath, Cond.initialized RX7, Cond.code yX7_isBreath cX7_isBreath 1 (some .boolean), Cond.methodLink RX7 98 yX7_isWithin, Cond.static yX7_isWithin, Cond.code yX7_isWithin cX7_isWithin 3 (some .boolean), Cond.methodLink RX7 63 yX7_isPrice, Cond.static yX7_isPrice, Cond.code yX7_isPrice cX7_isPrice 1 (some .boolean), Cond.methodLink RX7 74 yX4_begin, Cond.instanceMethod yX4_begin, Cond.selects RX4 yX4_begin yX4_begin, Cond.initialized RX4, Cond.code yX4_begin cX4_begin 3 none, Cond.fieldLink RX4 9 "SoldStops$Page" "breath" "I", Cond.fieldLink RX4 15 "SoldStops$Page" "price" "I", Cond.fieldLink RX4 25 "SoldStops$Page" "marks" "LSoldStops$Marks;", Cond.fieldLink RX4 36 "SoldStops$Marks" "purse" "I"]
def wsX7_tellItem_r2 : List Cond := [Cond.fieldLink RX4 39 "SoldStops$Marks" "week" "I", Cond.fieldLink RX4 42 "SoldStops$Page" "words" "I", Cond.fieldLink RX4 45 "SoldStops$Page" "heards" "I", Cond.fieldLink RX4 48 "SoldStops$Page" "pasts" "I", Cond.methodLink RX7 78 yX7_isLength, Cond.static yX7_isLength, Cond.code yX7_isLength cX7_isLength 1 (some .boolean), Cond.methodLink RX7 81 yX4_hasRoom, Cond.instanceMethod yX4_hasRoom, Cond.selects RX4 yX4_hasRoom yX4_hasRoom, Cond.code yX4_hasRoom cX4_hasRoom 1 (some .boolean), Cond.methodLink RX7 88 yX4_addWord, Cond.instanceMethod yX4_addWord, Cond.selects RX4 yX4_addWord yX4_addWord, Cond.code yX4_addWord cX4_addWord 2 none, Cond.fieldLink RX4 18 "SoldStops$Page" "lengths" "[I", Cond.methodLink RX4 61 yX2_set, Cond.instanceMethod yX2_set, Cond.selects RX2 yX2_set yX2_set, Cond.initialized RX2, Cond.code yX2_set cX2_set 3 none, Cond.fieldLink RX2 9 "SoldStops$Marks" "kinds" "[I", Cond.fieldLink RX2 15 "SoldStops$Marks" "reads" "[I", Cond.methodLink RX7 111 yX4_has]
def wsX7_tellItem_r3 : List Cond := [Cond.instanceMethod yX4_has, Cond.selects RX4 yX4_has yX4_has, Cond.code yX4_has cX4_has 2 (some .boolean), Cond.methodLink RX7 114 yX1_isOne, Cond.static yX1_isOne, Cond.initialized RX1, Cond.code yX1_isOne cX1_isOne 1 (some .boolean), Cond.methodLink RX7 122 yX4_setMark, Cond.instanceMethod yX4_setMark, Cond.selects RX4 yX4_setMark yX4_setMark, Cond.code yX4_setMark cX4_setMark 3 none]
def wsX7_tellItem : List Cond := .code yX7_tellItem cX7_tellItem 4 (some .boolean) :: ((wsX7_tellItem_r1 ++ (wsX7_tellItem_r2 ++ wsX7_tellItem_r3)) ++ wsX70 ++ wsX60 ++ wsX40 ++ wsX20)
def wsX7_read_r1 : List Cond := [Cond.fieldLink RX7 30 "SoldStops" "text" "LSoldStops$Text;", Cond.fieldLink RX7 135 "SoldStops$Text" "items" "I", Cond.fieldLink RX7 10 "SoldStops" "page" "LSoldStops$Page;", Cond.fieldLink RX7 16 "SoldStops" "spare" "LSoldStops$Page;", Cond.methodLink RX7 131 yX6_findFault, Cond.instanceMethod yX6_findFault, Cond.selects RX6 yX6_findFault yX6_findFault, Cond.initialized RX6, Cond.code yX6_findFault cX6_findFault 1 (some .int), Cond.fieldLink RX6 28 "SoldStops$Text" "behind" "I", Cond.fieldLink RX6 34 "SoldStops$Text" "items" "I", Cond.fieldLink RX6 37 "SoldStops$Text" "token" "I", Cond.fieldLink RX6 47 "SoldStops$Text" "place" "I", Cond.fieldLink RX6 24 "SoldStops$Text" "size" "I", Cond.methodLink RX6 31 yX6_next, Cond.instanceMethod yX6_next, Cond.selects RX6 yX6_next yX6_next, Cond.code yX6_next cX6_next 2 none, Cond.fieldLink RX6 9 "SoldStops$Text" "bytes" "[I", Cond.methodLink RX6 53 yX6_runEnd, Cond.instanceMethod yX6_runEnd, Cond.selects RX6 yX6_runEnd yX6_runEnd, Cond.code yX6_runEnd cX6_runEnd 5 (some .int), Cond.methodLink RX6 57 yX6_wordHere]
def wsX7_read_r2 : List Cond := [Cond.instanceMethod yX6_wordHere, Cond.selects RX6 yX6_wordHere yX6_wordHere, Cond.code yX6_wordHere cX6_wordHere 1 (some .int), Cond.methodLink RX6 66 yX6_isHere, Cond.instanceMethod yX6_isHere, Cond.selects RX6 yX6_isHere yX6_isHere, Cond.code yX6_isHere cX6_isHere 3 (some .boolean), Cond.methodLink RX6 74 yJ0_length_8abf5, Cond.instanceMethod yJ0_length_8abf5, Cond.selects RJ0 yJ0_length_8abf5 yJ0_length_8abf5, Cond.initialized RJ0, Cond.code yJ0_length_8abf5 cJ0_length_8abf5 1 (some .int), Cond.fieldLink RJ0 9 "java/lang/String" "value" "[B", Cond.methodLink RJ0 335 yJ0_coder_7d493, Cond.instanceMethod yJ0_coder_7d493, Cond.selects RJ0 yJ0_coder_7d493 yJ0_coder_7d493, Cond.code yJ0_coder_7d493 cJ0_coder_7d493 1 (some .byte), Cond.fieldLink RJ0 38 "java/lang/String" "COMPACT_STRINGS" "Z", Cond.fieldLink RJ0 15 "java/lang/String" "coder" "B", Cond.methodLink RX6 79 yJ0_charAt_5068e, Cond.instanceMethod yJ0_charAt_5068e, Cond.selects RJ0 yJ0_charAt_5068e yJ0_charAt_5068e, Cond.code yJ0_charAt_5068e cJ0_charAt_5068e 2 (some .char), Cond.methodLink RJ0 492 yJ0_isLatin1_aae02]
def wsX7_read_r3 : List Cond := [Cond.instanceMethod yJ0_isLatin1_aae02, Cond.selects RJ0 yJ0_isLatin1_aae02 yJ0_isLatin1_aae02, Cond.code yJ0_isLatin1_aae02 cJ0_isLatin1_aae02 1 (some .boolean), Cond.methodLink RJ0 495 yJ1_charAt_3b067, Cond.static yJ1_charAt_3b067, Cond.initialized RJ1, Cond.code yJ1_charAt_3b067 cJ1_charAt_3b067 2 (some .char), Cond.methodLink RJ1 9 yJ0_checkIndex_df160, Cond.static yJ0_checkIndex_df160, Cond.code yJ0_checkIndex_df160 cJ0_checkIndex_df160 2 none, Cond.fieldLink RJ0 1053 "jdk/internal/util/Preconditions" "SIOOBE_FORMATTER" "Ljava/util/function/BiFunction;", Cond.methodLink RJ0 1059 yJ3_checkIndex_8e157, Cond.static yJ3_checkIndex_8e157, Cond.initialized RJ3, Cond.code yJ3_checkIndex_8e157 cJ3_checkIndex_8e157 3 (some .int), Cond.methodLink RJ0 498 yJ2_charAt_3b067, Cond.static yJ2_charAt_3b067, Cond.initialized RJ2, Cond.code yJ2_charAt_3b067 cJ2_charAt_3b067 2 (some .char), Cond.methodLink RJ2 67 yJ2_checkIndex_2214a, Cond.static yJ2_checkIndex_2214a, Cond.code yJ2_checkIndex_2214a cJ2_checkIndex_2214a 2 none, Cond.methodLink RJ2 48 yJ2_length_9d52b, Cond.static yJ2_length_9d52b]
def wsX7_read_r4 : List Cond := [Cond.code yJ2_length_9d52b cJ2_length_9d52b 1 (some .int), Cond.methodLink RJ2 414 yJ0_checkIndex_df160, Cond.methodLink RJ2 71 yJ2_getChar_3b067, Cond.static yJ2_getChar_3b067, Cond.code yJ2_getChar_3b067 cJ2_getChar_3b067 2 (some .char), Cond.fieldLink RJ2 44 "java/lang/StringUTF16" "$assertionsDisabled" "Z", Cond.fieldLink RJ2 59 "java/lang/StringUTF16" "HI_BYTE_SHIFT" "I", Cond.fieldLink RJ2 63 "java/lang/StringUTF16" "LO_BYTE_SHIFT" "I", Cond.methodLink RX6 61 yX6_numberHere, Cond.instanceMethod yX6_numberHere, Cond.selects RX6 yX6_numberHere yX6_numberHere, Cond.code yX6_numberHere cX6_numberHere 2 (some .int), Cond.fieldLink RX6 50 "SoldStops$Text" "value" "I", Cond.methodLink RX6 40 yX6_mayBegin, Cond.instanceMethod yX6_mayBegin, Cond.selects RX6 yX6_mayBegin yX6_mayBegin, Cond.code yX6_mayBegin cX6_mayBegin 1 (some .boolean), Cond.methodLink RX6 44 yX6_takeItem, Cond.instanceMethod yX6_takeItem, Cond.selects RX6 yX6_takeItem yX6_takeItem, Cond.code yX6_takeItem cX6_takeItem 2 (some .boolean), Cond.fieldLink RX6 15 "SoldStops$Text" "whats" "[I", Cond.fieldLink RX6 18 "SoldStops$Text" "firsts" "[I", Cond.fieldLink RX6 21 "SoldStops$Text" "seconds" "[I"]
def wsX7_read_r5 : List Cond := [Cond.methodLink RX7 138 yX7_tellItem, Cond.instanceMethod yX7_tellItem, Cond.selects RX7 yX7_tellItem yX7_tellItem, Cond.initialized RX7, Cond.code yX7_tellItem cX7_tellItem 4 (some .boolean), Cond.fieldLink RX7 292 "SoldStops$Text" "firsts" "[I", Cond.fieldLink RX7 295 "SoldStops$Text" "seconds" "[I", Cond.fieldLink RX7 298 "SoldStops$Text" "whats" "[I", Cond.methodLink RX7 59 yX7_isBreath, Cond.static yX7_isBreath, Cond.code yX7_isBreath cX7_isBreath 1 (some .boolean), Cond.methodLink RX7 98 yX7_isWithin, Cond.static yX7_isWithin, Cond.code yX7_isWithin cX7_isWithin 3 (some .boolean), Cond.methodLink RX7 63 yX7_isPrice, Cond.static yX7_isPrice, Cond.code yX7_isPrice cX7_isPrice 1 (some .boolean), Cond.methodLink RX7 74 yX4_begin, Cond.instanceMethod yX4_begin, Cond.selects RX4 yX4_begin yX4_begin, Cond.initialized RX4, Cond.code yX4_begin cX4_begin 3 none, Cond.fieldLink RX4 9 "SoldStops$Page" "breath" "I", Cond.fieldLink RX4 15 "SoldStops$Page" "price" "I"]
def wsX7_read_r6 : List Cond := [Cond.fieldLink RX4 25 "SoldStops$Page" "marks" "LSoldStops$Marks;", Cond.fieldLink RX4 36 "SoldStops$Marks" "purse" "I", Cond.fieldLink RX4 39 "SoldStops$Marks" "week" "I", Cond.fieldLink RX4 42 "SoldStops$Page" "words" "I", Cond.fieldLink RX4 45 "SoldStops$Page" "heards" "I", Cond.fieldLink RX4 48 "SoldStops$Page" "pasts" "I", Cond.methodLink RX7 78 yX7_isLength, Cond.static yX7_isLength, Cond.code yX7_isLength cX7_isLength 1 (some .boolean), Cond.methodLink RX7 81 yX4_hasRoom, Cond.instanceMethod yX4_hasRoom, Cond.selects RX4 yX4_hasRoom yX4_hasRoom, Cond.code yX4_hasRoom cX4_hasRoom 1 (some .boolean), Cond.methodLink RX7 88 yX4_addWord, Cond.instanceMethod yX4_addWord, Cond.selects RX4 yX4_addWord yX4_addWord, Cond.code yX4_addWord cX4_addWord 2 none, Cond.fieldLink RX4 18 "SoldStops$Page" "lengths" "[I", Cond.methodLink RX4 61 yX2_set, Cond.instanceMethod yX2_set, Cond.selects RX2 yX2_set yX2_set, Cond.initialized RX2, Cond.code yX2_set cX2_set 3 none, Cond.fieldLink RX2 9 "SoldStops$Marks" "kinds" "[I"]
def wsX7_read_r7 : List Cond := [Cond.fieldLink RX2 15 "SoldStops$Marks" "reads" "[I", Cond.methodLink RX7 111 yX4_has, Cond.instanceMethod yX4_has, Cond.selects RX4 yX4_has yX4_has, Cond.code yX4_has cX4_has 2 (some .boolean), Cond.methodLink RX7 114 yX1_isOne, Cond.static yX1_isOne, Cond.initialized RX1, Cond.code yX1_isOne cX1_isOne 1 (some .boolean), Cond.methodLink RX7 122 yX4_setMark, Cond.instanceMethod yX4_setMark, Cond.selects RX4 yX4_setMark yX4_setMark, Cond.code yX4_setMark cX4_setMark 3 none, Cond.methodLink RX7 141 yX4_copy, Cond.instanceMethod yX4_copy, Cond.selects RX4 yX4_copy yX4_copy, Cond.code yX4_copy cX4_copy 3 none, Cond.methodLink RX4 51 arraycopyName, Cond.native arraycopyName, Cond.static arraycopyName, Cond.initialized "java/lang/System", Cond.fieldLink RX4 29 "SoldStops$Page" "heard" "[I", Cond.fieldLink RX4 32 "SoldStops$Page" "past" "[LSoldStops$Marks;", Cond.methodLink RX4 57 yX2_copy]
def wsX7_read_r8 : List Cond := [Cond.instanceMethod yX2_copy, Cond.selects RX2 yX2_copy yX2_copy, Cond.code yX2_copy cX2_copy 2 none, Cond.fieldLink RX2 28 "SoldStops$Marks" "purse" "I", Cond.fieldLink RX2 32 "SoldStops$Marks" "week" "I", Cond.methodLink RX2 35 arraycopyName]
def wsX7_read : List Cond := .code yX7_read cX7_read 3 (some .int) :: ((wsX7_read_r1 ++ (wsX7_read_r2 ++ (wsX7_read_r3 ++ (wsX7_read_r4 ++ (wsX7_read_r5 ++ (wsX7_read_r6 ++ (wsX7_read_r7 ++ wsX7_read_r8))))))) ++ wsX70 ++ wsX60 ++ wsX40 ++ wsX20)
def wsX7_no : List Cond := .code yX7_no cX7_no 2 (some .int) :: ([.fieldLink RX7 273 "SoldStops" "nos" "I"] ++ wsX70)
def wsX7_buy_r1 : List Cond := [Cond.fieldLink RX7 10 "SoldStops" "page" "LSoldStops$Page;", Cond.fieldLink RX7 102 "SoldStops$Page" "marks" "LSoldStops$Marks;", Cond.fieldLink RX7 119 "SoldStops$Marks" "kinds" "[I", Cond.fieldLink RX7 106 "SoldStops$Marks" "purse" "I", Cond.methodLink RX7 111 yX4_has, Cond.instanceMethod yX4_has, Cond.selects RX4 yX4_has yX4_has, Cond.initialized RX4, Cond.code yX4_has cX4_has 2 (some .boolean), Cond.fieldLink RX4 42 "SoldStops$Page" "words" "I", Cond.methodLink RX7 114 yX1_isOne, Cond.static yX1_isOne, Cond.initialized RX1, Cond.code yX1_isOne cX1_isOne 1 (some .boolean), Cond.methodLink RX7 66 yX7_bad, Cond.instanceMethod yX7_bad, Cond.selects RX7 yX7_bad yX7_bad, Cond.initialized RX7, Cond.code yX7_bad cX7_bad 2 (some .int), Cond.fieldLink RX7 270 "SoldStops" "bads" "I", Cond.methodLink RX7 145 yX4_costOf, Cond.instanceMethod yX4_costOf, Cond.selects RX4 yX4_costOf yX4_costOf, Cond.code yX4_costOf cX4_costOf 2 (some .int)]
def wsX7_buy_r2 : List Cond := [Cond.fieldLink RX4 15 "SoldStops$Page" "price" "I", Cond.fieldLink RX4 25 "SoldStops$Page" "marks" "LSoldStops$Marks;", Cond.fieldLink RX4 39 "SoldStops$Marks" "week" "I", Cond.methodLink RX4 65 yX1_cost, Cond.static yX1_cost, Cond.code yX1_cost cX1_cost 5 (some .int), Cond.methodLink RX7 148 yX7_no, Cond.instanceMethod yX7_no, Cond.selects RX7 yX7_no yX7_no, Cond.code yX7_no cX7_no 2 (some .int), Cond.fieldLink RX7 273 "SoldStops" "nos" "I", Cond.methodLink RX7 151 yX4_remember, Cond.instanceMethod yX4_remember, Cond.selects RX4 yX4_remember yX4_remember, Cond.code yX4_remember cX4_remember 1 none, Cond.fieldLink RX4 48 "SoldStops$Page" "pasts" "I", Cond.fieldLink RX4 32 "SoldStops$Page" "past" "[LSoldStops$Marks;", Cond.methodLink RX4 74 yX4_dropOldest, Cond.instanceMethod yX4_dropOldest, Cond.selects RX4 yX4_dropOldest yX4_dropOldest, Cond.code yX4_dropOldest cX4_dropOldest 3 none, Cond.methodLink RX4 57 yX2_copy, Cond.instanceMethod yX2_copy, Cond.selects RX2 yX2_copy yX2_copy]
def wsX7_buy_r3 : List Cond := [Cond.initialized RX2, Cond.code yX2_copy cX2_copy 2 none, Cond.fieldLink RX2 28 "SoldStops$Marks" "purse" "I", Cond.fieldLink RX2 32 "SoldStops$Marks" "week" "I", Cond.fieldLink RX2 9 "SoldStops$Marks" "kinds" "[I", Cond.methodLink RX2 35 arraycopyName, Cond.native arraycopyName, Cond.static arraycopyName, Cond.initialized "java/lang/System", Cond.fieldLink RX2 15 "SoldStops$Marks" "reads" "[I", Cond.methodLink RX7 154 yX2_set, Cond.instanceMethod yX2_set, Cond.selects RX2 yX2_set yX2_set, Cond.code yX2_set cX2_set 3 none]
def wsX7_buy : List Cond := .code yX7_buy cX7_buy 4 (some .int) :: ((wsX7_buy_r1 ++ (wsX7_buy_r2 ++ wsX7_buy_r3)) ++ wsX70 ++ wsX40 ++ wsX20)
def wsX7_sell_r1 : List Cond := [Cond.fieldLink RX7 10 "SoldStops" "page" "LSoldStops$Page;", Cond.fieldLink RX7 102 "SoldStops$Page" "marks" "LSoldStops$Marks;", Cond.fieldLink RX7 119 "SoldStops$Marks" "kinds" "[I", Cond.fieldLink RX7 106 "SoldStops$Marks" "purse" "I", Cond.methodLink RX7 157 Lib.Math.min.name, Cond.static Lib.Math.min.name, Cond.initialized "java/lang/Math", Cond.code Lib.Math.min.name Lib.Math.min.code 2 (some .int), Cond.methodLink RX7 111 yX4_has, Cond.instanceMethod yX4_has, Cond.selects RX4 yX4_has yX4_has, Cond.initialized RX4, Cond.code yX4_has cX4_has 2 (some .boolean), Cond.fieldLink RX4 42 "SoldStops$Page" "words" "I", Cond.methodLink RX7 66 yX7_bad, Cond.instanceMethod yX7_bad, Cond.selects RX7 yX7_bad yX7_bad, Cond.initialized RX7, Cond.code yX7_bad cX7_bad 2 (some .int), Cond.fieldLink RX7 270 "SoldStops" "bads" "I", Cond.methodLink RX7 148 yX7_no, Cond.instanceMethod yX7_no, Cond.selects RX7 yX7_no yX7_no, Cond.code yX7_no cX7_no 2 (some .int)]
def wsX7_sell_r2 : List Cond := [Cond.fieldLink RX7 273 "SoldStops" "nos" "I", Cond.methodLink RX7 145 yX4_costOf, Cond.instanceMethod yX4_costOf, Cond.selects RX4 yX4_costOf yX4_costOf, Cond.code yX4_costOf cX4_costOf 2 (some .int), Cond.fieldLink RX4 15 "SoldStops$Page" "price" "I", Cond.fieldLink RX4 25 "SoldStops$Page" "marks" "LSoldStops$Marks;", Cond.fieldLink RX4 39 "SoldStops$Marks" "week" "I", Cond.methodLink RX4 65 yX1_cost, Cond.static yX1_cost, Cond.initialized RX1, Cond.code yX1_cost cX1_cost 5 (some .int), Cond.methodLink RX7 151 yX4_remember, Cond.instanceMethod yX4_remember, Cond.selects RX4 yX4_remember yX4_remember, Cond.code yX4_remember cX4_remember 1 none, Cond.fieldLink RX4 48 "SoldStops$Page" "pasts" "I", Cond.fieldLink RX4 32 "SoldStops$Page" "past" "[LSoldStops$Marks;", Cond.methodLink RX4 74 yX4_dropOldest, Cond.instanceMethod yX4_dropOldest, Cond.selects RX4 yX4_dropOldest yX4_dropOldest, Cond.code yX4_dropOldest cX4_dropOldest 3 none, Cond.methodLink RX4 57 yX2_copy, Cond.instanceMethod yX2_copy]
def wsX7_sell_r3 : List Cond := [Cond.selects RX2 yX2_copy yX2_copy, Cond.initialized RX2, Cond.code yX2_copy cX2_copy 2 none, Cond.fieldLink RX2 28 "SoldStops$Marks" "purse" "I", Cond.fieldLink RX2 32 "SoldStops$Marks" "week" "I", Cond.fieldLink RX2 9 "SoldStops$Marks" "kinds" "[I", Cond.methodLink RX2 35 arraycopyName, Cond.native arraycopyName, Cond.static arraycopyName, Cond.initialized "java/lang/System", Cond.fieldLink RX2 15 "SoldStops$Marks" "reads" "[I", Cond.methodLink RX7 154 yX2_set, Cond.instanceMethod yX2_set, Cond.selects RX2 yX2_set yX2_set, Cond.code yX2_set cX2_set 3 none]
def wsX7_sell : List Cond := .code yX7_sell cX7_sell 3 (some .int) :: ((wsX7_sell_r1 ++ (wsX7_sell_r2 ++ wsX7_sell_r3)) ++ wsX70 ++ wsX40 ++ wsX20)
def wsX7_readOut_r1 : List Cond := [Cond.fieldLink RX7 10 "SoldStops" "page" "LSoldStops$Page;", Cond.methodLink RX7 151 yX4_remember, Cond.instanceMethod yX4_remember, Cond.selects RX4 yX4_remember yX4_remember, Cond.initialized RX4, Cond.code yX4_remember cX4_remember 1 none, Cond.fieldLink RX4 48 "SoldStops$Page" "pasts" "I", Cond.fieldLink RX4 32 "SoldStops$Page" "past" "[LSoldStops$Marks;", Cond.fieldLink RX4 25 "SoldStops$Page" "marks" "LSoldStops$Marks;", Cond.methodLink RX4 74 yX4_dropOldest, Cond.instanceMethod yX4_dropOldest, Cond.selects RX4 yX4_dropOldest yX4_dropOldest, Cond.code yX4_dropOldest cX4_dropOldest 3 none, Cond.methodLink RX4 57 yX2_copy, Cond.instanceMethod yX2_copy, Cond.selects RX2 yX2_copy yX2_copy, Cond.initialized RX2, Cond.code yX2_copy cX2_copy 2 none, Cond.fieldLink RX2 28 "SoldStops$Marks" "purse" "I", Cond.fieldLink RX2 32 "SoldStops$Marks" "week" "I", Cond.fieldLink RX2 9 "SoldStops$Marks" "kinds" "[I", Cond.methodLink RX2 35 arraycopyName, Cond.native arraycopyName, Cond.static arraycopyName]
def wsX7_readOut_r2 : List Cond := [Cond.initialized "java/lang/System", Cond.fieldLink RX2 15 "SoldStops$Marks" "reads" "[I", Cond.methodLink RX7 163 yX4_say, Cond.instanceMethod yX4_say, Cond.selects RX4 yX4_say yX4_say, Cond.code yX4_say cX4_say 3 (some .int), Cond.fieldLink RX4 9 "SoldStops$Page" "breath" "I", Cond.fieldLink RX4 42 "SoldStops$Page" "words" "I", Cond.fieldLink RX4 18 "SoldStops$Page" "lengths" "[I", Cond.methodLink RX4 80 yX4_leftBehind, Cond.instanceMethod yX4_leftBehind, Cond.selects RX4 yX4_leftBehind yX4_leftBehind, Cond.code yX4_leftBehind cX4_leftBehind 5 (some .int), Cond.fieldLink RX4 71 "SoldStops$Marks" "kinds" "[I", Cond.methodLink RX4 77 yX1_breathBehind, Cond.static yX1_breathBehind, Cond.initialized RX1, Cond.code yX1_breathBehind cX1_breathBehind 5 (some .int), Cond.methodLink RX1 9 Lib.Math.min.name, Cond.static Lib.Math.min.name, Cond.initialized "java/lang/Math", Cond.code Lib.Math.min.name Lib.Math.min.code 2 (some .int), Cond.methodLink RX1 15 Lib.Math.max.name, Cond.static Lib.Math.max.name]
def wsX7_readOut_r3 : List Cond := [Cond.code Lib.Math.max.name Lib.Math.max.code 2 (some .int), Cond.methodLink RX4 84 yX2_readOnce, Cond.instanceMethod yX2_readOnce, Cond.selects RX2 yX2_readOnce yX2_readOnce, Cond.code yX2_readOnce cX2_readOnce 3 none, Cond.methodLink RX2 18 yX1_lasts, Cond.static yX1_lasts, Cond.code yX1_lasts cX1_lasts 1 (some .int), Cond.methodLink RX2 24 yX2_set, Cond.instanceMethod yX2_set, Cond.selects RX2 yX2_set yX2_set, Cond.code yX2_set cX2_set 3 none]
def wsX7_readOut : List Cond := .code yX7_readOut cX7_readOut 1 (some .int) :: ((wsX7_readOut_r1 ++ (wsX7_readOut_r2 ++ wsX7_readOut_r3)) ++ wsX70 ++ wsX40 ++ wsX20)
def wsX7_week_r1 : List Cond := [Cond.fieldLink RX7 10 "SoldStops" "page" "LSoldStops$Page;", Cond.fieldLink RX7 102 "SoldStops$Page" "marks" "LSoldStops$Marks;", Cond.fieldLink RX7 166 "SoldStops$Marks" "week" "I", Cond.methodLink RX7 98 yX7_isWithin, Cond.static yX7_isWithin, Cond.initialized RX7, Cond.code yX7_isWithin cX7_isWithin 3 (some .boolean), Cond.methodLink RX7 66 yX7_bad, Cond.instanceMethod yX7_bad, Cond.selects RX7 yX7_bad yX7_bad, Cond.code yX7_bad cX7_bad 2 (some .int), Cond.fieldLink RX7 270 "SoldStops" "bads" "I", Cond.methodLink RX7 151 yX4_remember, Cond.instanceMethod yX4_remember, Cond.selects RX4 yX4_remember yX4_remember, Cond.initialized RX4, Cond.code yX4_remember cX4_remember 1 none, Cond.fieldLink RX4 48 "SoldStops$Page" "pasts" "I", Cond.fieldLink RX4 32 "SoldStops$Page" "past" "[LSoldStops$Marks;", Cond.fieldLink RX4 25 "SoldStops$Page" "marks" "LSoldStops$Marks;", Cond.methodLink RX4 74 yX4_dropOldest, Cond.instanceMethod yX4_dropOldest, Cond.selects RX4 yX4_dropOldest yX4_dropOldest, Cond.code yX4_dropOldest cX4_dropOldest 3 none]
def wsX7_week_r2 : List Cond := [Cond.methodLink RX4 57 yX2_copy, Cond.instanceMethod yX2_copy, Cond.selects RX2 yX2_copy yX2_copy, Cond.initialized RX2, Cond.code yX2_copy cX2_copy 2 none, Cond.fieldLink RX2 28 "SoldStops$Marks" "purse" "I", Cond.fieldLink RX2 32 "SoldStops$Marks" "week" "I", Cond.fieldLink RX2 9 "SoldStops$Marks" "kinds" "[I", Cond.methodLink RX2 35 arraycopyName, Cond.native arraycopyName, Cond.static arraycopyName, Cond.initialized "java/lang/System", Cond.fieldLink RX2 15 "SoldStops$Marks" "reads" "[I"]
def wsX7_week : List Cond := .code yX7_week cX7_week 2 (some .int) :: ((wsX7_week_r1 ++ wsX7_week_r2) ++ wsX70 ++ wsX40 ++ wsX20)
def wsX7_undo_r1 : List Cond := [Cond.fieldLink RX7 10 "SoldStops" "page" "LSoldStops$Page;", Cond.fieldLink RX7 169 "SoldStops$Page" "pasts" "I", Cond.fieldLink RX7 102 "SoldStops$Page" "marks" "LSoldStops$Marks;", Cond.fieldLink RX7 106 "SoldStops$Marks" "purse" "I", Cond.methodLink RX7 148 yX7_no, Cond.instanceMethod yX7_no, Cond.selects RX7 yX7_no yX7_no, Cond.initialized RX7, Cond.code yX7_no cX7_no 2 (some .int), Cond.fieldLink RX7 273 "SoldStops" "nos" "I", Cond.methodLink RX7 172 yX4_goBack, Cond.instanceMethod yX4_goBack, Cond.selects RX4 yX4_goBack yX4_goBack, Cond.initialized RX4, Cond.code yX4_goBack cX4_goBack 1 none, Cond.fieldLink RX4 48 "SoldStops$Page" "pasts" "I", Cond.fieldLink RX4 25 "SoldStops$Page" "marks" "LSoldStops$Marks;", Cond.fieldLink RX4 32 "SoldStops$Page" "past" "[LSoldStops$Marks;", Cond.methodLink RX4 57 yX2_copy, Cond.instanceMethod yX2_copy, Cond.selects RX2 yX2_copy yX2_copy, Cond.initialized RX2, Cond.code yX2_copy cX2_copy 2 none, Cond.fieldLink RX2 28 "SoldStops$Marks" "purse" "I"]
def wsX7_undo_r2 : List Cond := [Cond.fieldLink RX2 32 "SoldStops$Marks" "week" "I", Cond.fieldLink RX2 9 "SoldStops$Marks" "kinds" "[I", Cond.methodLink RX2 35 arraycopyName, Cond.native arraycopyName, Cond.static arraycopyName, Cond.initialized "java/lang/System", Cond.fieldLink RX2 15 "SoldStops$Marks" "reads" "[I"]
def wsX7_undo : List Cond := .code yX7_undo cX7_undo 1 (some .int) :: ((wsX7_undo_r1 ++ wsX7_undo_r2) ++ wsX70 ++ wsX40 ++ wsX20)
def wsX7_of_r1 : List Cond := [Cond.fieldLink RX7 10 "SoldStops" "page" "LSoldStops$Page;", Cond.fieldLink RX7 175 "SoldStops$Page" "lengths" "[I", Cond.fieldLink RX7 102 "SoldStops$Page" "marks" "LSoldStops$Marks;", Cond.fieldLink RX7 119 "SoldStops$Marks" "kinds" "[I", Cond.fieldLink RX7 178 "SoldStops$Marks" "reads" "[I", Cond.methodLink RX7 111 yX4_has, Cond.instanceMethod yX4_has, Cond.selects RX4 yX4_has yX4_has, Cond.initialized RX4, Cond.code yX4_has cX4_has 2 (some .boolean), Cond.fieldLink RX4 42 "SoldStops$Page" "words" "I", Cond.methodLink RX7 66 yX7_bad, Cond.instanceMethod yX7_bad, Cond.selects RX7 yX7_bad yX7_bad, Cond.initialized RX7, Cond.code yX7_bad cX7_bad 2 (some .int), Cond.fieldLink RX7 270 "SoldStops" "bads" "I", Cond.methodLink RX7 145 yX4_costOf, Cond.instanceMethod yX4_costOf, Cond.selects RX4 yX4_costOf yX4_costOf, Cond.code yX4_costOf cX4_costOf 2 (some .int), Cond.fieldLink RX4 15 "SoldStops$Page" "price" "I", Cond.fieldLink RX4 25 "SoldStops$Page" "marks" "LSoldStops$Marks;", Cond.fieldLink RX4 39 "SoldStops$Marks" "week" "I"]
def wsX7_of_r2 : List Cond := [Cond.methodLink RX4 65 yX1_cost, Cond.static yX1_cost, Cond.initialized RX1, Cond.code yX1_cost cX1_cost 5 (some .int)]
def wsX7_of : List Cond := .code yX7_of cX7_of 3 (some .int) :: ((wsX7_of_r1 ++ wsX7_of_r2) ++ wsX70 ++ wsX40 ++ wsX20)
def wsX7_costs : List Cond := .code yX7_costs cX7_costs 2 (some .int) :: ([.fieldLink RX7 10 "SoldStops" "page" "LSoldStops$Page;", .methodLink RX7 114 yX1_isOne, .static yX1_isOne, .initialized RX1, .code yX1_isOne cX1_isOne 1 (some .boolean), .methodLink RX7 145 yX4_costOf, .instanceMethod yX4_costOf, .selects RX4 yX4_costOf yX4_costOf, .initialized RX4, .code yX4_costOf cX4_costOf 2 (some .int), .fieldLink RX4 15 "SoldStops$Page" "price" "I", .fieldLink RX4 25 "SoldStops$Page" "marks" "LSoldStops$Marks;", .fieldLink RX4 39 "SoldStops$Marks" "week" "I", .methodLink RX4 65 yX1_cost, .static yX1_cost, .code yX1_cost cX1_cost 5 (some .int), .methodLink RX7 66 yX7_bad, .instanceMethod yX7_bad, .selects RX7 yX7_bad yX7_bad, .initialized RX7, .code yX7_bad cX7_bad 2 (some .int), .fieldLink RX7 270 "SoldStops" "bads" "I"] ++ wsX70 ++ wsX40 ++ wsX20)
def wsX7_gives_r1 : List Cond := [Cond.fieldLink RX7 10 "SoldStops" "page" "LSoldStops$Page;", Cond.fieldLink RX7 92 "SoldStops$Page" "breath" "I", Cond.methodLink RX7 114 yX1_isOne, Cond.static yX1_isOne, Cond.initialized RX1, Cond.code yX1_isOne cX1_isOne 1 (some .boolean), Cond.methodLink RX7 98 yX7_isWithin, Cond.static yX7_isWithin, Cond.initialized RX7, Cond.code yX7_isWithin cX7_isWithin 3 (some .boolean), Cond.methodLink RX7 66 yX7_bad, Cond.instanceMethod yX7_bad, Cond.selects RX7 yX7_bad yX7_bad, Cond.code yX7_bad cX7_bad 2 (some .int), Cond.fieldLink RX7 270 "SoldStops" "bads" "I", Cond.methodLink RX7 181 yX1_breathBehind, Cond.static yX1_breathBehind, Cond.code yX1_breathBehind cX1_breathBehind 5 (some .int), Cond.methodLink RX1 9 Lib.Math.min.name, Cond.static Lib.Math.min.name, Cond.initialized "java/lang/Math", Cond.code Lib.Math.min.name Lib.Math.min.code 2 (some .int), Cond.methodLink RX1 15 Lib.Math.max.name, Cond.static Lib.Math.max.name]
def wsX7_gives_r2 : List Cond := [Cond.code Lib.Math.max.name Lib.Math.max.code 2 (some .int)]
def wsX7_gives : List Cond := .code yX7_gives cX7_gives 3 (some .int) :: ((wsX7_gives_r1 ++ wsX7_gives_r2) ++ wsX70 ++ wsX40)
def wsX7_stuck_r1 : List Cond := [Cond.fieldLink RX7 10 "SoldStops" "page" "LSoldStops$Page;", Cond.fieldLink RX7 92 "SoldStops$Page" "breath" "I", Cond.methodLink RX7 185 yX4_stuckAt, Cond.instanceMethod yX4_stuckAt, Cond.selects RX4 yX4_stuckAt yX4_stuckAt, Cond.initialized RX4, Cond.code yX4_stuckAt cX4_stuckAt 5 (some .int), Cond.fieldLink RX4 42 "SoldStops$Page" "words" "I", Cond.fieldLink RX4 18 "SoldStops$Page" "lengths" "[I", Cond.methodLink RX4 80 yX4_leftBehind, Cond.instanceMethod yX4_leftBehind, Cond.selects RX4 yX4_leftBehind yX4_leftBehind, Cond.code yX4_leftBehind cX4_leftBehind 5 (some .int), Cond.fieldLink RX4 25 "SoldStops$Page" "marks" "LSoldStops$Marks;", Cond.fieldLink RX4 71 "SoldStops$Marks" "kinds" "[I", Cond.methodLink RX4 77 yX1_breathBehind, Cond.static yX1_breathBehind, Cond.initialized RX1, Cond.code yX1_breathBehind cX1_breathBehind 5 (some .int), Cond.methodLink RX1 9 Lib.Math.min.name, Cond.static Lib.Math.min.name, Cond.initialized "java/lang/Math", Cond.code Lib.Math.min.name Lib.Math.min.code 2 (some .int), Cond.methodLink RX1 15 Lib.Math.max.name]
def wsX7_stuck_r2 : List Cond := [Cond.static Lib.Math.max.name, Cond.code Lib.Math.max.name Lib.Math.max.code 2 (some .int)]
def wsX7_stuck : List Cond := .code yX7_stuck cX7_stuck 1 (some .int) :: ((wsX7_stuck_r1 ++ wsX7_stuck_r2) ++ wsX70 ++ wsX40 ++ wsX20)
def wsX7_sentences_r1 : List Cond := [Cond.fieldLink RX7 10 "SoldStops" "page" "LSoldStops$Page;", Cond.methodLink RX7 188 yX4_howManySentences, Cond.instanceMethod yX4_howManySentences, Cond.selects RX4 yX4_howManySentences yX4_howManySentences, Cond.initialized RX4, Cond.code yX4_howManySentences cX4_howManySentences 3 (some .int), Cond.fieldLink RX4 42 "SoldStops$Page" "words" "I", Cond.fieldLink RX4 25 "SoldStops$Page" "marks" "LSoldStops$Marks;", Cond.fieldLink RX4 71 "SoldStops$Marks" "kinds" "[I", Cond.methodLink RX4 93 yX1_ends, Cond.static yX1_ends, Cond.initialized RX1, Cond.code yX1_ends cX1_ends 1 (some .boolean), Cond.methodLink RX4 97 yX4_lastIsEnded, Cond.instanceMethod yX4_lastIsEnded, Cond.selects RX4 yX4_lastIsEnded yX4_lastIsEnded, Cond.code yX4_lastIsEnded cX4_lastIsEnded 1 (some .boolean), Cond.methodLink RX7 191 yX4_lastIsEnded, Cond.methodLink RX7 194 yX4_longestSentence, Cond.instanceMethod yX4_longestSentence, Cond.selects RX4 yX4_longestSentence yX4_longestSentence, Cond.code yX4_longestSentence cX4_longestSentence 7 (some .int), Cond.methodLink RX7 66 yX7_bad, Cond.instanceMethod yX7_bad]
def wsX7_sentences_r2 : List Cond := [Cond.selects RX7 yX7_bad yX7_bad, Cond.initialized RX7, Cond.code yX7_bad cX7_bad 2 (some .int), Cond.fieldLink RX7 270 "SoldStops" "bads" "I"]
def wsX7_sentences : List Cond := .code yX7_sentences cX7_sentences 2 (some .int) :: ((wsX7_sentences_r1 ++ wsX7_sentences_r2) ++ wsX70 ++ wsX40 ++ wsX20)
def wsX7_cheapest_r1 : List Cond := [Cond.fieldLink RX7 37 "SoldStops" "plan" "LSoldStops$Plan;", Cond.fieldLink RX7 10 "SoldStops" "page" "LSoldStops$Page;", Cond.fieldLink RX7 70 "SoldStops$Page" "words" "I", Cond.methodLink RX7 59 yX7_isBreath, Cond.static yX7_isBreath, Cond.initialized RX7, Cond.code yX7_isBreath cX7_isBreath 1 (some .boolean), Cond.methodLink RX7 98 yX7_isWithin, Cond.static yX7_isWithin, Cond.code yX7_isWithin cX7_isWithin 3 (some .boolean), Cond.methodLink RX7 66 yX7_bad, Cond.instanceMethod yX7_bad, Cond.selects RX7 yX7_bad yX7_bad, Cond.code yX7_bad cX7_bad 2 (some .int), Cond.fieldLink RX7 270 "SoldStops" "bads" "I", Cond.methodLink RX7 198 yX5_make, Cond.instanceMethod yX5_make, Cond.selects RX5 yX5_make yX5_make, Cond.initialized RX5, Cond.code yX5_make cX5_make 8 none, Cond.fieldLink RX5 29 "SoldStops$Page" "words" "I", Cond.fieldLink RX5 11 "SoldStops$Plan" "costs" "[[I", Cond.fieldLink RX5 16 "SoldStops$Plan" "fewest" "[[I", Cond.constant RX5 41 (1000000)]
def wsX7_cheapest_r2 : List Cond := [Cond.fieldLink RX5 19 "SoldStops$Plan" "choices" "[[I", Cond.fieldLink RX5 42 "SoldStops$Page" "lengths" "[I", Cond.methodLink RX5 35 yJ7_fill_53178, Cond.static yJ7_fill_53178, Cond.initialized RJ7, Cond.code yJ7_fill_53178 cJ7_fill_53178 4 none, Cond.methodLink RX5 45 yX5_choose, Cond.instanceMethod yX5_choose, Cond.selects RX5 yX5_choose yX5_choose, Cond.code yX5_choose cX5_choose 14 none, Cond.fieldLink RX5 49 "SoldStops$Page" "marks" "LSoldStops$Marks;", Cond.fieldLink RX5 53 "SoldStops$Marks" "kinds" "[I", Cond.methodLink RX5 60 yX1_breathBehind, Cond.static yX1_breathBehind, Cond.initialized RX1, Cond.code yX1_breathBehind cX1_breathBehind 5 (some .int), Cond.methodLink RX1 9 Lib.Math.min.name, Cond.static Lib.Math.min.name, Cond.initialized "java/lang/Math", Cond.code Lib.Math.min.name Lib.Math.min.code 2 (some .int), Cond.methodLink RX1 15 Lib.Math.max.name, Cond.static Lib.Math.max.name, Cond.code Lib.Math.max.name Lib.Math.max.code 2 (some .int), Cond.methodLink RX5 64 yX4_costOf]
def wsX7_cheapest_r3 : List Cond := [Cond.instanceMethod yX4_costOf, Cond.selects RX4 yX4_costOf yX4_costOf, Cond.initialized RX4, Cond.code yX4_costOf cX4_costOf 2 (some .int), Cond.fieldLink RX4 15 "SoldStops$Page" "price" "I", Cond.fieldLink RX4 25 "SoldStops$Page" "marks" "LSoldStops$Marks;", Cond.fieldLink RX4 39 "SoldStops$Marks" "week" "I", Cond.methodLink RX4 65 yX1_cost, Cond.static yX1_cost, Cond.code yX1_cost cX1_cost 5 (some .int), Cond.methodLink RX5 68 yX1_ends, Cond.static yX1_ends, Cond.code yX1_ends cX1_ends 1 (some .boolean), Cond.methodLink RX7 202 yX5_isThere, Cond.instanceMethod yX5_isThere, Cond.selects RX5 yX5_isThere yX5_isThere, Cond.code yX5_isThere cX5_isThere 2 (some .boolean), Cond.methodLink RX7 205 yX5_cost, Cond.instanceMethod yX5_cost, Cond.selects RX5 yX5_cost yX5_cost, Cond.code yX5_cost cX5_cost 2 (some .int), Cond.methodLink RX7 208 yX5_kindBehind, Cond.instanceMethod yX5_kindBehind, Cond.selects RX5 yX5_kindBehind yX5_kindBehind]
def wsX7_cheapest_r4 : List Cond := [Cond.code yX5_kindBehind cX5_kindBehind 8 (some .int)]
def wsX7_cheapest : List Cond := .code yX7_cheapest cX7_cheapest 4 (some .int) :: ((wsX7_cheapest_r1 ++ (wsX7_cheapest_r2 ++ (wsX7_cheapest_r3 ++ wsX7_cheapest_r4))) ++ wsX70 ++ wsX40 ++ wsX50 ++ wsX20)
def wsX7_reach_r1 : List Cond := [Cond.fieldLink RX7 37 "SoldStops" "plan" "LSoldStops$Plan;", Cond.fieldLink RX7 10 "SoldStops" "page" "LSoldStops$Page;", Cond.methodLink RX7 98 yX7_isWithin, Cond.static yX7_isWithin, Cond.initialized RX7, Cond.code yX7_isWithin cX7_isWithin 3 (some .boolean), Cond.methodLink RX7 212 yX5_reachFor, Cond.instanceMethod yX5_reachFor, Cond.selects RX5 yX5_reachFor yX5_reachFor, Cond.initialized RX5, Cond.code yX5_reachFor cX5_reachFor 6 (some .int), Cond.fieldLink RX5 22 "SoldStops$Plan" "now" "[I", Cond.constant RX5 41 (1000000), Cond.fieldLink RX5 72 "SoldStops$Page" "breath" "I", Cond.fieldLink RX5 29 "SoldStops$Page" "words" "I", Cond.fieldLink RX5 26 "SoldStops$Plan" "then" "[I", Cond.fieldLink RX5 42 "SoldStops$Page" "lengths" "[I", Cond.methodLink RX5 79 arraycopyName, Cond.native arraycopyName, Cond.static arraycopyName, Cond.initialized "java/lang/System", Cond.methodLink RX5 35 yJ7_fill_53178, Cond.static yJ7_fill_53178, Cond.initialized RJ7]
def wsX7_reach_r2 : List Cond := [Cond.code yJ7_fill_53178 cJ7_fill_53178 4 none, Cond.methodLink RX5 75 yX5_spread, Cond.instanceMethod yX5_spread, Cond.selects RX5 yX5_spread yX5_spread, Cond.code yX5_spread cX5_spread 9 none, Cond.fieldLink RX5 49 "SoldStops$Page" "marks" "LSoldStops$Marks;", Cond.fieldLink RX5 53 "SoldStops$Marks" "kinds" "[I", Cond.methodLink RX5 85 Lib.Math.min.name, Cond.static Lib.Math.min.name, Cond.initialized "java/lang/Math", Cond.code Lib.Math.min.name Lib.Math.min.code 2 (some .int), Cond.methodLink RX5 60 yX1_breathBehind, Cond.static yX1_breathBehind, Cond.initialized RX1, Cond.code yX1_breathBehind cX1_breathBehind 5 (some .int), Cond.methodLink RX1 9 Lib.Math.min.name, Cond.methodLink RX1 15 Lib.Math.max.name, Cond.static Lib.Math.max.name, Cond.code Lib.Math.max.name Lib.Math.max.code 2 (some .int), Cond.methodLink RX5 64 yX4_costOf, Cond.instanceMethod yX4_costOf, Cond.selects RX4 yX4_costOf yX4_costOf, Cond.initialized RX4, Cond.code yX4_costOf cX4_costOf 2 (some .int)]
def wsX7_reach_r3 : List Cond := [Cond.fieldLink RX4 15 "SoldStops$Page" "price" "I", Cond.fieldLink RX4 25 "SoldStops$Page" "marks" "LSoldStops$Marks;", Cond.fieldLink RX4 39 "SoldStops$Marks" "week" "I", Cond.methodLink RX4 65 yX1_cost, Cond.static yX1_cost, Cond.code yX1_cost cX1_cost 5 (some .int), Cond.methodLink RX7 66 yX7_bad, Cond.instanceMethod yX7_bad, Cond.selects RX7 yX7_bad yX7_bad, Cond.code yX7_bad cX7_bad 2 (some .int), Cond.fieldLink RX7 270 "SoldStops" "bads" "I"]
def wsX7_reach : List Cond := .code yX7_reach cX7_reach 2 (some .int) :: ((wsX7_reach_r1 ++ (wsX7_reach_r2 ++ wsX7_reach_r3)) ++ wsX70 ++ wsX50 ++ wsX40 ++ wsX20)
def wsX7_order_r1 : List Cond := [Cond.fieldLink RX7 10 "SoldStops" "page" "LSoldStops$Page;", Cond.fieldLink RX7 70 "SoldStops$Page" "words" "I", Cond.fieldLink RX7 44 "SoldStops" "order" "LSoldStops$Order;", Cond.fieldLink RX7 219 "SoldStops$Order" "most" "I", Cond.fieldLink RX7 222 "SoldStops$Order" "best" "[I", Cond.methodLink RX7 66 yX7_bad, Cond.instanceMethod yX7_bad, Cond.selects RX7 yX7_bad yX7_bad, Cond.initialized RX7, Cond.code yX7_bad cX7_bad 2 (some .int), Cond.fieldLink RX7 270 "SoldStops" "bads" "I", Cond.methodLink RX7 148 yX7_no, Cond.instanceMethod yX7_no, Cond.selects RX7 yX7_no yX7_no, Cond.code yX7_no cX7_no 2 (some .int), Cond.fieldLink RX7 273 "SoldStops" "nos" "I", Cond.methodLink RX7 216 yX3_search, Cond.instanceMethod yX3_search, Cond.selects RX3 yX3_search yX3_search, Cond.initialized RX3, Cond.code yX3_search cX3_search 3 none, Cond.fieldLink RX3 22 "SoldStops$Order" "most" "I", Cond.fieldLink RX3 9 "SoldStops$Order" "best" "[I", Cond.fieldLink RX3 18 "SoldStops$Order" "used" "[Z"]
def wsX7_order_r2 : List Cond := [Cond.fieldLink RX3 26 "SoldStops$Page" "breath" "I", Cond.methodLink RX3 31 yX3_extend, Cond.static yX3_extend, Cond.code yX3_extend cX3_extend 6 none, Cond.fieldLink RX3 35 "SoldStops$Page" "words" "I", Cond.fieldLink RX3 42 "SoldStops$Page" "lengths" "[I", Cond.fieldLink RX3 15 "SoldStops$Order" "row" "[I", Cond.methodLink RX3 38 yX3_keepRow, Cond.instanceMethod yX3_keepRow, Cond.selects RX3 yX3_keepRow yX3_keepRow, Cond.code yX3_keepRow cX3_keepRow 5 none, Cond.methodLink RX3 49 arraycopyName, Cond.native arraycopyName, Cond.static arraycopyName, Cond.initialized "java/lang/System", Cond.methodLink RX3 45 yX4_leftBehind, Cond.instanceMethod yX4_leftBehind, Cond.selects RX4 yX4_leftBehind yX4_leftBehind, Cond.initialized RX4, Cond.code yX4_leftBehind cX4_leftBehind 5 (some .int), Cond.fieldLink RX4 25 "SoldStops$Page" "marks" "LSoldStops$Marks;", Cond.fieldLink RX4 71 "SoldStops$Marks" "kinds" "[I", Cond.methodLink RX4 77 yX1_breathBehind, Cond.static yX1_breathBehind]
def wsX7_order_r3 : List Cond := [Cond.initialized RX1, Cond.code yX1_breathBehind cX1_breathBehind 5 (some .int), Cond.methodLink RX1 9 Lib.Math.min.name, Cond.static Lib.Math.min.name, Cond.initialized "java/lang/Math", Cond.code Lib.Math.min.name Lib.Math.min.code 2 (some .int), Cond.methodLink RX1 15 Lib.Math.max.name, Cond.static Lib.Math.max.name, Cond.code Lib.Math.max.name Lib.Math.max.code 2 (some .int)]
def wsX7_order : List Cond := .code yX7_order cX7_order 2 (some .int) :: ((wsX7_order_r1 ++ (wsX7_order_r2 ++ wsX7_order_r3)) ++ wsX70 ++ wsX40 ++ wsX30 ++ wsX20)
def wsX7_heard_r1 : List Cond := [Cond.fieldLink RX7 10 "SoldStops" "page" "LSoldStops$Page;", Cond.fieldLink RX7 225 "SoldStops$Page" "heards" "I", Cond.methodLink RX7 111 yX4_has, Cond.instanceMethod yX4_has, Cond.selects RX4 yX4_has yX4_has, Cond.initialized RX4, Cond.code yX4_has cX4_has 2 (some .boolean), Cond.fieldLink RX4 42 "SoldStops$Page" "words" "I", Cond.methodLink RX7 66 yX7_bad, Cond.instanceMethod yX7_bad, Cond.selects RX7 yX7_bad yX7_bad, Cond.initialized RX7, Cond.code yX7_bad cX7_bad 2 (some .int), Cond.fieldLink RX7 270 "SoldStops" "bads" "I", Cond.methodLink RX7 85 yX7_full, Cond.instanceMethod yX7_full, Cond.selects RX7 yX7_full yX7_full, Cond.code yX7_full cX7_full 2 (some .int), Cond.fieldLink RX7 276 "SoldStops" "fulls" "I", Cond.methodLink RX7 228 yX4_breathsStuckAt, Cond.instanceMethod yX4_breathsStuckAt, Cond.selects RX4 yX4_breathsStuckAt yX4_breathsStuckAt, Cond.code yX4_breathsStuckAt cX4_breathsStuckAt 4 (some .int), Cond.methodLink RX4 88 yX4_stuckAt]
def wsX7_heard_r2 : List Cond := [Cond.instanceMethod yX4_stuckAt, Cond.selects RX4 yX4_stuckAt yX4_stuckAt, Cond.code yX4_stuckAt cX4_stuckAt 5 (some .int), Cond.fieldLink RX4 18 "SoldStops$Page" "lengths" "[I", Cond.methodLink RX4 80 yX4_leftBehind, Cond.instanceMethod yX4_leftBehind, Cond.selects RX4 yX4_leftBehind yX4_leftBehind, Cond.code yX4_leftBehind cX4_leftBehind 5 (some .int), Cond.fieldLink RX4 25 "SoldStops$Page" "marks" "LSoldStops$Marks;", Cond.fieldLink RX4 71 "SoldStops$Marks" "kinds" "[I", Cond.methodLink RX4 77 yX1_breathBehind, Cond.static yX1_breathBehind, Cond.initialized RX1, Cond.code yX1_breathBehind cX1_breathBehind 5 (some .int), Cond.methodLink RX1 9 Lib.Math.min.name, Cond.static Lib.Math.min.name, Cond.initialized "java/lang/Math", Cond.code Lib.Math.min.name Lib.Math.min.code 2 (some .int), Cond.methodLink RX1 15 Lib.Math.max.name, Cond.static Lib.Math.max.name, Cond.code Lib.Math.max.name Lib.Math.max.code 2 (some .int), Cond.methodLink RX7 231 yX4_addHeard, Cond.instanceMethod yX4_addHeard, Cond.selects RX4 yX4_addHeard yX4_addHeard]
def wsX7_heard_r3 : List Cond := [Cond.code yX4_addHeard cX4_addHeard 2 none, Cond.fieldLink RX4 29 "SoldStops$Page" "heard" "[I", Cond.fieldLink RX4 45 "SoldStops$Page" "heards" "I"]
def wsX7_heard : List Cond := .code yX7_heard cX7_heard 2 (some .int) :: ((wsX7_heard_r1 ++ (wsX7_heard_r2 ++ wsX7_heard_r3)) ++ wsX70 ++ wsX40 ++ wsX20)
def wsX7_forget : List Cond := .code yX7_forget cX7_forget 2 (some .int) :: ([.fieldLink RX7 10 "SoldStops" "page" "LSoldStops$Page;", .fieldLink RX7 225 "SoldStops$Page" "heards" "I"] ++ wsX70 ++ wsX40)
def wsX7_breaths : List Cond := .code yX7_breaths cX7_breaths 1 (some .int) :: ([.fieldLink RX7 10 "SoldStops" "page" "LSoldStops$Page;", .methodLink RX7 234 yX4_breathsHeard, .instanceMethod yX4_breathsHeard, .selects RX4 yX4_breathsHeard yX4_breathsHeard, .initialized RX4, .code yX4_breathsHeard cX4_breathsHeard 3 (some .int), .constant RX4 92 (2147483646), .fieldLink RX4 45 "SoldStops$Page" "heards" "I", .fieldLink RX4 29 "SoldStops$Page" "heard" "[I"] ++ wsX70 ++ wsX40)
def wsX7_mostAlike_r1 : List Cond := [Cond.fieldLink RX7 55 "SoldStops" "alike" "[I", Cond.fieldLink RX7 10 "SoldStops" "page" "LSoldStops$Page;", Cond.methodLink RX7 307 Lib.Math.max.name, Cond.static Lib.Math.max.name, Cond.initialized "java/lang/Math", Cond.code Lib.Math.max.name Lib.Math.max.code 2 (some .int), Cond.methodLink RX7 301 yJ7_fill_53178, Cond.static yJ7_fill_53178, Cond.initialized RJ7, Cond.code yJ7_fill_53178 cJ7_fill_53178 4 none, Cond.methodLink RX7 185 yX4_stuckAt, Cond.instanceMethod yX4_stuckAt, Cond.selects RX4 yX4_stuckAt yX4_stuckAt, Cond.initialized RX4, Cond.code yX4_stuckAt cX4_stuckAt 5 (some .int), Cond.fieldLink RX4 42 "SoldStops$Page" "words" "I", Cond.fieldLink RX4 18 "SoldStops$Page" "lengths" "[I", Cond.methodLink RX4 80 yX4_leftBehind, Cond.instanceMethod yX4_leftBehind, Cond.selects RX4 yX4_leftBehind yX4_leftBehind, Cond.code yX4_leftBehind cX4_leftBehind 5 (some .int), Cond.fieldLink RX4 25 "SoldStops$Page" "marks" "LSoldStops$Marks;", Cond.fieldLink RX4 71 "SoldStops$Marks" "kinds" "[I", Cond.methodLink RX4 77 yX1_breathBehind]
def wsX7_mostAlike_r2 : List Cond := [Cond.static yX1_breathBehind, Cond.initialized RX1, Cond.code yX1_breathBehind cX1_breathBehind 5 (some .int), Cond.methodLink RX1 9 Lib.Math.min.name, Cond.static Lib.Math.min.name, Cond.code Lib.Math.min.name Lib.Math.min.code 2 (some .int), Cond.methodLink RX1 15 Lib.Math.max.name]
def wsX7_mostAlike : List Cond := .code yX7_mostAlike cX7_mostAlike 7 (some .int) :: ((wsX7_mostAlike_r1 ++ wsX7_mostAlike_r2) ++ wsX70 ++ wsX40 ++ wsX20)
def wsX7_shorter_r1 : List Cond := [Cond.fieldLink RX7 10 "SoldStops" "page" "LSoldStops$Page;", Cond.fieldLink RX7 70 "SoldStops$Page" "words" "I", Cond.methodLink RX7 234 yX4_breathsHeard, Cond.instanceMethod yX4_breathsHeard, Cond.selects RX4 yX4_breathsHeard yX4_breathsHeard, Cond.initialized RX4, Cond.code yX4_breathsHeard cX4_breathsHeard 3 (some .int), Cond.constant RX4 92 (2147483646), Cond.fieldLink RX4 45 "SoldStops$Page" "heards" "I", Cond.fieldLink RX4 29 "SoldStops$Page" "heard" "[I", Cond.methodLink RX7 237 yX7_mostAlike, Cond.instanceMethod yX7_mostAlike, Cond.selects RX7 yX7_mostAlike yX7_mostAlike, Cond.initialized RX7, Cond.code yX7_mostAlike cX7_mostAlike 7 (some .int), Cond.fieldLink RX7 55 "SoldStops" "alike" "[I", Cond.methodLink RX7 307 Lib.Math.max.name, Cond.static Lib.Math.max.name, Cond.initialized "java/lang/Math", Cond.code Lib.Math.max.name Lib.Math.max.code 2 (some .int), Cond.methodLink RX7 301 yJ7_fill_53178, Cond.static yJ7_fill_53178, Cond.initialized RJ7, Cond.code yJ7_fill_53178 cJ7_fill_53178 4 none]
def wsX7_shorter_r2 : List Cond := [Cond.methodLink RX7 185 yX4_stuckAt, Cond.instanceMethod yX4_stuckAt, Cond.selects RX4 yX4_stuckAt yX4_stuckAt, Cond.code yX4_stuckAt cX4_stuckAt 5 (some .int), Cond.fieldLink RX4 42 "SoldStops$Page" "words" "I", Cond.fieldLink RX4 18 "SoldStops$Page" "lengths" "[I", Cond.methodLink RX4 80 yX4_leftBehind, Cond.instanceMethod yX4_leftBehind, Cond.selects RX4 yX4_leftBehind yX4_leftBehind, Cond.code yX4_leftBehind cX4_leftBehind 5 (some .int), Cond.fieldLink RX4 25 "SoldStops$Page" "marks" "LSoldStops$Marks;", Cond.fieldLink RX4 71 "SoldStops$Marks" "kinds" "[I", Cond.methodLink RX4 77 yX1_breathBehind, Cond.static yX1_breathBehind, Cond.initialized RX1, Cond.code yX1_breathBehind cX1_breathBehind 5 (some .int), Cond.methodLink RX1 9 Lib.Math.min.name, Cond.static Lib.Math.min.name, Cond.code Lib.Math.min.name Lib.Math.min.code 2 (some .int), Cond.methodLink RX1 15 Lib.Math.max.name]
def wsX7_shorter : List Cond := .code yX7_shorter cX7_shorter 6 (some .int) :: ((wsX7_shorter_r1 ++ wsX7_shorter_r2) ++ wsX70 ++ wsX40 ++ wsX20)
def wsX7_gain : List Cond := .code yX7_gain cX7_gain 4 (some .int) :: ([])
def wsX7_isBest : List Cond := .code yX7_isBest cX7_isBest 7 (some .boolean) :: ([.methodLink RX7 310 yX7_gain, .static yX7_gain, .initialized RX7, .code yX7_gain cX7_gain 4 (some .int)])
def wsX7_bid_r1 : List Cond := [Cond.fieldLink RX7 10 "SoldStops" "page" "LSoldStops$Page;", Cond.methodLink RX7 98 yX7_isWithin, Cond.static yX7_isWithin, Cond.initialized RX7, Cond.code yX7_isWithin cX7_isWithin 3 (some .boolean), Cond.methodLink RX7 114 yX1_isOne, Cond.static yX1_isOne, Cond.initialized RX1, Cond.code yX1_isOne cX1_isOne 1 (some .boolean), Cond.methodLink RX7 66 yX7_bad, Cond.instanceMethod yX7_bad, Cond.selects RX7 yX7_bad yX7_bad, Cond.code yX7_bad cX7_bad 2 (some .int), Cond.fieldLink RX7 270 "SoldStops" "bads" "I", Cond.methodLink RX7 145 yX4_costOf, Cond.instanceMethod yX4_costOf, Cond.selects RX4 yX4_costOf yX4_costOf, Cond.initialized RX4, Cond.code yX4_costOf cX4_costOf 2 (some .int), Cond.fieldLink RX4 15 "SoldStops$Page" "price" "I", Cond.fieldLink RX4 25 "SoldStops$Page" "marks" "LSoldStops$Marks;", Cond.fieldLink RX4 39 "SoldStops$Marks" "week" "I", Cond.methodLink RX4 65 yX1_cost, Cond.static yX1_cost]
def wsX7_bid_r2 : List Cond := [Cond.code yX1_cost cX1_cost 5 (some .int), Cond.methodLink RX7 240 yX7_isBest, Cond.static yX7_isBest, Cond.code yX7_isBest cX7_isBest 7 (some .boolean), Cond.methodLink RX7 310 yX7_gain, Cond.static yX7_gain, Cond.code yX7_gain cX7_gain 4 (some .int)]
def wsX7_bid : List Cond := .code yX7_bid cX7_bid 14 (some .int) :: ((wsX7_bid_r1 ++ wsX7_bid_r2) ++ wsX70 ++ wsX40 ++ wsX20)
def wsX7_odds_r1 : List Cond := [Cond.fieldLink RX7 51 "SoldStops" "chance" "LSoldStops$Chance;", Cond.fieldLink RX7 10 "SoldStops" "page" "LSoldStops$Page;", Cond.methodLink RX7 98 yX7_isWithin, Cond.static yX7_isWithin, Cond.initialized RX7, Cond.code yX7_isWithin cX7_isWithin 3 (some .boolean), Cond.methodLink RX7 66 yX7_bad, Cond.instanceMethod yX7_bad, Cond.selects RX7 yX7_bad yX7_bad, Cond.code yX7_bad cX7_bad 2 (some .int), Cond.fieldLink RX7 270 "SoldStops" "bads" "I", Cond.methodLink RX7 244 yX0_reckon, Cond.instanceMethod yX0_reckon, Cond.selects RX0 yX0_reckon yX0_reckon, Cond.initialized RX0, Cond.code yX0_reckon cX0_reckon 8 none, Cond.fieldLink RX0 18 "SoldStops$Chance" "now" "[J", Cond.fieldLink RX0 31 "SoldStops$Page" "breath" "I", Cond.fieldLink RX0 37 "SoldStops$Page" "words" "I", Cond.fieldLink RX0 40 "SoldStops$Page" "marks" "LSoldStops$Marks;", Cond.fieldLink RX0 44 "SoldStops$Marks" "kinds" "[I", Cond.constantLong RX0 54 (10), Cond.methodLink RX0 25 yJ7_fill_d0a16, Cond.static yJ7_fill_d0a16]
def wsX7_odds_r2 : List Cond := [Cond.initialized RJ7, Cond.code yJ7_fill_d0a16 cJ7_fill_d0a16 5 none, Cond.methodLink RX0 50 yX0_step, Cond.instanceMethod yX0_step, Cond.selects RX0 yX0_step yX0_step, Cond.code yX0_step cX0_step 8 none, Cond.fieldLink RX0 22 "SoldStops$Chance" "then" "[J", Cond.fieldLink RX0 60 "SoldStops$Page" "lengths" "[I", Cond.methodLink RX0 69 arraycopyName, Cond.native arraycopyName, Cond.static arraycopyName, Cond.initialized "java/lang/System", Cond.methodLink RX0 63 yX1_breathBehind, Cond.static yX1_breathBehind, Cond.initialized RX1, Cond.code yX1_breathBehind cX1_breathBehind 5 (some .int), Cond.methodLink RX1 9 Lib.Math.min.name, Cond.static Lib.Math.min.name, Cond.initialized "java/lang/Math", Cond.code Lib.Math.min.name Lib.Math.min.code 2 (some .int), Cond.methodLink RX1 15 Lib.Math.max.name, Cond.static Lib.Math.max.name, Cond.code Lib.Math.max.name Lib.Math.max.code 2 (some .int), Cond.methodLink RX0 56 yX0_setLowest]
def wsX7_odds_r3 : List Cond := [Cond.instanceMethod yX0_setLowest, Cond.selects RX0 yX0_setLowest yX0_setLowest, Cond.code yX0_setLowest cX0_setLowest 12 none, Cond.fieldLink RX0 9 "SoldStops$Chance" "above" "J", Cond.fieldLink RX0 15 "SoldStops$Chance" "below" "J"]
def wsX7_odds : List Cond := .code yX7_odds cX7_odds 2 (some .int) :: ((wsX7_odds_r1 ++ (wsX7_odds_r2 ++ wsX7_odds_r3)) ++ wsX70 ++ wsX00 ++ wsX40 ++ wsX20)
def wsX7_drawn_r1 : List Cond := [Cond.constant RX7 248 (999999), Cond.fieldLink RX7 10 "SoldStops" "page" "LSoldStops$Page;", Cond.fieldLink RX7 92 "SoldStops$Page" "breath" "I", Cond.fieldLink RX7 70 "SoldStops$Page" "words" "I", Cond.constantLong RX7 249 (1103515245), Cond.constantLong RX7 251 (12345), Cond.constantLong RX7 253 (2147483648), Cond.constantLong RX7 255 (65536), Cond.constantLong RX7 257 (9), Cond.methodLink RX7 98 yX7_isWithin, Cond.static yX7_isWithin, Cond.initialized RX7, Cond.code yX7_isWithin cX7_isWithin 3 (some .boolean), Cond.methodLink RX7 66 yX7_bad, Cond.instanceMethod yX7_bad, Cond.selects RX7 yX7_bad yX7_bad, Cond.code yX7_bad cX7_bad 2 (some .int), Cond.fieldLink RX7 270 "SoldStops" "bads" "I", Cond.methodLink RX7 259 yX4_leftBehind, Cond.instanceMethod yX4_leftBehind, Cond.selects RX4 yX4_leftBehind yX4_leftBehind, Cond.initialized RX4, Cond.code yX4_leftBehind cX4_leftBehind 5 (some .int), Cond.fieldLink RX4 25 "SoldStops$Page" "marks" "LSoldStops$Marks;"]
def wsX7_drawn_r2 : List Cond := [Cond.fieldLink RX4 71 "SoldStops$Marks" "kinds" "[I", Cond.methodLink RX4 77 yX1_breathBehind, Cond.static yX1_breathBehind, Cond.initialized RX1, Cond.code yX1_breathBehind cX1_breathBehind 5 (some .int), Cond.methodLink RX1 9 Lib.Math.min.name, Cond.static Lib.Math.min.name, Cond.initialized "java/lang/Math", Cond.code Lib.Math.min.name Lib.Math.min.code 2 (some .int), Cond.methodLink RX1 15 Lib.Math.max.name, Cond.static Lib.Math.max.name, Cond.code Lib.Math.max.name Lib.Math.max.code 2 (some .int)]
def wsX7_drawn : List Cond := .code yX7_drawn cX7_drawn 10 (some .int) :: ((wsX7_drawn_r1 ++ wsX7_drawn_r2) ++ wsX70 ++ wsX40 ++ wsX20)
def wsX7_part : List Cond := .code yX7_part cX7_part 2 (some .long) :: ([.fieldLink RX7 51 "SoldStops" "chance" "LSoldStops$Chance;", .fieldLink RX7 263 "SoldStops$Chance" "above" "J", .fieldLink RX7 267 "SoldStops$Chance" "below" "J", .methodLink RX7 98 yX7_isWithin, .static yX7_isWithin, .initialized RX7, .code yX7_isWithin cX7_isWithin 3 (some .boolean), .methodLink RX7 66 yX7_bad, .instanceMethod yX7_bad, .selects RX7 yX7_bad yX7_bad, .code yX7_bad cX7_bad 2 (some .int), .fieldLink RX7 270 "SoldStops" "bads" "I"] ++ wsX70 ++ wsX00)
def wsX7_image_r1 : List Cond := [Cond.fieldLink RX7 19 "SoldStops" "images" "[LSoldStops$Page;", Cond.fieldLink RX7 10 "SoldStops" "page" "LSoldStops$Page;", Cond.fieldLink RX7 23 "SoldStops" "kept" "[Z", Cond.methodLink RX7 98 yX7_isWithin, Cond.static yX7_isWithin, Cond.initialized RX7, Cond.code yX7_isWithin cX7_isWithin 3 (some .boolean), Cond.methodLink RX7 66 yX7_bad, Cond.instanceMethod yX7_bad, Cond.selects RX7 yX7_bad yX7_bad, Cond.code yX7_bad cX7_bad 2 (some .int), Cond.fieldLink RX7 270 "SoldStops" "bads" "I", Cond.methodLink RX7 141 yX4_copy, Cond.instanceMethod yX4_copy, Cond.selects RX4 yX4_copy yX4_copy, Cond.initialized RX4, Cond.code yX4_copy cX4_copy 3 none, Cond.fieldLink RX4 9 "SoldStops$Page" "breath" "I", Cond.fieldLink RX4 15 "SoldStops$Page" "price" "I", Cond.fieldLink RX4 42 "SoldStops$Page" "words" "I", Cond.fieldLink RX4 45 "SoldStops$Page" "heards" "I", Cond.fieldLink RX4 48 "SoldStops$Page" "pasts" "I", Cond.fieldLink RX4 18 "SoldStops$Page" "lengths" "[I", Cond.methodLink RX4 51 arraycopyName]
def wsX7_image_r2 : List Cond := [Cond.native arraycopyName, Cond.static arraycopyName, Cond.initialized "java/lang/System", Cond.fieldLink RX4 29 "SoldStops$Page" "heard" "[I", Cond.fieldLink RX4 25 "SoldStops$Page" "marks" "LSoldStops$Marks;", Cond.fieldLink RX4 32 "SoldStops$Page" "past" "[LSoldStops$Marks;", Cond.methodLink RX4 57 yX2_copy, Cond.instanceMethod yX2_copy, Cond.selects RX2 yX2_copy yX2_copy, Cond.initialized RX2, Cond.code yX2_copy cX2_copy 2 none, Cond.fieldLink RX2 28 "SoldStops$Marks" "purse" "I", Cond.fieldLink RX2 32 "SoldStops$Marks" "week" "I", Cond.fieldLink RX2 9 "SoldStops$Marks" "kinds" "[I", Cond.methodLink RX2 35 arraycopyName, Cond.fieldLink RX2 15 "SoldStops$Marks" "reads" "[I"]
def wsX7_image : List Cond := .code yX7_image cX7_image 2 (some .int) :: ((wsX7_image_r1 ++ wsX7_image_r2) ++ wsX70 ++ wsX40 ++ wsX20)
def wsX7_from_r1 : List Cond := [Cond.fieldLink RX7 23 "SoldStops" "kept" "[Z", Cond.fieldLink RX7 10 "SoldStops" "page" "LSoldStops$Page;", Cond.fieldLink RX7 19 "SoldStops" "images" "[LSoldStops$Page;", Cond.methodLink RX7 98 yX7_isWithin, Cond.static yX7_isWithin, Cond.initialized RX7, Cond.code yX7_isWithin cX7_isWithin 3 (some .boolean), Cond.methodLink RX7 66 yX7_bad, Cond.instanceMethod yX7_bad, Cond.selects RX7 yX7_bad yX7_bad, Cond.code yX7_bad cX7_bad 2 (some .int), Cond.fieldLink RX7 270 "SoldStops" "bads" "I", Cond.methodLink RX7 148 yX7_no, Cond.instanceMethod yX7_no, Cond.selects RX7 yX7_no yX7_no, Cond.code yX7_no cX7_no 2 (some .int), Cond.fieldLink RX7 273 "SoldStops" "nos" "I", Cond.methodLink RX7 141 yX4_copy, Cond.instanceMethod yX4_copy, Cond.selects RX4 yX4_copy yX4_copy, Cond.initialized RX4, Cond.code yX4_copy cX4_copy 3 none, Cond.fieldLink RX4 9 "SoldStops$Page" "breath" "I", Cond.fieldLink RX4 15 "SoldStops$Page" "price" "I"]
def wsX7_from_r2 : List Cond := [Cond.fieldLink RX4 42 "SoldStops$Page" "words" "I", Cond.fieldLink RX4 45 "SoldStops$Page" "heards" "I", Cond.fieldLink RX4 48 "SoldStops$Page" "pasts" "I", Cond.fieldLink RX4 18 "SoldStops$Page" "lengths" "[I", Cond.methodLink RX4 51 arraycopyName, Cond.native arraycopyName, Cond.static arraycopyName, Cond.initialized "java/lang/System", Cond.fieldLink RX4 29 "SoldStops$Page" "heard" "[I", Cond.fieldLink RX4 25 "SoldStops$Page" "marks" "LSoldStops$Marks;", Cond.fieldLink RX4 32 "SoldStops$Page" "past" "[LSoldStops$Marks;", Cond.methodLink RX4 57 yX2_copy, Cond.instanceMethod yX2_copy, Cond.selects RX2 yX2_copy yX2_copy, Cond.initialized RX2, Cond.code yX2_copy cX2_copy 2 none, Cond.fieldLink RX2 28 "SoldStops$Marks" "purse" "I", Cond.fieldLink RX2 32 "SoldStops$Marks" "week" "I", Cond.fieldLink RX2 9 "SoldStops$Marks" "kinds" "[I", Cond.methodLink RX2 35 arraycopyName, Cond.fieldLink RX2 15 "SoldStops$Marks" "reads" "[I"]
def wsX7_from : List Cond := .code yX7_from cX7_from 2 (some .int) :: ((wsX7_from_r1 ++ wsX7_from_r2) ++ wsX70 ++ wsX40 ++ wsX20)
def wsX7_status : List Cond := .code yX7_status cX7_status 2 (some .int) :: ([.fieldLink RX7 270 "SoldStops" "bads" "I", .fieldLink RX7 273 "SoldStops" "nos" "I", .fieldLink RX7 276 "SoldStops" "fulls" "I", .methodLink RX7 66 yX7_bad, .instanceMethod yX7_bad, .selects RX7 yX7_bad yX7_bad, .initialized RX7, .code yX7_bad cX7_bad 2 (some .int)] ++ wsX70)
def wsX7_countOf : List Cond := .code yX7_countOf cX7_countOf 2 (some .int) :: ([.fieldLink RX7 10 "SoldStops" "page" "LSoldStops$Page;", .fieldLink RX7 70 "SoldStops$Page" "words" "I", .fieldLink RX7 92 "SoldStops$Page" "breath" "I", .fieldLink RX7 95 "SoldStops$Page" "price" "I", .fieldLink RX7 102 "SoldStops$Page" "marks" "LSoldStops$Marks;", .fieldLink RX7 106 "SoldStops$Marks" "purse" "I", .fieldLink RX7 166 "SoldStops$Marks" "week" "I", .fieldLink RX7 225 "SoldStops$Page" "heards" "I", .fieldLink RX7 169 "SoldStops$Page" "pasts" "I", .fieldLink RX7 30 "SoldStops" "text" "LSoldStops$Text;", .fieldLink RX7 125 "SoldStops$Text" "size" "I", .methodLink RX7 289 yX4_howManyMarks, .instanceMethod yX4_howManyMarks, .selects RX4 yX4_howManyMarks yX4_howManyMarks, .initialized RX4, .code yX4_howManyMarks cX4_howManyMarks 3 (some .int), .fieldLink RX4 42 "SoldStops$Page" "words" "I", .fieldLink RX4 25 "SoldStops$Page" "marks" "LSoldStops$Marks;", .fieldLink RX4 71 "SoldStops$Marks" "kinds" "[I"] ++ wsX70 ++ wsX40 ++ wsX20 ++ wsX60)
def wsX7_count_r1 : List Cond := [Cond.methodLink RX7 98 yX7_isWithin, Cond.static yX7_isWithin, Cond.initialized RX7, Cond.code yX7_isWithin cX7_isWithin 3 (some .boolean), Cond.methodLink RX7 279 yX7_countOf, Cond.instanceMethod yX7_countOf, Cond.selects RX7 yX7_countOf yX7_countOf, Cond.code yX7_countOf cX7_countOf 2 (some .int), Cond.fieldLink RX7 10 "SoldStops" "page" "LSoldStops$Page;", Cond.fieldLink RX7 70 "SoldStops$Page" "words" "I", Cond.fieldLink RX7 92 "SoldStops$Page" "breath" "I", Cond.fieldLink RX7 95 "SoldStops$Page" "price" "I", Cond.fieldLink RX7 102 "SoldStops$Page" "marks" "LSoldStops$Marks;", Cond.fieldLink RX7 106 "SoldStops$Marks" "purse" "I", Cond.fieldLink RX7 166 "SoldStops$Marks" "week" "I", Cond.fieldLink RX7 225 "SoldStops$Page" "heards" "I", Cond.fieldLink RX7 169 "SoldStops$Page" "pasts" "I", Cond.fieldLink RX7 30 "SoldStops" "text" "LSoldStops$Text;", Cond.fieldLink RX7 125 "SoldStops$Text" "size" "I", Cond.methodLink RX7 289 yX4_howManyMarks, Cond.instanceMethod yX4_howManyMarks, Cond.selects RX4 yX4_howManyMarks yX4_howManyMarks, Cond.initialized RX4, Cond.code yX4_howManyMarks cX4_howManyMarks 3 (some .int)]
def wsX7_count_r2 : List Cond := [Cond.fieldLink RX4 42 "SoldStops$Page" "words" "I", Cond.fieldLink RX4 25 "SoldStops$Page" "marks" "LSoldStops$Marks;", Cond.fieldLink RX4 71 "SoldStops$Marks" "kinds" "[I", Cond.methodLink RX7 66 yX7_bad, Cond.instanceMethod yX7_bad, Cond.selects RX7 yX7_bad yX7_bad, Cond.code yX7_bad cX7_bad 2 (some .int), Cond.fieldLink RX7 270 "SoldStops" "bads" "I"]
def wsX7_count : List Cond := .code yX7_count cX7_count 2 (some .int) :: ((wsX7_count_r1 ++ wsX7_count_r2) ++ wsX70 ++ wsX40 ++ wsX20 ++ wsX60)
def wsX7_digest_r1 : List Cond := [Cond.constantLong RX7 282 (1063), Cond.constantLong RX7 284 (31), Cond.fieldLink RX7 10 "SoldStops" "page" "LSoldStops$Page;", Cond.fieldLink RX7 70 "SoldStops$Page" "words" "I", Cond.fieldLink RX7 175 "SoldStops$Page" "lengths" "[I", Cond.fieldLink RX7 102 "SoldStops$Page" "marks" "LSoldStops$Marks;", Cond.fieldLink RX7 119 "SoldStops$Marks" "kinds" "[I", Cond.fieldLink RX7 178 "SoldStops$Marks" "reads" "[I", Cond.fieldLink RX7 225 "SoldStops$Page" "heards" "I", Cond.fieldLink RX7 286 "SoldStops$Page" "heard" "[I", Cond.fieldLink RX7 51 "SoldStops" "chance" "LSoldStops$Chance;", Cond.fieldLink RX7 263 "SoldStops$Chance" "above" "J", Cond.fieldLink RX7 267 "SoldStops$Chance" "below" "J", Cond.methodLink RX7 279 yX7_countOf, Cond.instanceMethod yX7_countOf, Cond.selects RX7 yX7_countOf yX7_countOf, Cond.initialized RX7, Cond.code yX7_countOf cX7_countOf 2 (some .int), Cond.fieldLink RX7 92 "SoldStops$Page" "breath" "I", Cond.fieldLink RX7 95 "SoldStops$Page" "price" "I", Cond.fieldLink RX7 106 "SoldStops$Marks" "purse" "I", Cond.fieldLink RX7 166 "SoldStops$Marks" "week" "I", Cond.fieldLink RX7 169 "SoldStops$Page" "pasts" "I", Cond.fieldLink RX7 30 "SoldStops" "text" "LSoldStops$Text;"]
def wsX7_digest_r2 : List Cond := [Cond.fieldLink RX7 125 "SoldStops$Text" "size" "I", Cond.methodLink RX7 289 yX4_howManyMarks, Cond.instanceMethod yX4_howManyMarks, Cond.selects RX4 yX4_howManyMarks yX4_howManyMarks, Cond.initialized RX4, Cond.code yX4_howManyMarks cX4_howManyMarks 3 (some .int), Cond.fieldLink RX4 42 "SoldStops$Page" "words" "I", Cond.fieldLink RX4 25 "SoldStops$Page" "marks" "LSoldStops$Marks;", Cond.fieldLink RX4 71 "SoldStops$Marks" "kinds" "[I"]
def wsX7_digest : List Cond := .code yX7_digest cX7_digest 4 (some .long) :: ((wsX7_digest_r1 ++ wsX7_digest_r2) ++ wsX70 ++ wsX40 ++ wsX20 ++ wsX00 ++ wsX60)
def wsX8_bad : List Cond := .code yX8_bad cX8_bad 1 (some .int) :: ([.fieldLink RX8 1 "SoldStopsModel" "refused" "[I"] ++ wsX80)
def wsX8_ten : List Cond := .code yX8_ten cX8_ten 1 (some .int) :: ([.fieldLink RX8 1 "SoldStopsModel" "refused" "[I"] ++ wsX80)
def wsX8_twenty : List Cond := .code yX8_twenty cX8_twenty 1 (some .int) :: ([.fieldLink RX8 1 "SoldStopsModel" "refused" "[I"] ++ wsX80)
def wsX8_no : List Cond := .code yX8_no cX8_no 1 (some .int) :: ([.fieldLink RX8 1 "SoldStopsModel" "refused" "[I"] ++ wsX80)
def wsX8_full : List Cond := .code yX8_full cX8_full 1 (some .int) :: ([.fieldLink RX8 1 "SoldStopsModel" "refused" "[I"] ++ wsX80)
def wsX8_in : List Cond := .code yX8_in cX8_in 3 (some .boolean) :: ([])
def wsX8_begin : List Cond := .code yX8_begin cX8_begin 3 none :: ([.fieldLink RX8 13 "SoldStopsModel" "breath" "I", .fieldLink RX8 17 "SoldStopsModel" "price" "I", .fieldLink RX8 80 "SoldStopsModel" "many" "I", .fieldLink RX8 83 "SoldStopsModel" "purse" "I", .fieldLink RX8 86 "SoldStopsModel" "week" "I", .fieldLink RX8 89 "SoldStopsModel" "heardMany" "I", .fieldLink RX8 92 "SoldStopsModel" "undoMany" "I"] ++ wsX80)
def wsX8_init_r1 : List Cond := [Cond.methodLink RX8 7 objectInit, Cond.instanceMethod objectInit, Cond.code objectInit ⟨#[0xb1]⟩ 1 none, Cond.arrayClass .int, Cond.fieldLink RX8 1 "SoldStopsModel" "refused" "[I", Cond.fieldLink RX8 13 "SoldStopsModel" "breath" "I", Cond.fieldLink RX8 17 "SoldStopsModel" "price" "I", Cond.fieldLink RX8 20 "SoldStopsModel" "lengths" "[I", Cond.fieldLink RX8 23 "SoldStopsModel" "kinds" "[I", Cond.fieldLink RX8 26 "SoldStopsModel" "reads" "[I", Cond.fieldLink RX8 29 "SoldStopsModel" "heards" "[I", Cond.fieldLink RX8 32 "SoldStopsModel" "text" "[I", Cond.fieldLink RX8 35 "SoldStopsModel" "items" "[I", Cond.fieldLink RX8 38 "SoldStopsModel" "ahead" "[I", Cond.fieldLink RX8 41 "SoldStopsModel" "least" "[I", Cond.fieldLink RX8 44 "SoldStopsModel" "bought" "[I", Cond.fieldLink RX8 47 "SoldStopsModel" "paid" "[I", Cond.fieldLink RX8 50 "SoldStopsModel" "then" "[I", Cond.fieldLink RX8 53 "SoldStopsModel" "line" "[I", Cond.fieldLink RX8 56 "SoldStopsModel" "bestLine" "[I", Cond.fieldLink RX8 59 "SoldStopsModel" "groups" "[I", Cond.fieldLink RX8 62 "SoldStopsModel" "below" "J", Cond.arrayClass .long, Cond.fieldLink RX8 66 "SoldStopsModel" "ways" "[J"]
def wsX8_init_r2 : List Cond := [Cond.fieldLink RX8 70 "SoldStopsModel" "waysThen" "[J", Cond.fieldLink RX8 73 "SoldStopsModel" "images" "[I", Cond.methodLink RX8 76 yX8_begin, Cond.instanceMethod yX8_begin, Cond.selects RX8 yX8_begin yX8_begin, Cond.initialized RX8, Cond.code yX8_begin cX8_begin 3 none, Cond.fieldLink RX8 80 "SoldStopsModel" "many" "I", Cond.fieldLink RX8 83 "SoldStopsModel" "purse" "I", Cond.fieldLink RX8 86 "SoldStopsModel" "week" "I", Cond.fieldLink RX8 89 "SoldStopsModel" "heardMany" "I", Cond.fieldLink RX8 92 "SoldStopsModel" "undoMany" "I"]
def wsX8_init : List Cond := .code yX8_init cX8_init 1 none :: ((wsX8_init_r1 ++ wsX8_init_r2) ++ wsX80)
def wsX8_isPiece : List Cond := .code yX8_isPiece cX8_isPiece 2 (some .boolean) :: ([.fieldLink RX8 80 "SoldStopsModel" "many" "I", .methodLink RX8 95 yX8_in, .static yX8_in, .initialized RX8, .code yX8_in cX8_in 3 (some .boolean)] ++ wsX80)
def wsX8_isKind : List Cond := .code yX8_isKind cX8_isKind 1 (some .boolean) :: ([.methodLink RX8 95 yX8_in, .static yX8_in, .initialized RX8, .code yX8_in cX8_in 3 (some .boolean)])
def wsX8_isPage : List Cond := .code yX8_isPage cX8_isPage 2 (some .boolean) :: ([.methodLink RX8 95 yX8_in, .static yX8_in, .initialized RX8, .code yX8_in cX8_in 3 (some .boolean)])
def wsX8_page : List Cond := .code yX8_page cX8_page 4 (some .int) :: ([.fieldLink RX8 80 "SoldStopsModel" "many" "I", .methodLink RX8 99 yX8_isPage, .static yX8_isPage, .initialized RX8, .code yX8_isPage cX8_isPage 2 (some .boolean), .methodLink RX8 95 yX8_in, .static yX8_in, .code yX8_in cX8_in 3 (some .boolean), .methodLink RX8 103 yX8_bad, .instanceMethod yX8_bad, .selects RX8 yX8_bad yX8_bad, .code yX8_bad cX8_bad 1 (some .int), .fieldLink RX8 1 "SoldStopsModel" "refused" "[I", .methodLink RX8 76 yX8_begin, .instanceMethod yX8_begin, .selects RX8 yX8_begin yX8_begin, .code yX8_begin cX8_begin 3 none, .fieldLink RX8 13 "SoldStopsModel" "breath" "I", .fieldLink RX8 17 "SoldStopsModel" "price" "I", .fieldLink RX8 83 "SoldStopsModel" "purse" "I", .fieldLink RX8 86 "SoldStopsModel" "week" "I", .fieldLink RX8 89 "SoldStopsModel" "heardMany" "I", .fieldLink RX8 92 "SoldStopsModel" "undoMany" "I"] ++ wsX80)
def wsX8_add : List Cond := .code yX8_add cX8_add 2 (some .int) :: ([.fieldLink RX8 20 "SoldStopsModel" "lengths" "[I", .fieldLink RX8 80 "SoldStopsModel" "many" "I", .fieldLink RX8 23 "SoldStopsModel" "kinds" "[I", .fieldLink RX8 26 "SoldStopsModel" "reads" "[I", .fieldLink RX8 92 "SoldStopsModel" "undoMany" "I"] ++ wsX80)
def wsX8_word : List Cond := .code yX8_word cX8_word 2 (some .int) :: ([.fieldLink RX8 80 "SoldStopsModel" "many" "I", .methodLink RX8 95 yX8_in, .static yX8_in, .initialized RX8, .code yX8_in cX8_in 3 (some .boolean), .methodLink RX8 103 yX8_bad, .instanceMethod yX8_bad, .selects RX8 yX8_bad yX8_bad, .code yX8_bad cX8_bad 1 (some .int), .fieldLink RX8 1 "SoldStopsModel" "refused" "[I", .methodLink RX8 107 yX8_full, .instanceMethod yX8_full, .selects RX8 yX8_full yX8_full, .code yX8_full cX8_full 1 (some .int), .methodLink RX8 110 yX8_add, .instanceMethod yX8_add, .selects RX8 yX8_add yX8_add, .code yX8_add cX8_add 2 (some .int), .fieldLink RX8 20 "SoldStopsModel" "lengths" "[I", .fieldLink RX8 23 "SoldStopsModel" "kinds" "[I", .fieldLink RX8 26 "SoldStopsModel" "reads" "[I", .fieldLink RX8 92 "SoldStopsModel" "undoMany" "I"] ++ wsX80)
def wsX8_breath : List Cond := .code yX8_breath cX8_breath 3 (some .int) :: ([.fieldLink RX8 13 "SoldStopsModel" "breath" "I", .methodLink RX8 95 yX8_in, .static yX8_in, .initialized RX8, .code yX8_in cX8_in 3 (some .boolean), .methodLink RX8 103 yX8_bad, .instanceMethod yX8_bad, .selects RX8 yX8_bad yX8_bad, .code yX8_bad cX8_bad 1 (some .int), .fieldLink RX8 1 "SoldStopsModel" "refused" "[I"] ++ wsX80)
def wsX8_price : List Cond := .code yX8_price cX8_price 3 (some .int) :: ([.fieldLink RX8 17 "SoldStopsModel" "price" "I", .methodLink RX8 95 yX8_in, .static yX8_in, .initialized RX8, .code yX8_in cX8_in 3 (some .boolean), .methodLink RX8 103 yX8_bad, .instanceMethod yX8_bad, .selects RX8 yX8_bad yX8_bad, .code yX8_bad cX8_bad 1 (some .int), .fieldLink RX8 1 "SoldStopsModel" "refused" "[I"] ++ wsX80)
def wsX8_purse : List Cond := .code yX8_purse cX8_purse 3 (some .int) :: ([.fieldLink RX8 83 "SoldStopsModel" "purse" "I", .methodLink RX8 95 yX8_in, .static yX8_in, .initialized RX8, .code yX8_in cX8_in 3 (some .boolean), .methodLink RX8 103 yX8_bad, .instanceMethod yX8_bad, .selects RX8 yX8_bad yX8_bad, .code yX8_bad cX8_bad 1 (some .int), .fieldLink RX8 1 "SoldStopsModel" "refused" "[I"] ++ wsX80)
def wsX8_mark : List Cond := .code yX8_mark cX8_mark 3 none :: ([.fieldLink RX8 23 "SoldStopsModel" "kinds" "[I", .fieldLink RX8 26 "SoldStopsModel" "reads" "[I"] ++ wsX80)
def wsX8_put : List Cond := .code yX8_put cX8_put 4 (some .int) :: ([.fieldLink RX8 23 "SoldStopsModel" "kinds" "[I", .fieldLink RX8 92 "SoldStopsModel" "undoMany" "I", .methodLink RX8 114 yX8_isPiece, .instanceMethod yX8_isPiece, .selects RX8 yX8_isPiece yX8_isPiece, .initialized RX8, .code yX8_isPiece cX8_isPiece 2 (some .boolean), .fieldLink RX8 80 "SoldStopsModel" "many" "I", .methodLink RX8 95 yX8_in, .static yX8_in, .code yX8_in cX8_in 3 (some .boolean), .methodLink RX8 118 yX8_isKind, .static yX8_isKind, .code yX8_isKind cX8_isKind 1 (some .boolean), .methodLink RX8 121 yX8_ten, .instanceMethod yX8_ten, .selects RX8 yX8_ten yX8_ten, .code yX8_ten cX8_ten 1 (some .int), .fieldLink RX8 1 "SoldStopsModel" "refused" "[I", .methodLink RX8 124 yX8_mark, .instanceMethod yX8_mark, .selects RX8 yX8_mark yX8_mark, .code yX8_mark cX8_mark 3 none, .fieldLink RX8 26 "SoldStopsModel" "reads" "[I"] ++ wsX80)
def wsX8_type : List Cond := .code yX8_type cX8_type 2 (some .int) :: ([.fieldLink RX8 127 "SoldStopsModel" "typed" "I", .fieldLink RX8 32 "SoldStopsModel" "text" "[I", .methodLink RX8 95 yX8_in, .static yX8_in, .initialized RX8, .code yX8_in cX8_in 3 (some .boolean), .methodLink RX8 103 yX8_bad, .instanceMethod yX8_bad, .selects RX8 yX8_bad yX8_bad, .code yX8_bad cX8_bad 1 (some .int), .fieldLink RX8 1 "SoldStopsModel" "refused" "[I", .methodLink RX8 107 yX8_full, .instanceMethod yX8_full, .selects RX8 yX8_full yX8_full, .code yX8_full cX8_full 1 (some .int)] ++ wsX80)
def wsX8_clear : List Cond := .code yX8_clear cX8_clear 2 (some .int) :: ([.fieldLink RX8 127 "SoldStopsModel" "typed" "I"] ++ wsX80)
def wsX8_here : List Cond := .code yX8_here cX8_here 1 (some .int) :: ([.fieldLink RX8 130 "SoldStopsModel" "readAt" "I", .fieldLink RX8 127 "SoldStopsModel" "typed" "I", .fieldLink RX8 32 "SoldStopsModel" "text" "[I"] ++ wsX80)
def wsX8_skip : List Cond := .code yX8_skip cX8_skip 1 none :: ([.fieldLink RX8 130 "SoldStopsModel" "readAt" "I", .methodLink RX8 133 yX8_here, .instanceMethod yX8_here, .selects RX8 yX8_here yX8_here, .initialized RX8, .code yX8_here cX8_here 1 (some .int), .fieldLink RX8 127 "SoldStopsModel" "typed" "I", .fieldLink RX8 32 "SoldStopsModel" "text" "[I"] ++ wsX80)
def wsX8_isLetter : List Cond := .code yX8_isLetter cX8_isLetter 1 (some .boolean) :: ([.methodLink RX8 95 yX8_in, .static yX8_in, .initialized RX8, .code yX8_in cX8_in 3 (some .boolean)])
def wsX8_isFigure : List Cond := .code yX8_isFigure cX8_isFigure 1 (some .boolean) :: ([.methodLink RX8 95 yX8_in, .static yX8_in, .initialized RX8, .code yX8_in cX8_in 3 (some .boolean)])
def wsX8_wordSize : List Cond := .code yX8_wordSize cX8_wordSize 2 (some .int) :: ([.fieldLink RX8 130 "SoldStopsModel" "readAt" "I", .fieldLink RX8 127 "SoldStopsModel" "typed" "I", .fieldLink RX8 32 "SoldStopsModel" "text" "[I", .methodLink RX8 136 yX8_isLetter, .static yX8_isLetter, .initialized RX8, .code yX8_isLetter cX8_isLetter 1 (some .boolean), .methodLink RX8 95 yX8_in, .static yX8_in, .code yX8_in cX8_in 3 (some .boolean)] ++ wsX80)
def wsX8_letter : List Cond := .code yX8_letter cX8_letter 2 (some .int) :: ([.fieldLink RX8 32 "SoldStopsModel" "text" "[I", .fieldLink RX8 130 "SoldStopsModel" "readAt" "I"] ++ wsX80)
def wsX8_wordHere : List Cond := .code yX8_wordHere cX8_wordHere 5 (some .int) :: ([.methodLink RX8 139 yX8_wordSize, .instanceMethod yX8_wordSize, .selects RX8 yX8_wordSize yX8_wordSize, .initialized RX8, .code yX8_wordSize cX8_wordSize 2 (some .int), .fieldLink RX8 130 "SoldStopsModel" "readAt" "I", .fieldLink RX8 127 "SoldStopsModel" "typed" "I", .fieldLink RX8 32 "SoldStopsModel" "text" "[I", .methodLink RX8 136 yX8_isLetter, .static yX8_isLetter, .code yX8_isLetter cX8_isLetter 1 (some .boolean), .methodLink RX8 95 yX8_in, .static yX8_in, .code yX8_in cX8_in 3 (some .boolean), .methodLink RX8 142 yX8_letter, .instanceMethod yX8_letter, .selects RX8 yX8_letter yX8_letter, .code yX8_letter cX8_letter 2 (some .int)] ++ wsX80)
def wsX8_number : List Cond := .code yX8_number cX8_number 3 (some .boolean) :: ([.fieldLink RX8 130 "SoldStopsModel" "readAt" "I", .fieldLink RX8 127 "SoldStopsModel" "typed" "I", .fieldLink RX8 32 "SoldStopsModel" "text" "[I", .fieldLink RX8 151 "SoldStopsModel" "readNumber" "I", .methodLink RX8 145 yX8_skip, .instanceMethod yX8_skip, .selects RX8 yX8_skip yX8_skip, .initialized RX8, .code yX8_skip cX8_skip 1 none, .methodLink RX8 133 yX8_here, .instanceMethod yX8_here, .selects RX8 yX8_here yX8_here, .code yX8_here cX8_here 1 (some .int), .methodLink RX8 148 yX8_isFigure, .static yX8_isFigure, .code yX8_isFigure cX8_isFigure 1 (some .boolean), .methodLink RX8 95 yX8_in, .static yX8_in, .code yX8_in cX8_in 3 (some .boolean)] ++ wsX80)
def wsX8_readsItem_r1 : List Cond := [Cond.fieldLink RX8 157 "SoldStopsModel" "itemMany" "I", Cond.fieldLink RX8 130 "SoldStopsModel" "readAt" "I", Cond.fieldLink RX8 35 "SoldStopsModel" "items" "[I", Cond.fieldLink RX8 151 "SoldStopsModel" "readNumber" "I", Cond.methodLink RX8 154 yX8_wordHere, Cond.instanceMethod yX8_wordHere, Cond.selects RX8 yX8_wordHere yX8_wordHere, Cond.initialized RX8, Cond.code yX8_wordHere cX8_wordHere 5 (some .int), Cond.methodLink RX8 139 yX8_wordSize, Cond.instanceMethod yX8_wordSize, Cond.selects RX8 yX8_wordSize yX8_wordSize, Cond.code yX8_wordSize cX8_wordSize 2 (some .int), Cond.fieldLink RX8 127 "SoldStopsModel" "typed" "I", Cond.fieldLink RX8 32 "SoldStopsModel" "text" "[I", Cond.methodLink RX8 136 yX8_isLetter, Cond.static yX8_isLetter, Cond.code yX8_isLetter cX8_isLetter 1 (some .boolean), Cond.methodLink RX8 95 yX8_in, Cond.static yX8_in, Cond.code yX8_in cX8_in 3 (some .boolean), Cond.methodLink RX8 142 yX8_letter, Cond.instanceMethod yX8_letter, Cond.selects RX8 yX8_letter yX8_letter]
def wsX8_readsItem_r2 : List Cond := [Cond.code yX8_letter cX8_letter 2 (some .int), Cond.methodLink RX8 160 yX8_number, Cond.instanceMethod yX8_number, Cond.selects RX8 yX8_number yX8_number, Cond.code yX8_number cX8_number 3 (some .boolean), Cond.methodLink RX8 145 yX8_skip, Cond.instanceMethod yX8_skip, Cond.selects RX8 yX8_skip yX8_skip, Cond.code yX8_skip cX8_skip 1 none, Cond.methodLink RX8 133 yX8_here, Cond.instanceMethod yX8_here, Cond.selects RX8 yX8_here yX8_here, Cond.code yX8_here cX8_here 1 (some .int), Cond.methodLink RX8 148 yX8_isFigure, Cond.static yX8_isFigure, Cond.code yX8_isFigure cX8_isFigure 1 (some .boolean)]
def wsX8_readsItem : List Cond := .code yX8_readsItem cX8_readsItem 3 (some .boolean) :: ((wsX8_readsItem_r1 ++ wsX8_readsItem_r2) ++ wsX80)
def wsX8_readsPage_r1 : List Cond := [Cond.fieldLink RX8 130 "SoldStopsModel" "readAt" "I", Cond.fieldLink RX8 157 "SoldStopsModel" "itemMany" "I", Cond.fieldLink RX8 127 "SoldStopsModel" "typed" "I", Cond.methodLink RX8 145 yX8_skip, Cond.instanceMethod yX8_skip, Cond.selects RX8 yX8_skip yX8_skip, Cond.initialized RX8, Cond.code yX8_skip cX8_skip 1 none, Cond.methodLink RX8 133 yX8_here, Cond.instanceMethod yX8_here, Cond.selects RX8 yX8_here yX8_here, Cond.code yX8_here cX8_here 1 (some .int), Cond.fieldLink RX8 32 "SoldStopsModel" "text" "[I", Cond.methodLink RX8 164 yX8_readsItem, Cond.instanceMethod yX8_readsItem, Cond.selects RX8 yX8_readsItem yX8_readsItem, Cond.code yX8_readsItem cX8_readsItem 3 (some .boolean), Cond.fieldLink RX8 35 "SoldStopsModel" "items" "[I", Cond.fieldLink RX8 151 "SoldStopsModel" "readNumber" "I", Cond.methodLink RX8 154 yX8_wordHere, Cond.instanceMethod yX8_wordHere, Cond.selects RX8 yX8_wordHere yX8_wordHere, Cond.code yX8_wordHere cX8_wordHere 5 (some .int), Cond.methodLink RX8 139 yX8_wordSize]
def wsX8_readsPage_r2 : List Cond := [Cond.instanceMethod yX8_wordSize, Cond.selects RX8 yX8_wordSize yX8_wordSize, Cond.code yX8_wordSize cX8_wordSize 2 (some .int), Cond.methodLink RX8 136 yX8_isLetter, Cond.static yX8_isLetter, Cond.code yX8_isLetter cX8_isLetter 1 (some .boolean), Cond.methodLink RX8 95 yX8_in, Cond.static yX8_in, Cond.code yX8_in cX8_in 3 (some .boolean), Cond.methodLink RX8 142 yX8_letter, Cond.instanceMethod yX8_letter, Cond.selects RX8 yX8_letter yX8_letter, Cond.code yX8_letter cX8_letter 2 (some .int), Cond.methodLink RX8 160 yX8_number, Cond.instanceMethod yX8_number, Cond.selects RX8 yX8_number yX8_number, Cond.code yX8_number cX8_number 3 (some .boolean), Cond.methodLink RX8 148 yX8_isFigure, Cond.static yX8_isFigure, Cond.code yX8_isFigure cX8_isFigure 1 (some .boolean)]
def wsX8_readsPage : List Cond := .code yX8_readsPage cX8_readsPage 2 (some .boolean) :: ((wsX8_readsPage_r1 ++ wsX8_readsPage_r2) ++ wsX80)
def wsX8_refusedItem : List Cond := .code yX8_refusedItem cX8_refusedItem 7 (some .int) :: ([.fieldLink RX8 157 "SoldStopsModel" "itemMany" "I", .fieldLink RX8 35 "SoldStopsModel" "items" "[I", .methodLink RX8 99 yX8_isPage, .static yX8_isPage, .initialized RX8, .code yX8_isPage cX8_isPage 2 (some .boolean), .methodLink RX8 95 yX8_in, .static yX8_in, .code yX8_in cX8_in 3 (some .boolean), .methodLink RX8 118 yX8_isKind, .static yX8_isKind, .code yX8_isKind cX8_isKind 1 (some .boolean)] ++ wsX80)
def wsX8_read_r1 : List Cond := [Cond.fieldLink RX8 130 "SoldStopsModel" "readAt" "I", Cond.fieldLink RX8 35 "SoldStopsModel" "items" "[I", Cond.fieldLink RX8 157 "SoldStopsModel" "itemMany" "I", Cond.methodLink RX8 167 yX8_readsPage, Cond.instanceMethod yX8_readsPage, Cond.selects RX8 yX8_readsPage yX8_readsPage, Cond.initialized RX8, Cond.code yX8_readsPage cX8_readsPage 2 (some .boolean), Cond.fieldLink RX8 127 "SoldStopsModel" "typed" "I", Cond.methodLink RX8 145 yX8_skip, Cond.instanceMethod yX8_skip, Cond.selects RX8 yX8_skip yX8_skip, Cond.code yX8_skip cX8_skip 1 none, Cond.methodLink RX8 133 yX8_here, Cond.instanceMethod yX8_here, Cond.selects RX8 yX8_here yX8_here, Cond.code yX8_here cX8_here 1 (some .int), Cond.fieldLink RX8 32 "SoldStopsModel" "text" "[I", Cond.methodLink RX8 164 yX8_readsItem, Cond.instanceMethod yX8_readsItem, Cond.selects RX8 yX8_readsItem yX8_readsItem, Cond.code yX8_readsItem cX8_readsItem 3 (some .boolean), Cond.fieldLink RX8 151 "SoldStopsModel" "readNumber" "I", Cond.methodLink RX8 154 yX8_wordHere]
def wsX8_read_r2 : List Cond := [Cond.instanceMethod yX8_wordHere, Cond.selects RX8 yX8_wordHere yX8_wordHere, Cond.code yX8_wordHere cX8_wordHere 5 (some .int), Cond.methodLink RX8 139 yX8_wordSize, Cond.instanceMethod yX8_wordSize, Cond.selects RX8 yX8_wordSize yX8_wordSize, Cond.code yX8_wordSize cX8_wordSize 2 (some .int), Cond.methodLink RX8 136 yX8_isLetter, Cond.static yX8_isLetter, Cond.code yX8_isLetter cX8_isLetter 1 (some .boolean), Cond.methodLink RX8 95 yX8_in, Cond.static yX8_in, Cond.code yX8_in cX8_in 3 (some .boolean), Cond.methodLink RX8 142 yX8_letter, Cond.instanceMethod yX8_letter, Cond.selects RX8 yX8_letter yX8_letter, Cond.code yX8_letter cX8_letter 2 (some .int), Cond.methodLink RX8 160 yX8_number, Cond.instanceMethod yX8_number, Cond.selects RX8 yX8_number yX8_number, Cond.code yX8_number cX8_number 3 (some .boolean), Cond.methodLink RX8 148 yX8_isFigure, Cond.static yX8_isFigure, Cond.code yX8_isFigure cX8_isFigure 1 (some .boolean)]
def wsX8_read_r3 : List Cond := [Cond.methodLink RX8 170 yX8_refusedItem, Cond.instanceMethod yX8_refusedItem, Cond.selects RX8 yX8_refusedItem yX8_refusedItem, Cond.code yX8_refusedItem cX8_refusedItem 7 (some .int), Cond.methodLink RX8 99 yX8_isPage, Cond.static yX8_isPage, Cond.code yX8_isPage cX8_isPage 2 (some .boolean), Cond.methodLink RX8 118 yX8_isKind, Cond.static yX8_isKind, Cond.code yX8_isKind cX8_isKind 1 (some .boolean), Cond.methodLink RX8 76 yX8_begin, Cond.instanceMethod yX8_begin, Cond.selects RX8 yX8_begin yX8_begin, Cond.code yX8_begin cX8_begin 3 none, Cond.fieldLink RX8 13 "SoldStopsModel" "breath" "I", Cond.fieldLink RX8 17 "SoldStopsModel" "price" "I", Cond.fieldLink RX8 80 "SoldStopsModel" "many" "I", Cond.fieldLink RX8 83 "SoldStopsModel" "purse" "I", Cond.fieldLink RX8 86 "SoldStopsModel" "week" "I", Cond.fieldLink RX8 89 "SoldStopsModel" "heardMany" "I", Cond.fieldLink RX8 92 "SoldStopsModel" "undoMany" "I", Cond.methodLink RX8 110 yX8_add, Cond.instanceMethod yX8_add, Cond.selects RX8 yX8_add yX8_add]
def wsX8_read_r4 : List Cond := [Cond.code yX8_add cX8_add 2 (some .int), Cond.fieldLink RX8 20 "SoldStopsModel" "lengths" "[I", Cond.fieldLink RX8 23 "SoldStopsModel" "kinds" "[I", Cond.fieldLink RX8 26 "SoldStopsModel" "reads" "[I", Cond.methodLink RX8 124 yX8_mark, Cond.instanceMethod yX8_mark, Cond.selects RX8 yX8_mark yX8_mark, Cond.code yX8_mark cX8_mark 3 none]
def wsX8_read : List Cond := .code yX8_read cX8_read 3 (some .int) :: ((wsX8_read_r1 ++ (wsX8_read_r2 ++ (wsX8_read_r3 ++ wsX8_read_r4))) ++ wsX80)
def wsX8_costOf : List Cond := .code yX8_costOf cX8_costOf 2 (some .int) :: ([.fieldLink RX8 17 "SoldStopsModel" "price" "I", .fieldLink RX8 86 "SoldStopsModel" "week" "I"] ++ wsX80)
def wsX8_lesser : List Cond := .code yX8_lesser cX8_lesser 2 (some .int) :: ([])
def wsX8_greater : List Cond := .code yX8_greater cX8_greater 2 (some .int) :: ([])
def wsX8_givenBy : List Cond := .code yX8_givenBy cX8_givenBy 3 (some .int) :: ([.methodLink RX8 173 yX8_lesser, .static yX8_lesser, .initialized RX8, .code yX8_lesser cX8_lesser 2 (some .int), .methodLink RX8 177 yX8_greater, .static yX8_greater, .code yX8_greater cX8_greater 2 (some .int)])
def wsX8_ends : List Cond := .code yX8_ends cX8_ends 1 (some .boolean) :: ([.methodLink RX8 95 yX8_in, .static yX8_in, .initialized RX8, .code yX8_in cX8_in 3 (some .boolean)])
def wsX8_dries : List Cond := .code yX8_dries cX8_dries 1 (some .int) :: ([])
def wsX8_notes : List Cond := .code yX8_notes cX8_notes 3 none :: ([.fieldLink RX8 92 "SoldStopsModel" "undoMany" "I", .fieldLink RX8 38 "SoldStopsModel" "ahead" "[I", .fieldLink RX8 83 "SoldStopsModel" "purse" "I", .fieldLink RX8 86 "SoldStopsModel" "week" "I", .fieldLink RX8 23 "SoldStopsModel" "kinds" "[I", .fieldLink RX8 26 "SoldStopsModel" "reads" "[I"] ++ wsX80)
def wsX8_buy_r1 : List Cond := [Cond.fieldLink RX8 23 "SoldStopsModel" "kinds" "[I", Cond.fieldLink RX8 83 "SoldStopsModel" "purse" "I", Cond.methodLink RX8 114 yX8_isPiece, Cond.instanceMethod yX8_isPiece, Cond.selects RX8 yX8_isPiece yX8_isPiece, Cond.initialized RX8, Cond.code yX8_isPiece cX8_isPiece 2 (some .boolean), Cond.fieldLink RX8 80 "SoldStopsModel" "many" "I", Cond.methodLink RX8 95 yX8_in, Cond.static yX8_in, Cond.code yX8_in cX8_in 3 (some .boolean), Cond.methodLink RX8 118 yX8_isKind, Cond.static yX8_isKind, Cond.code yX8_isKind cX8_isKind 1 (some .boolean), Cond.methodLink RX8 103 yX8_bad, Cond.instanceMethod yX8_bad, Cond.selects RX8 yX8_bad yX8_bad, Cond.code yX8_bad cX8_bad 1 (some .int), Cond.fieldLink RX8 1 "SoldStopsModel" "refused" "[I", Cond.methodLink RX8 180 yX8_costOf, Cond.instanceMethod yX8_costOf, Cond.selects RX8 yX8_costOf yX8_costOf, Cond.code yX8_costOf cX8_costOf 2 (some .int), Cond.fieldLink RX8 17 "SoldStopsModel" "price" "I"]
def wsX8_buy_r2 : List Cond := [Cond.fieldLink RX8 86 "SoldStopsModel" "week" "I", Cond.methodLink RX8 183 yX8_no, Cond.instanceMethod yX8_no, Cond.selects RX8 yX8_no yX8_no, Cond.code yX8_no cX8_no 1 (some .int), Cond.methodLink RX8 186 yX8_notes, Cond.instanceMethod yX8_notes, Cond.selects RX8 yX8_notes yX8_notes, Cond.code yX8_notes cX8_notes 3 none, Cond.fieldLink RX8 92 "SoldStopsModel" "undoMany" "I", Cond.fieldLink RX8 38 "SoldStopsModel" "ahead" "[I", Cond.fieldLink RX8 26 "SoldStopsModel" "reads" "[I", Cond.methodLink RX8 124 yX8_mark, Cond.instanceMethod yX8_mark, Cond.selects RX8 yX8_mark yX8_mark, Cond.code yX8_mark cX8_mark 3 none]
def wsX8_buy : List Cond := .code yX8_buy cX8_buy 4 (some .int) :: ((wsX8_buy_r1 ++ wsX8_buy_r2) ++ wsX80)
def wsX8_sell_r1 : List Cond := [Cond.fieldLink RX8 23 "SoldStopsModel" "kinds" "[I", Cond.fieldLink RX8 83 "SoldStopsModel" "purse" "I", Cond.methodLink RX8 114 yX8_isPiece, Cond.instanceMethod yX8_isPiece, Cond.selects RX8 yX8_isPiece yX8_isPiece, Cond.initialized RX8, Cond.code yX8_isPiece cX8_isPiece 2 (some .boolean), Cond.fieldLink RX8 80 "SoldStopsModel" "many" "I", Cond.methodLink RX8 95 yX8_in, Cond.static yX8_in, Cond.code yX8_in cX8_in 3 (some .boolean), Cond.methodLink RX8 103 yX8_bad, Cond.instanceMethod yX8_bad, Cond.selects RX8 yX8_bad yX8_bad, Cond.code yX8_bad cX8_bad 1 (some .int), Cond.fieldLink RX8 1 "SoldStopsModel" "refused" "[I", Cond.methodLink RX8 183 yX8_no, Cond.instanceMethod yX8_no, Cond.selects RX8 yX8_no yX8_no, Cond.code yX8_no cX8_no 1 (some .int), Cond.methodLink RX8 186 yX8_notes, Cond.instanceMethod yX8_notes, Cond.selects RX8 yX8_notes yX8_notes, Cond.code yX8_notes cX8_notes 3 none]
def wsX8_sell_r2 : List Cond := [Cond.fieldLink RX8 92 "SoldStopsModel" "undoMany" "I", Cond.fieldLink RX8 38 "SoldStopsModel" "ahead" "[I", Cond.fieldLink RX8 86 "SoldStopsModel" "week" "I", Cond.fieldLink RX8 26 "SoldStopsModel" "reads" "[I", Cond.methodLink RX8 180 yX8_costOf, Cond.instanceMethod yX8_costOf, Cond.selects RX8 yX8_costOf yX8_costOf, Cond.code yX8_costOf cX8_costOf 2 (some .int), Cond.fieldLink RX8 17 "SoldStopsModel" "price" "I", Cond.methodLink RX8 124 yX8_mark, Cond.instanceMethod yX8_mark, Cond.selects RX8 yX8_mark yX8_mark, Cond.code yX8_mark cX8_mark 3 none, Cond.methodLink RX8 173 yX8_lesser, Cond.static yX8_lesser, Cond.code yX8_lesser cX8_lesser 2 (some .int)]
def wsX8_sell : List Cond := .code yX8_sell cX8_sell 3 (some .int) :: ((wsX8_sell_r1 ++ wsX8_sell_r2) ++ wsX80)
def wsX8_readOut_r1 : List Cond := [Cond.fieldLink RX8 13 "SoldStopsModel" "breath" "I", Cond.fieldLink RX8 80 "SoldStopsModel" "many" "I", Cond.fieldLink RX8 20 "SoldStopsModel" "lengths" "[I", Cond.fieldLink RX8 23 "SoldStopsModel" "kinds" "[I", Cond.fieldLink RX8 26 "SoldStopsModel" "reads" "[I", Cond.methodLink RX8 186 yX8_notes, Cond.instanceMethod yX8_notes, Cond.selects RX8 yX8_notes yX8_notes, Cond.initialized RX8, Cond.code yX8_notes cX8_notes 3 none, Cond.fieldLink RX8 92 "SoldStopsModel" "undoMany" "I", Cond.fieldLink RX8 38 "SoldStopsModel" "ahead" "[I", Cond.fieldLink RX8 83 "SoldStopsModel" "purse" "I", Cond.fieldLink RX8 86 "SoldStopsModel" "week" "I", Cond.methodLink RX8 189 yX8_givenBy, Cond.static yX8_givenBy, Cond.code yX8_givenBy cX8_givenBy 3 (some .int), Cond.methodLink RX8 173 yX8_lesser, Cond.static yX8_lesser, Cond.code yX8_lesser cX8_lesser 2 (some .int), Cond.methodLink RX8 177 yX8_greater, Cond.static yX8_greater, Cond.code yX8_greater cX8_greater 2 (some .int), Cond.methodLink RX8 193 yX8_dries]
def wsX8_readOut_r2 : List Cond := [Cond.static yX8_dries, Cond.code yX8_dries cX8_dries 1 (some .int), Cond.methodLink RX8 124 yX8_mark, Cond.instanceMethod yX8_mark, Cond.selects RX8 yX8_mark yX8_mark, Cond.code yX8_mark cX8_mark 3 none]
def wsX8_readOut : List Cond := .code yX8_readOut cX8_readOut 4 (some .int) :: ((wsX8_readOut_r1 ++ wsX8_readOut_r2) ++ wsX80)
def wsX8_week : List Cond := .code yX8_week cX8_week 2 (some .int) :: ([.fieldLink RX8 86 "SoldStopsModel" "week" "I", .methodLink RX8 95 yX8_in, .static yX8_in, .initialized RX8, .code yX8_in cX8_in 3 (some .boolean), .methodLink RX8 103 yX8_bad, .instanceMethod yX8_bad, .selects RX8 yX8_bad yX8_bad, .code yX8_bad cX8_bad 1 (some .int), .fieldLink RX8 1 "SoldStopsModel" "refused" "[I", .methodLink RX8 186 yX8_notes, .instanceMethod yX8_notes, .selects RX8 yX8_notes yX8_notes, .code yX8_notes cX8_notes 3 none, .fieldLink RX8 92 "SoldStopsModel" "undoMany" "I", .fieldLink RX8 38 "SoldStopsModel" "ahead" "[I", .fieldLink RX8 83 "SoldStopsModel" "purse" "I", .fieldLink RX8 23 "SoldStopsModel" "kinds" "[I", .fieldLink RX8 26 "SoldStopsModel" "reads" "[I"] ++ wsX80)
def wsX8_undo : List Cond := .code yX8_undo cX8_undo 3 (some .int) :: ([.fieldLink RX8 92 "SoldStopsModel" "undoMany" "I", .fieldLink RX8 38 "SoldStopsModel" "ahead" "[I", .fieldLink RX8 83 "SoldStopsModel" "purse" "I", .fieldLink RX8 86 "SoldStopsModel" "week" "I", .fieldLink RX8 23 "SoldStopsModel" "kinds" "[I", .fieldLink RX8 26 "SoldStopsModel" "reads" "[I", .methodLink RX8 183 yX8_no, .instanceMethod yX8_no, .selects RX8 yX8_no yX8_no, .initialized RX8, .code yX8_no cX8_no 1 (some .int), .fieldLink RX8 1 "SoldStopsModel" "refused" "[I"] ++ wsX80)
def wsX8_of : List Cond := .code yX8_of cX8_of 3 (some .int) :: ([.fieldLink RX8 20 "SoldStopsModel" "lengths" "[I", .fieldLink RX8 23 "SoldStopsModel" "kinds" "[I", .fieldLink RX8 26 "SoldStopsModel" "reads" "[I", .methodLink RX8 114 yX8_isPiece, .instanceMethod yX8_isPiece, .selects RX8 yX8_isPiece yX8_isPiece, .initialized RX8, .code yX8_isPiece cX8_isPiece 2 (some .boolean), .fieldLink RX8 80 "SoldStopsModel" "many" "I", .methodLink RX8 95 yX8_in, .static yX8_in, .code yX8_in cX8_in 3 (some .boolean), .methodLink RX8 121 yX8_ten, .instanceMethod yX8_ten, .selects RX8 yX8_ten yX8_ten, .code yX8_ten cX8_ten 1 (some .int), .fieldLink RX8 1 "SoldStopsModel" "refused" "[I", .methodLink RX8 180 yX8_costOf, .instanceMethod yX8_costOf, .selects RX8 yX8_costOf yX8_costOf, .code yX8_costOf cX8_costOf 2 (some .int), .fieldLink RX8 17 "SoldStopsModel" "price" "I", .fieldLink RX8 86 "SoldStopsModel" "week" "I"] ++ wsX80)
def wsX8_costs : List Cond := .code yX8_costs cX8_costs 2 (some .int) :: ([.methodLink RX8 118 yX8_isKind, .static yX8_isKind, .initialized RX8, .code yX8_isKind cX8_isKind 1 (some .boolean), .methodLink RX8 95 yX8_in, .static yX8_in, .code yX8_in cX8_in 3 (some .boolean), .methodLink RX8 180 yX8_costOf, .instanceMethod yX8_costOf, .selects RX8 yX8_costOf yX8_costOf, .code yX8_costOf cX8_costOf 2 (some .int), .fieldLink RX8 17 "SoldStopsModel" "price" "I", .fieldLink RX8 86 "SoldStopsModel" "week" "I", .methodLink RX8 103 yX8_bad, .instanceMethod yX8_bad, .selects RX8 yX8_bad yX8_bad, .code yX8_bad cX8_bad 1 (some .int), .fieldLink RX8 1 "SoldStopsModel" "refused" "[I"] ++ wsX80)
def wsX8_gives : List Cond := .code yX8_gives cX8_gives 3 (some .int) :: ([.fieldLink RX8 13 "SoldStopsModel" "breath" "I", .methodLink RX8 118 yX8_isKind, .static yX8_isKind, .initialized RX8, .code yX8_isKind cX8_isKind 1 (some .boolean), .methodLink RX8 95 yX8_in, .static yX8_in, .code yX8_in cX8_in 3 (some .boolean), .methodLink RX8 189 yX8_givenBy, .static yX8_givenBy, .code yX8_givenBy cX8_givenBy 3 (some .int), .methodLink RX8 173 yX8_lesser, .static yX8_lesser, .code yX8_lesser cX8_lesser 2 (some .int), .methodLink RX8 177 yX8_greater, .static yX8_greater, .code yX8_greater cX8_greater 2 (some .int), .methodLink RX8 103 yX8_bad, .instanceMethod yX8_bad, .selects RX8 yX8_bad yX8_bad, .code yX8_bad cX8_bad 1 (some .int), .fieldLink RX8 1 "SoldStopsModel" "refused" "[I"] ++ wsX80)
def wsX8_stuckBy : List Cond := .code yX8_stuckBy cX8_stuckBy 5 (some .int) :: ([.fieldLink RX8 80 "SoldStopsModel" "many" "I", .fieldLink RX8 20 "SoldStopsModel" "lengths" "[I", .fieldLink RX8 23 "SoldStopsModel" "kinds" "[I", .methodLink RX8 189 yX8_givenBy, .static yX8_givenBy, .initialized RX8, .code yX8_givenBy cX8_givenBy 3 (some .int), .methodLink RX8 173 yX8_lesser, .static yX8_lesser, .code yX8_lesser cX8_lesser 2 (some .int), .methodLink RX8 177 yX8_greater, .static yX8_greater, .code yX8_greater cX8_greater 2 (some .int)] ++ wsX80)
def wsX8_stuck : List Cond := .code yX8_stuck cX8_stuck 2 (some .int) :: ([.fieldLink RX8 13 "SoldStopsModel" "breath" "I", .fieldLink RX8 80 "SoldStopsModel" "many" "I", .methodLink RX8 196 yX8_stuckBy, .instanceMethod yX8_stuckBy, .selects RX8 yX8_stuckBy yX8_stuckBy, .initialized RX8, .code yX8_stuckBy cX8_stuckBy 5 (some .int), .fieldLink RX8 20 "SoldStopsModel" "lengths" "[I", .fieldLink RX8 23 "SoldStopsModel" "kinds" "[I", .methodLink RX8 189 yX8_givenBy, .static yX8_givenBy, .code yX8_givenBy cX8_givenBy 3 (some .int), .methodLink RX8 173 yX8_lesser, .static yX8_lesser, .code yX8_lesser cX8_lesser 2 (some .int), .methodLink RX8 177 yX8_greater, .static yX8_greater, .code yX8_greater cX8_greater 2 (some .int)] ++ wsX80)
def wsX8_sentences : List Cond := .code yX8_sentences cX8_sentences 8 (some .int) :: ([.fieldLink RX8 80 "SoldStopsModel" "many" "I", .fieldLink RX8 23 "SoldStopsModel" "kinds" "[I", .methodLink RX8 95 yX8_in, .static yX8_in, .initialized RX8, .code yX8_in cX8_in 3 (some .boolean), .methodLink RX8 103 yX8_bad, .instanceMethod yX8_bad, .selects RX8 yX8_bad yX8_bad, .code yX8_bad cX8_bad 1 (some .int), .fieldLink RX8 1 "SoldStopsModel" "refused" "[I", .methodLink RX8 199 yX8_ends, .static yX8_ends, .code yX8_ends cX8_ends 1 (some .boolean), .methodLink RX8 177 yX8_greater, .static yX8_greater, .code yX8_greater cX8_greater 2 (some .int)] ++ wsX80)
def wsX8_cellOf : List Cond := .code yX8_cellOf cX8_cellOf 2 (some .int) :: ([])
def wsX8_costBy_r1 : List Cond := [Cond.fieldLink RX8 20 "SoldStopsModel" "lengths" "[I", Cond.constant RX8 202 (1048576), Cond.fieldLink RX8 23 "SoldStopsModel" "kinds" "[I", Cond.fieldLink RX8 80 "SoldStopsModel" "many" "I", Cond.fieldLink RX8 41 "SoldStopsModel" "least" "[I", Cond.methodLink RX8 199 yX8_ends, Cond.static yX8_ends, Cond.initialized RX8, Cond.code yX8_ends cX8_ends 1 (some .boolean), Cond.methodLink RX8 95 yX8_in, Cond.static yX8_in, Cond.code yX8_in cX8_in 3 (some .boolean), Cond.methodLink RX8 189 yX8_givenBy, Cond.static yX8_givenBy, Cond.code yX8_givenBy cX8_givenBy 3 (some .int), Cond.methodLink RX8 173 yX8_lesser, Cond.static yX8_lesser, Cond.code yX8_lesser cX8_lesser 2 (some .int), Cond.methodLink RX8 177 yX8_greater, Cond.static yX8_greater, Cond.code yX8_greater cX8_greater 2 (some .int), Cond.methodLink RX8 203 yX8_cellOf, Cond.static yX8_cellOf, Cond.code yX8_cellOf cX8_cellOf 2 (some .int)]
def wsX8_costBy_r2 : List Cond := [Cond.methodLink RX8 180 yX8_costOf, Cond.instanceMethod yX8_costOf, Cond.selects RX8 yX8_costOf yX8_costOf, Cond.code yX8_costOf cX8_costOf 2 (some .int), Cond.fieldLink RX8 17 "SoldStopsModel" "price" "I", Cond.fieldLink RX8 86 "SoldStopsModel" "week" "I"]
def wsX8_costBy : List Cond := .code yX8_costBy cX8_costBy 8 (some .int) :: ((wsX8_costBy_r1 ++ wsX8_costBy_r2) ++ wsX80)
def wsX8_optionsAt : List Cond := .code yX8_optionsAt cX8_optionsAt 2 (some .int) :: ([.fieldLink RX8 23 "SoldStopsModel" "kinds" "[I"] ++ wsX80)
def wsX8_setLeast_r1 : List Cond := [Cond.fieldLink RX8 41 "SoldStopsModel" "least" "[I", Cond.fieldLink RX8 80 "SoldStopsModel" "many" "I", Cond.constant RX8 202 (1048576), Cond.methodLink RX8 203 yX8_cellOf, Cond.static yX8_cellOf, Cond.initialized RX8, Cond.code yX8_cellOf cX8_cellOf 2 (some .int), Cond.methodLink RX8 206 yX8_optionsAt, Cond.instanceMethod yX8_optionsAt, Cond.selects RX8 yX8_optionsAt yX8_optionsAt, Cond.code yX8_optionsAt cX8_optionsAt 2 (some .int), Cond.fieldLink RX8 23 "SoldStopsModel" "kinds" "[I", Cond.methodLink RX8 209 yX8_costBy, Cond.instanceMethod yX8_costBy, Cond.selects RX8 yX8_costBy yX8_costBy, Cond.code yX8_costBy cX8_costBy 8 (some .int), Cond.fieldLink RX8 20 "SoldStopsModel" "lengths" "[I", Cond.methodLink RX8 199 yX8_ends, Cond.static yX8_ends, Cond.code yX8_ends cX8_ends 1 (some .boolean), Cond.methodLink RX8 95 yX8_in, Cond.static yX8_in, Cond.code yX8_in cX8_in 3 (some .boolean), Cond.methodLink RX8 189 yX8_givenBy]
def wsX8_setLeast_r2 : List Cond := [Cond.static yX8_givenBy, Cond.code yX8_givenBy cX8_givenBy 3 (some .int), Cond.methodLink RX8 173 yX8_lesser, Cond.static yX8_lesser, Cond.code yX8_lesser cX8_lesser 2 (some .int), Cond.methodLink RX8 177 yX8_greater, Cond.static yX8_greater, Cond.code yX8_greater cX8_greater 2 (some .int), Cond.methodLink RX8 180 yX8_costOf, Cond.instanceMethod yX8_costOf, Cond.selects RX8 yX8_costOf yX8_costOf, Cond.code yX8_costOf cX8_costOf 2 (some .int), Cond.fieldLink RX8 17 "SoldStopsModel" "price" "I", Cond.fieldLink RX8 86 "SoldStopsModel" "week" "I"]
def wsX8_setLeast : List Cond := .code yX8_setLeast cX8_setLeast 7 none :: ((wsX8_setLeast_r1 ++ wsX8_setLeast_r2) ++ wsX80)
def wsX8_cheapest_r1 : List Cond := [Cond.fieldLink RX8 41 "SoldStopsModel" "least" "[I", Cond.constant RX8 202 (1048576), Cond.fieldLink RX8 80 "SoldStopsModel" "many" "I", Cond.fieldLink RX8 44 "SoldStopsModel" "bought" "[I", Cond.fieldLink RX8 23 "SoldStopsModel" "kinds" "[I", Cond.fieldLink RX8 20 "SoldStopsModel" "lengths" "[I", Cond.methodLink RX8 95 yX8_in, Cond.static yX8_in, Cond.initialized RX8, Cond.code yX8_in cX8_in 3 (some .boolean), Cond.methodLink RX8 121 yX8_ten, Cond.instanceMethod yX8_ten, Cond.selects RX8 yX8_ten yX8_ten, Cond.code yX8_ten cX8_ten 1 (some .int), Cond.fieldLink RX8 1 "SoldStopsModel" "refused" "[I", Cond.methodLink RX8 213 yX8_setLeast, Cond.instanceMethod yX8_setLeast, Cond.selects RX8 yX8_setLeast yX8_setLeast, Cond.code yX8_setLeast cX8_setLeast 7 none, Cond.methodLink RX8 203 yX8_cellOf, Cond.static yX8_cellOf, Cond.code yX8_cellOf cX8_cellOf 2 (some .int), Cond.methodLink RX8 206 yX8_optionsAt, Cond.instanceMethod yX8_optionsAt]
def wsX8_cheapest_r2 : List Cond := [Cond.selects RX8 yX8_optionsAt yX8_optionsAt, Cond.code yX8_optionsAt cX8_optionsAt 2 (some .int), Cond.methodLink RX8 209 yX8_costBy, Cond.instanceMethod yX8_costBy, Cond.selects RX8 yX8_costBy yX8_costBy, Cond.code yX8_costBy cX8_costBy 8 (some .int), Cond.methodLink RX8 199 yX8_ends, Cond.static yX8_ends, Cond.code yX8_ends cX8_ends 1 (some .boolean), Cond.methodLink RX8 189 yX8_givenBy, Cond.static yX8_givenBy, Cond.code yX8_givenBy cX8_givenBy 3 (some .int), Cond.methodLink RX8 173 yX8_lesser, Cond.static yX8_lesser, Cond.code yX8_lesser cX8_lesser 2 (some .int), Cond.methodLink RX8 177 yX8_greater, Cond.static yX8_greater, Cond.code yX8_greater cX8_greater 2 (some .int), Cond.methodLink RX8 180 yX8_costOf, Cond.instanceMethod yX8_costOf, Cond.selects RX8 yX8_costOf yX8_costOf, Cond.code yX8_costOf cX8_costOf 2 (some .int), Cond.fieldLink RX8 17 "SoldStopsModel" "price" "I", Cond.fieldLink RX8 86 "SoldStopsModel" "week" "I"]
def wsX8_cheapest : List Cond := .code yX8_cheapest cX8_cheapest 9 (some .int) :: ((wsX8_cheapest_r1 ++ wsX8_cheapest_r2) ++ wsX80)
def wsX8_reach_r1 : List Cond := [Cond.fieldLink RX8 47 "SoldStopsModel" "paid" "[I", Cond.fieldLink RX8 13 "SoldStopsModel" "breath" "I", Cond.constant RX8 202 (1048576), Cond.fieldLink RX8 80 "SoldStopsModel" "many" "I", Cond.fieldLink RX8 50 "SoldStopsModel" "then" "[I", Cond.fieldLink RX8 20 "SoldStopsModel" "lengths" "[I", Cond.fieldLink RX8 23 "SoldStopsModel" "kinds" "[I", Cond.methodLink RX8 95 yX8_in, Cond.static yX8_in, Cond.initialized RX8, Cond.code yX8_in cX8_in 3 (some .boolean), Cond.methodLink RX8 103 yX8_bad, Cond.instanceMethod yX8_bad, Cond.selects RX8 yX8_bad yX8_bad, Cond.code yX8_bad cX8_bad 1 (some .int), Cond.fieldLink RX8 1 "SoldStopsModel" "refused" "[I", Cond.methodLink RX8 206 yX8_optionsAt, Cond.instanceMethod yX8_optionsAt, Cond.selects RX8 yX8_optionsAt yX8_optionsAt, Cond.code yX8_optionsAt cX8_optionsAt 2 (some .int), Cond.methodLink RX8 189 yX8_givenBy, Cond.static yX8_givenBy, Cond.code yX8_givenBy cX8_givenBy 3 (some .int), Cond.methodLink RX8 173 yX8_lesser]
def wsX8_reach_r2 : List Cond := [Cond.static yX8_lesser, Cond.code yX8_lesser cX8_lesser 2 (some .int), Cond.methodLink RX8 177 yX8_greater, Cond.static yX8_greater, Cond.code yX8_greater cX8_greater 2 (some .int), Cond.methodLink RX8 180 yX8_costOf, Cond.instanceMethod yX8_costOf, Cond.selects RX8 yX8_costOf yX8_costOf, Cond.code yX8_costOf cX8_costOf 2 (some .int), Cond.fieldLink RX8 17 "SoldStopsModel" "price" "I", Cond.fieldLink RX8 86 "SoldStopsModel" "week" "I"]
def wsX8_reach : List Cond := .code yX8_reach cX8_reach 7 (some .int) :: ((wsX8_reach_r1 ++ wsX8_reach_r2) ++ wsX80)
def wsX8_readBy : List Cond := .code yX8_readBy cX8_readBy 4 (some .int) :: ([.fieldLink RX8 13 "SoldStopsModel" "breath" "I", .fieldLink RX8 80 "SoldStopsModel" "many" "I", .fieldLink RX8 20 "SoldStopsModel" "lengths" "[I", .fieldLink RX8 53 "SoldStopsModel" "line" "[I", .fieldLink RX8 23 "SoldStopsModel" "kinds" "[I", .methodLink RX8 189 yX8_givenBy, .static yX8_givenBy, .initialized RX8, .code yX8_givenBy cX8_givenBy 3 (some .int), .methodLink RX8 173 yX8_lesser, .static yX8_lesser, .code yX8_lesser cX8_lesser 2 (some .int), .methodLink RX8 177 yX8_greater, .static yX8_greater, .code yX8_greater cX8_greater 2 (some .int)] ++ wsX80)
def wsX8_nextLine : List Cond := .code yX8_nextLine cX8_nextLine 6 (some .boolean) :: ([.fieldLink RX8 80 "SoldStopsModel" "many" "I", .fieldLink RX8 53 "SoldStopsModel" "line" "[I"] ++ wsX80)
def wsX8_order_r1 : List Cond := [Cond.fieldLink RX8 80 "SoldStopsModel" "many" "I", Cond.fieldLink RX8 53 "SoldStopsModel" "line" "[I", Cond.fieldLink RX8 56 "SoldStopsModel" "bestLine" "[I", Cond.methodLink RX8 121 yX8_ten, Cond.instanceMethod yX8_ten, Cond.selects RX8 yX8_ten yX8_ten, Cond.initialized RX8, Cond.code yX8_ten cX8_ten 1 (some .int), Cond.fieldLink RX8 1 "SoldStopsModel" "refused" "[I", Cond.methodLink RX8 217 yX8_twenty, Cond.instanceMethod yX8_twenty, Cond.selects RX8 yX8_twenty yX8_twenty, Cond.code yX8_twenty cX8_twenty 1 (some .int), Cond.methodLink RX8 220 yX8_readBy, Cond.instanceMethod yX8_readBy, Cond.selects RX8 yX8_readBy yX8_readBy, Cond.code yX8_readBy cX8_readBy 4 (some .int), Cond.fieldLink RX8 13 "SoldStopsModel" "breath" "I", Cond.fieldLink RX8 20 "SoldStopsModel" "lengths" "[I", Cond.fieldLink RX8 23 "SoldStopsModel" "kinds" "[I", Cond.methodLink RX8 189 yX8_givenBy, Cond.static yX8_givenBy, Cond.code yX8_givenBy cX8_givenBy 3 (some .int), Cond.methodLink RX8 173 yX8_lesser]
def wsX8_order_r2 : List Cond := [Cond.static yX8_lesser, Cond.code yX8_lesser cX8_lesser 2 (some .int), Cond.methodLink RX8 177 yX8_greater, Cond.static yX8_greater, Cond.code yX8_greater cX8_greater 2 (some .int), Cond.methodLink RX8 223 yX8_nextLine, Cond.instanceMethod yX8_nextLine, Cond.selects RX8 yX8_nextLine yX8_nextLine, Cond.code yX8_nextLine cX8_nextLine 6 (some .boolean)]
def wsX8_order : List Cond := .code yX8_order cX8_order 6 (some .int) :: ((wsX8_order_r1 ++ wsX8_order_r2) ++ wsX80)
def wsX8_heard_r1 : List Cond := [Cond.fieldLink RX8 89 "SoldStopsModel" "heardMany" "I", Cond.fieldLink RX8 80 "SoldStopsModel" "many" "I", Cond.fieldLink RX8 29 "SoldStopsModel" "heards" "[I", Cond.methodLink RX8 114 yX8_isPiece, Cond.instanceMethod yX8_isPiece, Cond.selects RX8 yX8_isPiece yX8_isPiece, Cond.initialized RX8, Cond.code yX8_isPiece cX8_isPiece 2 (some .boolean), Cond.methodLink RX8 95 yX8_in, Cond.static yX8_in, Cond.code yX8_in cX8_in 3 (some .boolean), Cond.methodLink RX8 103 yX8_bad, Cond.instanceMethod yX8_bad, Cond.selects RX8 yX8_bad yX8_bad, Cond.code yX8_bad cX8_bad 1 (some .int), Cond.fieldLink RX8 1 "SoldStopsModel" "refused" "[I", Cond.methodLink RX8 107 yX8_full, Cond.instanceMethod yX8_full, Cond.selects RX8 yX8_full yX8_full, Cond.code yX8_full cX8_full 1 (some .int), Cond.methodLink RX8 196 yX8_stuckBy, Cond.instanceMethod yX8_stuckBy, Cond.selects RX8 yX8_stuckBy yX8_stuckBy, Cond.code yX8_stuckBy cX8_stuckBy 5 (some .int)]
def wsX8_heard_r2 : List Cond := [Cond.fieldLink RX8 20 "SoldStopsModel" "lengths" "[I", Cond.fieldLink RX8 23 "SoldStopsModel" "kinds" "[I", Cond.methodLink RX8 189 yX8_givenBy, Cond.static yX8_givenBy, Cond.code yX8_givenBy cX8_givenBy 3 (some .int), Cond.methodLink RX8 173 yX8_lesser, Cond.static yX8_lesser, Cond.code yX8_lesser cX8_lesser 2 (some .int), Cond.methodLink RX8 177 yX8_greater, Cond.static yX8_greater, Cond.code yX8_greater cX8_greater 2 (some .int)]
def wsX8_heard : List Cond := .code yX8_heard cX8_heard 4 (some .int) :: ((wsX8_heard_r1 ++ wsX8_heard_r2) ++ wsX80)
def wsX8_forget : List Cond := .code yX8_forget cX8_forget 2 (some .int) :: ([.fieldLink RX8 89 "SoldStopsModel" "heardMany" "I"] ++ wsX80)
def wsX8_breathSet : List Cond := .code yX8_breathSet cX8_breathSet 3 (some .int) :: ([.constant RX8 226 (2147483646), .fieldLink RX8 89 "SoldStopsModel" "heardMany" "I", .fieldLink RX8 29 "SoldStopsModel" "heards" "[I"] ++ wsX80)
def wsX8_breaths : List Cond := .code yX8_breaths cX8_breaths 1 (some .int) :: ([.methodLink RX8 227 yX8_breathSet, .instanceMethod yX8_breathSet, .selects RX8 yX8_breathSet yX8_breathSet, .initialized RX8, .code yX8_breathSet cX8_breathSet 3 (some .int), .constant RX8 226 (2147483646), .fieldLink RX8 89 "SoldStopsModel" "heardMany" "I", .fieldLink RX8 29 "SoldStopsModel" "heards" "[I"] ++ wsX80)
def wsX8_alike : List Cond := .code yX8_alike cX8_alike 6 (some .int) :: ([.fieldLink RX8 80 "SoldStopsModel" "many" "I", .fieldLink RX8 59 "SoldStopsModel" "groups" "[I", .methodLink RX8 196 yX8_stuckBy, .instanceMethod yX8_stuckBy, .selects RX8 yX8_stuckBy yX8_stuckBy, .initialized RX8, .code yX8_stuckBy cX8_stuckBy 5 (some .int), .fieldLink RX8 20 "SoldStopsModel" "lengths" "[I", .fieldLink RX8 23 "SoldStopsModel" "kinds" "[I", .methodLink RX8 189 yX8_givenBy, .static yX8_givenBy, .code yX8_givenBy cX8_givenBy 3 (some .int), .methodLink RX8 173 yX8_lesser, .static yX8_lesser, .code yX8_lesser cX8_lesser 2 (some .int), .methodLink RX8 177 yX8_greater, .static yX8_greater, .code yX8_greater cX8_greater 2 (some .int)] ++ wsX80)
def wsX8_shorter_r1 : List Cond := [Cond.constant RX8 202 (1048576), Cond.fieldLink RX8 80 "SoldStopsModel" "many" "I", Cond.methodLink RX8 227 yX8_breathSet, Cond.instanceMethod yX8_breathSet, Cond.selects RX8 yX8_breathSet yX8_breathSet, Cond.initialized RX8, Cond.code yX8_breathSet cX8_breathSet 3 (some .int), Cond.constant RX8 226 (2147483646), Cond.fieldLink RX8 89 "SoldStopsModel" "heardMany" "I", Cond.fieldLink RX8 29 "SoldStopsModel" "heards" "[I", Cond.methodLink RX8 230 yX8_alike, Cond.instanceMethod yX8_alike, Cond.selects RX8 yX8_alike yX8_alike, Cond.code yX8_alike cX8_alike 6 (some .int), Cond.fieldLink RX8 59 "SoldStopsModel" "groups" "[I", Cond.methodLink RX8 196 yX8_stuckBy, Cond.instanceMethod yX8_stuckBy, Cond.selects RX8 yX8_stuckBy yX8_stuckBy, Cond.code yX8_stuckBy cX8_stuckBy 5 (some .int), Cond.fieldLink RX8 20 "SoldStopsModel" "lengths" "[I", Cond.fieldLink RX8 23 "SoldStopsModel" "kinds" "[I", Cond.methodLink RX8 189 yX8_givenBy, Cond.static yX8_givenBy, Cond.code yX8_givenBy cX8_givenBy 3 (some .int)]
def wsX8_shorter_r2 : List Cond := [Cond.methodLink RX8 173 yX8_lesser, Cond.static yX8_lesser, Cond.code yX8_lesser cX8_lesser 2 (some .int), Cond.methodLink RX8 177 yX8_greater, Cond.static yX8_greater, Cond.code yX8_greater cX8_greater 2 (some .int)]
def wsX8_shorter : List Cond := .code yX8_shorter cX8_shorter 6 (some .int) :: ((wsX8_shorter_r1 ++ wsX8_shorter_r2) ++ wsX80)
def wsX8_gain : List Cond := .code yX8_gain cX8_gain 4 (some .int) :: ([])
def wsX8_rests : List Cond := .code yX8_rests cX8_rests 7 (some .boolean) :: ([.methodLink RX8 233 yX8_gain, .static yX8_gain, .initialized RX8, .code yX8_gain cX8_gain 4 (some .int)])
def wsX8_bid : List Cond := .code yX8_bid cX8_bid 13 (some .int) :: ([.methodLink RX8 118 yX8_isKind, .static yX8_isKind, .initialized RX8, .code yX8_isKind cX8_isKind 1 (some .boolean), .methodLink RX8 95 yX8_in, .static yX8_in, .code yX8_in cX8_in 3 (some .boolean), .methodLink RX8 121 yX8_ten, .instanceMethod yX8_ten, .selects RX8 yX8_ten yX8_ten, .code yX8_ten cX8_ten 1 (some .int), .fieldLink RX8 1 "SoldStopsModel" "refused" "[I", .methodLink RX8 180 yX8_costOf, .instanceMethod yX8_costOf, .selects RX8 yX8_costOf yX8_costOf, .code yX8_costOf cX8_costOf 2 (some .int), .fieldLink RX8 17 "SoldStopsModel" "price" "I", .fieldLink RX8 86 "SoldStopsModel" "week" "I", .methodLink RX8 237 yX8_rests, .static yX8_rests, .code yX8_rests cX8_rests 7 (some .boolean), .methodLink RX8 233 yX8_gain, .static yX8_gain, .code yX8_gain cX8_gain 4 (some .int)] ++ wsX80)
def wsX8_lay : List Cond := .code yX8_lay cX8_lay 11 none :: ([.fieldLink RX8 241 "SoldStopsModel" "above" "J", .fieldLink RX8 62 "SoldStopsModel" "below" "J"] ++ wsX80)
def wsX8_odds_r1 : List Cond := [Cond.fieldLink RX8 66 "SoldStopsModel" "ways" "[J", Cond.fieldLink RX8 13 "SoldStopsModel" "breath" "I", Cond.fieldLink RX8 80 "SoldStopsModel" "many" "I", Cond.fieldLink RX8 70 "SoldStopsModel" "waysThen" "[J", Cond.fieldLink RX8 23 "SoldStopsModel" "kinds" "[I", Cond.fieldLink RX8 20 "SoldStopsModel" "lengths" "[I", Cond.constantLong RX8 244 (10), Cond.methodLink RX8 95 yX8_in, Cond.static yX8_in, Cond.initialized RX8, Cond.code yX8_in cX8_in 3 (some .boolean), Cond.methodLink RX8 103 yX8_bad, Cond.instanceMethod yX8_bad, Cond.selects RX8 yX8_bad yX8_bad, Cond.code yX8_bad cX8_bad 1 (some .int), Cond.fieldLink RX8 1 "SoldStopsModel" "refused" "[I", Cond.methodLink RX8 189 yX8_givenBy, Cond.static yX8_givenBy, Cond.code yX8_givenBy cX8_givenBy 3 (some .int), Cond.methodLink RX8 173 yX8_lesser, Cond.static yX8_lesser, Cond.code yX8_lesser cX8_lesser 2 (some .int), Cond.methodLink RX8 177 yX8_greater, Cond.static yX8_greater]
def wsX8_odds_r2 : List Cond := [Cond.code yX8_greater cX8_greater 2 (some .int), Cond.methodLink RX8 246 yX8_lay, Cond.instanceMethod yX8_lay, Cond.selects RX8 yX8_lay yX8_lay, Cond.code yX8_lay cX8_lay 11 none, Cond.fieldLink RX8 241 "SoldStopsModel" "above" "J", Cond.fieldLink RX8 62 "SoldStopsModel" "below" "J"]
def wsX8_odds : List Cond := .code yX8_odds cX8_odds 9 (some .int) :: ((wsX8_odds_r1 ++ wsX8_odds_r2) ++ wsX80)
def wsX8_drawn_r1 : List Cond := [Cond.constant RX8 250 (999999), Cond.fieldLink RX8 13 "SoldStopsModel" "breath" "I", Cond.fieldLink RX8 80 "SoldStopsModel" "many" "I", Cond.constantLong RX8 251 (1103515245), Cond.constantLong RX8 253 (12345), Cond.constantLong RX8 255 (2147483648), Cond.constantLong RX8 257 (65536), Cond.constantLong RX8 259 (9), Cond.fieldLink RX8 23 "SoldStopsModel" "kinds" "[I", Cond.methodLink RX8 95 yX8_in, Cond.static yX8_in, Cond.initialized RX8, Cond.code yX8_in cX8_in 3 (some .boolean), Cond.methodLink RX8 103 yX8_bad, Cond.instanceMethod yX8_bad, Cond.selects RX8 yX8_bad yX8_bad, Cond.code yX8_bad cX8_bad 1 (some .int), Cond.fieldLink RX8 1 "SoldStopsModel" "refused" "[I", Cond.methodLink RX8 189 yX8_givenBy, Cond.static yX8_givenBy, Cond.code yX8_givenBy cX8_givenBy 3 (some .int), Cond.methodLink RX8 173 yX8_lesser, Cond.static yX8_lesser, Cond.code yX8_lesser cX8_lesser 2 (some .int)]
def wsX8_drawn_r2 : List Cond := [Cond.methodLink RX8 177 yX8_greater, Cond.static yX8_greater, Cond.code yX8_greater cX8_greater 2 (some .int)]
def wsX8_drawn : List Cond := .code yX8_drawn cX8_drawn 11 (some .int) :: ((wsX8_drawn_r1 ++ wsX8_drawn_r2) ++ wsX80)
def wsX8_part : List Cond := .code yX8_part cX8_part 2 (some .long) :: ([.fieldLink RX8 241 "SoldStopsModel" "above" "J", .fieldLink RX8 62 "SoldStopsModel" "below" "J", .methodLink RX8 103 yX8_bad, .instanceMethod yX8_bad, .selects RX8 yX8_bad yX8_bad, .initialized RX8, .code yX8_bad cX8_bad 1 (some .int), .fieldLink RX8 1 "SoldStopsModel" "refused" "[I"] ++ wsX80)
def wsX8_image : List Cond := .code yX8_image cX8_image 4 (some .int) :: ([.fieldLink RX8 73 "SoldStopsModel" "images" "[I", .fieldLink RX8 13 "SoldStopsModel" "breath" "I", .fieldLink RX8 17 "SoldStopsModel" "price" "I", .fieldLink RX8 80 "SoldStopsModel" "many" "I", .fieldLink RX8 83 "SoldStopsModel" "purse" "I", .fieldLink RX8 86 "SoldStopsModel" "week" "I", .fieldLink RX8 89 "SoldStopsModel" "heardMany" "I", .fieldLink RX8 92 "SoldStopsModel" "undoMany" "I", .fieldLink RX8 20 "SoldStopsModel" "lengths" "[I", .fieldLink RX8 23 "SoldStopsModel" "kinds" "[I", .fieldLink RX8 26 "SoldStopsModel" "reads" "[I", .fieldLink RX8 29 "SoldStopsModel" "heards" "[I", .fieldLink RX8 38 "SoldStopsModel" "ahead" "[I", .methodLink RX8 95 yX8_in, .static yX8_in, .initialized RX8, .code yX8_in cX8_in 3 (some .boolean), .methodLink RX8 103 yX8_bad, .instanceMethod yX8_bad, .selects RX8 yX8_bad yX8_bad, .code yX8_bad cX8_bad 1 (some .int), .fieldLink RX8 1 "SoldStopsModel" "refused" "[I"] ++ wsX80)
def wsX8_from_r1 : List Cond := [Cond.fieldLink RX8 73 "SoldStopsModel" "images" "[I", Cond.fieldLink RX8 13 "SoldStopsModel" "breath" "I", Cond.fieldLink RX8 17 "SoldStopsModel" "price" "I", Cond.fieldLink RX8 80 "SoldStopsModel" "many" "I", Cond.fieldLink RX8 83 "SoldStopsModel" "purse" "I", Cond.fieldLink RX8 86 "SoldStopsModel" "week" "I", Cond.fieldLink RX8 89 "SoldStopsModel" "heardMany" "I", Cond.fieldLink RX8 92 "SoldStopsModel" "undoMany" "I", Cond.fieldLink RX8 20 "SoldStopsModel" "lengths" "[I", Cond.fieldLink RX8 23 "SoldStopsModel" "kinds" "[I", Cond.fieldLink RX8 26 "SoldStopsModel" "reads" "[I", Cond.fieldLink RX8 29 "SoldStopsModel" "heards" "[I", Cond.fieldLink RX8 38 "SoldStopsModel" "ahead" "[I", Cond.methodLink RX8 95 yX8_in, Cond.static yX8_in, Cond.initialized RX8, Cond.code yX8_in cX8_in 3 (some .boolean), Cond.methodLink RX8 103 yX8_bad, Cond.instanceMethod yX8_bad, Cond.selects RX8 yX8_bad yX8_bad, Cond.code yX8_bad cX8_bad 1 (some .int), Cond.fieldLink RX8 1 "SoldStopsModel" "refused" "[I", Cond.methodLink RX8 183 yX8_no, Cond.instanceMethod yX8_no]
def wsX8_from_r2 : List Cond := [Cond.selects RX8 yX8_no yX8_no, Cond.code yX8_no cX8_no 1 (some .int)]
def wsX8_from : List Cond := .code yX8_from cX8_from 4 (some .int) :: ((wsX8_from_r1 ++ wsX8_from_r2) ++ wsX80)
def wsX8_status : List Cond := .code yX8_status cX8_status 2 (some .int) :: ([.fieldLink RX8 1 "SoldStopsModel" "refused" "[I", .methodLink RX8 95 yX8_in, .static yX8_in, .initialized RX8, .code yX8_in cX8_in 3 (some .boolean)] ++ wsX80)
def wsX8_countOf : List Cond := .code yX8_countOf cX8_countOf 4 (some .int) :: ([.fieldLink RX8 80 "SoldStopsModel" "many" "I", .fieldLink RX8 23 "SoldStopsModel" "kinds" "[I", .fieldLink RX8 13 "SoldStopsModel" "breath" "I", .fieldLink RX8 17 "SoldStopsModel" "price" "I", .fieldLink RX8 83 "SoldStopsModel" "purse" "I", .fieldLink RX8 86 "SoldStopsModel" "week" "I", .fieldLink RX8 89 "SoldStopsModel" "heardMany" "I", .fieldLink RX8 92 "SoldStopsModel" "undoMany" "I", .fieldLink RX8 127 "SoldStopsModel" "typed" "I"] ++ wsX80)
def wsX8_count : List Cond := .code yX8_count cX8_count 2 (some .int) :: ([.methodLink RX8 95 yX8_in, .static yX8_in, .initialized RX8, .code yX8_in cX8_in 3 (some .boolean), .methodLink RX8 261 yX8_countOf, .instanceMethod yX8_countOf, .selects RX8 yX8_countOf yX8_countOf, .code yX8_countOf cX8_countOf 4 (some .int), .fieldLink RX8 80 "SoldStopsModel" "many" "I", .fieldLink RX8 23 "SoldStopsModel" "kinds" "[I", .fieldLink RX8 13 "SoldStopsModel" "breath" "I", .fieldLink RX8 17 "SoldStopsModel" "price" "I", .fieldLink RX8 83 "SoldStopsModel" "purse" "I", .fieldLink RX8 86 "SoldStopsModel" "week" "I", .fieldLink RX8 89 "SoldStopsModel" "heardMany" "I", .fieldLink RX8 92 "SoldStopsModel" "undoMany" "I", .fieldLink RX8 127 "SoldStopsModel" "typed" "I", .methodLink RX8 103 yX8_bad, .instanceMethod yX8_bad, .selects RX8 yX8_bad yX8_bad, .code yX8_bad cX8_bad 1 (some .int), .fieldLink RX8 1 "SoldStopsModel" "refused" "[I"] ++ wsX80)
def wsX8_mix : List Cond := .code yX8_mix cX8_mix 3 none :: ([.constantLong RX8 264 (31), .fieldLink RX8 266 "SoldStopsModel" "h0" "J"] ++ wsX80)
def wsX8_digest_r1 : List Cond := [Cond.constantLong RX8 269 (1063), Cond.fieldLink RX8 266 "SoldStopsModel" "h0" "J", Cond.fieldLink RX8 80 "SoldStopsModel" "many" "I", Cond.fieldLink RX8 20 "SoldStopsModel" "lengths" "[I", Cond.fieldLink RX8 23 "SoldStopsModel" "kinds" "[I", Cond.fieldLink RX8 26 "SoldStopsModel" "reads" "[I", Cond.fieldLink RX8 89 "SoldStopsModel" "heardMany" "I", Cond.fieldLink RX8 29 "SoldStopsModel" "heards" "[I", Cond.fieldLink RX8 241 "SoldStopsModel" "above" "J", Cond.fieldLink RX8 62 "SoldStopsModel" "below" "J", Cond.methodLink RX8 261 yX8_countOf, Cond.instanceMethod yX8_countOf, Cond.selects RX8 yX8_countOf yX8_countOf, Cond.initialized RX8, Cond.code yX8_countOf cX8_countOf 4 (some .int), Cond.fieldLink RX8 13 "SoldStopsModel" "breath" "I", Cond.fieldLink RX8 17 "SoldStopsModel" "price" "I", Cond.fieldLink RX8 83 "SoldStopsModel" "purse" "I", Cond.fieldLink RX8 86 "SoldStopsModel" "week" "I", Cond.fieldLink RX8 92 "SoldStopsModel" "undoMany" "I", Cond.fieldLink RX8 127 "SoldStopsModel" "typed" "I", Cond.methodLink RX8 271 yX8_mix, Cond.instanceMethod yX8_mix, Cond.selects RX8 yX8_mix yX8_mix]
def wsX8_digest_r2 : List Cond := [Cond.code yX8_mix cX8_mix 3 none, Cond.constantLong RX8 264 (31)]
def wsX8_digest : List Cond := .code yX8_digest cX8_digest 2 (some .long) :: ((wsX8_digest_r1 ++ wsX8_digest_r2) ++ wsX80)
def wsJ9_max_7cf53 : List Cond := .code yJ9_max_7cf53 cJ9_max_7cf53 2 (some .int) :: ([])
def wsJ9_min_7cf53 : List Cond := .code yJ9_min_7cf53 cJ9_min_7cf53 2 (some .int) :: ([])
def wsL_law_r1 : List Cond := [Cond.classLink RL 7 RX7, Cond.instantiable RX7 12, Cond.initialized RX7, Cond.classLink RL 10 RX8, Cond.instantiable RX8 32, Cond.initialized RX8, Cond.methodLink RL 9 yX7_init, Cond.instanceMethod yX7_init, Cond.code yX7_init cX7_init 1 none, Cond.methodLink RX7 1 objectInit, Cond.instanceMethod objectInit, Cond.code objectInit ⟨#[0xb1]⟩ 1 none, Cond.classLink RX7 7 RX4, Cond.instantiable RX4 9, Cond.initialized RX4, Cond.fieldLink RX7 10 "SoldStops" "page" "LSoldStops$Page;", Cond.fieldLink RX7 16 "SoldStops" "spare" "LSoldStops$Page;", Cond.fieldLink RX7 19 "SoldStops" "images" "[LSoldStops$Page;", Cond.arrayClass .boolean, Cond.fieldLink RX7 23 "SoldStops" "kept" "[Z", Cond.classLink RX7 27 RX6, Cond.instantiable RX6 10, Cond.initialized RX6, Cond.fieldLink RX7 30 "SoldStops" "text" "LSoldStops$Text;"]
def wsL_law_r2 : List Cond := [Cond.classLink RX7 34 RX5, Cond.instantiable RX5 5, Cond.initialized RX5, Cond.fieldLink RX7 37 "SoldStops" "plan" "LSoldStops$Plan;", Cond.classLink RX7 41 RX3, Cond.instantiable RX3 4, Cond.initialized RX3, Cond.fieldLink RX7 44 "SoldStops" "order" "LSoldStops$Order;", Cond.classLink RX7 48 RX0, Cond.instantiable RX0 4, Cond.initialized RX0, Cond.fieldLink RX7 51 "SoldStops" "chance" "LSoldStops$Chance;", Cond.arrayClass .int, Cond.fieldLink RX7 55 "SoldStops" "alike" "[I", Cond.methodLink RX7 9 yX4_init, Cond.instanceMethod yX4_init, Cond.code yX4_init cX4_init 2 none, Cond.methodLink RX4 3 objectInit, Cond.fieldLink RX4 9 "SoldStops$Page" "breath" "I", Cond.fieldLink RX4 15 "SoldStops$Page" "price" "I", Cond.fieldLink RX4 18 "SoldStops$Page" "lengths" "[I", Cond.classLink RX4 22 RX2, Cond.instantiable RX2 4, Cond.initialized RX2]
def wsL_law_r3 : List Cond := [Cond.fieldLink RX4 25 "SoldStops$Page" "marks" "LSoldStops$Marks;", Cond.fieldLink RX4 29 "SoldStops$Page" "heard" "[I", Cond.fieldLink RX4 32 "SoldStops$Page" "past" "[LSoldStops$Marks;", Cond.instanceMethod yX2_init, Cond.code yX2_init cX2_init 1 none, Cond.methodLink RX2 3 objectInit, Cond.fieldLink RX2 9 "SoldStops$Marks" "kinds" "[I", Cond.fieldLink RX2 15 "SoldStops$Marks" "reads" "[I", Cond.instanceMethod yX6_init, Cond.code yX6_init cX6_init 1 none, Cond.methodLink RX6 3 objectInit, Cond.fieldLink RX6 9 "SoldStops$Text" "bytes" "[I", Cond.fieldLink RX6 15 "SoldStops$Text" "whats" "[I", Cond.fieldLink RX6 18 "SoldStops$Text" "firsts" "[I", Cond.fieldLink RX6 21 "SoldStops$Text" "seconds" "[I", Cond.instanceMethod yX5_init, Cond.code yX5_init cX5_init 1 none, Cond.methodLink RX5 3 objectInit, Cond.classLink RX5 9 "[[I", Cond.fieldLink RX5 11 "SoldStops$Plan" "costs" "[[I", Cond.fieldLink RX5 16 "SoldStops$Plan" "fewest" "[[I", Cond.fieldLink RX5 19 "SoldStops$Plan" "choices" "[[I", Cond.fieldLink RX5 22 "SoldStops$Plan" "now" "[I", Cond.fieldLink RX5 26 "SoldStops$Plan" "then" "[I"]
def wsL_law_r4 : List Cond := [Cond.instanceMethod yX3_init, Cond.code yX3_init cX3_init 1 none, Cond.methodLink RX3 3 objectInit, Cond.fieldLink RX3 9 "SoldStops$Order" "best" "[I", Cond.fieldLink RX3 15 "SoldStops$Order" "row" "[I", Cond.fieldLink RX3 18 "SoldStops$Order" "used" "[Z", Cond.instanceMethod yX0_init, Cond.code yX0_init cX0_init 1 none, Cond.methodLink RX0 3 objectInit, Cond.fieldLink RX0 9 "SoldStops$Chance" "above" "J", Cond.fieldLink RX0 15 "SoldStops$Chance" "below" "J", Cond.arrayClass .long, Cond.fieldLink RX0 18 "SoldStops$Chance" "now" "[J", Cond.fieldLink RX0 22 "SoldStops$Chance" "then" "[J", Cond.methodLink RL 12 yX8_init, Cond.instanceMethod yX8_init, Cond.code yX8_init cX8_init 1 none, Cond.methodLink RX8 7 objectInit, Cond.fieldLink RX8 1 "SoldStopsModel" "refused" "[I", Cond.fieldLink RX8 13 "SoldStopsModel" "breath" "I", Cond.fieldLink RX8 17 "SoldStopsModel" "price" "I", Cond.fieldLink RX8 20 "SoldStopsModel" "lengths" "[I", Cond.fieldLink RX8 23 "SoldStopsModel" "kinds" "[I", Cond.fieldLink RX8 26 "SoldStopsModel" "reads" "[I"]
def wsL_law_r5 : List Cond := [Cond.fieldLink RX8 29 "SoldStopsModel" "heards" "[I", Cond.fieldLink RX8 32 "SoldStopsModel" "text" "[I", Cond.fieldLink RX8 35 "SoldStopsModel" "items" "[I", Cond.fieldLink RX8 38 "SoldStopsModel" "ahead" "[I", Cond.fieldLink RX8 41 "SoldStopsModel" "least" "[I", Cond.fieldLink RX8 44 "SoldStopsModel" "bought" "[I", Cond.fieldLink RX8 47 "SoldStopsModel" "paid" "[I", Cond.fieldLink RX8 50 "SoldStopsModel" "then" "[I", Cond.fieldLink RX8 53 "SoldStopsModel" "line" "[I", Cond.fieldLink RX8 56 "SoldStopsModel" "bestLine" "[I", Cond.fieldLink RX8 59 "SoldStopsModel" "groups" "[I", Cond.fieldLink RX8 62 "SoldStopsModel" "below" "J", Cond.fieldLink RX8 66 "SoldStopsModel" "ways" "[J", Cond.fieldLink RX8 70 "SoldStopsModel" "waysThen" "[J", Cond.fieldLink RX8 73 "SoldStopsModel" "images" "[I", Cond.methodLink RX8 76 yX8_begin, Cond.instanceMethod yX8_begin, Cond.selects RX8 yX8_begin yX8_begin, Cond.code yX8_begin cX8_begin 3 none, Cond.fieldLink RX8 80 "SoldStopsModel" "many" "I", Cond.fieldLink RX8 83 "SoldStopsModel" "purse" "I", Cond.fieldLink RX8 86 "SoldStopsModel" "week" "I", Cond.fieldLink RX8 89 "SoldStopsModel" "heardMany" "I", Cond.fieldLink RX8 92 "SoldStopsModel" "undoMany" "I"]
def wsL_law_r6 : List Cond := [Cond.methodLink RL 13 yX7_page, Cond.instanceMethod yX7_page, Cond.selects RX7 yX7_page yX7_page, Cond.code yX7_page cX7_page 4 (some .int), Cond.fieldLink RX7 70 "SoldStops$Page" "words" "I", Cond.methodLink RX7 59 yX7_isBreath, Cond.static yX7_isBreath, Cond.code yX7_isBreath cX7_isBreath 1 (some .boolean), Cond.methodLink RX7 98 yX7_isWithin, Cond.static yX7_isWithin, Cond.code yX7_isWithin cX7_isWithin 3 (some .boolean), Cond.methodLink RX7 63 yX7_isPrice, Cond.static yX7_isPrice, Cond.code yX7_isPrice cX7_isPrice 1 (some .boolean), Cond.methodLink RX7 66 yX7_bad, Cond.instanceMethod yX7_bad, Cond.selects RX7 yX7_bad yX7_bad, Cond.code yX7_bad cX7_bad 2 (some .int), Cond.fieldLink RX7 270 "SoldStops" "bads" "I", Cond.methodLink RX7 74 yX4_begin, Cond.instanceMethod yX4_begin, Cond.selects RX4 yX4_begin yX4_begin, Cond.code yX4_begin cX4_begin 3 none, Cond.fieldLink RX4 36 "SoldStops$Marks" "purse" "I"]
def wsL_law_r7 : List Cond := [Cond.fieldLink RX4 39 "SoldStops$Marks" "week" "I", Cond.fieldLink RX4 42 "SoldStops$Page" "words" "I", Cond.fieldLink RX4 45 "SoldStops$Page" "heards" "I", Cond.fieldLink RX4 48 "SoldStops$Page" "pasts" "I", Cond.methodLink RL 17 yX8_page, Cond.instanceMethod yX8_page, Cond.selects RX8 yX8_page yX8_page, Cond.code yX8_page cX8_page 4 (some .int), Cond.methodLink RX8 99 yX8_isPage, Cond.static yX8_isPage, Cond.code yX8_isPage cX8_isPage 2 (some .boolean), Cond.methodLink RX8 95 yX8_in, Cond.static yX8_in, Cond.code yX8_in cX8_in 3 (some .boolean), Cond.methodLink RX8 103 yX8_bad, Cond.instanceMethod yX8_bad, Cond.selects RX8 yX8_bad yX8_bad, Cond.code yX8_bad cX8_bad 1 (some .int), Cond.methodLink RL 18 yX7_word, Cond.instanceMethod yX7_word, Cond.selects RX7 yX7_word yX7_word, Cond.code yX7_word cX7_word 2 (some .int), Cond.methodLink RX7 78 yX7_isLength, Cond.static yX7_isLength]
def wsL_law_r8 : List Cond := [Cond.code yX7_isLength cX7_isLength 1 (some .boolean), Cond.methodLink RX7 81 yX4_hasRoom, Cond.instanceMethod yX4_hasRoom, Cond.selects RX4 yX4_hasRoom yX4_hasRoom, Cond.code yX4_hasRoom cX4_hasRoom 1 (some .boolean), Cond.methodLink RX7 85 yX7_full, Cond.instanceMethod yX7_full, Cond.selects RX7 yX7_full yX7_full, Cond.code yX7_full cX7_full 2 (some .int), Cond.fieldLink RX7 276 "SoldStops" "fulls" "I", Cond.methodLink RX7 88 yX4_addWord, Cond.instanceMethod yX4_addWord, Cond.selects RX4 yX4_addWord yX4_addWord, Cond.code yX4_addWord cX4_addWord 2 none, Cond.methodLink RX4 61 yX2_set, Cond.instanceMethod yX2_set, Cond.selects RX2 yX2_set yX2_set, Cond.code yX2_set cX2_set 3 none, Cond.methodLink RL 22 yX8_word, Cond.instanceMethod yX8_word, Cond.selects RX8 yX8_word yX8_word, Cond.code yX8_word cX8_word 2 (some .int), Cond.methodLink RX8 107 yX8_full, Cond.instanceMethod yX8_full]
def wsL_law_r9 : List Cond := [Cond.selects RX8 yX8_full yX8_full, Cond.code yX8_full cX8_full 1 (some .int), Cond.methodLink RX8 110 yX8_add, Cond.instanceMethod yX8_add, Cond.selects RX8 yX8_add yX8_add, Cond.code yX8_add cX8_add 2 (some .int), Cond.methodLink RL 23 yX7_breath, Cond.instanceMethod yX7_breath, Cond.selects RX7 yX7_breath yX7_breath, Cond.code yX7_breath cX7_breath 3 (some .int), Cond.fieldLink RX7 92 "SoldStops$Page" "breath" "I", Cond.methodLink RL 26 yX8_breath, Cond.instanceMethod yX8_breath, Cond.selects RX8 yX8_breath yX8_breath, Cond.code yX8_breath cX8_breath 3 (some .int), Cond.methodLink RL 27 yX7_price, Cond.instanceMethod yX7_price, Cond.selects RX7 yX7_price yX7_price, Cond.code yX7_price cX7_price 3 (some .int), Cond.fieldLink RX7 95 "SoldStops$Page" "price" "I", Cond.methodLink RL 30 yX8_price, Cond.instanceMethod yX8_price, Cond.selects RX8 yX8_price yX8_price, Cond.code yX8_price cX8_price 3 (some .int)]
def wsL_law_r10 : List Cond := [Cond.methodLink RL 31 yX7_purse, Cond.instanceMethod yX7_purse, Cond.selects RX7 yX7_purse yX7_purse, Cond.code yX7_purse cX7_purse 3 (some .int), Cond.fieldLink RX7 102 "SoldStops$Page" "marks" "LSoldStops$Marks;", Cond.fieldLink RX7 106 "SoldStops$Marks" "purse" "I", Cond.methodLink RL 34 yX8_purse, Cond.instanceMethod yX8_purse, Cond.selects RX8 yX8_purse yX8_purse, Cond.code yX8_purse cX8_purse 3 (some .int), Cond.methodLink RL 35 yX7_put, Cond.instanceMethod yX7_put, Cond.selects RX7 yX7_put yX7_put, Cond.code yX7_put cX7_put 4 (some .int), Cond.fieldLink RX7 119 "SoldStops$Marks" "kinds" "[I", Cond.methodLink RX7 111 yX4_has, Cond.instanceMethod yX4_has, Cond.selects RX4 yX4_has yX4_has, Cond.code yX4_has cX4_has 2 (some .boolean), Cond.methodLink RX7 114 yX1_isOne, Cond.static yX1_isOne, Cond.initialized RX1, Cond.code yX1_isOne cX1_isOne 1 (some .boolean), Cond.methodLink RX7 122 yX4_setMark]
def wsL_law_r11 : List Cond := [Cond.instanceMethod yX4_setMark, Cond.selects RX4 yX4_setMark yX4_setMark, Cond.code yX4_setMark cX4_setMark 3 none, Cond.methodLink RL 38 yX8_put, Cond.instanceMethod yX8_put, Cond.selects RX8 yX8_put yX8_put, Cond.code yX8_put cX8_put 4 (some .int), Cond.methodLink RX8 114 yX8_isPiece, Cond.instanceMethod yX8_isPiece, Cond.selects RX8 yX8_isPiece yX8_isPiece, Cond.code yX8_isPiece cX8_isPiece 2 (some .boolean), Cond.methodLink RX8 118 yX8_isKind, Cond.static yX8_isKind, Cond.code yX8_isKind cX8_isKind 1 (some .boolean), Cond.methodLink RX8 121 yX8_ten, Cond.instanceMethod yX8_ten, Cond.selects RX8 yX8_ten yX8_ten, Cond.code yX8_ten cX8_ten 1 (some .int), Cond.methodLink RX8 124 yX8_mark, Cond.instanceMethod yX8_mark, Cond.selects RX8 yX8_mark yX8_mark, Cond.code yX8_mark cX8_mark 3 none, Cond.methodLink RL 39 yX7_type, Cond.instanceMethod yX7_type]
def wsL_law_r12 : List Cond := [Cond.selects RX7 yX7_type yX7_type, Cond.code yX7_type cX7_type 2 (some .int), Cond.fieldLink RX7 125 "SoldStops$Text" "size" "I", Cond.methodLink RX7 128 yX6_add, Cond.instanceMethod yX6_add, Cond.selects RX6 yX6_add yX6_add, Cond.code yX6_add cX6_add 2 none, Cond.fieldLink RX6 24 "SoldStops$Text" "size" "I", Cond.methodLink RL 42 yX8_type, Cond.instanceMethod yX8_type, Cond.selects RX8 yX8_type yX8_type, Cond.code yX8_type cX8_type 2 (some .int), Cond.fieldLink RX8 127 "SoldStopsModel" "typed" "I", Cond.methodLink RL 43 yX7_clear, Cond.instanceMethod yX7_clear, Cond.selects RX7 yX7_clear yX7_clear, Cond.code yX7_clear cX7_clear 2 (some .int), Cond.methodLink RL 47 yX8_clear, Cond.instanceMethod yX8_clear, Cond.selects RX8 yX8_clear yX8_clear, Cond.code yX8_clear cX8_clear 2 (some .int), Cond.methodLink RL 48 yX7_read, Cond.instanceMethod yX7_read, Cond.selects RX7 yX7_read yX7_read]
def wsL_law_r13 : List Cond := [Cond.code yX7_read cX7_read 3 (some .int), Cond.fieldLink RX7 135 "SoldStops$Text" "items" "I", Cond.methodLink RX7 131 yX6_findFault, Cond.instanceMethod yX6_findFault, Cond.selects RX6 yX6_findFault yX6_findFault, Cond.code yX6_findFault cX6_findFault 1 (some .int), Cond.fieldLink RX6 28 "SoldStops$Text" "behind" "I", Cond.fieldLink RX6 34 "SoldStops$Text" "items" "I", Cond.fieldLink RX6 37 "SoldStops$Text" "token" "I", Cond.fieldLink RX6 47 "SoldStops$Text" "place" "I", Cond.methodLink RX6 31 yX6_next, Cond.instanceMethod yX6_next, Cond.selects RX6 yX6_next yX6_next, Cond.code yX6_next cX6_next 2 none, Cond.methodLink RX6 53 yX6_runEnd, Cond.instanceMethod yX6_runEnd, Cond.selects RX6 yX6_runEnd yX6_runEnd, Cond.code yX6_runEnd cX6_runEnd 5 (some .int), Cond.methodLink RX6 57 yX6_wordHere, Cond.instanceMethod yX6_wordHere, Cond.selects RX6 yX6_wordHere yX6_wordHere, Cond.code yX6_wordHere cX6_wordHere 1 (some .int), Cond.methodLink RX6 66 yX6_isHere, Cond.instanceMethod yX6_isHere]
def wsL_law_r14 : List Cond := [Cond.selects RX6 yX6_isHere yX6_isHere, Cond.code yX6_isHere cX6_isHere 3 (some .boolean), Cond.methodLink RX6 74 yJ0_length_8abf5, Cond.instanceMethod yJ0_length_8abf5, Cond.selects RJ0 yJ0_length_8abf5 yJ0_length_8abf5, Cond.initialized RJ0, Cond.code yJ0_length_8abf5 cJ0_length_8abf5 1 (some .int), Cond.fieldLink RJ0 9 "java/lang/String" "value" "[B", Cond.methodLink RJ0 335 yJ0_coder_7d493, Cond.instanceMethod yJ0_coder_7d493, Cond.selects RJ0 yJ0_coder_7d493 yJ0_coder_7d493, Cond.code yJ0_coder_7d493 cJ0_coder_7d493 1 (some .byte), Cond.fieldLink RJ0 38 "java/lang/String" "COMPACT_STRINGS" "Z", Cond.fieldLink RJ0 15 "java/lang/String" "coder" "B", Cond.methodLink RX6 79 yJ0_charAt_5068e, Cond.instanceMethod yJ0_charAt_5068e, Cond.selects RJ0 yJ0_charAt_5068e yJ0_charAt_5068e, Cond.code yJ0_charAt_5068e cJ0_charAt_5068e 2 (some .char), Cond.methodLink RJ0 492 yJ0_isLatin1_aae02, Cond.instanceMethod yJ0_isLatin1_aae02, Cond.selects RJ0 yJ0_isLatin1_aae02 yJ0_isLatin1_aae02, Cond.code yJ0_isLatin1_aae02 cJ0_isLatin1_aae02 1 (some .boolean), Cond.methodLink RJ0 495 yJ1_charAt_3b067, Cond.static yJ1_charAt_3b067]
def wsL_law_r15 : List Cond := [Cond.initialized RJ1, Cond.code yJ1_charAt_3b067 cJ1_charAt_3b067 2 (some .char), Cond.methodLink RJ1 9 yJ0_checkIndex_df160, Cond.static yJ0_checkIndex_df160, Cond.code yJ0_checkIndex_df160 cJ0_checkIndex_df160 2 none, Cond.fieldLink RJ0 1053 "jdk/internal/util/Preconditions" "SIOOBE_FORMATTER" "Ljava/util/function/BiFunction;", Cond.methodLink RJ0 1059 yJ3_checkIndex_8e157, Cond.static yJ3_checkIndex_8e157, Cond.initialized RJ3, Cond.code yJ3_checkIndex_8e157 cJ3_checkIndex_8e157 3 (some .int), Cond.methodLink RJ0 498 yJ2_charAt_3b067, Cond.static yJ2_charAt_3b067, Cond.initialized RJ2, Cond.code yJ2_charAt_3b067 cJ2_charAt_3b067 2 (some .char), Cond.methodLink RJ2 67 yJ2_checkIndex_2214a, Cond.static yJ2_checkIndex_2214a, Cond.code yJ2_checkIndex_2214a cJ2_checkIndex_2214a 2 none, Cond.methodLink RJ2 48 yJ2_length_9d52b, Cond.static yJ2_length_9d52b, Cond.code yJ2_length_9d52b cJ2_length_9d52b 1 (some .int), Cond.methodLink RJ2 414 yJ0_checkIndex_df160, Cond.methodLink RJ2 71 yJ2_getChar_3b067, Cond.static yJ2_getChar_3b067, Cond.code yJ2_getChar_3b067 cJ2_getChar_3b067 2 (some .char)]
def wsL_law_r16 : List Cond := [Cond.fieldLink RJ2 44 "java/lang/StringUTF16" "$assertionsDisabled" "Z", Cond.fieldLink RJ2 59 "java/lang/StringUTF16" "HI_BYTE_SHIFT" "I", Cond.fieldLink RJ2 63 "java/lang/StringUTF16" "LO_BYTE_SHIFT" "I", Cond.methodLink RX6 61 yX6_numberHere, Cond.instanceMethod yX6_numberHere, Cond.selects RX6 yX6_numberHere yX6_numberHere, Cond.code yX6_numberHere cX6_numberHere 2 (some .int), Cond.fieldLink RX6 50 "SoldStops$Text" "value" "I", Cond.methodLink RX6 40 yX6_mayBegin, Cond.instanceMethod yX6_mayBegin, Cond.selects RX6 yX6_mayBegin yX6_mayBegin, Cond.code yX6_mayBegin cX6_mayBegin 1 (some .boolean), Cond.methodLink RX6 44 yX6_takeItem, Cond.instanceMethod yX6_takeItem, Cond.selects RX6 yX6_takeItem yX6_takeItem, Cond.code yX6_takeItem cX6_takeItem 2 (some .boolean), Cond.methodLink RX7 138 yX7_tellItem, Cond.instanceMethod yX7_tellItem, Cond.selects RX7 yX7_tellItem yX7_tellItem, Cond.code yX7_tellItem cX7_tellItem 4 (some .boolean), Cond.fieldLink RX7 292 "SoldStops$Text" "firsts" "[I", Cond.fieldLink RX7 295 "SoldStops$Text" "seconds" "[I", Cond.fieldLink RX7 298 "SoldStops$Text" "whats" "[I", Cond.methodLink RX7 141 yX4_copy]
def wsL_law_r17 : List Cond := [Cond.instanceMethod yX4_copy, Cond.selects RX4 yX4_copy yX4_copy, Cond.code yX4_copy cX4_copy 3 none, Cond.methodLink RX4 51 arraycopyName, Cond.native arraycopyName, Cond.static arraycopyName, Cond.initialized "java/lang/System", Cond.methodLink RX4 57 yX2_copy, Cond.instanceMethod yX2_copy, Cond.selects RX2 yX2_copy yX2_copy, Cond.code yX2_copy cX2_copy 2 none, Cond.fieldLink RX2 28 "SoldStops$Marks" "purse" "I", Cond.fieldLink RX2 32 "SoldStops$Marks" "week" "I", Cond.methodLink RX2 35 arraycopyName, Cond.methodLink RL 51 yX8_read, Cond.instanceMethod yX8_read, Cond.selects RX8 yX8_read yX8_read, Cond.code yX8_read cX8_read 3 (some .int), Cond.fieldLink RX8 130 "SoldStopsModel" "readAt" "I", Cond.fieldLink RX8 157 "SoldStopsModel" "itemMany" "I", Cond.methodLink RX8 167 yX8_readsPage, Cond.instanceMethod yX8_readsPage, Cond.selects RX8 yX8_readsPage yX8_readsPage, Cond.code yX8_readsPage cX8_readsPage 2 (some .boolean)]
def wsL_law_r18 : List Cond := [Cond.methodLink RX8 145 yX8_skip, Cond.instanceMethod yX8_skip, Cond.selects RX8 yX8_skip yX8_skip, Cond.code yX8_skip cX8_skip 1 none, Cond.methodLink RX8 133 yX8_here, Cond.instanceMethod yX8_here, Cond.selects RX8 yX8_here yX8_here, Cond.code yX8_here cX8_here 1 (some .int), Cond.methodLink RX8 164 yX8_readsItem, Cond.instanceMethod yX8_readsItem, Cond.selects RX8 yX8_readsItem yX8_readsItem, Cond.code yX8_readsItem cX8_readsItem 3 (some .boolean), Cond.fieldLink RX8 151 "SoldStopsModel" "readNumber" "I", Cond.methodLink RX8 154 yX8_wordHere, Cond.instanceMethod yX8_wordHere, Cond.selects RX8 yX8_wordHere yX8_wordHere, Cond.code yX8_wordHere cX8_wordHere 5 (some .int), Cond.methodLink RX8 139 yX8_wordSize, Cond.instanceMethod yX8_wordSize, Cond.selects RX8 yX8_wordSize yX8_wordSize, Cond.code yX8_wordSize cX8_wordSize 2 (some .int), Cond.methodLink RX8 136 yX8_isLetter, Cond.static yX8_isLetter, Cond.code yX8_isLetter cX8_isLetter 1 (some .boolean)]
def wsL_law_r19 : List Cond := [Cond.methodLink RX8 142 yX8_letter, Cond.instanceMethod yX8_letter, Cond.selects RX8 yX8_letter yX8_letter, Cond.code yX8_letter cX8_letter 2 (some .int), Cond.methodLink RX8 160 yX8_number, Cond.instanceMethod yX8_number, Cond.selects RX8 yX8_number yX8_number, Cond.code yX8_number cX8_number 3 (some .boolean), Cond.methodLink RX8 148 yX8_isFigure, Cond.static yX8_isFigure, Cond.code yX8_isFigure cX8_isFigure 1 (some .boolean), Cond.methodLink RX8 170 yX8_refusedItem, Cond.instanceMethod yX8_refusedItem, Cond.selects RX8 yX8_refusedItem yX8_refusedItem, Cond.code yX8_refusedItem cX8_refusedItem 7 (some .int), Cond.methodLink RL 52 yX7_buy, Cond.instanceMethod yX7_buy, Cond.selects RX7 yX7_buy yX7_buy, Cond.code yX7_buy cX7_buy 4 (some .int), Cond.methodLink RX7 145 yX4_costOf, Cond.instanceMethod yX4_costOf, Cond.selects RX4 yX4_costOf yX4_costOf, Cond.code yX4_costOf cX4_costOf 2 (some .int), Cond.methodLink RX4 65 yX1_cost]
def wsL_law_r20 : List Cond := [Cond.static yX1_cost, Cond.code yX1_cost cX1_cost 5 (some .int), Cond.methodLink RX7 148 yX7_no, Cond.instanceMethod yX7_no, Cond.selects RX7 yX7_no yX7_no, Cond.code yX7_no cX7_no 2 (some .int), Cond.fieldLink RX7 273 "SoldStops" "nos" "I", Cond.methodLink RX7 151 yX4_remember, Cond.instanceMethod yX4_remember, Cond.selects RX4 yX4_remember yX4_remember, Cond.code yX4_remember cX4_remember 1 none, Cond.methodLink RX4 74 yX4_dropOldest, Cond.instanceMethod yX4_dropOldest, Cond.selects RX4 yX4_dropOldest yX4_dropOldest, Cond.code yX4_dropOldest cX4_dropOldest 3 none, Cond.methodLink RX7 154 yX2_set, Cond.methodLink RL 55 yX8_buy, Cond.instanceMethod yX8_buy, Cond.selects RX8 yX8_buy yX8_buy, Cond.code yX8_buy cX8_buy 4 (some .int), Cond.methodLink RX8 180 yX8_costOf, Cond.instanceMethod yX8_costOf, Cond.selects RX8 yX8_costOf yX8_costOf, Cond.code yX8_costOf cX8_costOf 2 (some .int)]
def wsL_law_r21 : List Cond := [Cond.methodLink RX8 183 yX8_no, Cond.instanceMethod yX8_no, Cond.selects RX8 yX8_no yX8_no, Cond.code yX8_no cX8_no 1 (some .int), Cond.methodLink RX8 186 yX8_notes, Cond.instanceMethod yX8_notes, Cond.selects RX8 yX8_notes yX8_notes, Cond.code yX8_notes cX8_notes 3 none, Cond.methodLink RL 56 yX7_sell, Cond.instanceMethod yX7_sell, Cond.selects RX7 yX7_sell yX7_sell, Cond.code yX7_sell cX7_sell 3 (some .int), Cond.methodLink RX7 157 Lib.Math.min.name, Cond.static Lib.Math.min.name, Cond.initialized "java/lang/Math", Cond.code Lib.Math.min.name Lib.Math.min.code 2 (some .int), Cond.methodLink RL 59 yX8_sell, Cond.instanceMethod yX8_sell, Cond.selects RX8 yX8_sell yX8_sell, Cond.code yX8_sell cX8_sell 3 (some .int), Cond.methodLink RX8 173 yX8_lesser, Cond.static yX8_lesser, Cond.code yX8_lesser cX8_lesser 2 (some .int), Cond.methodLink RL 60 yX7_readOut]
def wsL_law_r22 : List Cond := [Cond.instanceMethod yX7_readOut, Cond.selects RX7 yX7_readOut yX7_readOut, Cond.code yX7_readOut cX7_readOut 1 (some .int), Cond.methodLink RX7 163 yX4_say, Cond.instanceMethod yX4_say, Cond.selects RX4 yX4_say yX4_say, Cond.code yX4_say cX4_say 3 (some .int), Cond.methodLink RX4 80 yX4_leftBehind, Cond.instanceMethod yX4_leftBehind, Cond.selects RX4 yX4_leftBehind yX4_leftBehind, Cond.code yX4_leftBehind cX4_leftBehind 5 (some .int), Cond.fieldLink RX4 71 "SoldStops$Marks" "kinds" "[I", Cond.methodLink RX4 77 yX1_breathBehind, Cond.static yX1_breathBehind, Cond.code yX1_breathBehind cX1_breathBehind 5 (some .int), Cond.methodLink RX1 9 Lib.Math.min.name, Cond.methodLink RX1 15 Lib.Math.max.name, Cond.static Lib.Math.max.name, Cond.code Lib.Math.max.name Lib.Math.max.code 2 (some .int), Cond.methodLink RX4 84 yX2_readOnce, Cond.instanceMethod yX2_readOnce, Cond.selects RX2 yX2_readOnce yX2_readOnce, Cond.code yX2_readOnce cX2_readOnce 3 none, Cond.methodLink RX2 18 yX1_lasts]
def wsL_law_r23 : List Cond := [Cond.static yX1_lasts, Cond.code yX1_lasts cX1_lasts 1 (some .int), Cond.methodLink RX2 24 yX2_set, Cond.methodLink RL 63 yX8_readOut, Cond.instanceMethod yX8_readOut, Cond.selects RX8 yX8_readOut yX8_readOut, Cond.code yX8_readOut cX8_readOut 4 (some .int), Cond.methodLink RX8 189 yX8_givenBy, Cond.static yX8_givenBy, Cond.code yX8_givenBy cX8_givenBy 3 (some .int), Cond.methodLink RX8 177 yX8_greater, Cond.static yX8_greater, Cond.code yX8_greater cX8_greater 2 (some .int), Cond.methodLink RX8 193 yX8_dries, Cond.static yX8_dries, Cond.code yX8_dries cX8_dries 1 (some .int), Cond.methodLink RL 64 yX7_week, Cond.instanceMethod yX7_week, Cond.selects RX7 yX7_week yX7_week, Cond.code yX7_week cX7_week 2 (some .int), Cond.fieldLink RX7 166 "SoldStops$Marks" "week" "I", Cond.methodLink RL 67 yX8_week, Cond.instanceMethod yX8_week, Cond.selects RX8 yX8_week yX8_week]
def wsL_law_r24 : List Cond := [Cond.code yX8_week cX8_week 2 (some .int), Cond.methodLink RL 68 yX7_undo, Cond.instanceMethod yX7_undo, Cond.selects RX7 yX7_undo yX7_undo, Cond.code yX7_undo cX7_undo 1 (some .int), Cond.fieldLink RX7 169 "SoldStops$Page" "pasts" "I", Cond.methodLink RX7 172 yX4_goBack, Cond.instanceMethod yX4_goBack, Cond.selects RX4 yX4_goBack yX4_goBack, Cond.code yX4_goBack cX4_goBack 1 none, Cond.methodLink RL 71 yX8_undo, Cond.instanceMethod yX8_undo, Cond.selects RX8 yX8_undo yX8_undo, Cond.code yX8_undo cX8_undo 3 (some .int), Cond.methodLink RL 72 yX7_of, Cond.instanceMethod yX7_of, Cond.selects RX7 yX7_of yX7_of, Cond.code yX7_of cX7_of 3 (some .int), Cond.fieldLink RX7 175 "SoldStops$Page" "lengths" "[I", Cond.fieldLink RX7 178 "SoldStops$Marks" "reads" "[I", Cond.methodLink RL 75 yX8_of, Cond.instanceMethod yX8_of, Cond.selects RX8 yX8_of yX8_of, Cond.code yX8_of cX8_of 3 (some .int)]
def wsL_law_r25 : List Cond := [Cond.methodLink RL 76 yX7_costs, Cond.instanceMethod yX7_costs, Cond.selects RX7 yX7_costs yX7_costs, Cond.code yX7_costs cX7_costs 2 (some .int), Cond.methodLink RL 79 yX8_costs, Cond.instanceMethod yX8_costs, Cond.selects RX8 yX8_costs yX8_costs, Cond.code yX8_costs cX8_costs 2 (some .int), Cond.methodLink RL 80 yX7_gives, Cond.instanceMethod yX7_gives, Cond.selects RX7 yX7_gives yX7_gives, Cond.code yX7_gives cX7_gives 3 (some .int), Cond.methodLink RX7 181 yX1_breathBehind, Cond.methodLink RL 83 yX8_gives, Cond.instanceMethod yX8_gives, Cond.selects RX8 yX8_gives yX8_gives, Cond.code yX8_gives cX8_gives 3 (some .int), Cond.methodLink RL 84 yX7_stuck, Cond.instanceMethod yX7_stuck, Cond.selects RX7 yX7_stuck yX7_stuck, Cond.code yX7_stuck cX7_stuck 1 (some .int), Cond.methodLink RX7 185 yX4_stuckAt, Cond.instanceMethod yX4_stuckAt, Cond.selects RX4 yX4_stuckAt yX4_stuckAt]
def wsL_law_r26 : List Cond := [Cond.code yX4_stuckAt cX4_stuckAt 5 (some .int), Cond.methodLink RL 87 yX8_stuck, Cond.instanceMethod yX8_stuck, Cond.selects RX8 yX8_stuck yX8_stuck, Cond.code yX8_stuck cX8_stuck 2 (some .int), Cond.methodLink RX8 196 yX8_stuckBy, Cond.instanceMethod yX8_stuckBy, Cond.selects RX8 yX8_stuckBy yX8_stuckBy, Cond.code yX8_stuckBy cX8_stuckBy 5 (some .int), Cond.methodLink RL 88 yX7_sentences, Cond.instanceMethod yX7_sentences, Cond.selects RX7 yX7_sentences yX7_sentences, Cond.code yX7_sentences cX7_sentences 2 (some .int), Cond.methodLink RX7 188 yX4_howManySentences, Cond.instanceMethod yX4_howManySentences, Cond.selects RX4 yX4_howManySentences yX4_howManySentences, Cond.code yX4_howManySentences cX4_howManySentences 3 (some .int), Cond.methodLink RX4 93 yX1_ends, Cond.static yX1_ends, Cond.code yX1_ends cX1_ends 1 (some .boolean), Cond.methodLink RX4 97 yX4_lastIsEnded, Cond.instanceMethod yX4_lastIsEnded, Cond.selects RX4 yX4_lastIsEnded yX4_lastIsEnded, Cond.code yX4_lastIsEnded cX4_lastIsEnded 1 (some .boolean)]
def wsL_law_r27 : List Cond := [Cond.methodLink RX7 191 yX4_lastIsEnded, Cond.methodLink RX7 194 yX4_longestSentence, Cond.instanceMethod yX4_longestSentence, Cond.selects RX4 yX4_longestSentence yX4_longestSentence, Cond.code yX4_longestSentence cX4_longestSentence 7 (some .int), Cond.methodLink RL 91 yX8_sentences, Cond.instanceMethod yX8_sentences, Cond.selects RX8 yX8_sentences yX8_sentences, Cond.code yX8_sentences cX8_sentences 8 (some .int), Cond.methodLink RX8 199 yX8_ends, Cond.static yX8_ends, Cond.code yX8_ends cX8_ends 1 (some .boolean), Cond.methodLink RL 92 yX7_cheapest, Cond.instanceMethod yX7_cheapest, Cond.selects RX7 yX7_cheapest yX7_cheapest, Cond.code yX7_cheapest cX7_cheapest 4 (some .int), Cond.methodLink RX7 198 yX5_make, Cond.instanceMethod yX5_make, Cond.selects RX5 yX5_make yX5_make, Cond.code yX5_make cX5_make 8 none, Cond.fieldLink RX5 29 "SoldStops$Page" "words" "I", Cond.constant RX5 41 (1000000), Cond.fieldLink RX5 42 "SoldStops$Page" "lengths" "[I", Cond.methodLink RX5 35 yJ7_fill_53178]
def wsL_law_r28 : List Cond := [Cond.static yJ7_fill_53178, Cond.initialized RJ7, Cond.code yJ7_fill_53178 cJ7_fill_53178 4 none, Cond.methodLink RX5 45 yX5_choose, Cond.instanceMethod yX5_choose, Cond.selects RX5 yX5_choose yX5_choose, Cond.code yX5_choose cX5_choose 14 none, Cond.fieldLink RX5 49 "SoldStops$Page" "marks" "LSoldStops$Marks;", Cond.fieldLink RX5 53 "SoldStops$Marks" "kinds" "[I", Cond.methodLink RX5 60 yX1_breathBehind, Cond.methodLink RX5 64 yX4_costOf, Cond.methodLink RX5 68 yX1_ends, Cond.methodLink RX7 202 yX5_isThere, Cond.instanceMethod yX5_isThere, Cond.selects RX5 yX5_isThere yX5_isThere, Cond.code yX5_isThere cX5_isThere 2 (some .boolean), Cond.methodLink RX7 205 yX5_cost, Cond.instanceMethod yX5_cost, Cond.selects RX5 yX5_cost yX5_cost, Cond.code yX5_cost cX5_cost 2 (some .int), Cond.methodLink RX7 208 yX5_kindBehind, Cond.instanceMethod yX5_kindBehind, Cond.selects RX5 yX5_kindBehind yX5_kindBehind, Cond.code yX5_kindBehind cX5_kindBehind 8 (some .int)]
def wsL_law_r29 : List Cond := [Cond.methodLink RL 96 yX8_cheapest, Cond.instanceMethod yX8_cheapest, Cond.selects RX8 yX8_cheapest yX8_cheapest, Cond.code yX8_cheapest cX8_cheapest 9 (some .int), Cond.constant RX8 202 (1048576), Cond.methodLink RX8 213 yX8_setLeast, Cond.instanceMethod yX8_setLeast, Cond.selects RX8 yX8_setLeast yX8_setLeast, Cond.code yX8_setLeast cX8_setLeast 7 none, Cond.methodLink RX8 203 yX8_cellOf, Cond.static yX8_cellOf, Cond.code yX8_cellOf cX8_cellOf 2 (some .int), Cond.methodLink RX8 206 yX8_optionsAt, Cond.instanceMethod yX8_optionsAt, Cond.selects RX8 yX8_optionsAt yX8_optionsAt, Cond.code yX8_optionsAt cX8_optionsAt 2 (some .int), Cond.methodLink RX8 209 yX8_costBy, Cond.instanceMethod yX8_costBy, Cond.selects RX8 yX8_costBy yX8_costBy, Cond.code yX8_costBy cX8_costBy 8 (some .int), Cond.methodLink RL 97 yX7_reach, Cond.instanceMethod yX7_reach, Cond.selects RX7 yX7_reach yX7_reach, Cond.code yX7_reach cX7_reach 2 (some .int)]
def wsL_law_r30 : List Cond := [Cond.methodLink RX7 212 yX5_reachFor, Cond.instanceMethod yX5_reachFor, Cond.selects RX5 yX5_reachFor yX5_reachFor, Cond.code yX5_reachFor cX5_reachFor 6 (some .int), Cond.fieldLink RX5 72 "SoldStops$Page" "breath" "I", Cond.methodLink RX5 79 arraycopyName, Cond.methodLink RX5 75 yX5_spread, Cond.instanceMethod yX5_spread, Cond.selects RX5 yX5_spread yX5_spread, Cond.code yX5_spread cX5_spread 9 none, Cond.methodLink RX5 85 Lib.Math.min.name, Cond.methodLink RL 100 yX8_reach, Cond.instanceMethod yX8_reach, Cond.selects RX8 yX8_reach yX8_reach, Cond.code yX8_reach cX8_reach 7 (some .int), Cond.methodLink RL 101 yX7_order, Cond.instanceMethod yX7_order, Cond.selects RX7 yX7_order yX7_order, Cond.code yX7_order cX7_order 2 (some .int), Cond.fieldLink RX7 219 "SoldStops$Order" "most" "I", Cond.fieldLink RX7 222 "SoldStops$Order" "best" "[I", Cond.methodLink RX7 216 yX3_search, Cond.instanceMethod yX3_search, Cond.selects RX3 yX3_search yX3_search]
def wsL_law_r31 : List Cond := [Cond.code yX3_search cX3_search 3 none, Cond.fieldLink RX3 22 "SoldStops$Order" "most" "I", Cond.fieldLink RX3 26 "SoldStops$Page" "breath" "I", Cond.methodLink RX3 31 yX3_extend, Cond.static yX3_extend, Cond.code yX3_extend cX3_extend 6 none, Cond.fieldLink RX3 35 "SoldStops$Page" "words" "I", Cond.fieldLink RX3 42 "SoldStops$Page" "lengths" "[I", Cond.methodLink RX3 38 yX3_keepRow, Cond.instanceMethod yX3_keepRow, Cond.selects RX3 yX3_keepRow yX3_keepRow, Cond.code yX3_keepRow cX3_keepRow 5 none, Cond.methodLink RX3 49 arraycopyName, Cond.methodLink RX3 45 yX4_leftBehind, Cond.methodLink RL 104 yX8_order, Cond.instanceMethod yX8_order, Cond.selects RX8 yX8_order yX8_order, Cond.code yX8_order cX8_order 6 (some .int), Cond.methodLink RX8 217 yX8_twenty, Cond.instanceMethod yX8_twenty, Cond.selects RX8 yX8_twenty yX8_twenty, Cond.code yX8_twenty cX8_twenty 1 (some .int), Cond.methodLink RX8 220 yX8_readBy, Cond.instanceMethod yX8_readBy]
def wsL_law_r32 : List Cond := [Cond.selects RX8 yX8_readBy yX8_readBy, Cond.code yX8_readBy cX8_readBy 4 (some .int), Cond.methodLink RX8 223 yX8_nextLine, Cond.instanceMethod yX8_nextLine, Cond.selects RX8 yX8_nextLine yX8_nextLine, Cond.code yX8_nextLine cX8_nextLine 6 (some .boolean), Cond.methodLink RL 105 yX7_heard, Cond.instanceMethod yX7_heard, Cond.selects RX7 yX7_heard yX7_heard, Cond.code yX7_heard cX7_heard 2 (some .int), Cond.fieldLink RX7 225 "SoldStops$Page" "heards" "I", Cond.methodLink RX7 228 yX4_breathsStuckAt, Cond.instanceMethod yX4_breathsStuckAt, Cond.selects RX4 yX4_breathsStuckAt yX4_breathsStuckAt, Cond.code yX4_breathsStuckAt cX4_breathsStuckAt 4 (some .int), Cond.methodLink RX4 88 yX4_stuckAt, Cond.methodLink RX7 231 yX4_addHeard, Cond.instanceMethod yX4_addHeard, Cond.selects RX4 yX4_addHeard yX4_addHeard, Cond.code yX4_addHeard cX4_addHeard 2 none, Cond.methodLink RL 108 yX8_heard, Cond.instanceMethod yX8_heard, Cond.selects RX8 yX8_heard yX8_heard, Cond.code yX8_heard cX8_heard 4 (some .int)]
def wsL_law_r33 : List Cond := [Cond.methodLink RL 109 yX7_forget, Cond.instanceMethod yX7_forget, Cond.selects RX7 yX7_forget yX7_forget, Cond.code yX7_forget cX7_forget 2 (some .int), Cond.methodLink RL 112 yX8_forget, Cond.instanceMethod yX8_forget, Cond.selects RX8 yX8_forget yX8_forget, Cond.code yX8_forget cX8_forget 2 (some .int), Cond.methodLink RL 113 yX7_breaths, Cond.instanceMethod yX7_breaths, Cond.selects RX7 yX7_breaths yX7_breaths, Cond.code yX7_breaths cX7_breaths 1 (some .int), Cond.methodLink RX7 234 yX4_breathsHeard, Cond.instanceMethod yX4_breathsHeard, Cond.selects RX4 yX4_breathsHeard yX4_breathsHeard, Cond.code yX4_breathsHeard cX4_breathsHeard 3 (some .int), Cond.constant RX4 92 (2147483646), Cond.methodLink RL 116 yX8_breaths, Cond.instanceMethod yX8_breaths, Cond.selects RX8 yX8_breaths yX8_breaths, Cond.code yX8_breaths cX8_breaths 1 (some .int), Cond.methodLink RX8 227 yX8_breathSet, Cond.instanceMethod yX8_breathSet, Cond.selects RX8 yX8_breathSet yX8_breathSet]
def wsL_law_r34 : List Cond := [Cond.code yX8_breathSet cX8_breathSet 3 (some .int), Cond.constant RX8 226 (2147483646), Cond.methodLink RL 117 yX7_shorter, Cond.instanceMethod yX7_shorter, Cond.selects RX7 yX7_shorter yX7_shorter, Cond.code yX7_shorter cX7_shorter 6 (some .int), Cond.methodLink RX7 237 yX7_mostAlike, Cond.instanceMethod yX7_mostAlike, Cond.selects RX7 yX7_mostAlike yX7_mostAlike, Cond.code yX7_mostAlike cX7_mostAlike 7 (some .int), Cond.methodLink RX7 307 Lib.Math.max.name, Cond.methodLink RX7 301 yJ7_fill_53178, Cond.methodLink RL 120 yX8_shorter, Cond.instanceMethod yX8_shorter, Cond.selects RX8 yX8_shorter yX8_shorter, Cond.code yX8_shorter cX8_shorter 6 (some .int), Cond.methodLink RX8 230 yX8_alike, Cond.instanceMethod yX8_alike, Cond.selects RX8 yX8_alike yX8_alike, Cond.code yX8_alike cX8_alike 6 (some .int), Cond.methodLink RL 121 yX7_bid, Cond.instanceMethod yX7_bid, Cond.selects RX7 yX7_bid yX7_bid, Cond.code yX7_bid cX7_bid 14 (some .int)]
def wsL_law_r35 : List Cond := [Cond.methodLink RX7 240 yX7_isBest, Cond.static yX7_isBest, Cond.code yX7_isBest cX7_isBest 7 (some .boolean), Cond.methodLink RX7 310 yX7_gain, Cond.static yX7_gain, Cond.code yX7_gain cX7_gain 4 (some .int), Cond.methodLink RL 125 yX8_bid, Cond.instanceMethod yX8_bid, Cond.selects RX8 yX8_bid yX8_bid, Cond.code yX8_bid cX8_bid 13 (some .int), Cond.methodLink RX8 237 yX8_rests, Cond.static yX8_rests, Cond.code yX8_rests cX8_rests 7 (some .boolean), Cond.methodLink RX8 233 yX8_gain, Cond.static yX8_gain, Cond.code yX8_gain cX8_gain 4 (some .int), Cond.methodLink RL 126 yX7_odds, Cond.instanceMethod yX7_odds, Cond.selects RX7 yX7_odds yX7_odds, Cond.code yX7_odds cX7_odds 2 (some .int), Cond.methodLink RX7 244 yX0_reckon, Cond.instanceMethod yX0_reckon, Cond.selects RX0 yX0_reckon yX0_reckon, Cond.code yX0_reckon cX0_reckon 8 none]
def wsL_law_r36 : List Cond := [Cond.fieldLink RX0 31 "SoldStops$Page" "breath" "I", Cond.fieldLink RX0 37 "SoldStops$Page" "words" "I", Cond.fieldLink RX0 40 "SoldStops$Page" "marks" "LSoldStops$Marks;", Cond.fieldLink RX0 44 "SoldStops$Marks" "kinds" "[I", Cond.constantLong RX0 54 (10), Cond.methodLink RX0 25 yJ7_fill_d0a16, Cond.static yJ7_fill_d0a16, Cond.code yJ7_fill_d0a16 cJ7_fill_d0a16 5 none, Cond.methodLink RX0 50 yX0_step, Cond.instanceMethod yX0_step, Cond.selects RX0 yX0_step yX0_step, Cond.code yX0_step cX0_step 8 none, Cond.fieldLink RX0 60 "SoldStops$Page" "lengths" "[I", Cond.methodLink RX0 69 arraycopyName, Cond.methodLink RX0 63 yX1_breathBehind, Cond.methodLink RX0 56 yX0_setLowest, Cond.instanceMethod yX0_setLowest, Cond.selects RX0 yX0_setLowest yX0_setLowest, Cond.code yX0_setLowest cX0_setLowest 12 none, Cond.methodLink RL 129 yX8_odds, Cond.instanceMethod yX8_odds, Cond.selects RX8 yX8_odds yX8_odds, Cond.code yX8_odds cX8_odds 9 (some .int), Cond.constantLong RX8 244 (10)]
def wsL_law_r37 : List Cond := [Cond.methodLink RX8 246 yX8_lay, Cond.instanceMethod yX8_lay, Cond.selects RX8 yX8_lay yX8_lay, Cond.code yX8_lay cX8_lay 11 none, Cond.fieldLink RX8 241 "SoldStopsModel" "above" "J", Cond.methodLink RL 130 yX7_drawn, Cond.instanceMethod yX7_drawn, Cond.selects RX7 yX7_drawn yX7_drawn, Cond.code yX7_drawn cX7_drawn 10 (some .int), Cond.constant RX7 248 (999999), Cond.constantLong RX7 249 (1103515245), Cond.constantLong RX7 251 (12345), Cond.constantLong RX7 253 (2147483648), Cond.constantLong RX7 255 (65536), Cond.constantLong RX7 257 (9), Cond.methodLink RX7 259 yX4_leftBehind, Cond.methodLink RL 133 yX8_drawn, Cond.instanceMethod yX8_drawn, Cond.selects RX8 yX8_drawn yX8_drawn, Cond.code yX8_drawn cX8_drawn 11 (some .int), Cond.constant RX8 250 (999999), Cond.constantLong RX8 251 (1103515245), Cond.constantLong RX8 253 (12345), Cond.constantLong RX8 255 (2147483648)]
def wsL_law_r38 : List Cond := [Cond.constantLong RX8 257 (65536), Cond.constantLong RX8 259 (9), Cond.methodLink RL 134 yX7_part, Cond.instanceMethod yX7_part, Cond.selects RX7 yX7_part yX7_part, Cond.code yX7_part cX7_part 2 (some .long), Cond.fieldLink RX7 263 "SoldStops$Chance" "above" "J", Cond.fieldLink RX7 267 "SoldStops$Chance" "below" "J", Cond.methodLink RL 138 yX8_part, Cond.instanceMethod yX8_part, Cond.selects RX8 yX8_part yX8_part, Cond.code yX8_part cX8_part 2 (some .long), Cond.methodLink RL 139 yX7_image, Cond.instanceMethod yX7_image, Cond.selects RX7 yX7_image yX7_image, Cond.code yX7_image cX7_image 2 (some .int), Cond.methodLink RL 142 yX8_image, Cond.instanceMethod yX8_image, Cond.selects RX8 yX8_image yX8_image, Cond.code yX8_image cX8_image 4 (some .int), Cond.methodLink RL 143 yX7_from, Cond.instanceMethod yX7_from, Cond.selects RX7 yX7_from yX7_from, Cond.code yX7_from cX7_from 2 (some .int)]
def wsL_law_r39 : List Cond := [Cond.methodLink RL 146 yX8_from, Cond.instanceMethod yX8_from, Cond.selects RX8 yX8_from yX8_from, Cond.code yX8_from cX8_from 4 (some .int), Cond.methodLink RL 147 yX7_status, Cond.instanceMethod yX7_status, Cond.selects RX7 yX7_status yX7_status, Cond.code yX7_status cX7_status 2 (some .int), Cond.methodLink RL 150 yX8_status, Cond.instanceMethod yX8_status, Cond.selects RX8 yX8_status yX8_status, Cond.code yX8_status cX8_status 2 (some .int), Cond.methodLink RL 151 yX7_count, Cond.instanceMethod yX7_count, Cond.selects RX7 yX7_count yX7_count, Cond.code yX7_count cX7_count 2 (some .int), Cond.methodLink RX7 279 yX7_countOf, Cond.instanceMethod yX7_countOf, Cond.selects RX7 yX7_countOf yX7_countOf, Cond.code yX7_countOf cX7_countOf 2 (some .int), Cond.methodLink RX7 289 yX4_howManyMarks, Cond.instanceMethod yX4_howManyMarks, Cond.selects RX4 yX4_howManyMarks yX4_howManyMarks, Cond.code yX4_howManyMarks cX4_howManyMarks 3 (some .int)]
def wsL_law_r40 : List Cond := [Cond.methodLink RL 154 yX8_count, Cond.instanceMethod yX8_count, Cond.selects RX8 yX8_count yX8_count, Cond.code yX8_count cX8_count 2 (some .int), Cond.methodLink RX8 261 yX8_countOf, Cond.instanceMethod yX8_countOf, Cond.selects RX8 yX8_countOf yX8_countOf, Cond.code yX8_countOf cX8_countOf 4 (some .int), Cond.methodLink RL 155 yX7_digest, Cond.instanceMethod yX7_digest, Cond.selects RX7 yX7_digest yX7_digest, Cond.code yX7_digest cX7_digest 4 (some .long), Cond.constantLong RX7 282 (1063), Cond.constantLong RX7 284 (31), Cond.fieldLink RX7 286 "SoldStops$Page" "heard" "[I", Cond.methodLink RL 159 yX8_digest, Cond.instanceMethod yX8_digest, Cond.selects RX8 yX8_digest yX8_digest, Cond.code yX8_digest cX8_digest 2 (some .long), Cond.constantLong RX8 269 (1063), Cond.fieldLink RX8 266 "SoldStopsModel" "h0" "J", Cond.methodLink RX8 271 yX8_mix, Cond.instanceMethod yX8_mix, Cond.selects RX8 yX8_mix yX8_mix]
def wsL_law_r41 : List Cond := [Cond.code yX8_mix cX8_mix 3 none, Cond.constantLong RX8 264 (31)]
def wsL_law : List Cond := (wsL_law_r1 ++ (wsL_law_r2 ++ (wsL_law_r3 ++ (wsL_law_r4 ++ (wsL_law_r5 ++ (wsL_law_r6 ++ (wsL_law_r7 ++ (wsL_law_r8 ++ (wsL_law_r9 ++ (wsL_law_r10 ++ (wsL_law_r11 ++ (wsL_law_r12 ++ (wsL_law_r13 ++ (wsL_law_r14 ++ (wsL_law_r15 ++ (wsL_law_r16 ++ (wsL_law_r17 ++ (wsL_law_r18 ++ (wsL_law_r19 ++ (wsL_law_r20 ++ (wsL_law_r21 ++ (wsL_law_r22 ++ (wsL_law_r23 ++ (wsL_law_r24 ++ (wsL_law_r25 ++ (wsL_law_r26 ++ (wsL_law_r27 ++ (wsL_law_r28 ++ (wsL_law_r29 ++ (wsL_law_r30 ++ (wsL_law_r31 ++ (wsL_law_r32 ++ (wsL_law_r33 ++ (wsL_law_r34 ++ (wsL_law_r35 ++ (wsL_law_r36 ++ (wsL_law_r37 ++ (wsL_law_r38 ++ (wsL_law_r39 ++ (wsL_law_r40 ++ wsL_law_r41)))))))))))))))))))))))))))))))))))))))) ++ wsX70 ++ wsX80 ++ wsX40 ++ wsX60 ++ wsX50 ++ wsX30 ++ wsX00 ++ wsX20 ++ ([] : List Cond)
abbrev vwCl : List vw_C := [(RX0, TX0, 4), (RX2, TX2, 4), (RX3, TX3, 4), (RX4, TX4, 9), (RX5, TX5, 5), (RX6, TX6, 10), (RX7, TX7, 12), (RX8, TX8, 32)]
end
section
/-! THE MEMORY: one state of all objects of a side (side 0: the class, side 1: the reference), by codes; see wip/gen/layout.py -/
abbrev ss_M : Type := (Nat → Nat → Int32) × (Nat → Nat → Nat → Int32) × (Nat → Int64) × (Nat → Nat → Int64) × (Nat → Nat → Nat)
def sG (σ : ss_M) (f o : Nat) : Int32 := σ.1 f o
def sA (σ : ss_M) (c o : Nat) : Nat → Int32 := σ.2.1 c o
def sL (σ : ss_M) (f : Nat) : Int64 := σ.2.2.1 f
def sB (σ : ss_M) (c : Nat) : Nat → Int64 := σ.2.2.2.1 c
def sR (σ : ss_M) (p : Nat) : Nat → Nat := σ.2.2.2.2 p
def sGu (σ : ss_M) (f o : Nat) (v : Int32) : ss_M := (fun f' o' => if f' = f ∧ o' = o then v else σ.1 f' o', σ.2)
def sAu (σ : ss_M) (c o : Nat) (v : Nat → Int32) : ss_M := (σ.1, (fun c' o' => if c' = c ∧ o' = o then v else σ.2.1 c' o'), σ.2.2)
def sLu (σ : ss_M) (f : Nat) (v : Int64) : ss_M := (σ.1, σ.2.1, (fun f' => if f' = f then v else σ.2.2.1 f'), σ.2.2.2)
def sBu (σ : ss_M) (c : Nat) (v : Nat → Int64) : ss_M := (σ.1, σ.2.1, σ.2.2.1, (fun c' => if c' = c then v else σ.2.2.2.1 c'), σ.2.2.2.2)
def sRu (σ : ss_M) (p : Nat) (v : Nat → Nat) : ss_M := (σ.1, σ.2.1, σ.2.2.1, σ.2.2.2.1, (fun p' => if p' = p then v else σ.2.2.2.2 p'))
def sUp (f : Nat → Nat) (i v : Nat) : Nat → Nat := fun j => if j = i then v else f j
theorem sG_G (σ : ss_M) (f o : Nat) (v : Int32) (f' o' : Nat) : sG (sGu σ f o v) f' o' = if f' = f ∧ o' = o then v else sG σ f' o' := rfl
theorem sG_A (σ : ss_M) (c o : Nat) (v : Nat → Int32) (f' o' : Nat) : sG (sAu σ c o v) f' o' = sG σ f' o' := rfl
theorem sG_L (σ : ss_M) (f : Nat) (v : Int64) (f' o' : Nat) : sG (sLu σ f v) f' o' = sG σ f' o' := rfl
theorem sG_B (σ : ss_M) (c : Nat) (v : Nat → Int64) (f' o' : Nat) : sG (sBu σ c v) f' o' = sG σ f' o' := rfl
theorem sG_R (σ : ss_M) (p : Nat) (v : Nat → Nat) (f' o' : Nat) : sG (sRu σ p v) f' o' = sG σ f' o' := rfl
theorem sA_G (σ : ss_M) (f o : Nat) (v : Int32) (c' o' : Nat) : sA (sGu σ f o v) c' o' = sA σ c' o' := rfl
theorem sA_A (σ : ss_M) (c o : Nat) (v : Nat → Int32) (c' o' : Nat) : sA (sAu σ c o v) c' o' = if c' = c ∧ o' = o then v else sA σ c' o' := rfl
theorem sA_L (σ : ss_M) (f : Nat) (v : Int64) (c' o' : Nat) : sA (sLu σ f v) c' o' = sA σ c' o' := rfl
theorem sA_B (σ : ss_M) (c : Nat) (v : Nat → Int64) (c' o' : Nat) : sA (sBu σ c v) c' o' = sA σ c' o' := rfl
theorem sA_R (σ : ss_M) (p : Nat) (v : Nat → Nat) (c' o' : Nat) : sA (sRu σ p v) c' o' = sA σ c' o' := rfl
theorem sL_G (σ : ss_M) (f o : Nat) (v : Int32) (c' : Nat) : sL (sGu σ f o v) c' = sL σ c' := rfl
theorem sL_A (σ : ss_M) (c o : Nat) (v : Nat → Int32) (c' : Nat) : sL (sAu σ c o v) c' = sL σ c' := rfl
theorem sL_L (σ : ss_M) (f : Nat) (v : Int64) (c' : Nat) : sL (sLu σ f v) c' = if c' = f then v else sL σ c' := rfl
theorem sL_B (σ : ss_M) (c : Nat) (v : Nat → Int64) (c' : Nat) : sL (sBu σ c v) c' = sL σ c' := rfl
theorem sL_R (σ : ss_M) (p : Nat) (v : Nat → Nat) (c' : Nat) : sL (sRu σ p v) c' = sL σ c' := rfl
theorem sB_G (σ : ss_M) (f o : Nat) (v : Int32) (c' : Nat) : sB (sGu σ f o v) c' = sB σ c' := rfl
theorem sB_A (σ : ss_M) (c o : Nat) (v : Nat → Int32) (c' : Nat) : sB (sAu σ c o v) c' = sB σ c' := rfl
theorem sB_L (σ : ss_M) (f : Nat) (v : Int64) (c' : Nat) : sB (sLu σ f v) c' = sB σ c' := rfl
theorem sB_B (σ : ss_M) (c : Nat) (v : Nat → Int64) (c' : Nat) : sB (sBu σ c v) c' = if c' = c then v else sB σ c' := rfl
theorem sB_R (σ : ss_M) (p : Nat) (v : Nat → Nat) (c' : Nat) : sB (sRu σ p v) c' = sB σ c' := rfl
theorem sR_G (σ : ss_M) (f o : Nat) (v : Int32) (c' : Nat) : sR (sGu σ f o v) c' = sR σ c' := rfl
theorem sR_A (σ : ss_M) (c o : Nat) (v : Nat → Int32) (c' : Nat) : sR (sAu σ c o v) c' = sR σ c' := rfl
theorem sR_L (σ : ss_M) (f : Nat) (v : Int64) (c' : Nat) : sR (sLu σ f v) c' = sR σ c' := rfl
theorem sR_B (σ : ss_M) (c : Nat) (v : Nat → Int64) (c' : Nat) : sR (sBu σ c v) c' = sR σ c' := rfl
theorem sR_R (σ : ss_M) (p : Nat) (v : Nat → Nat) (c' : Nat) : sR (sRu σ p v) c' = if c' = p then v else sR σ c' := rfl
/-- an index within, as a test -/
def gd (i : Int32) (n : Nat) : Bool := !(decide (i < 0)) && decide (i.toNatClampNeg < n)
theorem gd_in {i : Int32} {n : Nat} (h : gd i n = true) : vp_in i n := by
  unfold gd at h
  simp only [Bool.and_eq_true, Bool.not_eq_true', decide_eq_false_iff_not, decide_eq_true_eq] at h
  exact fun q => q.elim h.1 (fun q => absurd h.2 (Nat.not_lt.mpr q))
def gdc (sp dp n : Int32) (n0 n1 : Nat) : Bool := !(decide (sp < 0)) && !(decide (dp < 0)) && !(decide (n < 0)) && decide (sp.toNatClampNeg + n.toNatClampNeg ≤ n0) && decide (dp.toNatClampNeg + n.toNatClampNeg ≤ n1)
theorem gdc_in {sp dp n : Int32} {n0 n1 : Nat} (h : gdc sp dp n n0 n1 = true) : ¬ sp < 0 ∧ ¬ dp < 0 ∧ ¬ n < 0 ∧ sp.toNatClampNeg + n.toNatClampNeg ≤ n0 ∧ dp.toNatClampNeg + n.toNatClampNeg ≤ n1 := by
  unfold gdc at h
  simp only [Bool.and_eq_true, Bool.not_eq_true', decide_eq_false_iff_not, decide_eq_true_eq] at h
  exact ⟨h.1.1.1.1, h.1.1.1.2, h.1.1.2, h.1.2, h.2⟩
theorem ss_if {α : Type} {c : Prop} {x : Decidable c} {a : Option α} {o : α} (h : (if c then a else none) = some o) : c ∧ a = some o := by
  by_cases q : c
  · rw [if_pos q] at h; exact ⟨q, h⟩
  · rw [if_neg q] at h; cases h
theorem ss_bind {α β : Type} {a : Option α} {k : α → Option β} {o : β} (h : a.bind k = some o) : ∃ x, a = some x ∧ k x = some o := by
  cases a with
  | none => cases h
  | some x => exact ⟨x, rfl, h⟩
def ss_bd {α β : Type} (a : Option (α × ss_M)) (k : α → ss_M → Option β) : Option β := match a with
  | none => none
  | some z => k z.1 z.2
theorem ss_bd_some {α β : Type} {a : Option (α × ss_M)} {k : α → ss_M → Option β} {o : β} (h : ss_bd a k = some o) : ∃ r σ, a = some (r, σ) ∧ k r σ = some o := by
  cases a with
  | none => cases h
  | some z => exact ⟨z.1, z.2, rfl, h⟩
theorem ss_bd_e {α β : Type} (r : α) (σ : ss_M) (k : α → ss_M → Option β) : ss_bd (some (r, σ)) k = k r σ := rfl
def ss_let {β : Type} (x : ss_M) (k : ss_M → Option β) : Option β := k x
theorem ss_let_some {β : Type} {x : ss_M} {k : ss_M → Option β} {o : β} (h : ss_let x k = some o) : ∃ y, y = x ∧ k y = some o := ⟨x, rfl, h⟩
theorem gd_lt {i : Int32} {n : Nat} (h : gd i n = true) : i.toNatClampNeg < n := by
  unfold gd at h
  simp only [Bool.and_eq_true, decide_eq_true_eq] at h
  exact h.2
theorem gd_lti {i : Int32} {n : Nat} {k : Int32} (h : gd i n = true) (hk : (n : Int) ≤ k.toInt) : i < k := by
  obtain ⟨h1, h2⟩ := vp_in_iff.mp (gd_in h)
  exact Int32.lt_iff_toInt_lt.mpr (by omega)
def FU : Nat := 10000
def alen (c : Nat) : Nat := match c with
  | 0 => 12
  | 1 => 12
  | 2 => 7
  | 3 => 7
  | 4 => 12
  | 5 => 6
  | 6 => 31
  | 7 => 31
  | 8 => 31
  | 9 => 31
  | 10 => 31
  | 11 => 150
  | 12 => 150
  | 13 => 150
  | 14 => 150
  | 15 => 13
  | 16 => 3
  | 17 => 12
  | 18 => 12
  | 19 => 12
  | 20 => 6
  | 21 => 150
  | 22 => 225
  | 23 => 208
  | 24 => 403
  | 25 => 12
  | 26 => 31
  | 27 => 31
  | 28 => 7
  | 29 => 7
  | 30 => 13
  | 31 => 516
  | _ => 0
def rlen (c : Nat) : Nat := match c with
  | 0 => 8
  | 1 => 2
  | 2 => 13
  | 3 => 13
  | 4 => 12
  | _ => 0
/-- how many cells there are of a kind: side w; t 0 objects, 1 int rows, 2 boolean rows, 3 long rows, 4 rows of references -/
def cn (w t c : Nat) : Nat := if w = 0 then (match t with
  | 0 => [1, 36, 1, 4, 1, 1, 1].getD c 0
  | 1 => [36, 36, 1, 1, 4, 4, 13, 13, 12, 1, 1, 1, 1, 1, 1, 1].getD c 0
  | 2 => [1, 1].getD c 0
  | 3 => [1, 1].getD c 0
  | 4 => [4, 1, 1, 1, 1].getD c 0
  | _ => 0) else (match t with
  | 0 => [0, 0, 0, 0, 0, 0, 0, 1].getD c 0
  | 1 => [0, 0, 0, 0, 0, 0, 0, 0, 0, 0, 0, 0, 0, 0, 0, 0, 1, 1, 1, 1, 1, 1, 1, 1, 1, 1, 1, 1, 1, 1, 1, 1].getD c 0
  | 3 => [0, 0, 1, 1].getD c 0
  | _ => 0)
def zlen (c : Nat) : Nat := match c with
  | 0 => 7
  | 1 => 2
  | _ => 0
abbrev ss_K : Type := Nat × Nat × Nat
def kS (w : Nat) : List ss_K := (List.range 5).flatMap fun t => (List.range 34).flatMap fun c => (List.range (cn w t c)).map fun o => (t, c, o)
theorem kS_mem {w t c o : Nat} : (t, c, o) ∈ kS w ↔ t < 5 ∧ c < 34 ∧ o < cn w t c := by
  constructor
  · intro h
    obtain ⟨t', h1, h⟩ := List.mem_flatMap.mp h
    obtain ⟨c', h2, h⟩ := List.mem_flatMap.mp h
    obtain ⟨o', h3, h⟩ := List.mem_map.mp h
    cases h
    exact ⟨List.mem_range.mp h1, List.mem_range.mp h2, List.mem_range.mp h3⟩
  · intro h
    exact List.mem_flatMap.mpr ⟨t, List.mem_range.mpr h.1, List.mem_flatMap.mpr ⟨c, List.mem_range.mpr h.2.1, List.mem_map.mpr ⟨o, List.mem_range.mpr h.2.2, rfl⟩⟩⟩
theorem kS_in {w t c o : Nat} (h : o < cn w t c) (ht : t < 5 := by decide) (hc : c < 34 := by decide) : (t, c, o) ∈ kS w := kS_mem.mpr ⟨ht, hc, h⟩
set_option maxRecDepth 100000 in
theorem kS_nd0 : (kS 0).Nodup := by decide +kernel
set_option maxRecDepth 100000 in
theorem kS_nd1 : (kS 1).Nodup := by decide +kernel
abbrev ss_A : Type := Nat → Nat → Nat → Nat
abbrev ad (A : ss_A) (k : ss_K) : Nat := A k.1 k.2.1 k.2.2
def cO (A : ss_A) (σ : ss_M) (c o : Nat) : List Value := match c with
  | 0 => [.long (sL σ 0), .long (sL σ 1), .ref (A 3 0 0), .ref (A 3 1 0)]
  | 1 => [.int (sG σ 0 o), .int (sG σ 1 o), .ref (A 1 0 o), .ref (A 1 1 o)]
  | 2 => [.int (sG σ 2 o), .ref (A 1 2 0), .ref (A 1 3 0), .ref (A 2 0 0)]
  | 3 => [.int (sG σ 3 o), .int (sG σ 4 o), .int (sG σ 5 o), .int (sG σ 6 o), .int (sG σ 7 o), .ref (A 1 4 o), .ref (A 0 1 o), .ref (A 1 5 o), .ref (A 4 0 o)]
  | 4 => [.ref (A 4 2 0), .ref (A 4 3 0), .ref (A 4 4 0), .ref (A 1 9 0), .ref (A 1 10 0)]
  | 5 => [.int (sG σ 8 o), .int (sG σ 9 o), .ref (A 1 11 0), .ref (A 1 12 0), .ref (A 1 13 0), .ref (A 1 14 0), .int (sG σ 10 o), .int (sG σ 11 o), .int (sG σ 12 o), .int (sG σ 13 o)]
  | 6 => [.ref (A 0 3 0), .ref (A 0 3 1), .ref (A 4 1 0), .ref (A 2 1 0), .ref (A 0 5 0), .ref (A 0 4 0), .ref (A 0 2 0), .ref (A 0 0 0), .ref (A 1 15 0), .int (sG σ 14 o), .int (sG σ 15 o), .int (sG σ 16 o)]
  | 7 => [.ref (A 1 16 0), .int (sG σ 17 o), .int (sG σ 18 o), .int (sG σ 19 o), .int (sG σ 20 o), .int (sG σ 21 o), .ref (A 1 17 0), .ref (A 1 18 0), .ref (A 1 19 0), .int (sG σ 22 o), .ref (A 1 20 0), .ref (A 1 21 0), .int (sG σ 23 o), .int (sG σ 24 o), .int (sG σ 25 o), .int (sG σ 26 o), .ref (A 1 22 0), .ref (A 1 23 0), .int (sG σ 27 o), .ref (A 1 24 0), .ref (A 1 25 0), .ref (A 1 26 0), .ref (A 1 27 0), .ref (A 1 28 0), .ref (A 1 29 0), .ref (A 1 30 0), .long (sL σ 2), .long (sL σ 3), .ref (A 3 2 0), .ref (A 3 3 0), .ref (A 1 31 0), .long (sL σ 4)]
  | _ => []
def cR (Y : Nat → ClassId) (A : ss_A) (τ : (Nat → Nat → Nat → Int32) × (Nat → Int64) × (Nat → Nat → Int64) × (Nat → Nat → Nat)) (t c o : Nat) : ClassId × vp_A := match t with
  | 1 => (Y 0, alen c, .inl (τ.1 c o))
  | 2 => (Y 2, zlen c, .inl (τ.1 (c + 100) o))
  | 3 => (Y 1, 31, .inr (.inl (τ.2.2.1 c)))
  | _ => match c with
    | 0 => (Y 3, 8, .inr (.inr (.inr (.inr (fun i => some (A 0 1 (τ.2.2.2 o i)))))))
    | 1 => (Y 4, 2, .inr (.inr (.inr (.inr (fun i => some (A 0 3 (2 + i)))))))
    | 2 => (Y 5, 13, .inr (.inr (.inr (.inr (fun i => some (A 1 6 i))))))
    | 3 => (Y 5, 13, .inr (.inr (.inr (.inr (fun i => some (A 1 7 i))))))
    | _ => (Y 5, 12, .inr (.inr (.inr (.inr (fun i => some (A 1 8 i))))))
def cE (Y : Nat → ClassId) (A : ss_A) (σ : ss_M) (k : ss_K) : va_E := if k.1 = 0 then .inr (k.2.1, cO A σ k.2.1 k.2.2) else .inl (cR Y A σ.2 k.1 k.2.1 k.2.2)
theorem cE_o (Y : Nat → ClassId) (A : ss_A) (σ : ss_M) (c o : Nat) : cE Y A σ (0, c, o) = .inr (c, cO A σ c o) := if_pos rfl
theorem cE_r (Y : Nat → ClassId) (A : ss_A) (σ : ss_M) {t : Nat} (ht : t ≠ 0) (c o : Nat) : cE Y A σ (t, c, o) = .inl (cR Y A σ.2 t c o) := if_neg ht
def wsO (w : Nat) (Y : Nat → ClassId) (A : ss_A) (σ : ss_M) : va_W := (kS w).map fun k => (ad A k, cE Y A σ k)
abbrev tyL (Y : Nat → ClassId) : List (ClassId × FieldType) := [(Y 0, .int), (Y 1, .long), (Y 2, .boolean), (Y 3, .object "SoldStops$Marks"), (Y 4, .object "SoldStops$Page"), (Y 5, .array .int)]
def FA (w : Nat) (A : ss_A) : Nat → Prop := fun q => ∃ k ∈ kS w, q = ad A k
/-- the cells of a side have addresses of their own -/
def AD (w : Nat) (A : ss_A) : Prop := (kS w).Nodup ∧ ∀ k ∈ kS w, ∀ k' ∈ kS w, ad A k = ad A k' → k = k'
theorem ws_at {w : Nat} {Y : Nat → ClassId} {A : ss_A} (σ : ss_M) {k : ss_K} (hk : k ∈ kS w) : ∃ q0 : Nat, (kS w)[q0]? = some k ∧ (wsO w Y A σ)[q0]? = some (ad A k, cE Y A σ k) := by
  obtain ⟨q0, h⟩ := List.getElem?_of_mem hk
  exact ⟨q0, h, by simp [wsO, h]⟩
theorem ws_of {w : Nat} {Y : Nat → ClassId} {A : ss_A} {σ : ss_M} {i : Nat} {x : Nat × va_E} (h : (wsO w Y A σ)[i]? = some x) : ∃ k, (kS w)[i]? = some k ∧ k ∈ kS w ∧ x = (ad A k, cE Y A σ k) := by
  unfold wsO at h
  rw [List.getElem?_map] at h
  cases hk : (kS w)[i]? with
  | none => rw [hk] at h; cases h
  | some k => rw [hk] at h; cases h; exact ⟨k, rfl, List.mem_of_getElem? hk, rfl⟩
theorem ws_D {w : Nat} {A : ss_A} (h : AD w A) (Y : Nat → ClassId) (σ : ss_M) : va_D (FA w A) (wsO w Y A σ) := by
  refine ⟨fun i j p q hi hj he => ?_, fun k q hq => ?_⟩
  · obtain ⟨k1, g1, m1, rfl⟩ := ws_of hi
    obtain ⟨k2, g2, m2, rfl⟩ := ws_of hj
    have := h.2 k1 m1 k2 m2 he
    subst this
    exact (List.getElem?_inj (List.getElem?_eq_some_iff.mp g1).1 h.1).mp (g1.trans g2.symm)
  · obtain ⟨k1, g1, m1, rfl⟩ := ws_of hq
    exact ⟨k1, m1, rfl⟩
theorem ws_put {w : Nat} {Y : Nat → ClassId} {A : ss_A} {σ σ' : ss_M} {q0 : Nat} {k : ss_K} {e : va_E} (nd : (kS w).Nodup) (hq : (kS w)[q0]? = some k) (h1 : cE Y A σ' k = e) (h2 : ∀ j ∈ kS w, j ≠ k → cE Y A σ' j = cE Y A σ j) : (wsO w Y A σ).set q0 (ad A k, e) = wsO w Y A σ' := by
  have hl := (List.getElem?_eq_some_iff.mp hq).1
  apply List.ext_getElem?
  intro i
  by_cases hi : i = q0
  · subst hi
    rw [List.getElem?_set_self (by simpa [wsO] using hl)]
    simp [wsO, hq, h1]
  · rw [List.getElem?_set_ne (Ne.symm hi)]
    unfold wsO
    rw [List.getElem?_map, List.getElem?_map]
    cases hk : (kS w)[i]? with
    | none => rfl
    | some j =>
      have hj : j ≠ k := fun z => hi ((List.getElem?_inj (List.getElem?_eq_some_iff.mp hk).1 nd).mp (by rw [hk, hq, z]))
      simp [h2 j (List.mem_of_getElem? hk) hj]
abbrev lenW : List Nat := [4, 4, 4]
abbrev bytW : List (List Int32) := [[112, 97, 103, 101], [119, 111, 114, 100], [109, 97, 114, 107]]
/-- the String constants and statics that the class reads: they lie outside its own cells, and stay -/
def EX (w : Nat) (A : ss_A) (U : State) : Prop := w = 0 → vk_S 3 lenW bytW (A 5 0) (A 5 1) (FA 0 A) U U.heap ∧ vk_R RX6 64 "page" (A 5 0 0) U ∧ vk_R RX6 70 "word" (A 5 0 1) U ∧ vk_R RX6 72 "mark" (A 5 0 2) U ∧ va_Z "java/lang/String" "COMPACT_STRINGS" "Z" (.int 1) (FA 0 A) U U.heap ∧ ∃ v, va_Z "jdk/internal/util/Preconditions" "SIOOBE_FORMATTER" "Ljava/util/function/BiFunction;" (va_rf v) (FA 0 A) U U.heap
theorem EX.next {w : Nat} {A : ss_A} {s U : State} {locs : List Loc} (h : EX w A s) (hw : s.WarmedH U.vm) (hS : va_S (FA w A) s.heap U.heap locs) : EX w A U := by
  intro h0
  subst h0
  obtain ⟨h1, h2, h3, h4, h5, v, h6⟩ := h rfl
  exact ⟨(h1.kept hS.2.1).moved hw.alike, vk_R.warm hw h2, vk_R.warm hw h3, vk_R.warm hw h4, (h5.kept hS.2.1).moved hw.alike, v, (h6.kept hS.2.1).moved hw.alike⟩
/-- a side's world, at a heap -/
def sW (w : Nat) (D : va_G) (Y : Nat → ClassId) (A : ss_A) (σ : ss_M) (s : State) (H0 H : Heap) (locs : List Loc) : Prop := AD w A ∧ va_K D vwCl (tyL Y) s ∧ va_P D vwCl (wsO w Y A σ) H ∧ va_S (FA w A) H0 H locs ∧ EX w A s
/-- a side's world, in a state -/
def WB (w : Nat) (D : va_G) (Y : Nat → ClassId) (A : ss_A) (σ : ss_M) (U : State) : Prop := va_K D vwCl (tyL Y) U ∧ va_P D vwCl (wsO w Y A σ) U.heap ∧ EX w A U
abbrev Pc0 (w : Nat) (D : va_G) (Y : Nat → ClassId) (A : ss_A) (σ : ss_M) (av : List Value) : Array Value → State → Prop := va_Pc av (WB w D Y A σ)
abbrev Qi0 (w : Nat) (D : va_G) (Y : Nat → ClassId) (A : ss_A) (r : Int32) (σ' : ss_M) : Array Value → State → Outcome → State → Prop := va_Qi (fun (x : Int32) (u : ss_M) => x = r ∧ u = σ') (fun u t => WB w D Y A u t) (FA w A)
abbrev Ql0 (w : Nat) (D : va_G) (Y : Nat → ClassId) (A : ss_A) (r : Int64) (σ' : ss_M) : Array Value → State → Outcome → State → Prop := va_Ql (fun (x : Int64) (u : ss_M) => x = r ∧ u = σ') (fun u t => WB w D Y A u t) (FA w A)
abbrev Qv0 (w : Nat) (D : va_G) (Y : Nat → ClassId) (A : ss_A) (σ' : ss_M) : Array Value → State → Outcome → State → Prop := va_Qv (fun (u : ss_M) => u = σ') (fun u t => WB w D Y A u t) (FA w A)
theorem lt_obj (A : ss_A) {σ σ' : ss_M} (h1 : σ'.1 = σ.1) (h2 : σ'.2.2.1 = σ.2.2.1) (c o : Nat) : cO A σ' c o = cO A σ c o := by
  have e1 : ∀ f o, sG σ' f o = sG σ f o := fun f o => congrFun (congrFun h1 f) o
  have e2 : ∀ f, sL σ' f = sL σ f := fun f => congrFun h2 f
  unfold cO
  simp only [e1, e2]
/-- an int row of a side is put anew -/
theorem cg_A {w : Nat} {Y : Nat → ClassId} {A : ss_A} {σ : ss_M} {c o : Nat} (hk : (1, c, o) ∈ kS w) (v : Nat → Int32) : ∀ j ∈ kS w, j ≠ (1, c, o) → cE Y A (sAu σ c o v) j = cE Y A σ j := by
  intro j hj hne
  obtain ⟨t, c', o'⟩ := j
  have hc := (kS_mem.mp hk).2.1
  match t with
  | 0 => rw [cE_o, cE_o, lt_obj A (σ := σ) (σ' := sAu σ c o v) rfl rfl]
  | 1 =>
    rw [cE_r _ _ _ (by decide), cE_r _ _ _ (by decide)]
    have : ¬ (c' = c ∧ o' = o) := fun q => hne (by rw [q.1, q.2])
    simp [cR, sAu, this]
  | 2 =>
    rw [cE_r _ _ _ (by decide), cE_r _ _ _ (by decide)]
    have : ¬ (c' + 100 = c ∧ o' = o) := fun q => by omega
    simp [cR, sAu, this]
  | 3 => rfl
  | (n + 4) => rfl
theorem cg_Z {w : Nat} {Y : Nat → ClassId} {A : ss_A} {σ : ss_M} {c o : Nat} (v : Nat → Int32) : ∀ j ∈ kS w, j ≠ (2, c, o) → cE Y A (sAu σ (c + 100) o v) j = cE Y A σ j := by
  intro j hj hne
  obtain ⟨t, c', o'⟩ := j
  have hc' := (kS_mem.mp hj).2.1
  match t with
  | 0 => rw [cE_o, cE_o, lt_obj A (σ := σ) (σ' := sAu σ (c + 100) o v) rfl rfl]
  | 2 =>
    rw [cE_r _ _ _ (by decide), cE_r _ _ _ (by decide)]
    have : ¬ (c' = c ∧ o' = o) := fun q => hne (by rw [q.1, q.2])
    simp [cR, sAu, this]
  | 1 =>
    rw [cE_r _ _ _ (by decide), cE_r _ _ _ (by decide)]
    have : ¬ (c' = c + 100 ∧ o' = o) := fun q => by omega
    simp [cR, sAu, this]
  | 3 => rfl
  | (n + 4) => rfl
theorem cn3 {w c o : Nat} (h : o < cn w 3 c) : o = 0 := by
  have h1 : cn w 3 c ≤ 1 := by
    by_cases hw : w = 0
    · subst hw
      match c with
      | 0 => decide
      | 1 => decide
      | (n + 2) => exact Nat.zero_le _
    · unfold cn
      rw [if_neg hw]
      match c with
      | 0 => decide
      | 1 => decide
      | 2 => decide
      | 3 => decide
      | (n + 4) => exact Nat.zero_le _
  omega
theorem cg_L {w : Nat} {Y : Nat → ClassId} {A : ss_A} {σ : ss_M} {c : Nat} (v : Nat → Int64) : ∀ j ∈ kS w, j ≠ (3, c, 0) → cE Y A (sBu σ c v) j = cE Y A σ j := by
  intro j hj hne
  obtain ⟨t, c', o'⟩ := j
  have hc' := (kS_mem.mp hj).2.2
  match t with
  | 0 => rw [cE_o, cE_o, lt_obj A (σ := σ) (σ' := sBu σ c v) rfl rfl]
  | 1 => rfl
  | 2 => rfl
  | 3 =>
    have h0 := cn3 hc'
    rw [cE_r _ _ _ (by decide), cE_r _ _ _ (by decide)]
    have : ¬ c' = c := fun q => hne (by rw [q, h0])
    simp [cR, sBu, this]
  | (n + 4) => rfl
theorem cg_R {w : Nat} {Y : Nat → ClassId} {A : ss_A} {σ : ss_M} {p : Nat} (v : Nat → Nat) : ∀ j ∈ kS w, j ≠ (4, 0, p) → cE Y A (sRu σ p v) j = cE Y A σ j := by
  intro j hj hne
  obtain ⟨t, c', o'⟩ := j
  match t with
  | 0 => rw [cE_o, cE_o, lt_obj A (σ := σ) (σ' := sRu σ p v) rfl rfl]
  | 1 => rfl
  | 2 => rfl
  | 3 => rfl
  | (n + 4) =>
    rw [cE_r _ _ _ (by omega), cE_r _ _ _ (by omega)]
    by_cases h0 : c' = 0
    · subst h0
      by_cases hp : o' = p
      · subst hp
        have ht := (kS_mem.mp hj).1
        have : n = 0 := by omega
        subst this
        exact absurd rfl hne
      · simp [cR, sRu, hp]
    · match c', h0 with
      | 0, h0 => exact absurd rfl h0
      | 1, _ => cases n <;> rfl
      | 2, _ => cases n <;> rfl
      | 3, _ => cases n <;> rfl
      | (k + 4), _ => cases n <;> rfl
end
section
/-! rows of the machine over the memory -/
section SSR
variable {p : Program} {l : Launch} {e : Env} {R : Room} {s : State} {m : MethodId} {args : Array Value} {below : List Frame} {meth : Method} {c : Code} {H : Heap} {locs : List Loc} {cells slots : Nat} {Q : State → Prop}
variable {cc : ByteArray} {pc : Nat} {ls : Array Slot} {rest : List Value} {w : Nat} {D : va_G} {Y : Nat → ClassId} {A : ss_A} {σ : ss_M} {H0 : Heap} {own : String} {Ts : List Cond}
theorem rg (hx : p.tables.exec = Jvm.exec) (hb : c.code = cc) (hts : ∀ q ∈ Ts, q.before args s = true) (hown : s.vm.findClass own = some m.cls) (hW : sW w D Y A σ s H0 H locs) {ci o : Nat} (hk : (0, ci, o) ∈ kS w) {C : String} {T : u_T} {N : Nat} (hin : ∀ q ∈ u_ws C T N, q ∈ Ts) (hc : vwCl[ci]? = some (C, T, N)) (j : Nat) (hj : j < N) {index : Nat} (hlink : Cond.fieldLink own index (T j).1 (T j).2.1 (T j).2.2.1 ∈ Ts) {v : Value} (hv : (cO A σ ci o)[j]? = some v) (hdg : decode cc pc = .ok (.getfield index, 3))
    (kk : W p l e R s m args below meth c H locs cells slots Q (F0 m (pc + 3) ls (v :: rest))) : W p l e R s m args below meth c H locs cells slots Q (F0 m pc ls (.ref (A 0 ci o) :: rest)) := by
  obtain ⟨q0, -, hq⟩ := ws_at (Y := Y) (A := A) σ hk
  rw [cE_o] at hq
  exact va_get hx hb hts hin hown hW.2.1 hW.2.2.1 q0 hq hc j hj (hts _ hlink) (fun _ h => h) hv hdg kk
theorem rp (hx : p.tables.exec = Jvm.exec) (hb : c.code = cc) (hts : ∀ q ∈ Ts, q.before args s = true) (hown : s.vm.findClass own = some m.cls) (hW : sW w D Y A σ s H0 H locs) {ci o : Nat} (hk : (0, ci, o) ∈ kS w) {C : String} {T : u_T} {N : Nat} (hin : ∀ q ∈ u_ws C T N, q ∈ Ts) (ty0 : Nat → FieldType) (hty : ∀ k, k < N → parseFieldDescriptor (T k).2.2.1 = some (ty0 k)) (hnm : ∀ a, a < N → ∀ b, b < N → a ≠ b → (T a).2.1 ≠ (T b).2.1) (hc : vwCl[ci]? = some (C, T, N)) (j : Nat) (hj : j < N) {index : Nat} (hlink : Cond.fieldLink own index (T j).1 (T j).2.1 (T j).2.2.1 ∈ Ts) (hfin : (T j).2.2.2 = false) {ty : FieldType} {v : Value} (hd : parseFieldDescriptor (T j).2.2.1 = some ty) (hn : narrow ty v = v) (hfit : fits ty v = true) {σ' : ss_M} (hl : j < (cO A σ ci o).length) (h1 : cO A σ' ci o = (cO A σ ci o).set j v) (h2 : ∀ i ∈ kS w, i ≠ (0, ci, o) → cE Y A σ' i = cE Y A σ i) (hdg : decode cc pc = .ok (.putfield index, 3))
    (kk : ∀ (H1 : Heap) (locs1 : List Loc), sW w D Y A σ' s H0 H1 locs1 → W p l e R s m args below meth c H1 locs1 cells slots Q (F0 m (pc + 3) ls rest)) : W p l e R s m args below meth c H locs cells slots Q (F0 m pc ls (v :: .ref (A 0 ci o) :: rest)) := by
  obtain ⟨q0, hqk, hq⟩ := ws_at (Y := Y) (A := A) σ hk
  rw [cE_o] at hq
  refine va_put hx hb hts hin ty0 hty hnm hown hW.2.1 hW.2.2.1 (ws_D hW.1 Y σ) hW.2.2.2.1 q0 hq hc j hj (hts _ hlink) (fun _ h => h) hfin hd hn hfit hl hdg (fun H1 locs1 hP hD hS => kk H1 locs1 ⟨hW.1, hW.2.1, ?_, hS, hW.2.2.2.2⟩)
  rw [← ws_put (σ' := σ') (e := .inr (ci, (cO A σ ci o).set j v)) hW.1.1 hqk (by rw [cE_o, h1]) h2]
  exact hP
theorem cg_O {f ci o : Nat} {v : Int32} (hf : ∀ c' o', ¬ (c' = ci ∧ o' = o) → cO A (sGu σ f o v) c' o' = cO A σ c' o') : ∀ j ∈ kS w, j ≠ (0, ci, o) → cE Y A (sGu σ f o v) j = cE Y A σ j := by
  intro j _ hne
  obtain ⟨t, c', o'⟩ := j
  by_cases ht : t = 0
  · subst ht
    rw [cE_o, cE_o, hf c' o' (fun q => hne (by rw [q.1, q.2]))]
  · rw [cE_r _ _ _ ht, cE_r _ _ _ ht]
    rfl
theorem cg_J {f ci : Nat} {v : Int64} (hf : ∀ c' o', ¬ c' = ci → cO A (sLu σ f v) c' o' = cO A σ c' o') (h0 : ∀ o, (0, ci, o) ∈ kS w → o = 0) : ∀ j ∈ kS w, j ≠ (0, ci, 0) → cE Y A (sLu σ f v) j = cE Y A σ j := by
  intro j hj hne
  obtain ⟨t, c', o'⟩ := j
  by_cases ht : t = 0
  · subst ht
    rw [cE_o, cE_o, hf c' o' (fun q => by subst q; exact hne (by rw [h0 _ hj]))]
  · rw [cE_r _ _ _ ht, cE_r _ _ _ ht]
    rfl
theorem o1 {w ci o : Nat} (h : (0, ci, o) ∈ kS w) (hc : ci = 0 ∨ ci = 7) : o = 0 := by
  have h3 := (kS_mem.mp h).2.2
  have h1 : cn w 0 ci ≤ 1 := by
    by_cases hw : w = 0
    · subst hw
      rcases hc with rfl | rfl <;> decide
    · unfold cn
      rw [if_neg hw]
      rcases hc with rfl | rfl <;> decide
  omega
theorem gf_X0_above (hx : p.tables.exec = Jvm.exec) (hb : c.code = cc) (hts : ∀ q ∈ Ts, q.before args s = true) (hown : s.vm.findClass own = some m.cls) (hW : sW w D Y A σ s H0 H locs) (hk : (0, 0, 0) ∈ kS w) (hin : ∀ q ∈ wsX00, q ∈ Ts) {index : Nat} (hlink : Cond.fieldLink own index "SoldStops$Chance" "above" "J" ∈ Ts) (hdg : decode cc pc = .ok (.getfield index, 3)) (kk : W p l e R s m args below meth c H locs cells slots Q (F0 m (pc + 3) ls (.long (sL σ 0) :: rest))) : W p l e R s m args below meth c H locs cells slots Q (F0 m pc ls (.ref (A 0 0 0) :: rest)) := rg hx hb hts hown hW hk hin rfl 0 (by decide) hlink rfl hdg kk
theorem pf_X0_above (hx : p.tables.exec = Jvm.exec) (hb : c.code = cc) (hts : ∀ q ∈ Ts, q.before args s = true) (hown : s.vm.findClass own = some m.cls) (hW : sW w D Y A σ s H0 H locs) (hk : (0, 0, 0) ∈ kS w) (hin : ∀ q ∈ wsX00, q ∈ Ts) {index : Nat} (hlink : Cond.fieldLink own index "SoldStops$Chance" "above" "J" ∈ Ts) {v : Int64} (hdg : decode cc pc = .ok (.putfield index, 3)) (kk : ∀ (H1 : Heap) (locs1 : List Loc), sW w D Y A (sLu σ 0 v) s H0 H1 locs1 → W p l e R s m args below meth c H1 locs1 cells slots Q (F0 m (pc + 3) ls rest)) : W p l e R s m args below meth c H locs cells slots Q (F0 m pc ls (.long v :: .ref (A 0 0 0) :: rest)) :=
  rp (ty := .long) hx hb hts hown hW hk hin tyX0 tyX0_ok nmX0 rfl 0 (by decide) hlink rfl (by decide +kernel) rfl rfl (by simp [cO]) (by simp [cO, sL, sLu, sG]) (cg_J (fun c' o' => match c' with
  | 0 => fun h => absurd rfl h
  | 1 => fun h => rfl
  | 2 => fun h => rfl
  | 3 => fun h => rfl
  | 4 => fun h => rfl
  | 5 => fun h => rfl
  | 6 => fun h => rfl
  | 7 => fun h => rfl
  | (_ + 8) => fun _ => rfl) (fun o h => o1 h (by decide))) hdg kk
theorem gf_X0_below (hx : p.tables.exec = Jvm.exec) (hb : c.code = cc) (hts : ∀ q ∈ Ts, q.before args s = true) (hown : s.vm.findClass own = some m.cls) (hW : sW w D Y A σ s H0 H locs) (hk : (0, 0, 0) ∈ kS w) (hin : ∀ q ∈ wsX00, q ∈ Ts) {index : Nat} (hlink : Cond.fieldLink own index "SoldStops$Chance" "below" "J" ∈ Ts) (hdg : decode cc pc = .ok (.getfield index, 3)) (kk : W p l e R s m args below meth c H locs cells slots Q (F0 m (pc + 3) ls (.long (sL σ 1) :: rest))) : W p l e R s m args below meth c H locs cells slots Q (F0 m pc ls (.ref (A 0 0 0) :: rest)) := rg hx hb hts hown hW hk hin rfl 1 (by decide) hlink rfl hdg kk
theorem pf_X0_below (hx : p.tables.exec = Jvm.exec) (hb : c.code = cc) (hts : ∀ q ∈ Ts, q.before args s = true) (hown : s.vm.findClass own = some m.cls) (hW : sW w D Y A σ s H0 H locs) (hk : (0, 0, 0) ∈ kS w) (hin : ∀ q ∈ wsX00, q ∈ Ts) {index : Nat} (hlink : Cond.fieldLink own index "SoldStops$Chance" "below" "J" ∈ Ts) {v : Int64} (hdg : decode cc pc = .ok (.putfield index, 3)) (kk : ∀ (H1 : Heap) (locs1 : List Loc), sW w D Y A (sLu σ 1 v) s H0 H1 locs1 → W p l e R s m args below meth c H1 locs1 cells slots Q (F0 m (pc + 3) ls rest)) : W p l e R s m args below meth c H locs cells slots Q (F0 m pc ls (.long v :: .ref (A 0 0 0) :: rest)) :=
  rp (ty := .long) hx hb hts hown hW hk hin tyX0 tyX0_ok nmX0 rfl 1 (by decide) hlink rfl (by decide +kernel) rfl rfl (by simp [cO]) (by simp [cO, sL, sLu, sG]) (cg_J (fun c' o' => match c' with
  | 0 => fun h => absurd rfl h
  | 1 => fun h => rfl
  | 2 => fun h => rfl
  | 3 => fun h => rfl
  | 4 => fun h => rfl
  | 5 => fun h => rfl
  | 6 => fun h => rfl
  | 7 => fun h => rfl
  | (_ + 8) => fun _ => rfl) (fun o h => o1 h (by decide))) hdg kk
theorem gf_X0_now (hx : p.tables.exec = Jvm.exec) (hb : c.code = cc) (hts : ∀ q ∈ Ts, q.before args s = true) (hown : s.vm.findClass own = some m.cls) (hW : sW w D Y A σ s H0 H locs) (hk : (0, 0, 0) ∈ kS w) (hin : ∀ q ∈ wsX00, q ∈ Ts) {index : Nat} (hlink : Cond.fieldLink own index "SoldStops$Chance" "now" "[J" ∈ Ts) (hdg : decode cc pc = .ok (.getfield index, 3)) (kk : W p l e R s m args below meth c H locs cells slots Q (F0 m (pc + 3) ls (.ref (A 3 0 0) :: rest))) : W p l e R s m args below meth c H locs cells slots Q (F0 m pc ls (.ref (A 0 0 0) :: rest)) := rg hx hb hts hown hW hk hin rfl 2 (by decide) hlink rfl hdg kk
theorem gf_X0_then (hx : p.tables.exec = Jvm.exec) (hb : c.code = cc) (hts : ∀ q ∈ Ts, q.before args s = true) (hown : s.vm.findClass own = some m.cls) (hW : sW w D Y A σ s H0 H locs) (hk : (0, 0, 0) ∈ kS w) (hin : ∀ q ∈ wsX00, q ∈ Ts) {index : Nat} (hlink : Cond.fieldLink own index "SoldStops$Chance" "then" "[J" ∈ Ts) (hdg : decode cc pc = .ok (.getfield index, 3)) (kk : W p l e R s m args below meth c H locs cells slots Q (F0 m (pc + 3) ls (.ref (A 3 1 0) :: rest))) : W p l e R s m args below meth c H locs cells slots Q (F0 m pc ls (.ref (A 0 0 0) :: rest)) := rg hx hb hts hown hW hk hin rfl 3 (by decide) hlink rfl hdg kk
theorem gf_X2_purse (hx : p.tables.exec = Jvm.exec) (hb : c.code = cc) (hts : ∀ q ∈ Ts, q.before args s = true) (hown : s.vm.findClass own = some m.cls) (hW : sW w D Y A σ s H0 H locs) {o : Nat} (hk : (0, 1, o) ∈ kS w) (hin : ∀ q ∈ wsX20, q ∈ Ts) {index : Nat} (hlink : Cond.fieldLink own index "SoldStops$Marks" "purse" "I" ∈ Ts) (hdg : decode cc pc = .ok (.getfield index, 3)) (kk : W p l e R s m args below meth c H locs cells slots Q (F0 m (pc + 3) ls (.int (sG σ 0 o) :: rest))) : W p l e R s m args below meth c H locs cells slots Q (F0 m pc ls (.ref (A 0 1 o) :: rest)) := rg hx hb hts hown hW hk hin rfl 0 (by decide) hlink rfl hdg kk
theorem cgf_X2_purse {v : Int32} {o : Nat} (_h : o = o) : ∀ j ∈ kS w, j ≠ (0, 1, o) → cE Y A (sGu σ 0 o v) j = cE Y A σ j := cg_O (fun c' o' => match c' with
  | 0 => fun _ => rfl
  | 1 => fun h => by have h2 : ¬ o' = o := fun q => h ⟨rfl, q⟩; simp [cO, sG, sGu, sL, h2]
  | 2 => fun _ => rfl
  | 3 => fun _ => rfl
  | 4 => fun _ => rfl
  | 5 => fun _ => rfl
  | 6 => fun _ => rfl
  | 7 => fun _ => rfl
  | (_ + 8) => fun _ => rfl)
theorem pf_X2_purse (hx : p.tables.exec = Jvm.exec) (hb : c.code = cc) (hts : ∀ q ∈ Ts, q.before args s = true) (hown : s.vm.findClass own = some m.cls) (hW : sW w D Y A σ s H0 H locs) {o : Nat} (hk : (0, 1, o) ∈ kS w) (hin : ∀ q ∈ wsX20, q ∈ Ts) {index : Nat} (hlink : Cond.fieldLink own index "SoldStops$Marks" "purse" "I" ∈ Ts) {v : Int32} (hdg : decode cc pc = .ok (.putfield index, 3)) (kk : ∀ (H1 : Heap) (locs1 : List Loc), sW w D Y A (sGu σ 0 o v) s H0 H1 locs1 → W p l e R s m args below meth c H1 locs1 cells slots Q (F0 m (pc + 3) ls rest)) : W p l e R s m args below meth c H locs cells slots Q (F0 m pc ls (.int v :: .ref (A 0 1 o) :: rest)) :=
  rp (ty := .int) hx hb hts hown hW hk hin tyX2 tyX2_ok nmX2 rfl 0 (by decide) hlink rfl (by decide +kernel) rfl rfl (by simp [cO]) (by simp [cO, sG, sGu, sL]) (cgf_X2_purse rfl) hdg kk
theorem gf_X2_week (hx : p.tables.exec = Jvm.exec) (hb : c.code = cc) (hts : ∀ q ∈ Ts, q.before args s = true) (hown : s.vm.findClass own = some m.cls) (hW : sW w D Y A σ s H0 H locs) {o : Nat} (hk : (0, 1, o) ∈ kS w) (hin : ∀ q ∈ wsX20, q ∈ Ts) {index : Nat} (hlink : Cond.fieldLink own index "SoldStops$Marks" "week" "I" ∈ Ts) (hdg : decode cc pc = .ok (.getfield index, 3)) (kk : W p l e R s m args below meth c H locs cells slots Q (F0 m (pc + 3) ls (.int (sG σ 1 o) :: rest))) : W p l e R s m args below meth c H locs cells slots Q (F0 m pc ls (.ref (A 0 1 o) :: rest)) := rg hx hb hts hown hW hk hin rfl 1 (by decide) hlink rfl hdg kk
theorem cgf_X2_week {v : Int32} {o : Nat} (_h : o = o) : ∀ j ∈ kS w, j ≠ (0, 1, o) → cE Y A (sGu σ 1 o v) j = cE Y A σ j := cg_O (fun c' o' => match c' with
  | 0 => fun _ => rfl
  | 1 => fun h => by have h2 : ¬ o' = o := fun q => h ⟨rfl, q⟩; simp [cO, sG, sGu, sL, h2]
  | 2 => fun _ => rfl
  | 3 => fun _ => rfl
  | 4 => fun _ => rfl
  | 5 => fun _ => rfl
  | 6 => fun _ => rfl
  | 7 => fun _ => rfl
  | (_ + 8) => fun _ => rfl)
theorem pf_X2_week (hx : p.tables.exec = Jvm.exec) (hb : c.code = cc) (hts : ∀ q ∈ Ts, q.before args s = true) (hown : s.vm.findClass own = some m.cls) (hW : sW w D Y A σ s H0 H locs) {o : Nat} (hk : (0, 1, o) ∈ kS w) (hin : ∀ q ∈ wsX20, q ∈ Ts) {index : Nat} (hlink : Cond.fieldLink own index "SoldStops$Marks" "week" "I" ∈ Ts) {v : Int32} (hdg : decode cc pc = .ok (.putfield index, 3)) (kk : ∀ (H1 : Heap) (locs1 : List Loc), sW w D Y A (sGu σ 1 o v) s H0 H1 locs1 → W p l e R s m args below meth c H1 locs1 cells slots Q (F0 m (pc + 3) ls rest)) : W p l e R s m args below meth c H locs cells slots Q (F0 m pc ls (.int v :: .ref (A 0 1 o) :: rest)) :=
  rp (ty := .int) hx hb hts hown hW hk hin tyX2 tyX2_ok nmX2 rfl 1 (by decide) hlink rfl (by decide +kernel) rfl rfl (by simp [cO]) (by simp [cO, sG, sGu, sL]) (cgf_X2_week rfl) hdg kk
theorem gf_X2_kinds (hx : p.tables.exec = Jvm.exec) (hb : c.code = cc) (hts : ∀ q ∈ Ts, q.before args s = true) (hown : s.vm.findClass own = some m.cls) (hW : sW w D Y A σ s H0 H locs) {o : Nat} (hk : (0, 1, o) ∈ kS w) (hin : ∀ q ∈ wsX20, q ∈ Ts) {index : Nat} (hlink : Cond.fieldLink own index "SoldStops$Marks" "kinds" "[I" ∈ Ts) (hdg : decode cc pc = .ok (.getfield index, 3)) (kk : W p l e R s m args below meth c H locs cells slots Q (F0 m (pc + 3) ls (.ref (A 1 0 o) :: rest))) : W p l e R s m args below meth c H locs cells slots Q (F0 m pc ls (.ref (A 0 1 o) :: rest)) := rg hx hb hts hown hW hk hin rfl 2 (by decide) hlink rfl hdg kk
theorem gf_X2_reads (hx : p.tables.exec = Jvm.exec) (hb : c.code = cc) (hts : ∀ q ∈ Ts, q.before args s = true) (hown : s.vm.findClass own = some m.cls) (hW : sW w D Y A σ s H0 H locs) {o : Nat} (hk : (0, 1, o) ∈ kS w) (hin : ∀ q ∈ wsX20, q ∈ Ts) {index : Nat} (hlink : Cond.fieldLink own index "SoldStops$Marks" "reads" "[I" ∈ Ts) (hdg : decode cc pc = .ok (.getfield index, 3)) (kk : W p l e R s m args below meth c H locs cells slots Q (F0 m (pc + 3) ls (.ref (A 1 1 o) :: rest))) : W p l e R s m args below meth c H locs cells slots Q (F0 m pc ls (.ref (A 0 1 o) :: rest)) := rg hx hb hts hown hW hk hin rfl 3 (by decide) hlink rfl hdg kk
theorem gf_X3_most (hx : p.tables.exec = Jvm.exec) (hb : c.code = cc) (hts : ∀ q ∈ Ts, q.before args s = true) (hown : s.vm.findClass own = some m.cls) (hW : sW w D Y A σ s H0 H locs) (hk : (0, 2, 0) ∈ kS w) (hin : ∀ q ∈ wsX30, q ∈ Ts) {index : Nat} (hlink : Cond.fieldLink own index "SoldStops$Order" "most" "I" ∈ Ts) (hdg : decode cc pc = .ok (.getfield index, 3)) (kk : W p l e R s m args below meth c H locs cells slots Q (F0 m (pc + 3) ls (.int (sG σ 2 0) :: rest))) : W p l e R s m args below meth c H locs cells slots Q (F0 m pc ls (.ref (A 0 2 0) :: rest)) := rg hx hb hts hown hW hk hin rfl 0 (by decide) hlink rfl hdg kk
theorem cgf_X3_most {v : Int32} {o : Nat} (h0 : o = 0) : ∀ j ∈ kS w, j ≠ (0, 2, o) → cE Y A (sGu σ 2 o v) j = cE Y A σ j := cg_O (fun c' o' => match c' with
  | 0 => fun _ => rfl
  | 1 => fun _ => rfl
  | 2 => fun h => by have h2 : ¬ o' = o := fun q => h ⟨rfl, q⟩; simp [cO, sG, sGu, sL, h2]
  | 3 => fun _ => rfl
  | 4 => fun _ => rfl
  | 5 => fun _ => rfl
  | 6 => fun _ => rfl
  | 7 => fun _ => rfl
  | (_ + 8) => fun _ => rfl)
theorem pf_X3_most (hx : p.tables.exec = Jvm.exec) (hb : c.code = cc) (hts : ∀ q ∈ Ts, q.before args s = true) (hown : s.vm.findClass own = some m.cls) (hW : sW w D Y A σ s H0 H locs) (hk : (0, 2, 0) ∈ kS w) (hin : ∀ q ∈ wsX30, q ∈ Ts) {index : Nat} (hlink : Cond.fieldLink own index "SoldStops$Order" "most" "I" ∈ Ts) {v : Int32} (hdg : decode cc pc = .ok (.putfield index, 3)) (kk : ∀ (H1 : Heap) (locs1 : List Loc), sW w D Y A (sGu σ 2 0 v) s H0 H1 locs1 → W p l e R s m args below meth c H1 locs1 cells slots Q (F0 m (pc + 3) ls rest)) : W p l e R s m args below meth c H locs cells slots Q (F0 m pc ls (.int v :: .ref (A 0 2 0) :: rest)) :=
  rp (ty := .int) hx hb hts hown hW hk hin tyX3 tyX3_ok nmX3 rfl 0 (by decide) hlink rfl (by decide +kernel) rfl rfl (by simp [cO]) (by simp [cO, sG, sGu, sL]) (cgf_X3_most rfl) hdg kk
theorem gf_X3_best (hx : p.tables.exec = Jvm.exec) (hb : c.code = cc) (hts : ∀ q ∈ Ts, q.before args s = true) (hown : s.vm.findClass own = some m.cls) (hW : sW w D Y A σ s H0 H locs) (hk : (0, 2, 0) ∈ kS w) (hin : ∀ q ∈ wsX30, q ∈ Ts) {index : Nat} (hlink : Cond.fieldLink own index "SoldStops$Order" "best" "[I" ∈ Ts) (hdg : decode cc pc = .ok (.getfield index, 3)) (kk : W p l e R s m args below meth c H locs cells slots Q (F0 m (pc + 3) ls (.ref (A 1 2 0) :: rest))) : W p l e R s m args below meth c H locs cells slots Q (F0 m pc ls (.ref (A 0 2 0) :: rest)) := rg hx hb hts hown hW hk hin rfl 1 (by decide) hlink rfl hdg kk
theorem gf_X3_row (hx : p.tables.exec = Jvm.exec) (hb : c.code = cc) (hts : ∀ q ∈ Ts, q.before args s = true) (hown : s.vm.findClass own = some m.cls) (hW : sW w D Y A σ s H0 H locs) (hk : (0, 2, 0) ∈ kS w) (hin : ∀ q ∈ wsX30, q ∈ Ts) {index : Nat} (hlink : Cond.fieldLink own index "SoldStops$Order" "row" "[I" ∈ Ts) (hdg : decode cc pc = .ok (.getfield index, 3)) (kk : W p l e R s m args below meth c H locs cells slots Q (F0 m (pc + 3) ls (.ref (A 1 3 0) :: rest))) : W p l e R s m args below meth c H locs cells slots Q (F0 m pc ls (.ref (A 0 2 0) :: rest)) := rg hx hb hts hown hW hk hin rfl 2 (by decide) hlink rfl hdg kk
theorem gf_X3_used (hx : p.tables.exec = Jvm.exec) (hb : c.code = cc) (hts : ∀ q ∈ Ts, q.before args s = true) (hown : s.vm.findClass own = some m.cls) (hW : sW w D Y A σ s H0 H locs) (hk : (0, 2, 0) ∈ kS w) (hin : ∀ q ∈ wsX30, q ∈ Ts) {index : Nat} (hlink : Cond.fieldLink own index "SoldStops$Order" "used" "[Z" ∈ Ts) (hdg : decode cc pc = .ok (.getfield index, 3)) (kk : W p l e R s m args below meth c H locs cells slots Q (F0 m (pc + 3) ls (.ref (A 2 0 0) :: rest))) : W p l e R s m args below meth c H locs cells slots Q (F0 m pc ls (.ref (A 0 2 0) :: rest)) := rg hx hb hts hown hW hk hin rfl 3 (by decide) hlink rfl hdg kk
theorem gf_X4_breath (hx : p.tables.exec = Jvm.exec) (hb : c.code = cc) (hts : ∀ q ∈ Ts, q.before args s = true) (hown : s.vm.findClass own = some m.cls) (hW : sW w D Y A σ s H0 H locs) {o : Nat} (hk : (0, 3, o) ∈ kS w) (hin : ∀ q ∈ wsX40, q ∈ Ts) {index : Nat} (hlink : Cond.fieldLink own index "SoldStops$Page" "breath" "I" ∈ Ts) (hdg : decode cc pc = .ok (.getfield index, 3)) (kk : W p l e R s m args below meth c H locs cells slots Q (F0 m (pc + 3) ls (.int (sG σ 3 o) :: rest))) : W p l e R s m args below meth c H locs cells slots Q (F0 m pc ls (.ref (A 0 3 o) :: rest)) := rg hx hb hts hown hW hk hin rfl 0 (by decide) hlink rfl hdg kk
theorem cgf_X4_breath {v : Int32} {o : Nat} (_h : o = o) : ∀ j ∈ kS w, j ≠ (0, 3, o) → cE Y A (sGu σ 3 o v) j = cE Y A σ j := cg_O (fun c' o' => match c' with
  | 0 => fun _ => rfl
  | 1 => fun _ => rfl
  | 2 => fun _ => rfl
  | 3 => fun h => by have h2 : ¬ o' = o := fun q => h ⟨rfl, q⟩; simp [cO, sG, sGu, sL, h2]
  | 4 => fun _ => rfl
  | 5 => fun _ => rfl
  | 6 => fun _ => rfl
  | 7 => fun _ => rfl
  | (_ + 8) => fun _ => rfl)
theorem pf_X4_breath (hx : p.tables.exec = Jvm.exec) (hb : c.code = cc) (hts : ∀ q ∈ Ts, q.before args s = true) (hown : s.vm.findClass own = some m.cls) (hW : sW w D Y A σ s H0 H locs) {o : Nat} (hk : (0, 3, o) ∈ kS w) (hin : ∀ q ∈ wsX40, q ∈ Ts) {index : Nat} (hlink : Cond.fieldLink own index "SoldStops$Page" "breath" "I" ∈ Ts) {v : Int32} (hdg : decode cc pc = .ok (.putfield index, 3)) (kk : ∀ (H1 : Heap) (locs1 : List Loc), sW w D Y A (sGu σ 3 o v) s H0 H1 locs1 → W p l e R s m args below meth c H1 locs1 cells slots Q (F0 m (pc + 3) ls rest)) : W p l e R s m args below meth c H locs cells slots Q (F0 m pc ls (.int v :: .ref (A 0 3 o) :: rest)) :=
  rp (ty := .int) hx hb hts hown hW hk hin tyX4 tyX4_ok nmX4 rfl 0 (by decide) hlink rfl (by decide +kernel) rfl rfl (by simp [cO]) (by simp [cO, sG, sGu, sL]) (cgf_X4_breath rfl) hdg kk
theorem gf_X4_price (hx : p.tables.exec = Jvm.exec) (hb : c.code = cc) (hts : ∀ q ∈ Ts, q.before args s = true) (hown : s.vm.findClass own = some m.cls) (hW : sW w D Y A σ s H0 H locs) {o : Nat} (hk : (0, 3, o) ∈ kS w) (hin : ∀ q ∈ wsX40, q ∈ Ts) {index : Nat} (hlink : Cond.fieldLink own index "SoldStops$Page" "price" "I" ∈ Ts) (hdg : decode cc pc = .ok (.getfield index, 3)) (kk : W p l e R s m args below meth c H locs cells slots Q (F0 m (pc + 3) ls (.int (sG σ 4 o) :: rest))) : W p l e R s m args below meth c H locs cells slots Q (F0 m pc ls (.ref (A 0 3 o) :: rest)) := rg hx hb hts hown hW hk hin rfl 1 (by decide) hlink rfl hdg kk
theorem cgf_X4_price {v : Int32} {o : Nat} (_h : o = o) : ∀ j ∈ kS w, j ≠ (0, 3, o) → cE Y A (sGu σ 4 o v) j = cE Y A σ j := cg_O (fun c' o' => match c' with
  | 0 => fun _ => rfl
  | 1 => fun _ => rfl
  | 2 => fun _ => rfl
  | 3 => fun h => by have h2 : ¬ o' = o := fun q => h ⟨rfl, q⟩; simp [cO, sG, sGu, sL, h2]
  | 4 => fun _ => rfl
  | 5 => fun _ => rfl
  | 6 => fun _ => rfl
  | 7 => fun _ => rfl
  | (_ + 8) => fun _ => rfl)
theorem pf_X4_price (hx : p.tables.exec = Jvm.exec) (hb : c.code = cc) (hts : ∀ q ∈ Ts, q.before args s = true) (hown : s.vm.findClass own = some m.cls) (hW : sW w D Y A σ s H0 H locs) {o : Nat} (hk : (0, 3, o) ∈ kS w) (hin : ∀ q ∈ wsX40, q ∈ Ts) {index : Nat} (hlink : Cond.fieldLink own index "SoldStops$Page" "price" "I" ∈ Ts) {v : Int32} (hdg : decode cc pc = .ok (.putfield index, 3)) (kk : ∀ (H1 : Heap) (locs1 : List Loc), sW w D Y A (sGu σ 4 o v) s H0 H1 locs1 → W p l e R s m args below meth c H1 locs1 cells slots Q (F0 m (pc + 3) ls rest)) : W p l e R s m args below meth c H locs cells slots Q (F0 m pc ls (.int v :: .ref (A 0 3 o) :: rest)) :=
  rp (ty := .int) hx hb hts hown hW hk hin tyX4 tyX4_ok nmX4 rfl 1 (by decide) hlink rfl (by decide +kernel) rfl rfl (by simp [cO]) (by simp [cO, sG, sGu, sL]) (cgf_X4_price rfl) hdg kk
theorem gf_X4_words (hx : p.tables.exec = Jvm.exec) (hb : c.code = cc) (hts : ∀ q ∈ Ts, q.before args s = true) (hown : s.vm.findClass own = some m.cls) (hW : sW w D Y A σ s H0 H locs) {o : Nat} (hk : (0, 3, o) ∈ kS w) (hin : ∀ q ∈ wsX40, q ∈ Ts) {index : Nat} (hlink : Cond.fieldLink own index "SoldStops$Page" "words" "I" ∈ Ts) (hdg : decode cc pc = .ok (.getfield index, 3)) (kk : W p l e R s m args below meth c H locs cells slots Q (F0 m (pc + 3) ls (.int (sG σ 5 o) :: rest))) : W p l e R s m args below meth c H locs cells slots Q (F0 m pc ls (.ref (A 0 3 o) :: rest)) := rg hx hb hts hown hW hk hin rfl 2 (by decide) hlink rfl hdg kk
theorem cgf_X4_words {v : Int32} {o : Nat} (_h : o = o) : ∀ j ∈ kS w, j ≠ (0, 3, o) → cE Y A (sGu σ 5 o v) j = cE Y A σ j := cg_O (fun c' o' => match c' with
  | 0 => fun _ => rfl
  | 1 => fun _ => rfl
  | 2 => fun _ => rfl
  | 3 => fun h => by have h2 : ¬ o' = o := fun q => h ⟨rfl, q⟩; simp [cO, sG, sGu, sL, h2]
  | 4 => fun _ => rfl
  | 5 => fun _ => rfl
  | 6 => fun _ => rfl
  | 7 => fun _ => rfl
  | (_ + 8) => fun _ => rfl)
theorem pf_X4_words (hx : p.tables.exec = Jvm.exec) (hb : c.code = cc) (hts : ∀ q ∈ Ts, q.before args s = true) (hown : s.vm.findClass own = some m.cls) (hW : sW w D Y A σ s H0 H locs) {o : Nat} (hk : (0, 3, o) ∈ kS w) (hin : ∀ q ∈ wsX40, q ∈ Ts) {index : Nat} (hlink : Cond.fieldLink own index "SoldStops$Page" "words" "I" ∈ Ts) {v : Int32} (hdg : decode cc pc = .ok (.putfield index, 3)) (kk : ∀ (H1 : Heap) (locs1 : List Loc), sW w D Y A (sGu σ 5 o v) s H0 H1 locs1 → W p l e R s m args below meth c H1 locs1 cells slots Q (F0 m (pc + 3) ls rest)) : W p l e R s m args below meth c H locs cells slots Q (F0 m pc ls (.int v :: .ref (A 0 3 o) :: rest)) :=
  rp (ty := .int) hx hb hts hown hW hk hin tyX4 tyX4_ok nmX4 rfl 2 (by decide) hlink rfl (by decide +kernel) rfl rfl (by simp [cO]) (by simp [cO, sG, sGu, sL]) (cgf_X4_words rfl) hdg kk
theorem gf_X4_heards (hx : p.tables.exec = Jvm.exec) (hb : c.code = cc) (hts : ∀ q ∈ Ts, q.before args s = true) (hown : s.vm.findClass own = some m.cls) (hW : sW w D Y A σ s H0 H locs) {o : Nat} (hk : (0, 3, o) ∈ kS w) (hin : ∀ q ∈ wsX40, q ∈ Ts) {index : Nat} (hlink : Cond.fieldLink own index "SoldStops$Page" "heards" "I" ∈ Ts) (hdg : decode cc pc = .ok (.getfield index, 3)) (kk : W p l e R s m args below meth c H locs cells slots Q (F0 m (pc + 3) ls (.int (sG σ 6 o) :: rest))) : W p l e R s m args below meth c H locs cells slots Q (F0 m pc ls (.ref (A 0 3 o) :: rest)) := rg hx hb hts hown hW hk hin rfl 3 (by decide) hlink rfl hdg kk
theorem cgf_X4_heards {v : Int32} {o : Nat} (_h : o = o) : ∀ j ∈ kS w, j ≠ (0, 3, o) → cE Y A (sGu σ 6 o v) j = cE Y A σ j := cg_O (fun c' o' => match c' with
  | 0 => fun _ => rfl
  | 1 => fun _ => rfl
  | 2 => fun _ => rfl
  | 3 => fun h => by have h2 : ¬ o' = o := fun q => h ⟨rfl, q⟩; simp [cO, sG, sGu, sL, h2]
  | 4 => fun _ => rfl
  | 5 => fun _ => rfl
  | 6 => fun _ => rfl
  | 7 => fun _ => rfl
  | (_ + 8) => fun _ => rfl)
theorem pf_X4_heards (hx : p.tables.exec = Jvm.exec) (hb : c.code = cc) (hts : ∀ q ∈ Ts, q.before args s = true) (hown : s.vm.findClass own = some m.cls) (hW : sW w D Y A σ s H0 H locs) {o : Nat} (hk : (0, 3, o) ∈ kS w) (hin : ∀ q ∈ wsX40, q ∈ Ts) {index : Nat} (hlink : Cond.fieldLink own index "SoldStops$Page" "heards" "I" ∈ Ts) {v : Int32} (hdg : decode cc pc = .ok (.putfield index, 3)) (kk : ∀ (H1 : Heap) (locs1 : List Loc), sW w D Y A (sGu σ 6 o v) s H0 H1 locs1 → W p l e R s m args below meth c H1 locs1 cells slots Q (F0 m (pc + 3) ls rest)) : W p l e R s m args below meth c H locs cells slots Q (F0 m pc ls (.int v :: .ref (A 0 3 o) :: rest)) :=
  rp (ty := .int) hx hb hts hown hW hk hin tyX4 tyX4_ok nmX4 rfl 3 (by decide) hlink rfl (by decide +kernel) rfl rfl (by simp [cO]) (by simp [cO, sG, sGu, sL]) (cgf_X4_heards rfl) hdg kk
theorem gf_X4_pasts (hx : p.tables.exec = Jvm.exec) (hb : c.code = cc) (hts : ∀ q ∈ Ts, q.before args s = true) (hown : s.vm.findClass own = some m.cls) (hW : sW w D Y A σ s H0 H locs) {o : Nat} (hk : (0, 3, o) ∈ kS w) (hin : ∀ q ∈ wsX40, q ∈ Ts) {index : Nat} (hlink : Cond.fieldLink own index "SoldStops$Page" "pasts" "I" ∈ Ts) (hdg : decode cc pc = .ok (.getfield index, 3)) (kk : W p l e R s m args below meth c H locs cells slots Q (F0 m (pc + 3) ls (.int (sG σ 7 o) :: rest))) : W p l e R s m args below meth c H locs cells slots Q (F0 m pc ls (.ref (A 0 3 o) :: rest)) := rg hx hb hts hown hW hk hin rfl 4 (by decide) hlink rfl hdg kk
theorem cgf_X4_pasts {v : Int32} {o : Nat} (_h : o = o) : ∀ j ∈ kS w, j ≠ (0, 3, o) → cE Y A (sGu σ 7 o v) j = cE Y A σ j := cg_O (fun c' o' => match c' with
  | 0 => fun _ => rfl
  | 1 => fun _ => rfl
  | 2 => fun _ => rfl
  | 3 => fun h => by have h2 : ¬ o' = o := fun q => h ⟨rfl, q⟩; simp [cO, sG, sGu, sL, h2]
  | 4 => fun _ => rfl
  | 5 => fun _ => rfl
  | 6 => fun _ => rfl
  | 7 => fun _ => rfl
  | (_ + 8) => fun _ => rfl)
theorem pf_X4_pasts (hx : p.tables.exec = Jvm.exec) (hb : c.code = cc) (hts : ∀ q ∈ Ts, q.before args s = true) (hown : s.vm.findClass own = some m.cls) (hW : sW w D Y A σ s H0 H locs) {o : Nat} (hk : (0, 3, o) ∈ kS w) (hin : ∀ q ∈ wsX40, q ∈ Ts) {index : Nat} (hlink : Cond.fieldLink own index "SoldStops$Page" "pasts" "I" ∈ Ts) {v : Int32} (hdg : decode cc pc = .ok (.putfield index, 3)) (kk : ∀ (H1 : Heap) (locs1 : List Loc), sW w D Y A (sGu σ 7 o v) s H0 H1 locs1 → W p l e R s m args below meth c H1 locs1 cells slots Q (F0 m (pc + 3) ls rest)) : W p l e R s m args below meth c H locs cells slots Q (F0 m pc ls (.int v :: .ref (A 0 3 o) :: rest)) :=
  rp (ty := .int) hx hb hts hown hW hk hin tyX4 tyX4_ok nmX4 rfl 4 (by decide) hlink rfl (by decide +kernel) rfl rfl (by simp [cO]) (by simp [cO, sG, sGu, sL]) (cgf_X4_pasts rfl) hdg kk
theorem gf_X4_lengths (hx : p.tables.exec = Jvm.exec) (hb : c.code = cc) (hts : ∀ q ∈ Ts, q.before args s = true) (hown : s.vm.findClass own = some m.cls) (hW : sW w D Y A σ s H0 H locs) {o : Nat} (hk : (0, 3, o) ∈ kS w) (hin : ∀ q ∈ wsX40, q ∈ Ts) {index : Nat} (hlink : Cond.fieldLink own index "SoldStops$Page" "lengths" "[I" ∈ Ts) (hdg : decode cc pc = .ok (.getfield index, 3)) (kk : W p l e R s m args below meth c H locs cells slots Q (F0 m (pc + 3) ls (.ref (A 1 4 o) :: rest))) : W p l e R s m args below meth c H locs cells slots Q (F0 m pc ls (.ref (A 0 3 o) :: rest)) := rg hx hb hts hown hW hk hin rfl 5 (by decide) hlink rfl hdg kk
theorem gf_X4_marks (hx : p.tables.exec = Jvm.exec) (hb : c.code = cc) (hts : ∀ q ∈ Ts, q.before args s = true) (hown : s.vm.findClass own = some m.cls) (hW : sW w D Y A σ s H0 H locs) {o : Nat} (hk : (0, 3, o) ∈ kS w) (hin : ∀ q ∈ wsX40, q ∈ Ts) {index : Nat} (hlink : Cond.fieldLink own index "SoldStops$Page" "marks" "LSoldStops$Marks;" ∈ Ts) (hdg : decode cc pc = .ok (.getfield index, 3)) (kk : W p l e R s m args below meth c H locs cells slots Q (F0 m (pc + 3) ls (.ref (A 0 1 o) :: rest))) : W p l e R s m args below meth c H locs cells slots Q (F0 m pc ls (.ref (A 0 3 o) :: rest)) := rg hx hb hts hown hW hk hin rfl 6 (by decide) hlink rfl hdg kk
theorem gf_X4_heard (hx : p.tables.exec = Jvm.exec) (hb : c.code = cc) (hts : ∀ q ∈ Ts, q.before args s = true) (hown : s.vm.findClass own = some m.cls) (hW : sW w D Y A σ s H0 H locs) {o : Nat} (hk : (0, 3, o) ∈ kS w) (hin : ∀ q ∈ wsX40, q ∈ Ts) {index : Nat} (hlink : Cond.fieldLink own index "SoldStops$Page" "heard" "[I" ∈ Ts) (hdg : decode cc pc = .ok (.getfield index, 3)) (kk : W p l e R s m args below meth c H locs cells slots Q (F0 m (pc + 3) ls (.ref (A 1 5 o) :: rest))) : W p l e R s m args below meth c H locs cells slots Q (F0 m pc ls (.ref (A 0 3 o) :: rest)) := rg hx hb hts hown hW hk hin rfl 7 (by decide) hlink rfl hdg kk
theorem gf_X4_past (hx : p.tables.exec = Jvm.exec) (hb : c.code = cc) (hts : ∀ q ∈ Ts, q.before args s = true) (hown : s.vm.findClass own = some m.cls) (hW : sW w D Y A σ s H0 H locs) {o : Nat} (hk : (0, 3, o) ∈ kS w) (hin : ∀ q ∈ wsX40, q ∈ Ts) {index : Nat} (hlink : Cond.fieldLink own index "SoldStops$Page" "past" "[LSoldStops$Marks;" ∈ Ts) (hdg : decode cc pc = .ok (.getfield index, 3)) (kk : W p l e R s m args below meth c H locs cells slots Q (F0 m (pc + 3) ls (.ref (A 4 0 o) :: rest))) : W p l e R s m args below meth c H locs cells slots Q (F0 m pc ls (.ref (A 0 3 o) :: rest)) := rg hx hb hts hown hW hk hin rfl 8 (by decide) hlink rfl hdg kk
theorem gf_X5_costs (hx : p.tables.exec = Jvm.exec) (hb : c.code = cc) (hts : ∀ q ∈ Ts, q.before args s = true) (hown : s.vm.findClass own = some m.cls) (hW : sW w D Y A σ s H0 H locs) (hk : (0, 4, 0) ∈ kS w) (hin : ∀ q ∈ wsX50, q ∈ Ts) {index : Nat} (hlink : Cond.fieldLink own index "SoldStops$Plan" "costs" "[[I" ∈ Ts) (hdg : decode cc pc = .ok (.getfield index, 3)) (kk : W p l e R s m args below meth c H locs cells slots Q (F0 m (pc + 3) ls (.ref (A 4 2 0) :: rest))) : W p l e R s m args below meth c H locs cells slots Q (F0 m pc ls (.ref (A 0 4 0) :: rest)) := rg hx hb hts hown hW hk hin rfl 0 (by decide) hlink rfl hdg kk
theorem gf_X5_fewest (hx : p.tables.exec = Jvm.exec) (hb : c.code = cc) (hts : ∀ q ∈ Ts, q.before args s = true) (hown : s.vm.findClass own = some m.cls) (hW : sW w D Y A σ s H0 H locs) (hk : (0, 4, 0) ∈ kS w) (hin : ∀ q ∈ wsX50, q ∈ Ts) {index : Nat} (hlink : Cond.fieldLink own index "SoldStops$Plan" "fewest" "[[I" ∈ Ts) (hdg : decode cc pc = .ok (.getfield index, 3)) (kk : W p l e R s m args below meth c H locs cells slots Q (F0 m (pc + 3) ls (.ref (A 4 3 0) :: rest))) : W p l e R s m args below meth c H locs cells slots Q (F0 m pc ls (.ref (A 0 4 0) :: rest)) := rg hx hb hts hown hW hk hin rfl 1 (by decide) hlink rfl hdg kk
theorem gf_X5_choices (hx : p.tables.exec = Jvm.exec) (hb : c.code = cc) (hts : ∀ q ∈ Ts, q.before args s = true) (hown : s.vm.findClass own = some m.cls) (hW : sW w D Y A σ s H0 H locs) (hk : (0, 4, 0) ∈ kS w) (hin : ∀ q ∈ wsX50, q ∈ Ts) {index : Nat} (hlink : Cond.fieldLink own index "SoldStops$Plan" "choices" "[[I" ∈ Ts) (hdg : decode cc pc = .ok (.getfield index, 3)) (kk : W p l e R s m args below meth c H locs cells slots Q (F0 m (pc + 3) ls (.ref (A 4 4 0) :: rest))) : W p l e R s m args below meth c H locs cells slots Q (F0 m pc ls (.ref (A 0 4 0) :: rest)) := rg hx hb hts hown hW hk hin rfl 2 (by decide) hlink rfl hdg kk
theorem gf_X5_now (hx : p.tables.exec = Jvm.exec) (hb : c.code = cc) (hts : ∀ q ∈ Ts, q.before args s = true) (hown : s.vm.findClass own = some m.cls) (hW : sW w D Y A σ s H0 H locs) (hk : (0, 4, 0) ∈ kS w) (hin : ∀ q ∈ wsX50, q ∈ Ts) {index : Nat} (hlink : Cond.fieldLink own index "SoldStops$Plan" "now" "[I" ∈ Ts) (hdg : decode cc pc = .ok (.getfield index, 3)) (kk : W p l e R s m args below meth c H locs cells slots Q (F0 m (pc + 3) ls (.ref (A 1 9 0) :: rest))) : W p l e R s m args below meth c H locs cells slots Q (F0 m pc ls (.ref (A 0 4 0) :: rest)) := rg hx hb hts hown hW hk hin rfl 3 (by decide) hlink rfl hdg kk
theorem gf_X5_then (hx : p.tables.exec = Jvm.exec) (hb : c.code = cc) (hts : ∀ q ∈ Ts, q.before args s = true) (hown : s.vm.findClass own = some m.cls) (hW : sW w D Y A σ s H0 H locs) (hk : (0, 4, 0) ∈ kS w) (hin : ∀ q ∈ wsX50, q ∈ Ts) {index : Nat} (hlink : Cond.fieldLink own index "SoldStops$Plan" "then" "[I" ∈ Ts) (hdg : decode cc pc = .ok (.getfield index, 3)) (kk : W p l e R s m args below meth c H locs cells slots Q (F0 m (pc + 3) ls (.ref (A 1 10 0) :: rest))) : W p l e R s m args below meth c H locs cells slots Q (F0 m pc ls (.ref (A 0 4 0) :: rest)) := rg hx hb hts hown hW hk hin rfl 4 (by decide) hlink rfl hdg kk
theorem gf_X6_size (hx : p.tables.exec = Jvm.exec) (hb : c.code = cc) (hts : ∀ q ∈ Ts, q.before args s = true) (hown : s.vm.findClass own = some m.cls) (hW : sW w D Y A σ s H0 H locs) (hk : (0, 5, 0) ∈ kS w) (hin : ∀ q ∈ wsX60, q ∈ Ts) {index : Nat} (hlink : Cond.fieldLink own index "SoldStops$Text" "size" "I" ∈ Ts) (hdg : decode cc pc = .ok (.getfield index, 3)) (kk : W p l e R s m args below meth c H locs cells slots Q (F0 m (pc + 3) ls (.int (sG σ 8 0) :: rest))) : W p l e R s m args below meth c H locs cells slots Q (F0 m pc ls (.ref (A 0 5 0) :: rest)) := rg hx hb hts hown hW hk hin rfl 0 (by decide) hlink rfl hdg kk
theorem cgf_X6_size {v : Int32} {o : Nat} (h0 : o = 0) : ∀ j ∈ kS w, j ≠ (0, 5, o) → cE Y A (sGu σ 8 o v) j = cE Y A σ j := cg_O (fun c' o' => match c' with
  | 0 => fun _ => rfl
  | 1 => fun _ => rfl
  | 2 => fun _ => rfl
  | 3 => fun _ => rfl
  | 4 => fun _ => rfl
  | 5 => fun h => by have h2 : ¬ o' = o := fun q => h ⟨rfl, q⟩; simp [cO, sG, sGu, sL, h2]
  | 6 => fun _ => rfl
  | 7 => fun _ => rfl
  | (_ + 8) => fun _ => rfl)
theorem pf_X6_size (hx : p.tables.exec = Jvm.exec) (hb : c.code = cc) (hts : ∀ q ∈ Ts, q.before args s = true) (hown : s.vm.findClass own = some m.cls) (hW : sW w D Y A σ s H0 H locs) (hk : (0, 5, 0) ∈ kS w) (hin : ∀ q ∈ wsX60, q ∈ Ts) {index : Nat} (hlink : Cond.fieldLink own index "SoldStops$Text" "size" "I" ∈ Ts) {v : Int32} (hdg : decode cc pc = .ok (.putfield index, 3)) (kk : ∀ (H1 : Heap) (locs1 : List Loc), sW w D Y A (sGu σ 8 0 v) s H0 H1 locs1 → W p l e R s m args below meth c H1 locs1 cells slots Q (F0 m (pc + 3) ls rest)) : W p l e R s m args below meth c H locs cells slots Q (F0 m pc ls (.int v :: .ref (A 0 5 0) :: rest)) :=
  rp (ty := .int) hx hb hts hown hW hk hin tyX6 tyX6_ok nmX6 rfl 0 (by decide) hlink rfl (by decide +kernel) rfl rfl (by simp [cO]) (by simp [cO, sG, sGu, sL]) (cgf_X6_size rfl) hdg kk
theorem gf_X6_items (hx : p.tables.exec = Jvm.exec) (hb : c.code = cc) (hts : ∀ q ∈ Ts, q.before args s = true) (hown : s.vm.findClass own = some m.cls) (hW : sW w D Y A σ s H0 H locs) (hk : (0, 5, 0) ∈ kS w) (hin : ∀ q ∈ wsX60, q ∈ Ts) {index : Nat} (hlink : Cond.fieldLink own index "SoldStops$Text" "items" "I" ∈ Ts) (hdg : decode cc pc = .ok (.getfield index, 3)) (kk : W p l e R s m args below meth c H locs cells slots Q (F0 m (pc + 3) ls (.int (sG σ 9 0) :: rest))) : W p l e R s m args below meth c H locs cells slots Q (F0 m pc ls (.ref (A 0 5 0) :: rest)) := rg hx hb hts hown hW hk hin rfl 1 (by decide) hlink rfl hdg kk
theorem cgf_X6_items {v : Int32} {o : Nat} (h0 : o = 0) : ∀ j ∈ kS w, j ≠ (0, 5, o) → cE Y A (sGu σ 9 o v) j = cE Y A σ j := cg_O (fun c' o' => match c' with
  | 0 => fun _ => rfl
  | 1 => fun _ => rfl
  | 2 => fun _ => rfl
  | 3 => fun _ => rfl
  | 4 => fun _ => rfl
  | 5 => fun h => by have h2 : ¬ o' = o := fun q => h ⟨rfl, q⟩; simp [cO, sG, sGu, sL, h2]
  | 6 => fun _ => rfl
  | 7 => fun _ => rfl
  | (_ + 8) => fun _ => rfl)
theorem pf_X6_items (hx : p.tables.exec = Jvm.exec) (hb : c.code = cc) (hts : ∀ q ∈ Ts, q.before args s = true) (hown : s.vm.findClass own = some m.cls) (hW : sW w D Y A σ s H0 H locs) (hk : (0, 5, 0) ∈ kS w) (hin : ∀ q ∈ wsX60, q ∈ Ts) {index : Nat} (hlink : Cond.fieldLink own index "SoldStops$Text" "items" "I" ∈ Ts) {v : Int32} (hdg : decode cc pc = .ok (.putfield index, 3)) (kk : ∀ (H1 : Heap) (locs1 : List Loc), sW w D Y A (sGu σ 9 0 v) s H0 H1 locs1 → W p l e R s m args below meth c H1 locs1 cells slots Q (F0 m (pc + 3) ls rest)) : W p l e R s m args below meth c H locs cells slots Q (F0 m pc ls (.int v :: .ref (A 0 5 0) :: rest)) :=
  rp (ty := .int) hx hb hts hown hW hk hin tyX6 tyX6_ok nmX6 rfl 1 (by decide) hlink rfl (by decide +kernel) rfl rfl (by simp [cO]) (by simp [cO, sG, sGu, sL]) (cgf_X6_items rfl) hdg kk
theorem gf_X6_bytes (hx : p.tables.exec = Jvm.exec) (hb : c.code = cc) (hts : ∀ q ∈ Ts, q.before args s = true) (hown : s.vm.findClass own = some m.cls) (hW : sW w D Y A σ s H0 H locs) (hk : (0, 5, 0) ∈ kS w) (hin : ∀ q ∈ wsX60, q ∈ Ts) {index : Nat} (hlink : Cond.fieldLink own index "SoldStops$Text" "bytes" "[I" ∈ Ts) (hdg : decode cc pc = .ok (.getfield index, 3)) (kk : W p l e R s m args below meth c H locs cells slots Q (F0 m (pc + 3) ls (.ref (A 1 11 0) :: rest))) : W p l e R s m args below meth c H locs cells slots Q (F0 m pc ls (.ref (A 0 5 0) :: rest)) := rg hx hb hts hown hW hk hin rfl 2 (by decide) hlink rfl hdg kk
theorem gf_X6_whats (hx : p.tables.exec = Jvm.exec) (hb : c.code = cc) (hts : ∀ q ∈ Ts, q.before args s = true) (hown : s.vm.findClass own = some m.cls) (hW : sW w D Y A σ s H0 H locs) (hk : (0, 5, 0) ∈ kS w) (hin : ∀ q ∈ wsX60, q ∈ Ts) {index : Nat} (hlink : Cond.fieldLink own index "SoldStops$Text" "whats" "[I" ∈ Ts) (hdg : decode cc pc = .ok (.getfield index, 3)) (kk : W p l e R s m args below meth c H locs cells slots Q (F0 m (pc + 3) ls (.ref (A 1 12 0) :: rest))) : W p l e R s m args below meth c H locs cells slots Q (F0 m pc ls (.ref (A 0 5 0) :: rest)) := rg hx hb hts hown hW hk hin rfl 3 (by decide) hlink rfl hdg kk
theorem gf_X6_firsts (hx : p.tables.exec = Jvm.exec) (hb : c.code = cc) (hts : ∀ q ∈ Ts, q.before args s = true) (hown : s.vm.findClass own = some m.cls) (hW : sW w D Y A σ s H0 H locs) (hk : (0, 5, 0) ∈ kS w) (hin : ∀ q ∈ wsX60, q ∈ Ts) {index : Nat} (hlink : Cond.fieldLink own index "SoldStops$Text" "firsts" "[I" ∈ Ts) (hdg : decode cc pc = .ok (.getfield index, 3)) (kk : W p l e R s m args below meth c H locs cells slots Q (F0 m (pc + 3) ls (.ref (A 1 13 0) :: rest))) : W p l e R s m args below meth c H locs cells slots Q (F0 m pc ls (.ref (A 0 5 0) :: rest)) := rg hx hb hts hown hW hk hin rfl 4 (by decide) hlink rfl hdg kk
theorem gf_X6_seconds (hx : p.tables.exec = Jvm.exec) (hb : c.code = cc) (hts : ∀ q ∈ Ts, q.before args s = true) (hown : s.vm.findClass own = some m.cls) (hW : sW w D Y A σ s H0 H locs) (hk : (0, 5, 0) ∈ kS w) (hin : ∀ q ∈ wsX60, q ∈ Ts) {index : Nat} (hlink : Cond.fieldLink own index "SoldStops$Text" "seconds" "[I" ∈ Ts) (hdg : decode cc pc = .ok (.getfield index, 3)) (kk : W p l e R s m args below meth c H locs cells slots Q (F0 m (pc + 3) ls (.ref (A 1 14 0) :: rest))) : W p l e R s m args below meth c H locs cells slots Q (F0 m pc ls (.ref (A 0 5 0) :: rest)) := rg hx hb hts hown hW hk hin rfl 5 (by decide) hlink rfl hdg kk
theorem gf_X6_token (hx : p.tables.exec = Jvm.exec) (hb : c.code = cc) (hts : ∀ q ∈ Ts, q.before args s = true) (hown : s.vm.findClass own = some m.cls) (hW : sW w D Y A σ s H0 H locs) (hk : (0, 5, 0) ∈ kS w) (hin : ∀ q ∈ wsX60, q ∈ Ts) {index : Nat} (hlink : Cond.fieldLink own index "SoldStops$Text" "token" "I" ∈ Ts) (hdg : decode cc pc = .ok (.getfield index, 3)) (kk : W p l e R s m args below meth c H locs cells slots Q (F0 m (pc + 3) ls (.int (sG σ 10 0) :: rest))) : W p l e R s m args below meth c H locs cells slots Q (F0 m pc ls (.ref (A 0 5 0) :: rest)) := rg hx hb hts hown hW hk hin rfl 6 (by decide) hlink rfl hdg kk
theorem cgf_X6_token {v : Int32} {o : Nat} (h0 : o = 0) : ∀ j ∈ kS w, j ≠ (0, 5, o) → cE Y A (sGu σ 10 o v) j = cE Y A σ j := cg_O (fun c' o' => match c' with
  | 0 => fun _ => rfl
  | 1 => fun _ => rfl
  | 2 => fun _ => rfl
  | 3 => fun _ => rfl
  | 4 => fun _ => rfl
  | 5 => fun h => by have h2 : ¬ o' = o := fun q => h ⟨rfl, q⟩; simp [cO, sG, sGu, sL, h2]
  | 6 => fun _ => rfl
  | 7 => fun _ => rfl
  | (_ + 8) => fun _ => rfl)
theorem pf_X6_token (hx : p.tables.exec = Jvm.exec) (hb : c.code = cc) (hts : ∀ q ∈ Ts, q.before args s = true) (hown : s.vm.findClass own = some m.cls) (hW : sW w D Y A σ s H0 H locs) (hk : (0, 5, 0) ∈ kS w) (hin : ∀ q ∈ wsX60, q ∈ Ts) {index : Nat} (hlink : Cond.fieldLink own index "SoldStops$Text" "token" "I" ∈ Ts) {v : Int32} (hdg : decode cc pc = .ok (.putfield index, 3)) (kk : ∀ (H1 : Heap) (locs1 : List Loc), sW w D Y A (sGu σ 10 0 v) s H0 H1 locs1 → W p l e R s m args below meth c H1 locs1 cells slots Q (F0 m (pc + 3) ls rest)) : W p l e R s m args below meth c H locs cells slots Q (F0 m pc ls (.int v :: .ref (A 0 5 0) :: rest)) :=
  rp (ty := .int) hx hb hts hown hW hk hin tyX6 tyX6_ok nmX6 rfl 6 (by decide) hlink rfl (by decide +kernel) rfl rfl (by simp [cO]) (by simp [cO, sG, sGu, sL]) (cgf_X6_token rfl) hdg kk
theorem gf_X6_value (hx : p.tables.exec = Jvm.exec) (hb : c.code = cc) (hts : ∀ q ∈ Ts, q.before args s = true) (hown : s.vm.findClass own = some m.cls) (hW : sW w D Y A σ s H0 H locs) (hk : (0, 5, 0) ∈ kS w) (hin : ∀ q ∈ wsX60, q ∈ Ts) {index : Nat} (hlink : Cond.fieldLink own index "SoldStops$Text" "value" "I" ∈ Ts) (hdg : decode cc pc = .ok (.getfield index, 3)) (kk : W p l e R s m args below meth c H locs cells slots Q (F0 m (pc + 3) ls (.int (sG σ 11 0) :: rest))) : W p l e R s m args below meth c H locs cells slots Q (F0 m pc ls (.ref (A 0 5 0) :: rest)) := rg hx hb hts hown hW hk hin rfl 7 (by decide) hlink rfl hdg kk
theorem cgf_X6_value {v : Int32} {o : Nat} (h0 : o = 0) : ∀ j ∈ kS w, j ≠ (0, 5, o) → cE Y A (sGu σ 11 o v) j = cE Y A σ j := cg_O (fun c' o' => match c' with
  | 0 => fun _ => rfl
  | 1 => fun _ => rfl
  | 2 => fun _ => rfl
  | 3 => fun _ => rfl
  | 4 => fun _ => rfl
  | 5 => fun h => by have h2 : ¬ o' = o := fun q => h ⟨rfl, q⟩; simp [cO, sG, sGu, sL, h2]
  | 6 => fun _ => rfl
  | 7 => fun _ => rfl
  | (_ + 8) => fun _ => rfl)
theorem pf_X6_value (hx : p.tables.exec = Jvm.exec) (hb : c.code = cc) (hts : ∀ q ∈ Ts, q.before args s = true) (hown : s.vm.findClass own = some m.cls) (hW : sW w D Y A σ s H0 H locs) (hk : (0, 5, 0) ∈ kS w) (hin : ∀ q ∈ wsX60, q ∈ Ts) {index : Nat} (hlink : Cond.fieldLink own index "SoldStops$Text" "value" "I" ∈ Ts) {v : Int32} (hdg : decode cc pc = .ok (.putfield index, 3)) (kk : ∀ (H1 : Heap) (locs1 : List Loc), sW w D Y A (sGu σ 11 0 v) s H0 H1 locs1 → W p l e R s m args below meth c H1 locs1 cells slots Q (F0 m (pc + 3) ls rest)) : W p l e R s m args below meth c H locs cells slots Q (F0 m pc ls (.int v :: .ref (A 0 5 0) :: rest)) :=
  rp (ty := .int) hx hb hts hown hW hk hin tyX6 tyX6_ok nmX6 rfl 7 (by decide) hlink rfl (by decide +kernel) rfl rfl (by simp [cO]) (by simp [cO, sG, sGu, sL]) (cgf_X6_value rfl) hdg kk
theorem gf_X6_place (hx : p.tables.exec = Jvm.exec) (hb : c.code = cc) (hts : ∀ q ∈ Ts, q.before args s = true) (hown : s.vm.findClass own = some m.cls) (hW : sW w D Y A σ s H0 H locs) (hk : (0, 5, 0) ∈ kS w) (hin : ∀ q ∈ wsX60, q ∈ Ts) {index : Nat} (hlink : Cond.fieldLink own index "SoldStops$Text" "place" "I" ∈ Ts) (hdg : decode cc pc = .ok (.getfield index, 3)) (kk : W p l e R s m args below meth c H locs cells slots Q (F0 m (pc + 3) ls (.int (sG σ 12 0) :: rest))) : W p l e R s m args below meth c H locs cells slots Q (F0 m pc ls (.ref (A 0 5 0) :: rest)) := rg hx hb hts hown hW hk hin rfl 8 (by decide) hlink rfl hdg kk
theorem cgf_X6_place {v : Int32} {o : Nat} (h0 : o = 0) : ∀ j ∈ kS w, j ≠ (0, 5, o) → cE Y A (sGu σ 12 o v) j = cE Y A σ j := cg_O (fun c' o' => match c' with
  | 0 => fun _ => rfl
  | 1 => fun _ => rfl
  | 2 => fun _ => rfl
  | 3 => fun _ => rfl
  | 4 => fun _ => rfl
  | 5 => fun h => by have h2 : ¬ o' = o := fun q => h ⟨rfl, q⟩; simp [cO, sG, sGu, sL, h2]
  | 6 => fun _ => rfl
  | 7 => fun _ => rfl
  | (_ + 8) => fun _ => rfl)
theorem pf_X6_place (hx : p.tables.exec = Jvm.exec) (hb : c.code = cc) (hts : ∀ q ∈ Ts, q.before args s = true) (hown : s.vm.findClass own = some m.cls) (hW : sW w D Y A σ s H0 H locs) (hk : (0, 5, 0) ∈ kS w) (hin : ∀ q ∈ wsX60, q ∈ Ts) {index : Nat} (hlink : Cond.fieldLink own index "SoldStops$Text" "place" "I" ∈ Ts) {v : Int32} (hdg : decode cc pc = .ok (.putfield index, 3)) (kk : ∀ (H1 : Heap) (locs1 : List Loc), sW w D Y A (sGu σ 12 0 v) s H0 H1 locs1 → W p l e R s m args below meth c H1 locs1 cells slots Q (F0 m (pc + 3) ls rest)) : W p l e R s m args below meth c H locs cells slots Q (F0 m pc ls (.int v :: .ref (A 0 5 0) :: rest)) :=
  rp (ty := .int) hx hb hts hown hW hk hin tyX6 tyX6_ok nmX6 rfl 8 (by decide) hlink rfl (by decide +kernel) rfl rfl (by simp [cO]) (by simp [cO, sG, sGu, sL]) (cgf_X6_place rfl) hdg kk
theorem gf_X6_behind (hx : p.tables.exec = Jvm.exec) (hb : c.code = cc) (hts : ∀ q ∈ Ts, q.before args s = true) (hown : s.vm.findClass own = some m.cls) (hW : sW w D Y A σ s H0 H locs) (hk : (0, 5, 0) ∈ kS w) (hin : ∀ q ∈ wsX60, q ∈ Ts) {index : Nat} (hlink : Cond.fieldLink own index "SoldStops$Text" "behind" "I" ∈ Ts) (hdg : decode cc pc = .ok (.getfield index, 3)) (kk : W p l e R s m args below meth c H locs cells slots Q (F0 m (pc + 3) ls (.int (sG σ 13 0) :: rest))) : W p l e R s m args below meth c H locs cells slots Q (F0 m pc ls (.ref (A 0 5 0) :: rest)) := rg hx hb hts hown hW hk hin rfl 9 (by decide) hlink rfl hdg kk
theorem cgf_X6_behind {v : Int32} {o : Nat} (h0 : o = 0) : ∀ j ∈ kS w, j ≠ (0, 5, o) → cE Y A (sGu σ 13 o v) j = cE Y A σ j := cg_O (fun c' o' => match c' with
  | 0 => fun _ => rfl
  | 1 => fun _ => rfl
  | 2 => fun _ => rfl
  | 3 => fun _ => rfl
  | 4 => fun _ => rfl
  | 5 => fun h => by have h2 : ¬ o' = o := fun q => h ⟨rfl, q⟩; simp [cO, sG, sGu, sL, h2]
  | 6 => fun _ => rfl
  | 7 => fun _ => rfl
  | (_ + 8) => fun _ => rfl)
theorem pf_X6_behind (hx : p.tables.exec = Jvm.exec) (hb : c.code = cc) (hts : ∀ q ∈ Ts, q.before args s = true) (hown : s.vm.findClass own = some m.cls) (hW : sW w D Y A σ s H0 H locs) (hk : (0, 5, 0) ∈ kS w) (hin : ∀ q ∈ wsX60, q ∈ Ts) {index : Nat} (hlink : Cond.fieldLink own index "SoldStops$Text" "behind" "I" ∈ Ts) {v : Int32} (hdg : decode cc pc = .ok (.putfield index, 3)) (kk : ∀ (H1 : Heap) (locs1 : List Loc), sW w D Y A (sGu σ 13 0 v) s H0 H1 locs1 → W p l e R s m args below meth c H1 locs1 cells slots Q (F0 m (pc + 3) ls rest)) : W p l e R s m args below meth c H locs cells slots Q (F0 m pc ls (.int v :: .ref (A 0 5 0) :: rest)) :=
  rp (ty := .int) hx hb hts hown hW hk hin tyX6 tyX6_ok nmX6 rfl 9 (by decide) hlink rfl (by decide +kernel) rfl rfl (by simp [cO]) (by simp [cO, sG, sGu, sL]) (cgf_X6_behind rfl) hdg kk
theorem gf_X7_page (hx : p.tables.exec = Jvm.exec) (hb : c.code = cc) (hts : ∀ q ∈ Ts, q.before args s = true) (hown : s.vm.findClass own = some m.cls) (hW : sW w D Y A σ s H0 H locs) (hk : (0, 6, 0) ∈ kS w) (hin : ∀ q ∈ wsX70, q ∈ Ts) {index : Nat} (hlink : Cond.fieldLink own index "SoldStops" "page" "LSoldStops$Page;" ∈ Ts) (hdg : decode cc pc = .ok (.getfield index, 3)) (kk : W p l e R s m args below meth c H locs cells slots Q (F0 m (pc + 3) ls (.ref (A 0 3 0) :: rest))) : W p l e R s m args below meth c H locs cells slots Q (F0 m pc ls (.ref (A 0 6 0) :: rest)) := rg hx hb hts hown hW hk hin rfl 0 (by decide) hlink rfl hdg kk
theorem gf_X7_spare (hx : p.tables.exec = Jvm.exec) (hb : c.code = cc) (hts : ∀ q ∈ Ts, q.before args s = true) (hown : s.vm.findClass own = some m.cls) (hW : sW w D Y A σ s H0 H locs) (hk : (0, 6, 0) ∈ kS w) (hin : ∀ q ∈ wsX70, q ∈ Ts) {index : Nat} (hlink : Cond.fieldLink own index "SoldStops" "spare" "LSoldStops$Page;" ∈ Ts) (hdg : decode cc pc = .ok (.getfield index, 3)) (kk : W p l e R s m args below meth c H locs cells slots Q (F0 m (pc + 3) ls (.ref (A 0 3 1) :: rest))) : W p l e R s m args below meth c H locs cells slots Q (F0 m pc ls (.ref (A 0 6 0) :: rest)) := rg hx hb hts hown hW hk hin rfl 1 (by decide) hlink rfl hdg kk
theorem gf_X7_images (hx : p.tables.exec = Jvm.exec) (hb : c.code = cc) (hts : ∀ q ∈ Ts, q.before args s = true) (hown : s.vm.findClass own = some m.cls) (hW : sW w D Y A σ s H0 H locs) (hk : (0, 6, 0) ∈ kS w) (hin : ∀ q ∈ wsX70, q ∈ Ts) {index : Nat} (hlink : Cond.fieldLink own index "SoldStops" "images" "[LSoldStops$Page;" ∈ Ts) (hdg : decode cc pc = .ok (.getfield index, 3)) (kk : W p l e R s m args below meth c H locs cells slots Q (F0 m (pc + 3) ls (.ref (A 4 1 0) :: rest))) : W p l e R s m args below meth c H locs cells slots Q (F0 m pc ls (.ref (A 0 6 0) :: rest)) := rg hx hb hts hown hW hk hin rfl 2 (by decide) hlink rfl hdg kk
theorem gf_X7_kept (hx : p.tables.exec = Jvm.exec) (hb : c.code = cc) (hts : ∀ q ∈ Ts, q.before args s = true) (hown : s.vm.findClass own = some m.cls) (hW : sW w D Y A σ s H0 H locs) (hk : (0, 6, 0) ∈ kS w) (hin : ∀ q ∈ wsX70, q ∈ Ts) {index : Nat} (hlink : Cond.fieldLink own index "SoldStops" "kept" "[Z" ∈ Ts) (hdg : decode cc pc = .ok (.getfield index, 3)) (kk : W p l e R s m args below meth c H locs cells slots Q (F0 m (pc + 3) ls (.ref (A 2 1 0) :: rest))) : W p l e R s m args below meth c H locs cells slots Q (F0 m pc ls (.ref (A 0 6 0) :: rest)) := rg hx hb hts hown hW hk hin rfl 3 (by decide) hlink rfl hdg kk
theorem gf_X7_text (hx : p.tables.exec = Jvm.exec) (hb : c.code = cc) (hts : ∀ q ∈ Ts, q.before args s = true) (hown : s.vm.findClass own = some m.cls) (hW : sW w D Y A σ s H0 H locs) (hk : (0, 6, 0) ∈ kS w) (hin : ∀ q ∈ wsX70, q ∈ Ts) {index : Nat} (hlink : Cond.fieldLink own index "SoldStops" "text" "LSoldStops$Text;" ∈ Ts) (hdg : decode cc pc = .ok (.getfield index, 3)) (kk : W p l e R s m args below meth c H locs cells slots Q (F0 m (pc + 3) ls (.ref (A 0 5 0) :: rest))) : W p l e R s m args below meth c H locs cells slots Q (F0 m pc ls (.ref (A 0 6 0) :: rest)) := rg hx hb hts hown hW hk hin rfl 4 (by decide) hlink rfl hdg kk
theorem gf_X7_plan (hx : p.tables.exec = Jvm.exec) (hb : c.code = cc) (hts : ∀ q ∈ Ts, q.before args s = true) (hown : s.vm.findClass own = some m.cls) (hW : sW w D Y A σ s H0 H locs) (hk : (0, 6, 0) ∈ kS w) (hin : ∀ q ∈ wsX70, q ∈ Ts) {index : Nat} (hlink : Cond.fieldLink own index "SoldStops" "plan" "LSoldStops$Plan;" ∈ Ts) (hdg : decode cc pc = .ok (.getfield index, 3)) (kk : W p l e R s m args below meth c H locs cells slots Q (F0 m (pc + 3) ls (.ref (A 0 4 0) :: rest))) : W p l e R s m args below meth c H locs cells slots Q (F0 m pc ls (.ref (A 0 6 0) :: rest)) := rg hx hb hts hown hW hk hin rfl 5 (by decide) hlink rfl hdg kk
theorem gf_X7_order (hx : p.tables.exec = Jvm.exec) (hb : c.code = cc) (hts : ∀ q ∈ Ts, q.before args s = true) (hown : s.vm.findClass own = some m.cls) (hW : sW w D Y A σ s H0 H locs) (hk : (0, 6, 0) ∈ kS w) (hin : ∀ q ∈ wsX70, q ∈ Ts) {index : Nat} (hlink : Cond.fieldLink own index "SoldStops" "order" "LSoldStops$Order;" ∈ Ts) (hdg : decode cc pc = .ok (.getfield index, 3)) (kk : W p l e R s m args below meth c H locs cells slots Q (F0 m (pc + 3) ls (.ref (A 0 2 0) :: rest))) : W p l e R s m args below meth c H locs cells slots Q (F0 m pc ls (.ref (A 0 6 0) :: rest)) := rg hx hb hts hown hW hk hin rfl 6 (by decide) hlink rfl hdg kk
theorem gf_X7_chance (hx : p.tables.exec = Jvm.exec) (hb : c.code = cc) (hts : ∀ q ∈ Ts, q.before args s = true) (hown : s.vm.findClass own = some m.cls) (hW : sW w D Y A σ s H0 H locs) (hk : (0, 6, 0) ∈ kS w) (hin : ∀ q ∈ wsX70, q ∈ Ts) {index : Nat} (hlink : Cond.fieldLink own index "SoldStops" "chance" "LSoldStops$Chance;" ∈ Ts) (hdg : decode cc pc = .ok (.getfield index, 3)) (kk : W p l e R s m args below meth c H locs cells slots Q (F0 m (pc + 3) ls (.ref (A 0 0 0) :: rest))) : W p l e R s m args below meth c H locs cells slots Q (F0 m pc ls (.ref (A 0 6 0) :: rest)) := rg hx hb hts hown hW hk hin rfl 7 (by decide) hlink rfl hdg kk
theorem gf_X7_alike (hx : p.tables.exec = Jvm.exec) (hb : c.code = cc) (hts : ∀ q ∈ Ts, q.before args s = true) (hown : s.vm.findClass own = some m.cls) (hW : sW w D Y A σ s H0 H locs) (hk : (0, 6, 0) ∈ kS w) (hin : ∀ q ∈ wsX70, q ∈ Ts) {index : Nat} (hlink : Cond.fieldLink own index "SoldStops" "alike" "[I" ∈ Ts) (hdg : decode cc pc = .ok (.getfield index, 3)) (kk : W p l e R s m args below meth c H locs cells slots Q (F0 m (pc + 3) ls (.ref (A 1 15 0) :: rest))) : W p l e R s m args below meth c H locs cells slots Q (F0 m pc ls (.ref (A 0 6 0) :: rest)) := rg hx hb hts hown hW hk hin rfl 8 (by decide) hlink rfl hdg kk
theorem gf_X7_bads (hx : p.tables.exec = Jvm.exec) (hb : c.code = cc) (hts : ∀ q ∈ Ts, q.before args s = true) (hown : s.vm.findClass own = some m.cls) (hW : sW w D Y A σ s H0 H locs) (hk : (0, 6, 0) ∈ kS w) (hin : ∀ q ∈ wsX70, q ∈ Ts) {index : Nat} (hlink : Cond.fieldLink own index "SoldStops" "bads" "I" ∈ Ts) (hdg : decode cc pc = .ok (.getfield index, 3)) (kk : W p l e R s m args below meth c H locs cells slots Q (F0 m (pc + 3) ls (.int (sG σ 14 0) :: rest))) : W p l e R s m args below meth c H locs cells slots Q (F0 m pc ls (.ref (A 0 6 0) :: rest)) := rg hx hb hts hown hW hk hin rfl 9 (by decide) hlink rfl hdg kk
theorem cgf_X7_bads {v : Int32} {o : Nat} (h0 : o = 0) : ∀ j ∈ kS w, j ≠ (0, 6, o) → cE Y A (sGu σ 14 o v) j = cE Y A σ j := cg_O (fun c' o' => match c' with
  | 0 => fun _ => rfl
  | 1 => fun _ => rfl
  | 2 => fun _ => rfl
  | 3 => fun _ => rfl
  | 4 => fun _ => rfl
  | 5 => fun _ => rfl
  | 6 => fun h => by have h2 : ¬ o' = o := fun q => h ⟨rfl, q⟩; simp [cO, sG, sGu, sL, h2]
  | 7 => fun _ => rfl
  | (_ + 8) => fun _ => rfl)
theorem pf_X7_bads (hx : p.tables.exec = Jvm.exec) (hb : c.code = cc) (hts : ∀ q ∈ Ts, q.before args s = true) (hown : s.vm.findClass own = some m.cls) (hW : sW w D Y A σ s H0 H locs) (hk : (0, 6, 0) ∈ kS w) (hin : ∀ q ∈ wsX70, q ∈ Ts) {index : Nat} (hlink : Cond.fieldLink own index "SoldStops" "bads" "I" ∈ Ts) {v : Int32} (hdg : decode cc pc = .ok (.putfield index, 3)) (kk : ∀ (H1 : Heap) (locs1 : List Loc), sW w D Y A (sGu σ 14 0 v) s H0 H1 locs1 → W p l e R s m args below meth c H1 locs1 cells slots Q (F0 m (pc + 3) ls rest)) : W p l e R s m args below meth c H locs cells slots Q (F0 m pc ls (.int v :: .ref (A 0 6 0) :: rest)) :=
  rp (ty := .int) hx hb hts hown hW hk hin tyX7 tyX7_ok nmX7 rfl 9 (by decide) hlink rfl (by decide +kernel) rfl rfl (by simp [cO]) (by simp [cO, sG, sGu, sL]) (cgf_X7_bads rfl) hdg kk
theorem gf_X7_nos (hx : p.tables.exec = Jvm.exec) (hb : c.code = cc) (hts : ∀ q ∈ Ts, q.before args s = true) (hown : s.vm.findClass own = some m.cls) (hW : sW w D Y A σ s H0 H locs) (hk : (0, 6, 0) ∈ kS w) (hin : ∀ q ∈ wsX70, q ∈ Ts) {index : Nat} (hlink : Cond.fieldLink own index "SoldStops" "nos" "I" ∈ Ts) (hdg : decode cc pc = .ok (.getfield index, 3)) (kk : W p l e R s m args below meth c H locs cells slots Q (F0 m (pc + 3) ls (.int (sG σ 15 0) :: rest))) : W p l e R s m args below meth c H locs cells slots Q (F0 m pc ls (.ref (A 0 6 0) :: rest)) := rg hx hb hts hown hW hk hin rfl 10 (by decide) hlink rfl hdg kk
theorem cgf_X7_nos {v : Int32} {o : Nat} (h0 : o = 0) : ∀ j ∈ kS w, j ≠ (0, 6, o) → cE Y A (sGu σ 15 o v) j = cE Y A σ j := cg_O (fun c' o' => match c' with
  | 0 => fun _ => rfl
  | 1 => fun _ => rfl
  | 2 => fun _ => rfl
  | 3 => fun _ => rfl
  | 4 => fun _ => rfl
  | 5 => fun _ => rfl
  | 6 => fun h => by have h2 : ¬ o' = o := fun q => h ⟨rfl, q⟩; simp [cO, sG, sGu, sL, h2]
  | 7 => fun _ => rfl
  | (_ + 8) => fun _ => rfl)
theorem pf_X7_nos (hx : p.tables.exec = Jvm.exec) (hb : c.code = cc) (hts : ∀ q ∈ Ts, q.before args s = true) (hown : s.vm.findClass own = some m.cls) (hW : sW w D Y A σ s H0 H locs) (hk : (0, 6, 0) ∈ kS w) (hin : ∀ q ∈ wsX70, q ∈ Ts) {index : Nat} (hlink : Cond.fieldLink own index "SoldStops" "nos" "I" ∈ Ts) {v : Int32} (hdg : decode cc pc = .ok (.putfield index, 3)) (kk : ∀ (H1 : Heap) (locs1 : List Loc), sW w D Y A (sGu σ 15 0 v) s H0 H1 locs1 → W p l e R s m args below meth c H1 locs1 cells slots Q (F0 m (pc + 3) ls rest)) : W p l e R s m args below meth c H locs cells slots Q (F0 m pc ls (.int v :: .ref (A 0 6 0) :: rest)) :=
  rp (ty := .int) hx hb hts hown hW hk hin tyX7 tyX7_ok nmX7 rfl 10 (by decide) hlink rfl (by decide +kernel) rfl rfl (by simp [cO]) (by simp [cO, sG, sGu, sL]) (cgf_X7_nos rfl) hdg kk
theorem gf_X7_fulls (hx : p.tables.exec = Jvm.exec) (hb : c.code = cc) (hts : ∀ q ∈ Ts, q.before args s = true) (hown : s.vm.findClass own = some m.cls) (hW : sW w D Y A σ s H0 H locs) (hk : (0, 6, 0) ∈ kS w) (hin : ∀ q ∈ wsX70, q ∈ Ts) {index : Nat} (hlink : Cond.fieldLink own index "SoldStops" "fulls" "I" ∈ Ts) (hdg : decode cc pc = .ok (.getfield index, 3)) (kk : W p l e R s m args below meth c H locs cells slots Q (F0 m (pc + 3) ls (.int (sG σ 16 0) :: rest))) : W p l e R s m args below meth c H locs cells slots Q (F0 m pc ls (.ref (A 0 6 0) :: rest)) := rg hx hb hts hown hW hk hin rfl 11 (by decide) hlink rfl hdg kk
theorem cgf_X7_fulls {v : Int32} {o : Nat} (h0 : o = 0) : ∀ j ∈ kS w, j ≠ (0, 6, o) → cE Y A (sGu σ 16 o v) j = cE Y A σ j := cg_O (fun c' o' => match c' with
  | 0 => fun _ => rfl
  | 1 => fun _ => rfl
  | 2 => fun _ => rfl
  | 3 => fun _ => rfl
  | 4 => fun _ => rfl
  | 5 => fun _ => rfl
  | 6 => fun h => by have h2 : ¬ o' = o := fun q => h ⟨rfl, q⟩; simp [cO, sG, sGu, sL, h2]
  | 7 => fun _ => rfl
  | (_ + 8) => fun _ => rfl)
theorem pf_X7_fulls (hx : p.tables.exec = Jvm.exec) (hb : c.code = cc) (hts : ∀ q ∈ Ts, q.before args s = true) (hown : s.vm.findClass own = some m.cls) (hW : sW w D Y A σ s H0 H locs) (hk : (0, 6, 0) ∈ kS w) (hin : ∀ q ∈ wsX70, q ∈ Ts) {index : Nat} (hlink : Cond.fieldLink own index "SoldStops" "fulls" "I" ∈ Ts) {v : Int32} (hdg : decode cc pc = .ok (.putfield index, 3)) (kk : ∀ (H1 : Heap) (locs1 : List Loc), sW w D Y A (sGu σ 16 0 v) s H0 H1 locs1 → W p l e R s m args below meth c H1 locs1 cells slots Q (F0 m (pc + 3) ls rest)) : W p l e R s m args below meth c H locs cells slots Q (F0 m pc ls (.int v :: .ref (A 0 6 0) :: rest)) :=
  rp (ty := .int) hx hb hts hown hW hk hin tyX7 tyX7_ok nmX7 rfl 11 (by decide) hlink rfl (by decide +kernel) rfl rfl (by simp [cO]) (by simp [cO, sG, sGu, sL]) (cgf_X7_fulls rfl) hdg kk
theorem gf_X8_refused (hx : p.tables.exec = Jvm.exec) (hb : c.code = cc) (hts : ∀ q ∈ Ts, q.before args s = true) (hown : s.vm.findClass own = some m.cls) (hW : sW w D Y A σ s H0 H locs) (hk : (0, 7, 0) ∈ kS w) (hin : ∀ q ∈ wsX80, q ∈ Ts) {index : Nat} (hlink : Cond.fieldLink own index "SoldStopsModel" "refused" "[I" ∈ Ts) (hdg : decode cc pc = .ok (.getfield index, 3)) (kk : W p l e R s m args below meth c H locs cells slots Q (F0 m (pc + 3) ls (.ref (A 1 16 0) :: rest))) : W p l e R s m args below meth c H locs cells slots Q (F0 m pc ls (.ref (A 0 7 0) :: rest)) := rg hx hb hts hown hW hk hin rfl 0 (by decide) hlink rfl hdg kk
theorem gf_X8_many (hx : p.tables.exec = Jvm.exec) (hb : c.code = cc) (hts : ∀ q ∈ Ts, q.before args s = true) (hown : s.vm.findClass own = some m.cls) (hW : sW w D Y A σ s H0 H locs) (hk : (0, 7, 0) ∈ kS w) (hin : ∀ q ∈ wsX80, q ∈ Ts) {index : Nat} (hlink : Cond.fieldLink own index "SoldStopsModel" "many" "I" ∈ Ts) (hdg : decode cc pc = .ok (.getfield index, 3)) (kk : W p l e R s m args below meth c H locs cells slots Q (F0 m (pc + 3) ls (.int (sG σ 17 0) :: rest))) : W p l e R s m args below meth c H locs cells slots Q (F0 m pc ls (.ref (A 0 7 0) :: rest)) := rg hx hb hts hown hW hk hin rfl 1 (by decide) hlink rfl hdg kk
theorem cgf_X8_many {v : Int32} {o : Nat} (h0 : o = 0) : ∀ j ∈ kS w, j ≠ (0, 7, o) → cE Y A (sGu σ 17 o v) j = cE Y A σ j := cg_O (fun c' o' => match c' with
  | 0 => fun _ => rfl
  | 1 => fun _ => rfl
  | 2 => fun _ => rfl
  | 3 => fun _ => rfl
  | 4 => fun _ => rfl
  | 5 => fun _ => rfl
  | 6 => fun _ => rfl
  | 7 => fun h => by have h2 : ¬ o' = o := fun q => h ⟨rfl, q⟩; simp [cO, sG, sGu, sL, h2]
  | (_ + 8) => fun _ => rfl)
theorem pf_X8_many (hx : p.tables.exec = Jvm.exec) (hb : c.code = cc) (hts : ∀ q ∈ Ts, q.before args s = true) (hown : s.vm.findClass own = some m.cls) (hW : sW w D Y A σ s H0 H locs) (hk : (0, 7, 0) ∈ kS w) (hin : ∀ q ∈ wsX80, q ∈ Ts) {index : Nat} (hlink : Cond.fieldLink own index "SoldStopsModel" "many" "I" ∈ Ts) {v : Int32} (hdg : decode cc pc = .ok (.putfield index, 3)) (kk : ∀ (H1 : Heap) (locs1 : List Loc), sW w D Y A (sGu σ 17 0 v) s H0 H1 locs1 → W p l e R s m args below meth c H1 locs1 cells slots Q (F0 m (pc + 3) ls rest)) : W p l e R s m args below meth c H locs cells slots Q (F0 m pc ls (.int v :: .ref (A 0 7 0) :: rest)) :=
  rp (ty := .int) hx hb hts hown hW hk hin tyX8 tyX8_ok nmX8 rfl 1 (by decide) hlink rfl (by decide +kernel) rfl rfl (by simp [cO]) (by simp [cO, sG, sGu, sL]) (cgf_X8_many rfl) hdg kk
theorem gf_X8_breath (hx : p.tables.exec = Jvm.exec) (hb : c.code = cc) (hts : ∀ q ∈ Ts, q.before args s = true) (hown : s.vm.findClass own = some m.cls) (hW : sW w D Y A σ s H0 H locs) (hk : (0, 7, 0) ∈ kS w) (hin : ∀ q ∈ wsX80, q ∈ Ts) {index : Nat} (hlink : Cond.fieldLink own index "SoldStopsModel" "breath" "I" ∈ Ts) (hdg : decode cc pc = .ok (.getfield index, 3)) (kk : W p l e R s m args below meth c H locs cells slots Q (F0 m (pc + 3) ls (.int (sG σ 18 0) :: rest))) : W p l e R s m args below meth c H locs cells slots Q (F0 m pc ls (.ref (A 0 7 0) :: rest)) := rg hx hb hts hown hW hk hin rfl 2 (by decide) hlink rfl hdg kk
theorem cgf_X8_breath {v : Int32} {o : Nat} (h0 : o = 0) : ∀ j ∈ kS w, j ≠ (0, 7, o) → cE Y A (sGu σ 18 o v) j = cE Y A σ j := cg_O (fun c' o' => match c' with
  | 0 => fun _ => rfl
  | 1 => fun _ => rfl
  | 2 => fun _ => rfl
  | 3 => fun _ => rfl
  | 4 => fun _ => rfl
  | 5 => fun _ => rfl
  | 6 => fun _ => rfl
  | 7 => fun h => by have h2 : ¬ o' = o := fun q => h ⟨rfl, q⟩; simp [cO, sG, sGu, sL, h2]
  | (_ + 8) => fun _ => rfl)
theorem pf_X8_breath (hx : p.tables.exec = Jvm.exec) (hb : c.code = cc) (hts : ∀ q ∈ Ts, q.before args s = true) (hown : s.vm.findClass own = some m.cls) (hW : sW w D Y A σ s H0 H locs) (hk : (0, 7, 0) ∈ kS w) (hin : ∀ q ∈ wsX80, q ∈ Ts) {index : Nat} (hlink : Cond.fieldLink own index "SoldStopsModel" "breath" "I" ∈ Ts) {v : Int32} (hdg : decode cc pc = .ok (.putfield index, 3)) (kk : ∀ (H1 : Heap) (locs1 : List Loc), sW w D Y A (sGu σ 18 0 v) s H0 H1 locs1 → W p l e R s m args below meth c H1 locs1 cells slots Q (F0 m (pc + 3) ls rest)) : W p l e R s m args below meth c H locs cells slots Q (F0 m pc ls (.int v :: .ref (A 0 7 0) :: rest)) :=
  rp (ty := .int) hx hb hts hown hW hk hin tyX8 tyX8_ok nmX8 rfl 2 (by decide) hlink rfl (by decide +kernel) rfl rfl (by simp [cO]) (by simp [cO, sG, sGu, sL]) (cgf_X8_breath rfl) hdg kk
theorem gf_X8_price (hx : p.tables.exec = Jvm.exec) (hb : c.code = cc) (hts : ∀ q ∈ Ts, q.before args s = true) (hown : s.vm.findClass own = some m.cls) (hW : sW w D Y A σ s H0 H locs) (hk : (0, 7, 0) ∈ kS w) (hin : ∀ q ∈ wsX80, q ∈ Ts) {index : Nat} (hlink : Cond.fieldLink own index "SoldStopsModel" "price" "I" ∈ Ts) (hdg : decode cc pc = .ok (.getfield index, 3)) (kk : W p l e R s m args below meth c H locs cells slots Q (F0 m (pc + 3) ls (.int (sG σ 19 0) :: rest))) : W p l e R s m args below meth c H locs cells slots Q (F0 m pc ls (.ref (A 0 7 0) :: rest)) := rg hx hb hts hown hW hk hin rfl 3 (by decide) hlink rfl hdg kk
theorem cgf_X8_price {v : Int32} {o : Nat} (h0 : o = 0) : ∀ j ∈ kS w, j ≠ (0, 7, o) → cE Y A (sGu σ 19 o v) j = cE Y A σ j := cg_O (fun c' o' => match c' with
  | 0 => fun _ => rfl
  | 1 => fun _ => rfl
  | 2 => fun _ => rfl
  | 3 => fun _ => rfl
  | 4 => fun _ => rfl
  | 5 => fun _ => rfl
  | 6 => fun _ => rfl
  | 7 => fun h => by have h2 : ¬ o' = o := fun q => h ⟨rfl, q⟩; simp [cO, sG, sGu, sL, h2]
  | (_ + 8) => fun _ => rfl)
theorem pf_X8_price (hx : p.tables.exec = Jvm.exec) (hb : c.code = cc) (hts : ∀ q ∈ Ts, q.before args s = true) (hown : s.vm.findClass own = some m.cls) (hW : sW w D Y A σ s H0 H locs) (hk : (0, 7, 0) ∈ kS w) (hin : ∀ q ∈ wsX80, q ∈ Ts) {index : Nat} (hlink : Cond.fieldLink own index "SoldStopsModel" "price" "I" ∈ Ts) {v : Int32} (hdg : decode cc pc = .ok (.putfield index, 3)) (kk : ∀ (H1 : Heap) (locs1 : List Loc), sW w D Y A (sGu σ 19 0 v) s H0 H1 locs1 → W p l e R s m args below meth c H1 locs1 cells slots Q (F0 m (pc + 3) ls rest)) : W p l e R s m args below meth c H locs cells slots Q (F0 m pc ls (.int v :: .ref (A 0 7 0) :: rest)) :=
  rp (ty := .int) hx hb hts hown hW hk hin tyX8 tyX8_ok nmX8 rfl 3 (by decide) hlink rfl (by decide +kernel) rfl rfl (by simp [cO]) (by simp [cO, sG, sGu, sL]) (cgf_X8_price rfl) hdg kk
theorem gf_X8_purse (hx : p.tables.exec = Jvm.exec) (hb : c.code = cc) (hts : ∀ q ∈ Ts, q.before args s = true) (hown : s.vm.findClass own = some m.cls) (hW : sW w D Y A σ s H0 H locs) (hk : (0, 7, 0) ∈ kS w) (hin : ∀ q ∈ wsX80, q ∈ Ts) {index : Nat} (hlink : Cond.fieldLink own index "SoldStopsModel" "purse" "I" ∈ Ts) (hdg : decode cc pc = .ok (.getfield index, 3)) (kk : W p l e R s m args below meth c H locs cells slots Q (F0 m (pc + 3) ls (.int (sG σ 20 0) :: rest))) : W p l e R s m args below meth c H locs cells slots Q (F0 m pc ls (.ref (A 0 7 0) :: rest)) := rg hx hb hts hown hW hk hin rfl 4 (by decide) hlink rfl hdg kk
theorem cgf_X8_purse {v : Int32} {o : Nat} (h0 : o = 0) : ∀ j ∈ kS w, j ≠ (0, 7, o) → cE Y A (sGu σ 20 o v) j = cE Y A σ j := cg_O (fun c' o' => match c' with
  | 0 => fun _ => rfl
  | 1 => fun _ => rfl
  | 2 => fun _ => rfl
  | 3 => fun _ => rfl
  | 4 => fun _ => rfl
  | 5 => fun _ => rfl
  | 6 => fun _ => rfl
  | 7 => fun h => by have h2 : ¬ o' = o := fun q => h ⟨rfl, q⟩; simp [cO, sG, sGu, sL, h2]
  | (_ + 8) => fun _ => rfl)
theorem pf_X8_purse (hx : p.tables.exec = Jvm.exec) (hb : c.code = cc) (hts : ∀ q ∈ Ts, q.before args s = true) (hown : s.vm.findClass own = some m.cls) (hW : sW w D Y A σ s H0 H locs) (hk : (0, 7, 0) ∈ kS w) (hin : ∀ q ∈ wsX80, q ∈ Ts) {index : Nat} (hlink : Cond.fieldLink own index "SoldStopsModel" "purse" "I" ∈ Ts) {v : Int32} (hdg : decode cc pc = .ok (.putfield index, 3)) (kk : ∀ (H1 : Heap) (locs1 : List Loc), sW w D Y A (sGu σ 20 0 v) s H0 H1 locs1 → W p l e R s m args below meth c H1 locs1 cells slots Q (F0 m (pc + 3) ls rest)) : W p l e R s m args below meth c H locs cells slots Q (F0 m pc ls (.int v :: .ref (A 0 7 0) :: rest)) :=
  rp (ty := .int) hx hb hts hown hW hk hin tyX8 tyX8_ok nmX8 rfl 4 (by decide) hlink rfl (by decide +kernel) rfl rfl (by simp [cO]) (by simp [cO, sG, sGu, sL]) (cgf_X8_purse rfl) hdg kk
theorem gf_X8_week (hx : p.tables.exec = Jvm.exec) (hb : c.code = cc) (hts : ∀ q ∈ Ts, q.before args s = true) (hown : s.vm.findClass own = some m.cls) (hW : sW w D Y A σ s H0 H locs) (hk : (0, 7, 0) ∈ kS w) (hin : ∀ q ∈ wsX80, q ∈ Ts) {index : Nat} (hlink : Cond.fieldLink own index "SoldStopsModel" "week" "I" ∈ Ts) (hdg : decode cc pc = .ok (.getfield index, 3)) (kk : W p l e R s m args below meth c H locs cells slots Q (F0 m (pc + 3) ls (.int (sG σ 21 0) :: rest))) : W p l e R s m args below meth c H locs cells slots Q (F0 m pc ls (.ref (A 0 7 0) :: rest)) := rg hx hb hts hown hW hk hin rfl 5 (by decide) hlink rfl hdg kk
theorem cgf_X8_week {v : Int32} {o : Nat} (h0 : o = 0) : ∀ j ∈ kS w, j ≠ (0, 7, o) → cE Y A (sGu σ 21 o v) j = cE Y A σ j := cg_O (fun c' o' => match c' with
  | 0 => fun _ => rfl
  | 1 => fun _ => rfl
  | 2 => fun _ => rfl
  | 3 => fun _ => rfl
  | 4 => fun _ => rfl
  | 5 => fun _ => rfl
  | 6 => fun _ => rfl
  | 7 => fun h => by have h2 : ¬ o' = o := fun q => h ⟨rfl, q⟩; simp [cO, sG, sGu, sL, h2]
  | (_ + 8) => fun _ => rfl)
theorem pf_X8_week (hx : p.tables.exec = Jvm.exec) (hb : c.code = cc) (hts : ∀ q ∈ Ts, q.before args s = true) (hown : s.vm.findClass own = some m.cls) (hW : sW w D Y A σ s H0 H locs) (hk : (0, 7, 0) ∈ kS w) (hin : ∀ q ∈ wsX80, q ∈ Ts) {index : Nat} (hlink : Cond.fieldLink own index "SoldStopsModel" "week" "I" ∈ Ts) {v : Int32} (hdg : decode cc pc = .ok (.putfield index, 3)) (kk : ∀ (H1 : Heap) (locs1 : List Loc), sW w D Y A (sGu σ 21 0 v) s H0 H1 locs1 → W p l e R s m args below meth c H1 locs1 cells slots Q (F0 m (pc + 3) ls rest)) : W p l e R s m args below meth c H locs cells slots Q (F0 m pc ls (.int v :: .ref (A 0 7 0) :: rest)) :=
  rp (ty := .int) hx hb hts hown hW hk hin tyX8 tyX8_ok nmX8 rfl 5 (by decide) hlink rfl (by decide +kernel) rfl rfl (by simp [cO]) (by simp [cO, sG, sGu, sL]) (cgf_X8_week rfl) hdg kk
theorem gf_X8_lengths (hx : p.tables.exec = Jvm.exec) (hb : c.code = cc) (hts : ∀ q ∈ Ts, q.before args s = true) (hown : s.vm.findClass own = some m.cls) (hW : sW w D Y A σ s H0 H locs) (hk : (0, 7, 0) ∈ kS w) (hin : ∀ q ∈ wsX80, q ∈ Ts) {index : Nat} (hlink : Cond.fieldLink own index "SoldStopsModel" "lengths" "[I" ∈ Ts) (hdg : decode cc pc = .ok (.getfield index, 3)) (kk : W p l e R s m args below meth c H locs cells slots Q (F0 m (pc + 3) ls (.ref (A 1 17 0) :: rest))) : W p l e R s m args below meth c H locs cells slots Q (F0 m pc ls (.ref (A 0 7 0) :: rest)) := rg hx hb hts hown hW hk hin rfl 6 (by decide) hlink rfl hdg kk
theorem gf_X8_kinds (hx : p.tables.exec = Jvm.exec) (hb : c.code = cc) (hts : ∀ q ∈ Ts, q.before args s = true) (hown : s.vm.findClass own = some m.cls) (hW : sW w D Y A σ s H0 H locs) (hk : (0, 7, 0) ∈ kS w) (hin : ∀ q ∈ wsX80, q ∈ Ts) {index : Nat} (hlink : Cond.fieldLink own index "SoldStopsModel" "kinds" "[I" ∈ Ts) (hdg : decode cc pc = .ok (.getfield index, 3)) (kk : W p l e R s m args below meth c H locs cells slots Q (F0 m (pc + 3) ls (.ref (A 1 18 0) :: rest))) : W p l e R s m args below meth c H locs cells slots Q (F0 m pc ls (.ref (A 0 7 0) :: rest)) := rg hx hb hts hown hW hk hin rfl 7 (by decide) hlink rfl hdg kk
theorem gf_X8_reads (hx : p.tables.exec = Jvm.exec) (hb : c.code = cc) (hts : ∀ q ∈ Ts, q.before args s = true) (hown : s.vm.findClass own = some m.cls) (hW : sW w D Y A σ s H0 H locs) (hk : (0, 7, 0) ∈ kS w) (hin : ∀ q ∈ wsX80, q ∈ Ts) {index : Nat} (hlink : Cond.fieldLink own index "SoldStopsModel" "reads" "[I" ∈ Ts) (hdg : decode cc pc = .ok (.getfield index, 3)) (kk : W p l e R s m args below meth c H locs cells slots Q (F0 m (pc + 3) ls (.ref (A 1 19 0) :: rest))) : W p l e R s m args below meth c H locs cells slots Q (F0 m pc ls (.ref (A 0 7 0) :: rest)) := rg hx hb hts hown hW hk hin rfl 8 (by decide) hlink rfl hdg kk
theorem gf_X8_heardMany (hx : p.tables.exec = Jvm.exec) (hb : c.code = cc) (hts : ∀ q ∈ Ts, q.before args s = true) (hown : s.vm.findClass own = some m.cls) (hW : sW w D Y A σ s H0 H locs) (hk : (0, 7, 0) ∈ kS w) (hin : ∀ q ∈ wsX80, q ∈ Ts) {index : Nat} (hlink : Cond.fieldLink own index "SoldStopsModel" "heardMany" "I" ∈ Ts) (hdg : decode cc pc = .ok (.getfield index, 3)) (kk : W p l e R s m args below meth c H locs cells slots Q (F0 m (pc + 3) ls (.int (sG σ 22 0) :: rest))) : W p l e R s m args below meth c H locs cells slots Q (F0 m pc ls (.ref (A 0 7 0) :: rest)) := rg hx hb hts hown hW hk hin rfl 9 (by decide) hlink rfl hdg kk
theorem cgf_X8_heardMany {v : Int32} {o : Nat} (h0 : o = 0) : ∀ j ∈ kS w, j ≠ (0, 7, o) → cE Y A (sGu σ 22 o v) j = cE Y A σ j := cg_O (fun c' o' => match c' with
  | 0 => fun _ => rfl
  | 1 => fun _ => rfl
  | 2 => fun _ => rfl
  | 3 => fun _ => rfl
  | 4 => fun _ => rfl
  | 5 => fun _ => rfl
  | 6 => fun _ => rfl
  | 7 => fun h => by have h2 : ¬ o' = o := fun q => h ⟨rfl, q⟩; simp [cO, sG, sGu, sL, h2]
  | (_ + 8) => fun _ => rfl)
theorem pf_X8_heardMany (hx : p.tables.exec = Jvm.exec) (hb : c.code = cc) (hts : ∀ q ∈ Ts, q.before args s = true) (hown : s.vm.findClass own = some m.cls) (hW : sW w D Y A σ s H0 H locs) (hk : (0, 7, 0) ∈ kS w) (hin : ∀ q ∈ wsX80, q ∈ Ts) {index : Nat} (hlink : Cond.fieldLink own index "SoldStopsModel" "heardMany" "I" ∈ Ts) {v : Int32} (hdg : decode cc pc = .ok (.putfield index, 3)) (kk : ∀ (H1 : Heap) (locs1 : List Loc), sW w D Y A (sGu σ 22 0 v) s H0 H1 locs1 → W p l e R s m args below meth c H1 locs1 cells slots Q (F0 m (pc + 3) ls rest)) : W p l e R s m args below meth c H locs cells slots Q (F0 m pc ls (.int v :: .ref (A 0 7 0) :: rest)) :=
  rp (ty := .int) hx hb hts hown hW hk hin tyX8 tyX8_ok nmX8 rfl 9 (by decide) hlink rfl (by decide +kernel) rfl rfl (by simp [cO]) (by simp [cO, sG, sGu, sL]) (cgf_X8_heardMany rfl) hdg kk
theorem gf_X8_heards (hx : p.tables.exec = Jvm.exec) (hb : c.code = cc) (hts : ∀ q ∈ Ts, q.before args s = true) (hown : s.vm.findClass own = some m.cls) (hW : sW w D Y A σ s H0 H locs) (hk : (0, 7, 0) ∈ kS w) (hin : ∀ q ∈ wsX80, q ∈ Ts) {index : Nat} (hlink : Cond.fieldLink own index "SoldStopsModel" "heards" "[I" ∈ Ts) (hdg : decode cc pc = .ok (.getfield index, 3)) (kk : W p l e R s m args below meth c H locs cells slots Q (F0 m (pc + 3) ls (.ref (A 1 20 0) :: rest))) : W p l e R s m args below meth c H locs cells slots Q (F0 m pc ls (.ref (A 0 7 0) :: rest)) := rg hx hb hts hown hW hk hin rfl 10 (by decide) hlink rfl hdg kk
theorem gf_X8_text (hx : p.tables.exec = Jvm.exec) (hb : c.code = cc) (hts : ∀ q ∈ Ts, q.before args s = true) (hown : s.vm.findClass own = some m.cls) (hW : sW w D Y A σ s H0 H locs) (hk : (0, 7, 0) ∈ kS w) (hin : ∀ q ∈ wsX80, q ∈ Ts) {index : Nat} (hlink : Cond.fieldLink own index "SoldStopsModel" "text" "[I" ∈ Ts) (hdg : decode cc pc = .ok (.getfield index, 3)) (kk : W p l e R s m args below meth c H locs cells slots Q (F0 m (pc + 3) ls (.ref (A 1 21 0) :: rest))) : W p l e R s m args below meth c H locs cells slots Q (F0 m pc ls (.ref (A 0 7 0) :: rest)) := rg hx hb hts hown hW hk hin rfl 11 (by decide) hlink rfl hdg kk
theorem gf_X8_typed (hx : p.tables.exec = Jvm.exec) (hb : c.code = cc) (hts : ∀ q ∈ Ts, q.before args s = true) (hown : s.vm.findClass own = some m.cls) (hW : sW w D Y A σ s H0 H locs) (hk : (0, 7, 0) ∈ kS w) (hin : ∀ q ∈ wsX80, q ∈ Ts) {index : Nat} (hlink : Cond.fieldLink own index "SoldStopsModel" "typed" "I" ∈ Ts) (hdg : decode cc pc = .ok (.getfield index, 3)) (kk : W p l e R s m args below meth c H locs cells slots Q (F0 m (pc + 3) ls (.int (sG σ 23 0) :: rest))) : W p l e R s m args below meth c H locs cells slots Q (F0 m pc ls (.ref (A 0 7 0) :: rest)) := rg hx hb hts hown hW hk hin rfl 12 (by decide) hlink rfl hdg kk
theorem cgf_X8_typed {v : Int32} {o : Nat} (h0 : o = 0) : ∀ j ∈ kS w, j ≠ (0, 7, o) → cE Y A (sGu σ 23 o v) j = cE Y A σ j := cg_O (fun c' o' => match c' with
  | 0 => fun _ => rfl
  | 1 => fun _ => rfl
  | 2 => fun _ => rfl
  | 3 => fun _ => rfl
  | 4 => fun _ => rfl
  | 5 => fun _ => rfl
  | 6 => fun _ => rfl
  | 7 => fun h => by have h2 : ¬ o' = o := fun q => h ⟨rfl, q⟩; simp [cO, sG, sGu, sL, h2]
  | (_ + 8) => fun _ => rfl)
theorem pf_X8_typed (hx : p.tables.exec = Jvm.exec) (hb : c.code = cc) (hts : ∀ q ∈ Ts, q.before args s = true) (hown : s.vm.findClass own = some m.cls) (hW : sW w D Y A σ s H0 H locs) (hk : (0, 7, 0) ∈ kS w) (hin : ∀ q ∈ wsX80, q ∈ Ts) {index : Nat} (hlink : Cond.fieldLink own index "SoldStopsModel" "typed" "I" ∈ Ts) {v : Int32} (hdg : decode cc pc = .ok (.putfield index, 3)) (kk : ∀ (H1 : Heap) (locs1 : List Loc), sW w D Y A (sGu σ 23 0 v) s H0 H1 locs1 → W p l e R s m args below meth c H1 locs1 cells slots Q (F0 m (pc + 3) ls rest)) : W p l e R s m args below meth c H locs cells slots Q (F0 m pc ls (.int v :: .ref (A 0 7 0) :: rest)) :=
  rp (ty := .int) hx hb hts hown hW hk hin tyX8 tyX8_ok nmX8 rfl 12 (by decide) hlink rfl (by decide +kernel) rfl rfl (by simp [cO]) (by simp [cO, sG, sGu, sL]) (cgf_X8_typed rfl) hdg kk
theorem gf_X8_readAt (hx : p.tables.exec = Jvm.exec) (hb : c.code = cc) (hts : ∀ q ∈ Ts, q.before args s = true) (hown : s.vm.findClass own = some m.cls) (hW : sW w D Y A σ s H0 H locs) (hk : (0, 7, 0) ∈ kS w) (hin : ∀ q ∈ wsX80, q ∈ Ts) {index : Nat} (hlink : Cond.fieldLink own index "SoldStopsModel" "readAt" "I" ∈ Ts) (hdg : decode cc pc = .ok (.getfield index, 3)) (kk : W p l e R s m args below meth c H locs cells slots Q (F0 m (pc + 3) ls (.int (sG σ 24 0) :: rest))) : W p l e R s m args below meth c H locs cells slots Q (F0 m pc ls (.ref (A 0 7 0) :: rest)) := rg hx hb hts hown hW hk hin rfl 13 (by decide) hlink rfl hdg kk
theorem cgf_X8_readAt {v : Int32} {o : Nat} (h0 : o = 0) : ∀ j ∈ kS w, j ≠ (0, 7, o) → cE Y A (sGu σ 24 o v) j = cE Y A σ j := cg_O (fun c' o' => match c' with
  | 0 => fun _ => rfl
  | 1 => fun _ => rfl
  | 2 => fun _ => rfl
  | 3 => fun _ => rfl
  | 4 => fun _ => rfl
  | 5 => fun _ => rfl
  | 6 => fun _ => rfl
  | 7 => fun h => by have h2 : ¬ o' = o := fun q => h ⟨rfl, q⟩; simp [cO, sG, sGu, sL, h2]
  | (_ + 8) => fun _ => rfl)
theorem pf_X8_readAt (hx : p.tables.exec = Jvm.exec) (hb : c.code = cc) (hts : ∀ q ∈ Ts, q.before args s = true) (hown : s.vm.findClass own = some m.cls) (hW : sW w D Y A σ s H0 H locs) (hk : (0, 7, 0) ∈ kS w) (hin : ∀ q ∈ wsX80, q ∈ Ts) {index : Nat} (hlink : Cond.fieldLink own index "SoldStopsModel" "readAt" "I" ∈ Ts) {v : Int32} (hdg : decode cc pc = .ok (.putfield index, 3)) (kk : ∀ (H1 : Heap) (locs1 : List Loc), sW w D Y A (sGu σ 24 0 v) s H0 H1 locs1 → W p l e R s m args below meth c H1 locs1 cells slots Q (F0 m (pc + 3) ls rest)) : W p l e R s m args below meth c H locs cells slots Q (F0 m pc ls (.int v :: .ref (A 0 7 0) :: rest)) :=
  rp (ty := .int) hx hb hts hown hW hk hin tyX8 tyX8_ok nmX8 rfl 13 (by decide) hlink rfl (by decide +kernel) rfl rfl (by simp [cO]) (by simp [cO, sG, sGu, sL]) (cgf_X8_readAt rfl) hdg kk
theorem gf_X8_readNumber (hx : p.tables.exec = Jvm.exec) (hb : c.code = cc) (hts : ∀ q ∈ Ts, q.before args s = true) (hown : s.vm.findClass own = some m.cls) (hW : sW w D Y A σ s H0 H locs) (hk : (0, 7, 0) ∈ kS w) (hin : ∀ q ∈ wsX80, q ∈ Ts) {index : Nat} (hlink : Cond.fieldLink own index "SoldStopsModel" "readNumber" "I" ∈ Ts) (hdg : decode cc pc = .ok (.getfield index, 3)) (kk : W p l e R s m args below meth c H locs cells slots Q (F0 m (pc + 3) ls (.int (sG σ 25 0) :: rest))) : W p l e R s m args below meth c H locs cells slots Q (F0 m pc ls (.ref (A 0 7 0) :: rest)) := rg hx hb hts hown hW hk hin rfl 14 (by decide) hlink rfl hdg kk
theorem cgf_X8_readNumber {v : Int32} {o : Nat} (h0 : o = 0) : ∀ j ∈ kS w, j ≠ (0, 7, o) → cE Y A (sGu σ 25 o v) j = cE Y A σ j := cg_O (fun c' o' => match c' with
  | 0 => fun _ => rfl
  | 1 => fun _ => rfl
  | 2 => fun _ => rfl
  | 3 => fun _ => rfl
  | 4 => fun _ => rfl
  | 5 => fun _ => rfl
  | 6 => fun _ => rfl
  | 7 => fun h => by have h2 : ¬ o' = o := fun q => h ⟨rfl, q⟩; simp [cO, sG, sGu, sL, h2]
  | (_ + 8) => fun _ => rfl)
theorem pf_X8_readNumber (hx : p.tables.exec = Jvm.exec) (hb : c.code = cc) (hts : ∀ q ∈ Ts, q.before args s = true) (hown : s.vm.findClass own = some m.cls) (hW : sW w D Y A σ s H0 H locs) (hk : (0, 7, 0) ∈ kS w) (hin : ∀ q ∈ wsX80, q ∈ Ts) {index : Nat} (hlink : Cond.fieldLink own index "SoldStopsModel" "readNumber" "I" ∈ Ts) {v : Int32} (hdg : decode cc pc = .ok (.putfield index, 3)) (kk : ∀ (H1 : Heap) (locs1 : List Loc), sW w D Y A (sGu σ 25 0 v) s H0 H1 locs1 → W p l e R s m args below meth c H1 locs1 cells slots Q (F0 m (pc + 3) ls rest)) : W p l e R s m args below meth c H locs cells slots Q (F0 m pc ls (.int v :: .ref (A 0 7 0) :: rest)) :=
  rp (ty := .int) hx hb hts hown hW hk hin tyX8 tyX8_ok nmX8 rfl 14 (by decide) hlink rfl (by decide +kernel) rfl rfl (by simp [cO]) (by simp [cO, sG, sGu, sL]) (cgf_X8_readNumber rfl) hdg kk
theorem gf_X8_itemMany (hx : p.tables.exec = Jvm.exec) (hb : c.code = cc) (hts : ∀ q ∈ Ts, q.before args s = true) (hown : s.vm.findClass own = some m.cls) (hW : sW w D Y A σ s H0 H locs) (hk : (0, 7, 0) ∈ kS w) (hin : ∀ q ∈ wsX80, q ∈ Ts) {index : Nat} (hlink : Cond.fieldLink own index "SoldStopsModel" "itemMany" "I" ∈ Ts) (hdg : decode cc pc = .ok (.getfield index, 3)) (kk : W p l e R s m args below meth c H locs cells slots Q (F0 m (pc + 3) ls (.int (sG σ 26 0) :: rest))) : W p l e R s m args below meth c H locs cells slots Q (F0 m pc ls (.ref (A 0 7 0) :: rest)) := rg hx hb hts hown hW hk hin rfl 15 (by decide) hlink rfl hdg kk
theorem cgf_X8_itemMany {v : Int32} {o : Nat} (h0 : o = 0) : ∀ j ∈ kS w, j ≠ (0, 7, o) → cE Y A (sGu σ 26 o v) j = cE Y A σ j := cg_O (fun c' o' => match c' with
  | 0 => fun _ => rfl
  | 1 => fun _ => rfl
  | 2 => fun _ => rfl
  | 3 => fun _ => rfl
  | 4 => fun _ => rfl
  | 5 => fun _ => rfl
  | 6 => fun _ => rfl
  | 7 => fun h => by have h2 : ¬ o' = o := fun q => h ⟨rfl, q⟩; simp [cO, sG, sGu, sL, h2]
  | (_ + 8) => fun _ => rfl)
theorem pf_X8_itemMany (hx : p.tables.exec = Jvm.exec) (hb : c.code = cc) (hts : ∀ q ∈ Ts, q.before args s = true) (hown : s.vm.findClass own = some m.cls) (hW : sW w D Y A σ s H0 H locs) (hk : (0, 7, 0) ∈ kS w) (hin : ∀ q ∈ wsX80, q ∈ Ts) {index : Nat} (hlink : Cond.fieldLink own index "SoldStopsModel" "itemMany" "I" ∈ Ts) {v : Int32} (hdg : decode cc pc = .ok (.putfield index, 3)) (kk : ∀ (H1 : Heap) (locs1 : List Loc), sW w D Y A (sGu σ 26 0 v) s H0 H1 locs1 → W p l e R s m args below meth c H1 locs1 cells slots Q (F0 m (pc + 3) ls rest)) : W p l e R s m args below meth c H locs cells slots Q (F0 m pc ls (.int v :: .ref (A 0 7 0) :: rest)) :=
  rp (ty := .int) hx hb hts hown hW hk hin tyX8 tyX8_ok nmX8 rfl 15 (by decide) hlink rfl (by decide +kernel) rfl rfl (by simp [cO]) (by simp [cO, sG, sGu, sL]) (cgf_X8_itemMany rfl) hdg kk
theorem gf_X8_items (hx : p.tables.exec = Jvm.exec) (hb : c.code = cc) (hts : ∀ q ∈ Ts, q.before args s = true) (hown : s.vm.findClass own = some m.cls) (hW : sW w D Y A σ s H0 H locs) (hk : (0, 7, 0) ∈ kS w) (hin : ∀ q ∈ wsX80, q ∈ Ts) {index : Nat} (hlink : Cond.fieldLink own index "SoldStopsModel" "items" "[I" ∈ Ts) (hdg : decode cc pc = .ok (.getfield index, 3)) (kk : W p l e R s m args below meth c H locs cells slots Q (F0 m (pc + 3) ls (.ref (A 1 22 0) :: rest))) : W p l e R s m args below meth c H locs cells slots Q (F0 m pc ls (.ref (A 0 7 0) :: rest)) := rg hx hb hts hown hW hk hin rfl 16 (by decide) hlink rfl hdg kk
theorem gf_X8_ahead (hx : p.tables.exec = Jvm.exec) (hb : c.code = cc) (hts : ∀ q ∈ Ts, q.before args s = true) (hown : s.vm.findClass own = some m.cls) (hW : sW w D Y A σ s H0 H locs) (hk : (0, 7, 0) ∈ kS w) (hin : ∀ q ∈ wsX80, q ∈ Ts) {index : Nat} (hlink : Cond.fieldLink own index "SoldStopsModel" "ahead" "[I" ∈ Ts) (hdg : decode cc pc = .ok (.getfield index, 3)) (kk : W p l e R s m args below meth c H locs cells slots Q (F0 m (pc + 3) ls (.ref (A 1 23 0) :: rest))) : W p l e R s m args below meth c H locs cells slots Q (F0 m pc ls (.ref (A 0 7 0) :: rest)) := rg hx hb hts hown hW hk hin rfl 17 (by decide) hlink rfl hdg kk
theorem gf_X8_undoMany (hx : p.tables.exec = Jvm.exec) (hb : c.code = cc) (hts : ∀ q ∈ Ts, q.before args s = true) (hown : s.vm.findClass own = some m.cls) (hW : sW w D Y A σ s H0 H locs) (hk : (0, 7, 0) ∈ kS w) (hin : ∀ q ∈ wsX80, q ∈ Ts) {index : Nat} (hlink : Cond.fieldLink own index "SoldStopsModel" "undoMany" "I" ∈ Ts) (hdg : decode cc pc = .ok (.getfield index, 3)) (kk : W p l e R s m args below meth c H locs cells slots Q (F0 m (pc + 3) ls (.int (sG σ 27 0) :: rest))) : W p l e R s m args below meth c H locs cells slots Q (F0 m pc ls (.ref (A 0 7 0) :: rest)) := rg hx hb hts hown hW hk hin rfl 18 (by decide) hlink rfl hdg kk
theorem cgf_X8_undoMany {v : Int32} {o : Nat} (h0 : o = 0) : ∀ j ∈ kS w, j ≠ (0, 7, o) → cE Y A (sGu σ 27 o v) j = cE Y A σ j := cg_O (fun c' o' => match c' with
  | 0 => fun _ => rfl
  | 1 => fun _ => rfl
  | 2 => fun _ => rfl
  | 3 => fun _ => rfl
  | 4 => fun _ => rfl
  | 5 => fun _ => rfl
  | 6 => fun _ => rfl
  | 7 => fun h => by have h2 : ¬ o' = o := fun q => h ⟨rfl, q⟩; simp [cO, sG, sGu, sL, h2]
  | (_ + 8) => fun _ => rfl)
theorem pf_X8_undoMany (hx : p.tables.exec = Jvm.exec) (hb : c.code = cc) (hts : ∀ q ∈ Ts, q.before args s = true) (hown : s.vm.findClass own = some m.cls) (hW : sW w D Y A σ s H0 H locs) (hk : (0, 7, 0) ∈ kS w) (hin : ∀ q ∈ wsX80, q ∈ Ts) {index : Nat} (hlink : Cond.fieldLink own index "SoldStopsModel" "undoMany" "I" ∈ Ts) {v : Int32} (hdg : decode cc pc = .ok (.putfield index, 3)) (kk : ∀ (H1 : Heap) (locs1 : List Loc), sW w D Y A (sGu σ 27 0 v) s H0 H1 locs1 → W p l e R s m args below meth c H1 locs1 cells slots Q (F0 m (pc + 3) ls rest)) : W p l e R s m args below meth c H locs cells slots Q (F0 m pc ls (.int v :: .ref (A 0 7 0) :: rest)) :=
  rp (ty := .int) hx hb hts hown hW hk hin tyX8 tyX8_ok nmX8 rfl 18 (by decide) hlink rfl (by decide +kernel) rfl rfl (by simp [cO]) (by simp [cO, sG, sGu, sL]) (cgf_X8_undoMany rfl) hdg kk
theorem gf_X8_least (hx : p.tables.exec = Jvm.exec) (hb : c.code = cc) (hts : ∀ q ∈ Ts, q.before args s = true) (hown : s.vm.findClass own = some m.cls) (hW : sW w D Y A σ s H0 H locs) (hk : (0, 7, 0) ∈ kS w) (hin : ∀ q ∈ wsX80, q ∈ Ts) {index : Nat} (hlink : Cond.fieldLink own index "SoldStopsModel" "least" "[I" ∈ Ts) (hdg : decode cc pc = .ok (.getfield index, 3)) (kk : W p l e R s m args below meth c H locs cells slots Q (F0 m (pc + 3) ls (.ref (A 1 24 0) :: rest))) : W p l e R s m args below meth c H locs cells slots Q (F0 m pc ls (.ref (A 0 7 0) :: rest)) := rg hx hb hts hown hW hk hin rfl 19 (by decide) hlink rfl hdg kk
theorem gf_X8_bought (hx : p.tables.exec = Jvm.exec) (hb : c.code = cc) (hts : ∀ q ∈ Ts, q.before args s = true) (hown : s.vm.findClass own = some m.cls) (hW : sW w D Y A σ s H0 H locs) (hk : (0, 7, 0) ∈ kS w) (hin : ∀ q ∈ wsX80, q ∈ Ts) {index : Nat} (hlink : Cond.fieldLink own index "SoldStopsModel" "bought" "[I" ∈ Ts) (hdg : decode cc pc = .ok (.getfield index, 3)) (kk : W p l e R s m args below meth c H locs cells slots Q (F0 m (pc + 3) ls (.ref (A 1 25 0) :: rest))) : W p l e R s m args below meth c H locs cells slots Q (F0 m pc ls (.ref (A 0 7 0) :: rest)) := rg hx hb hts hown hW hk hin rfl 20 (by decide) hlink rfl hdg kk
theorem gf_X8_paid (hx : p.tables.exec = Jvm.exec) (hb : c.code = cc) (hts : ∀ q ∈ Ts, q.before args s = true) (hown : s.vm.findClass own = some m.cls) (hW : sW w D Y A σ s H0 H locs) (hk : (0, 7, 0) ∈ kS w) (hin : ∀ q ∈ wsX80, q ∈ Ts) {index : Nat} (hlink : Cond.fieldLink own index "SoldStopsModel" "paid" "[I" ∈ Ts) (hdg : decode cc pc = .ok (.getfield index, 3)) (kk : W p l e R s m args below meth c H locs cells slots Q (F0 m (pc + 3) ls (.ref (A 1 26 0) :: rest))) : W p l e R s m args below meth c H locs cells slots Q (F0 m pc ls (.ref (A 0 7 0) :: rest)) := rg hx hb hts hown hW hk hin rfl 21 (by decide) hlink rfl hdg kk
theorem gf_X8_then (hx : p.tables.exec = Jvm.exec) (hb : c.code = cc) (hts : ∀ q ∈ Ts, q.before args s = true) (hown : s.vm.findClass own = some m.cls) (hW : sW w D Y A σ s H0 H locs) (hk : (0, 7, 0) ∈ kS w) (hin : ∀ q ∈ wsX80, q ∈ Ts) {index : Nat} (hlink : Cond.fieldLink own index "SoldStopsModel" "then" "[I" ∈ Ts) (hdg : decode cc pc = .ok (.getfield index, 3)) (kk : W p l e R s m args below meth c H locs cells slots Q (F0 m (pc + 3) ls (.ref (A 1 27 0) :: rest))) : W p l e R s m args below meth c H locs cells slots Q (F0 m pc ls (.ref (A 0 7 0) :: rest)) := rg hx hb hts hown hW hk hin rfl 22 (by decide) hlink rfl hdg kk
theorem gf_X8_line (hx : p.tables.exec = Jvm.exec) (hb : c.code = cc) (hts : ∀ q ∈ Ts, q.before args s = true) (hown : s.vm.findClass own = some m.cls) (hW : sW w D Y A σ s H0 H locs) (hk : (0, 7, 0) ∈ kS w) (hin : ∀ q ∈ wsX80, q ∈ Ts) {index : Nat} (hlink : Cond.fieldLink own index "SoldStopsModel" "line" "[I" ∈ Ts) (hdg : decode cc pc = .ok (.getfield index, 3)) (kk : W p l e R s m args below meth c H locs cells slots Q (F0 m (pc + 3) ls (.ref (A 1 28 0) :: rest))) : W p l e R s m args below meth c H locs cells slots Q (F0 m pc ls (.ref (A 0 7 0) :: rest)) := rg hx hb hts hown hW hk hin rfl 23 (by decide) hlink rfl hdg kk
theorem gf_X8_bestLine (hx : p.tables.exec = Jvm.exec) (hb : c.code = cc) (hts : ∀ q ∈ Ts, q.before args s = true) (hown : s.vm.findClass own = some m.cls) (hW : sW w D Y A σ s H0 H locs) (hk : (0, 7, 0) ∈ kS w) (hin : ∀ q ∈ wsX80, q ∈ Ts) {index : Nat} (hlink : Cond.fieldLink own index "SoldStopsModel" "bestLine" "[I" ∈ Ts) (hdg : decode cc pc = .ok (.getfield index, 3)) (kk : W p l e R s m args below meth c H locs cells slots Q (F0 m (pc + 3) ls (.ref (A 1 29 0) :: rest))) : W p l e R s m args below meth c H locs cells slots Q (F0 m pc ls (.ref (A 0 7 0) :: rest)) := rg hx hb hts hown hW hk hin rfl 24 (by decide) hlink rfl hdg kk
theorem gf_X8_groups (hx : p.tables.exec = Jvm.exec) (hb : c.code = cc) (hts : ∀ q ∈ Ts, q.before args s = true) (hown : s.vm.findClass own = some m.cls) (hW : sW w D Y A σ s H0 H locs) (hk : (0, 7, 0) ∈ kS w) (hin : ∀ q ∈ wsX80, q ∈ Ts) {index : Nat} (hlink : Cond.fieldLink own index "SoldStopsModel" "groups" "[I" ∈ Ts) (hdg : decode cc pc = .ok (.getfield index, 3)) (kk : W p l e R s m args below meth c H locs cells slots Q (F0 m (pc + 3) ls (.ref (A 1 30 0) :: rest))) : W p l e R s m args below meth c H locs cells slots Q (F0 m pc ls (.ref (A 0 7 0) :: rest)) := rg hx hb hts hown hW hk hin rfl 25 (by decide) hlink rfl hdg kk
theorem gf_X8_above (hx : p.tables.exec = Jvm.exec) (hb : c.code = cc) (hts : ∀ q ∈ Ts, q.before args s = true) (hown : s.vm.findClass own = some m.cls) (hW : sW w D Y A σ s H0 H locs) (hk : (0, 7, 0) ∈ kS w) (hin : ∀ q ∈ wsX80, q ∈ Ts) {index : Nat} (hlink : Cond.fieldLink own index "SoldStopsModel" "above" "J" ∈ Ts) (hdg : decode cc pc = .ok (.getfield index, 3)) (kk : W p l e R s m args below meth c H locs cells slots Q (F0 m (pc + 3) ls (.long (sL σ 2) :: rest))) : W p l e R s m args below meth c H locs cells slots Q (F0 m pc ls (.ref (A 0 7 0) :: rest)) := rg hx hb hts hown hW hk hin rfl 26 (by decide) hlink rfl hdg kk
theorem pf_X8_above (hx : p.tables.exec = Jvm.exec) (hb : c.code = cc) (hts : ∀ q ∈ Ts, q.before args s = true) (hown : s.vm.findClass own = some m.cls) (hW : sW w D Y A σ s H0 H locs) (hk : (0, 7, 0) ∈ kS w) (hin : ∀ q ∈ wsX80, q ∈ Ts) {index : Nat} (hlink : Cond.fieldLink own index "SoldStopsModel" "above" "J" ∈ Ts) {v : Int64} (hdg : decode cc pc = .ok (.putfield index, 3)) (kk : ∀ (H1 : Heap) (locs1 : List Loc), sW w D Y A (sLu σ 2 v) s H0 H1 locs1 → W p l e R s m args below meth c H1 locs1 cells slots Q (F0 m (pc + 3) ls rest)) : W p l e R s m args below meth c H locs cells slots Q (F0 m pc ls (.long v :: .ref (A 0 7 0) :: rest)) :=
  rp (ty := .long) hx hb hts hown hW hk hin tyX8 tyX8_ok nmX8 rfl 26 (by decide) hlink rfl (by decide +kernel) rfl rfl (by simp [cO]) (by simp [cO, sL, sLu, sG]) (cg_J (fun c' o' => match c' with
  | 0 => fun h => rfl
  | 1 => fun h => rfl
  | 2 => fun h => rfl
  | 3 => fun h => rfl
  | 4 => fun h => rfl
  | 5 => fun h => rfl
  | 6 => fun h => rfl
  | 7 => fun h => absurd rfl h
  | (_ + 8) => fun _ => rfl) (fun o h => o1 h (by decide))) hdg kk
theorem gf_X8_below (hx : p.tables.exec = Jvm.exec) (hb : c.code = cc) (hts : ∀ q ∈ Ts, q.before args s = true) (hown : s.vm.findClass own = some m.cls) (hW : sW w D Y A σ s H0 H locs) (hk : (0, 7, 0) ∈ kS w) (hin : ∀ q ∈ wsX80, q ∈ Ts) {index : Nat} (hlink : Cond.fieldLink own index "SoldStopsModel" "below" "J" ∈ Ts) (hdg : decode cc pc = .ok (.getfield index, 3)) (kk : W p l e R s m args below meth c H locs cells slots Q (F0 m (pc + 3) ls (.long (sL σ 3) :: rest))) : W p l e R s m args below meth c H locs cells slots Q (F0 m pc ls (.ref (A 0 7 0) :: rest)) := rg hx hb hts hown hW hk hin rfl 27 (by decide) hlink rfl hdg kk
theorem pf_X8_below (hx : p.tables.exec = Jvm.exec) (hb : c.code = cc) (hts : ∀ q ∈ Ts, q.before args s = true) (hown : s.vm.findClass own = some m.cls) (hW : sW w D Y A σ s H0 H locs) (hk : (0, 7, 0) ∈ kS w) (hin : ∀ q ∈ wsX80, q ∈ Ts) {index : Nat} (hlink : Cond.fieldLink own index "SoldStopsModel" "below" "J" ∈ Ts) {v : Int64} (hdg : decode cc pc = .ok (.putfield index, 3)) (kk : ∀ (H1 : Heap) (locs1 : List Loc), sW w D Y A (sLu σ 3 v) s H0 H1 locs1 → W p l e R s m args below meth c H1 locs1 cells slots Q (F0 m (pc + 3) ls rest)) : W p l e R s m args below meth c H locs cells slots Q (F0 m pc ls (.long v :: .ref (A 0 7 0) :: rest)) :=
  rp (ty := .long) hx hb hts hown hW hk hin tyX8 tyX8_ok nmX8 rfl 27 (by decide) hlink rfl (by decide +kernel) rfl rfl (by simp [cO]) (by simp [cO, sL, sLu, sG]) (cg_J (fun c' o' => match c' with
  | 0 => fun h => rfl
  | 1 => fun h => rfl
  | 2 => fun h => rfl
  | 3 => fun h => rfl
  | 4 => fun h => rfl
  | 5 => fun h => rfl
  | 6 => fun h => rfl
  | 7 => fun h => absurd rfl h
  | (_ + 8) => fun _ => rfl) (fun o h => o1 h (by decide))) hdg kk
theorem gf_X8_ways (hx : p.tables.exec = Jvm.exec) (hb : c.code = cc) (hts : ∀ q ∈ Ts, q.before args s = true) (hown : s.vm.findClass own = some m.cls) (hW : sW w D Y A σ s H0 H locs) (hk : (0, 7, 0) ∈ kS w) (hin : ∀ q ∈ wsX80, q ∈ Ts) {index : Nat} (hlink : Cond.fieldLink own index "SoldStopsModel" "ways" "[J" ∈ Ts) (hdg : decode cc pc = .ok (.getfield index, 3)) (kk : W p l e R s m args below meth c H locs cells slots Q (F0 m (pc + 3) ls (.ref (A 3 2 0) :: rest))) : W p l e R s m args below meth c H locs cells slots Q (F0 m pc ls (.ref (A 0 7 0) :: rest)) := rg hx hb hts hown hW hk hin rfl 28 (by decide) hlink rfl hdg kk
theorem gf_X8_waysThen (hx : p.tables.exec = Jvm.exec) (hb : c.code = cc) (hts : ∀ q ∈ Ts, q.before args s = true) (hown : s.vm.findClass own = some m.cls) (hW : sW w D Y A σ s H0 H locs) (hk : (0, 7, 0) ∈ kS w) (hin : ∀ q ∈ wsX80, q ∈ Ts) {index : Nat} (hlink : Cond.fieldLink own index "SoldStopsModel" "waysThen" "[J" ∈ Ts) (hdg : decode cc pc = .ok (.getfield index, 3)) (kk : W p l e R s m args below meth c H locs cells slots Q (F0 m (pc + 3) ls (.ref (A 3 3 0) :: rest))) : W p l e R s m args below meth c H locs cells slots Q (F0 m pc ls (.ref (A 0 7 0) :: rest)) := rg hx hb hts hown hW hk hin rfl 29 (by decide) hlink rfl hdg kk
theorem gf_X8_images (hx : p.tables.exec = Jvm.exec) (hb : c.code = cc) (hts : ∀ q ∈ Ts, q.before args s = true) (hown : s.vm.findClass own = some m.cls) (hW : sW w D Y A σ s H0 H locs) (hk : (0, 7, 0) ∈ kS w) (hin : ∀ q ∈ wsX80, q ∈ Ts) {index : Nat} (hlink : Cond.fieldLink own index "SoldStopsModel" "images" "[I" ∈ Ts) (hdg : decode cc pc = .ok (.getfield index, 3)) (kk : W p l e R s m args below meth c H locs cells slots Q (F0 m (pc + 3) ls (.ref (A 1 31 0) :: rest))) : W p l e R s m args below meth c H locs cells slots Q (F0 m pc ls (.ref (A 0 7 0) :: rest)) := rg hx hb hts hown hW hk hin rfl 30 (by decide) hlink rfl hdg kk
theorem gf_X8_h0 (hx : p.tables.exec = Jvm.exec) (hb : c.code = cc) (hts : ∀ q ∈ Ts, q.before args s = true) (hown : s.vm.findClass own = some m.cls) (hW : sW w D Y A σ s H0 H locs) (hk : (0, 7, 0) ∈ kS w) (hin : ∀ q ∈ wsX80, q ∈ Ts) {index : Nat} (hlink : Cond.fieldLink own index "SoldStopsModel" "h0" "J" ∈ Ts) (hdg : decode cc pc = .ok (.getfield index, 3)) (kk : W p l e R s m args below meth c H locs cells slots Q (F0 m (pc + 3) ls (.long (sL σ 4) :: rest))) : W p l e R s m args below meth c H locs cells slots Q (F0 m pc ls (.ref (A 0 7 0) :: rest)) := rg hx hb hts hown hW hk hin rfl 31 (by decide) hlink rfl hdg kk
theorem pf_X8_h0 (hx : p.tables.exec = Jvm.exec) (hb : c.code = cc) (hts : ∀ q ∈ Ts, q.before args s = true) (hown : s.vm.findClass own = some m.cls) (hW : sW w D Y A σ s H0 H locs) (hk : (0, 7, 0) ∈ kS w) (hin : ∀ q ∈ wsX80, q ∈ Ts) {index : Nat} (hlink : Cond.fieldLink own index "SoldStopsModel" "h0" "J" ∈ Ts) {v : Int64} (hdg : decode cc pc = .ok (.putfield index, 3)) (kk : ∀ (H1 : Heap) (locs1 : List Loc), sW w D Y A (sLu σ 4 v) s H0 H1 locs1 → W p l e R s m args below meth c H1 locs1 cells slots Q (F0 m (pc + 3) ls rest)) : W p l e R s m args below meth c H locs cells slots Q (F0 m pc ls (.long v :: .ref (A 0 7 0) :: rest)) :=
  rp (ty := .long) hx hb hts hown hW hk hin tyX8 tyX8_ok nmX8 rfl 31 (by decide) hlink rfl (by decide +kernel) rfl rfl (by simp [cO]) (by simp [cO, sL, sLu, sG]) (cg_J (fun c' o' => match c' with
  | 0 => fun h => rfl
  | 1 => fun h => rfl
  | 2 => fun h => rfl
  | 3 => fun h => rfl
  | 4 => fun h => rfl
  | 5 => fun h => rfl
  | 6 => fun h => rfl
  | 7 => fun h => absurd rfl h
  | (_ + 8) => fun _ => rfl) (fun o h => o1 h (by decide))) hdg kk
theorem ra_i (hx : p.tables.exec = Jvm.exec) (hb : c.code = cc) (hW : sW w D Y A σ s H0 H locs) {k o : Nat} (hk : (1, k, o) ∈ kS w) {i : Int32} (hg : gd i (alen k) = true) (hdg : decode cc pc = .ok (.iaload, 1)) (kk : W p l e R s m args below meth c H locs cells slots Q (F0 m (pc + 1) ls (.int (sA σ k o i.toNatClampNeg) :: rest))) : W p l e R s m args below meth c H locs cells slots Q (F0 m pc ls (.int i :: .ref (A 1 k o) :: rest)) := by
  obtain ⟨q0, -, hq⟩ := ws_at (Y := Y) (A := A) σ hk
  exact va_iald hx hb hW.2.1 hW.2.2.1 q0 0 hq rfl (gd_in hg) hdg kk
theorem rs_i (hx : p.tables.exec = Jvm.exec) (hb : c.code = cc) (hW : sW w D Y A σ s H0 H locs) {k o : Nat} (hk : (1, k, o) ∈ kS w) {i v : Int32} (hg : gd i (alen k) = true) (hdg : decode cc pc = .ok (.iastore, 1)) (kk : ∀ (H1 : Heap) (locs1 : List Loc), sW w D Y A (sAu σ k o (upd (sA σ k o) i.toNatClampNeg v)) s H0 H1 locs1 → W p l e R s m args below meth c H1 locs1 cells slots Q (F0 m (pc + 1) ls rest)) : W p l e R s m args below meth c H locs cells slots Q (F0 m pc ls (.int v :: .int i :: .ref (A 1 k o) :: rest)) := by
  obtain ⟨q0, hqk, hq⟩ := ws_at (Y := Y) (A := A) σ hk
  refine va_iast hx hb hW.2.1 hW.2.2.1 (ws_D hW.1 Y σ) hW.2.2.2.1 q0 0 hq rfl (gd_in hg) hdg (fun H1 locs1 hP hD hS => kk H1 locs1 ⟨hW.1, hW.2.1, ?_, hS, hW.2.2.2.2⟩)
  rw [← ws_put (σ' := sAu σ k o (upd (sA σ k o) i.toNatClampNeg v)) hW.1.1 hqk rfl (cg_A hk _)]
  simpa [cE, cR, sAu] using hP
theorem ra_z (hx : p.tables.exec = Jvm.exec) (hb : c.code = cc) (hW : sW w D Y A σ s H0 H locs) {k o : Nat} (hk : (2, k, o) ∈ kS w) {i : Int32} (hg : gd i (zlen k) = true) (hdg : decode cc pc = .ok (.baload, 1)) (kk : W p l e R s m args below meth c H locs cells slots Q (F0 m (pc + 1) ls (.int (sA σ (k + 100) o i.toNatClampNeg) :: rest))) : W p l e R s m args below meth c H locs cells slots Q (F0 m pc ls (.int i :: .ref (A 2 k o) :: rest)) := by
  obtain ⟨q0, -, hq⟩ := ws_at (Y := Y) (A := A) σ hk
  exact va_zald hx hb hW.2.1 hW.2.2.1 q0 2 hq rfl (gd_in hg) hdg kk
theorem rs_z (hx : p.tables.exec = Jvm.exec) (hb : c.code = cc) (hW : sW w D Y A σ s H0 H locs) {k o : Nat} (hk : (2, k, o) ∈ kS w) {i v : Int32} (hg : gd i (zlen k) = true) (hv : vp_nar .boolean v = v) (hdg : decode cc pc = .ok (.bastore, 1)) (kk : ∀ (H1 : Heap) (locs1 : List Loc), sW w D Y A (sAu σ (k + 100) o (upd (sA σ (k + 100) o) i.toNatClampNeg v)) s H0 H1 locs1 → W p l e R s m args below meth c H1 locs1 cells slots Q (F0 m (pc + 1) ls rest)) : W p l e R s m args below meth c H locs cells slots Q (F0 m pc ls (.int v :: .int i :: .ref (A 2 k o) :: rest)) := by
  obtain ⟨q0, hqk, hq⟩ := ws_at (Y := Y) (A := A) σ hk
  refine va_zast hx hb hW.2.1 hW.2.2.1 (ws_D hW.1 Y σ) hW.2.2.2.1 q0 2 hq rfl (gd_in hg) hdg (fun H1 locs1 hP hD hS => kk H1 locs1 ⟨hW.1, hW.2.1, ?_, hS, hW.2.2.2.2⟩)
  rw [hv] at hP
  rw [← ws_put (σ' := sAu σ (k + 100) o (upd (sA σ (k + 100) o) i.toNatClampNeg v)) hW.1.1 hqk rfl (cg_Z _)]
  simpa [cE, cR, sAu] using hP
theorem ra_l (hx : p.tables.exec = Jvm.exec) (hb : c.code = cc) (hW : sW w D Y A σ s H0 H locs) {k : Nat} (hk : (3, k, 0) ∈ kS w) {i : Int32} (hg : gd i 31 = true) (hdg : decode cc pc = .ok (.laload, 1)) (kk : W p l e R s m args below meth c H locs cells slots Q (F0 m (pc + 1) ls (.long (sB σ k i.toNatClampNeg) :: rest))) : W p l e R s m args below meth c H locs cells slots Q (F0 m pc ls (.int i :: .ref (A 3 k 0) :: rest)) := by
  obtain ⟨q0, -, hq⟩ := ws_at (Y := Y) (A := A) σ hk
  exact va_lald hx hb hW.2.1 hW.2.2.1 q0 1 hq rfl (gd_in hg) hdg kk
theorem rs_l (hx : p.tables.exec = Jvm.exec) (hb : c.code = cc) (hW : sW w D Y A σ s H0 H locs) {k : Nat} (hk : (3, k, 0) ∈ kS w) {i : Int32} {v : Int64} (hg : gd i 31 = true) (hdg : decode cc pc = .ok (.lastore, 1)) (kk : ∀ (H1 : Heap) (locs1 : List Loc), sW w D Y A (sBu σ k (vp_updL (sB σ k) i.toNatClampNeg v)) s H0 H1 locs1 → W p l e R s m args below meth c H1 locs1 cells slots Q (F0 m (pc + 1) ls rest)) : W p l e R s m args below meth c H locs cells slots Q (F0 m pc ls (.long v :: .int i :: .ref (A 3 k 0) :: rest)) := by
  obtain ⟨q0, hqk, hq⟩ := ws_at (Y := Y) (A := A) σ hk
  refine va_last hx hb hW.2.1 hW.2.2.1 (ws_D hW.1 Y σ) hW.2.2.2.1 q0 1 hq rfl (gd_in hg) hdg (fun H1 locs1 hP hD hS => kk H1 locs1 ⟨hW.1, hW.2.1, ?_, hS, hW.2.2.2.2⟩)
  rw [← ws_put (σ' := sBu σ k (vp_updL (sB σ k) i.toNatClampNeg v)) hW.1.1 hqk rfl (cg_L _)]
  simpa [cE, cR, sBu] using hP
theorem rl_i (hx : p.tables.exec = Jvm.exec) (hb : c.code = cc) (hW : sW w D Y A σ s H0 H locs) {k o : Nat} (hk : (1, k, o) ∈ kS w) {v : Int32} (hv : Int32.ofNat (alen k) = v) (hdg : decode cc pc = .ok (.arraylength, 1)) (kk : W p l e R s m args below meth c H locs cells slots Q (F0 m (pc + 1) ls (.int v :: rest))) : W p l e R s m args below meth c H locs cells slots Q (F0 m pc ls (.ref (A 1 k o) :: rest)) := by
  obtain ⟨q0, -, hq⟩ := ws_at (Y := Y) (A := A) σ hk
  exact va_alen hx hb hW.2.1 hW.2.2.1 q0 0 hq (ty := .int) rfl hv hdg kk
theorem rl_l (hx : p.tables.exec = Jvm.exec) (hb : c.code = cc) (hW : sW w D Y A σ s H0 H locs) {k : Nat} (hk : (3, k, 0) ∈ kS w) (hdg : decode cc pc = .ok (.arraylength, 1)) (kk : W p l e R s m args below meth c H locs cells slots Q (F0 m (pc + 1) ls (.int 31 :: rest))) : W p l e R s m args below meth c H locs cells slots Q (F0 m pc ls (.ref (A 3 k 0) :: rest)) := by
  obtain ⟨q0, -, hq⟩ := ws_at (Y := Y) (A := A) σ hk
  exact va_alen hx hb hW.2.1 hW.2.2.1 q0 1 hq (ty := .long) rfl rfl hdg kk
/-- a mark's object out of what may be undone -/
theorem ra_q (hx : p.tables.exec = Jvm.exec) (hb : c.code = cc) (hW : sW w D Y A σ s H0 H locs) {o : Nat} (hk : (4, 0, o) ∈ kS w) {i : Int32} (hg : gd i 8 = true) (hdg : decode cc pc = .ok (.aaload, 1)) (kk : W p l e R s m args below meth c H locs cells slots Q (F0 m (pc + 1) ls (.ref (A 0 1 (sR σ o i.toNatClampNeg)) :: rest))) : W p l e R s m args below meth c H locs cells slots Q (F0 m pc ls (.int i :: .ref (A 4 0 o) :: rest)) := by
  obtain ⟨q0, -, hq⟩ := ws_at (Y := Y) (A := A) σ hk
  exact va_aldq hx hb hW.2.1 hW.2.2.1 q0 3 hq rfl (gd_in hg) hdg kk
theorem ra_p (hx : p.tables.exec = Jvm.exec) (hb : c.code = cc) (hW : sW w D Y A σ s H0 H locs) (hk : (4, 1, 0) ∈ kS w) {i : Int32} (hg : gd i 2 = true) (hdg : decode cc pc = .ok (.aaload, 1)) (kk : W p l e R s m args below meth c H locs cells slots Q (F0 m (pc + 1) ls (.ref (A 0 3 (2 + i.toNatClampNeg)) :: rest))) : W p l e R s m args below meth c H locs cells slots Q (F0 m pc ls (.int i :: .ref (A 4 1 0) :: rest)) := by
  obtain ⟨q0, -, hq⟩ := ws_at (Y := Y) (A := A) σ hk
  exact va_aldq hx hb hW.2.1 hW.2.2.1 q0 4 hq rfl (gd_in hg) hdg kk
theorem aldg {cl : List vw_C} {tys : List (ClassId × FieldType)} {ws : va_W} {a : Nat} (hx : p.tables.exec = Jvm.exec) (hb : c.code = cc) (hK : va_K D cl tys s) (hP : va_P D cl ws H) (q0 t0 : Nat) {cA : ClassId} {ty : FieldType} {n : Nat} {f : Nat → Option Nat} (ha : ws[q0]? = some (a, .inl (cA, n, .inr (.inr (.inr (.inr f)))))) (ht : tys[t0]? = some (cA, .array ty)) {i : Int32} (hin : vp_in i n) (hdg : decode cc pc = .ok (.aaload, 1))
    (kk : W p l e R s m args below meth c H locs cells slots Q (F0 m (pc + 1) ls (va_rf (f i.toNatClampNeg) :: rest))) : W p l e R s m args below meth c H locs cells slots Q (F0 m pc ls (.int i :: .ref a :: rest)) := by
  have hlt : i.toNatClampNeg < n := Nat.not_le.mp fun q => hin (Or.inr q)
  exact W.aald (v := va_rf (f i.toNatClampNeg)) (ty := .array ty) hx hb (hP q0 _ ha) ((hK.2 t0 _ ht).1 n (fun j => va_rf (f j))) rfl (fun q => by cases q) (by show ¬ (i < 0 ∨ (arrV _ _ _).slots.size ≤ _); rw [arrV_size]; exact hin) (by show (arrV _ _ _).slots[_]? = _; rw [arrV_read _ _ hlt]) rfl rfl hdg kk
theorem ra_g2 (hx : p.tables.exec = Jvm.exec) (hb : c.code = cc) (hW : sW w D Y A σ s H0 H locs) (hk : (4, 2, 0) ∈ kS w) {i : Int32} (hg : gd i 13 = true) (hdg : decode cc pc = .ok (.aaload, 1)) (kk : W p l e R s m args below meth c H locs cells slots Q (F0 m (pc + 1) ls (.ref (A 1 6 i.toNatClampNeg) :: rest))) : W p l e R s m args below meth c H locs cells slots Q (F0 m pc ls (.int i :: .ref (A 4 2 0) :: rest)) := by
  obtain ⟨q0, -, hq⟩ := ws_at (Y := Y) (A := A) σ hk
  exact aldg hx hb hW.2.1 hW.2.2.1 q0 5 hq rfl (gd_in hg) hdg kk
theorem ra_g3 (hx : p.tables.exec = Jvm.exec) (hb : c.code = cc) (hW : sW w D Y A σ s H0 H locs) (hk : (4, 3, 0) ∈ kS w) {i : Int32} (hg : gd i 13 = true) (hdg : decode cc pc = .ok (.aaload, 1)) (kk : W p l e R s m args below meth c H locs cells slots Q (F0 m (pc + 1) ls (.ref (A 1 7 i.toNatClampNeg) :: rest))) : W p l e R s m args below meth c H locs cells slots Q (F0 m pc ls (.int i :: .ref (A 4 3 0) :: rest)) := by
  obtain ⟨q0, -, hq⟩ := ws_at (Y := Y) (A := A) σ hk
  exact aldg hx hb hW.2.1 hW.2.2.1 q0 5 hq rfl (gd_in hg) hdg kk
theorem ra_g4 (hx : p.tables.exec = Jvm.exec) (hb : c.code = cc) (hW : sW w D Y A σ s H0 H locs) (hk : (4, 4, 0) ∈ kS w) {i : Int32} (hg : gd i 12 = true) (hdg : decode cc pc = .ok (.aaload, 1)) (kk : W p l e R s m args below meth c H locs cells slots Q (F0 m (pc + 1) ls (.ref (A 1 8 i.toNatClampNeg) :: rest))) : W p l e R s m args below meth c H locs cells slots Q (F0 m pc ls (.int i :: .ref (A 4 4 0) :: rest)) := by
  obtain ⟨q0, -, hq⟩ := ws_at (Y := Y) (A := A) σ hk
  exact aldg hx hb hW.2.1 hW.2.2.1 q0 5 hq rfl (gd_in hg) hdg kk
theorem rs_q (hx : p.tables.exec = Jvm.exec) (hb : c.code = cc) (hW : sW w D Y A σ s H0 H locs) {o k : Nat} (hk : (4, 0, o) ∈ kS w) (hv : (0, 1, k) ∈ kS w) {i : Int32} (hg : gd i 8 = true) (hdg : decode cc pc = .ok (.aastore, 1)) (kk : ∀ (H1 : Heap) (locs1 : List Loc), sW w D Y A (sRu σ o (sUp (sR σ o) i.toNatClampNeg k)) s H0 H1 locs1 → W p l e R s m args below meth c H1 locs1 cells slots Q (F0 m (pc + 1) ls rest)) : W p l e R s m args below meth c H locs cells slots Q (F0 m pc ls (.ref (A 0 1 k) :: .int i :: .ref (A 4 0 o) :: rest)) := by
  obtain ⟨q0, hqk, hq⟩ := ws_at (Y := Y) (A := A) σ hk
  obtain ⟨q1, -, hq1⟩ := ws_at (Y := Y) (A := A) σ hv
  refine va_astq hx hb hW.2.1 hW.2.2.1 (ws_D hW.1 Y σ) hW.2.2.2.1 q0 3 q1 1 hq (r := (RX2, TX2, 4)) rfl hq1 rfl (gd_in hg) hdg (fun H1 locs1 hP hD hS => kk H1 locs1 ⟨hW.1, hW.2.1, ?_, hS, hW.2.2.2.2⟩)
  rw [← ws_put (σ' := sRu σ o (sUp (sR σ o) i.toNatClampNeg k)) hW.1.1 hqk rfl (cg_R _)]
  have : va_up (fun j => some (A 0 1 (sR σ o j))) i.toNatClampNeg (some (A 0 1 k)) = fun j => some (A 0 1 (sUp (sR σ o) i.toNatClampNeg k j)) := by
    funext j
    unfold va_up sUp
    by_cases hj : j = i.toNatClampNeg
    · rw [if_pos hj, if_pos hj]
    · rw [if_neg hj, if_neg hj]
  have e2 : cE Y A (sRu σ o (sUp (sR σ o) i.toNatClampNeg k)) (4, 0, o) = .inl (Y 3, 8, .inr (.inr (.inr (.inr (va_up (fun j => some (A 0 1 (sR σ o j))) i.toNatClampNeg (some (A 0 1 k))))))) := by
    rw [this, cE_r _ _ _ (by decide)]
    simp [cR, sRu]
  rw [e2]
  exact hP
theorem rcp (hx : p.tables.exec = Jvm.exec) (hb : c.code = cc) (hts : ∀ q ∈ Ts, q.before args s = true) (hown : s.vm.findClass own = some m.cls) (hml : c.maxLocals = ls.size) {index : Nat} (hlink : Cond.methodLink own index arraycopyName ∈ Ts) (hnat : Cond.native arraycopyName ∈ Ts) (hstat : Cond.static arraycopyName ∈ Ts) (hini : Cond.initialized "java/lang/System" ∈ Ts) (hW : sW w D Y A σ s H0 H locs) {k o k1 o1 : Nat} (hk : (1, k, o) ∈ kS w) (hk1 : (1, k1, o1) ∈ kS w) {sp dp n : Int32} (hg : gdc sp dp n (alen k) (alen k1) = true) (hframes : 1 ≤ R.frames) (hlocals : (rest.map fun v => v.category).sum + (nativeFrameWords "java/lang/System" "arraycopy" 5 + 11) ≤ R.locals) (hdg : decode cc pc = .ok (.invokestatic index, 3)) (kk : ∀ (H1 : Heap) (locs1 : List Loc), sW w D Y A (sAu σ k1 o1 (va_cpy (sA σ k o) (sA σ k1 o1) sp.toNatClampNeg dp.toNatClampNeg n.toNatClampNeg)) s H0 H1 locs1 → W p l e R s m args below meth c H1 locs1 cells slots Q (F0 m (pc + 3) ls rest)) : W p l e R s m args below meth c H locs cells slots Q (F0 m pc ls (.int n :: .int dp :: .ref (A 1 k1 o1) :: .int sp :: .ref (A 1 k o) :: rest)) := by
  obtain ⟨q0, -, hq⟩ := ws_at (Y := Y) (A := A) σ hk
  obtain ⟨q1, hqk, hq1⟩ := ws_at (Y := Y) (A := A) σ hk1
  obtain ⟨g1, g2, g3, g4, g5⟩ := gdc_in hg
  refine va_copyi hx hb hml hown (hts _ hlink) (hts _ hnat) (hts _ hstat) (hts _ hini) hW.2.1 hW.2.2.1 (ws_D hW.1 Y σ) hW.2.2.2.1 q0 q1 0 0 hq hq1 (ty := .int) rfl rfl rfl g1 g2 g3 g4 g5 (fun i _ => rfl) hframes hlocals hdg (fun H1 locs1 hP hD hS => kk H1 locs1 ⟨hW.1, hW.2.1, ?_, hS, hW.2.2.2.2⟩)
  rw [← ws_put (σ' := sAu σ k1 o1 (va_cpy (sA σ k o) (sA σ k1 o1) sp.toNatClampNeg dp.toNatClampNeg n.toNatClampNeg)) hW.1.1 hqk rfl (cg_A hk1 _)]
  simpa [cE, cR, sAu] using hP
theorem rcpl (hx : p.tables.exec = Jvm.exec) (hb : c.code = cc) (hts : ∀ q ∈ Ts, q.before args s = true) (hown : s.vm.findClass own = some m.cls) (hml : c.maxLocals = ls.size) {index : Nat} (hlink : Cond.methodLink own index arraycopyName ∈ Ts) (hnat : Cond.native arraycopyName ∈ Ts) (hstat : Cond.static arraycopyName ∈ Ts) (hini : Cond.initialized "java/lang/System" ∈ Ts) (hW : sW w D Y A σ s H0 H locs) {k k1 : Nat} (hk : (3, k, 0) ∈ kS w) (hk1 : (3, k1, 0) ∈ kS w) {sp dp n : Int32} (hg : gdc sp dp n 31 31 = true) (hframes : 1 ≤ R.frames) (hlocals : (rest.map fun v => v.category).sum + (nativeFrameWords "java/lang/System" "arraycopy" 5 + 11) ≤ R.locals) (hdg : decode cc pc = .ok (.invokestatic index, 3)) (kk : ∀ (H1 : Heap) (locs1 : List Loc), sW w D Y A (sBu σ k1 (va_cpy (sB σ k) (sB σ k1) sp.toNatClampNeg dp.toNatClampNeg n.toNatClampNeg)) s H0 H1 locs1 → W p l e R s m args below meth c H1 locs1 cells slots Q (F0 m (pc + 3) ls rest)) : W p l e R s m args below meth c H locs cells slots Q (F0 m pc ls (.int n :: .int dp :: .ref (A 3 k1 0) :: .int sp :: .ref (A 3 k 0) :: rest)) := by
  obtain ⟨q0, -, hq⟩ := ws_at (Y := Y) (A := A) σ hk
  obtain ⟨q1, hqk, hq1⟩ := ws_at (Y := Y) (A := A) σ hk1
  obtain ⟨g1, g2, g3, g4, g5⟩ := gdc_in hg
  refine va_copyl hx hb hml hown (hts _ hlink) (hts _ hnat) (hts _ hstat) (hts _ hini) hW.2.1 hW.2.2.1 (ws_D hW.1 Y σ) hW.2.2.2.1 q0 q1 1 1 hq hq1 (ty := .long) rfl rfl rfl g1 g2 g3 g4 g5 (fun i _ => rfl) hframes hlocals hdg (fun H1 locs1 hP hD hS => kk H1 locs1 ⟨hW.1, hW.2.1, ?_, hS, hW.2.2.2.2⟩)
  rw [← ws_put (σ' := sBu σ k1 (va_cpy (sB σ k) (sB σ k1) sp.toNatClampNeg dp.toNatClampNeg n.toNatClampNeg)) hW.1.1 hqk rfl (cg_L _)]
  simpa [cE, cR, sBu] using hP
theorem EX.calling {U : State} {g : JFrame} {mk : MethodId} {a : Array Value} (h : EX w A U) : EX w A (U.calling g mk a) := h
theorem ss_blind {av : List Value} : FrameBlind (Pc0 w D Y A σ av) := fun a U g mk q => ⟨q.1, va_K.moved (u := U) (U := U.calling g mk a) (Vm.Alike.refl U.vm) q.2.1, q.2.2.1, q.2.2.2.calling⟩
theorem ss_pre {av : List Value} (hW : sW w D Y A σ s s.heap H locs) : ∀ U : State, U.heap = H → s.WarmedH U.vm → Pc0 w D Y A σ av av.toArray U := fun U hU hw => ⟨rfl, va_K.moved hw.alike hW.2.1, by rw [hU]; exact hW.2.2.1, hW.2.2.2.2.next hw (by rw [hU]; exact hW.2.2.2.1)⟩
theorem ss_recv {ci o : Nat} {q : vw_C} (hW : sW w D Y A σ s H0 H locs) (hk : (0, ci, o) ∈ kS w) (hc : vwCl[ci]? = some q) : ∃ cell : Cell, H[A 0 ci o]? = some cell ∧ cell.vm.isStatics = false ∧ s.vm.findClass q.1 = some cell.cls := by
  obtain ⟨q0, -, hq⟩ := ws_at (Y := Y) (A := A) σ hk
  rw [cE_o] at hq
  exact va_recv hW.2.1 hW.2.2.1 hc hq
theorem ss_back {σ' : ss_M} {t : State} {H1 : Heap} {locs1 : List Loc} (hW : sW w D Y A σ s H0 H locs) (ht : t.heap = H1) (hvm : s.vm.Alike t.vm) (hB : WB w D Y A σ' t) (hS : va_S (FA w A) H0 H1 locs1) : sW w D Y A σ' s H0 H1 locs1 := ⟨hW.1, va_K.moved hvm.symm hB.1, by rw [← ht]; exact hB.2.1, hS, hW.2.2.2.2⟩
theorem rv_i {nL n index maxL : Nat} {y : MethodName} {bytes : ByteArray} {ret : Option FieldType} {ws : List Cond} {rm : Room} {C : String} {T : u_T} {N ci o : Nat} {As st0 : List Value} {σ' : ss_M} {r : Int32} (S : CallFix p m c cc nL s args Ts own) (hM : Met l y ws rm (Pc0 w D Y A σ (.ref (A 0 ci o) :: As)) (Qi0 w D Y A r σ') 0 0 (FA w A)) (cw : CallW R s args own C index y bytes maxL ret ws rm 0 0 n) (hW : sW w D Y A σ s s.heap H locs) (hk : (0, ci, o) ∈ kS w) (hc : vwCl[ci]? = some (C, T, N)) (hst : st0 = As.reverse ++ .ref (A 0 ci o) :: rest) (hn : As.length = n) (hsz : ls.size = nL) (hR : (rest.map fun v => v.category).sum ≤ 8) (hcs : cells ≤ R.cells ∧ slots ≤ R.slots) (hdg : decode cc pc = .ok (.invokevirtual index, 3)) (kk : ∀ (H1 : Heap) (locs1 : List Loc), sW w D Y A σ' s s.heap H1 locs1 → W p l e R s m args below meth c H1 locs1 cells slots Q (F0 m (pc + 3) ls (.int r :: rest))) : W p l e R s m args below meth c H locs cells slots Q (F0 m pc ls st0) :=
  va_calli (va_runV (As := As) (rest := rest) (b := A 0 ci o) (g := F0 m pc ls st0) S hM cw ⟨ss_blind, ss_recv hW hk hc, ss_pre hW⟩ rfl hn hsz hst (lv_room hR) hdg hcs) hW.2.2.2.1 (fun q _ h => h) (fun q h => h) (fun r1 u t H1 locs1 ht hvm hp hB _ _ hS => by obtain ⟨rfl, rfl⟩ := hp; exact kk H1 locs1 (ss_back hW ht hvm hB hS))
theorem rt_i {nL n index maxL : Nat} {y : MethodName} {bytes : ByteArray} {ret : Option FieldType} {ws : List Cond} {rm : Room} {As st0 : List Value} {σ' : ss_M} {r : Int32} (S : CallFix p m c cc nL s args Ts own) (hM : Met l y ws rm (Pc0 w D Y A σ As) (Qi0 w D Y A r σ') 0 0 (FA w A)) (cw : CallB R s args own index y bytes maxL ret ws rm 0 0 n ∧ (Cond.static y).before args s = true) (hW : sW w D Y A σ s s.heap H locs) (hst : st0 = As.reverse ++ rest) (hn : As.length = n) (hsz : ls.size = nL) (hR : (rest.map fun v => v.category).sum ≤ 8) (hcs : cells ≤ R.cells ∧ slots ≤ R.slots) (hdg : decode cc pc = .ok (.invokestatic index, 3)) (kk : ∀ (H1 : Heap) (locs1 : List Loc), sW w D Y A σ' s s.heap H1 locs1 → W p l e R s m args below meth c H1 locs1 cells slots Q (F0 m (pc + 3) ls (.int r :: rest))) : W p l e R s m args below meth c H locs cells slots Q (F0 m pc ls st0) :=
  va_calli (va_runS (As := As) (rest := rest) (g := F0 m pc ls st0) S hM cw ⟨ss_blind, ss_pre hW⟩ rfl hn hsz hst (lv_room hR) hdg hcs) hW.2.2.2.1 (fun q _ h => h) (fun q h => h) (fun r1 u t H1 locs1 ht hvm hp hB _ _ hS => by obtain ⟨rfl, rfl⟩ := hp; exact kk H1 locs1 (ss_back hW ht hvm hB hS))
theorem rv_l {nL n index maxL : Nat} {y : MethodName} {bytes : ByteArray} {ret : Option FieldType} {ws : List Cond} {rm : Room} {C : String} {T : u_T} {N ci o : Nat} {As st0 : List Value} {σ' : ss_M} {r : Int64} (S : CallFix p m c cc nL s args Ts own) (hM : Met l y ws rm (Pc0 w D Y A σ (.ref (A 0 ci o) :: As)) (Ql0 w D Y A r σ') 0 0 (FA w A)) (cw : CallW R s args own C index y bytes maxL ret ws rm 0 0 n) (hW : sW w D Y A σ s s.heap H locs) (hk : (0, ci, o) ∈ kS w) (hc : vwCl[ci]? = some (C, T, N)) (hst : st0 = As.reverse ++ .ref (A 0 ci o) :: rest) (hn : As.length = n) (hsz : ls.size = nL) (hR : (rest.map fun v => v.category).sum ≤ 8) (hcs : cells ≤ R.cells ∧ slots ≤ R.slots) (hdg : decode cc pc = .ok (.invokevirtual index, 3)) (kk : ∀ (H1 : Heap) (locs1 : List Loc), sW w D Y A σ' s s.heap H1 locs1 → W p l e R s m args below meth c H1 locs1 cells slots Q (F0 m (pc + 3) ls (.long r :: rest))) : W p l e R s m args below meth c H locs cells slots Q (F0 m pc ls st0) :=
  va_calll (va_runV (As := As) (rest := rest) (b := A 0 ci o) (g := F0 m pc ls st0) S hM cw ⟨ss_blind, ss_recv hW hk hc, ss_pre hW⟩ rfl hn hsz hst (lv_room hR) hdg hcs) hW.2.2.2.1 (fun q _ h => h) (fun q h => h) (fun r1 u t H1 locs1 ht hvm hp hB _ _ hS => by obtain ⟨rfl, rfl⟩ := hp; exact kk H1 locs1 (ss_back hW ht hvm hB hS))
theorem rt_l {nL n index maxL : Nat} {y : MethodName} {bytes : ByteArray} {ret : Option FieldType} {ws : List Cond} {rm : Room} {As st0 : List Value} {σ' : ss_M} {r : Int64} (S : CallFix p m c cc nL s args Ts own) (hM : Met l y ws rm (Pc0 w D Y A σ As) (Ql0 w D Y A r σ') 0 0 (FA w A)) (cw : CallB R s args own index y bytes maxL ret ws rm 0 0 n ∧ (Cond.static y).before args s = true) (hW : sW w D Y A σ s s.heap H locs) (hst : st0 = As.reverse ++ rest) (hn : As.length = n) (hsz : ls.size = nL) (hR : (rest.map fun v => v.category).sum ≤ 8) (hcs : cells ≤ R.cells ∧ slots ≤ R.slots) (hdg : decode cc pc = .ok (.invokestatic index, 3)) (kk : ∀ (H1 : Heap) (locs1 : List Loc), sW w D Y A σ' s s.heap H1 locs1 → W p l e R s m args below meth c H1 locs1 cells slots Q (F0 m (pc + 3) ls (.long r :: rest))) : W p l e R s m args below meth c H locs cells slots Q (F0 m pc ls st0) :=
  va_calll (va_runS (As := As) (rest := rest) (g := F0 m pc ls st0) S hM cw ⟨ss_blind, ss_pre hW⟩ rfl hn hsz hst (lv_room hR) hdg hcs) hW.2.2.2.1 (fun q _ h => h) (fun q h => h) (fun r1 u t H1 locs1 ht hvm hp hB _ _ hS => by obtain ⟨rfl, rfl⟩ := hp; exact kk H1 locs1 (ss_back hW ht hvm hB hS))
theorem rv_v {nL n index maxL : Nat} {y : MethodName} {bytes : ByteArray} {ret : Option FieldType} {ws : List Cond} {rm : Room} {C : String} {T : u_T} {N ci o : Nat} {As st0 : List Value} {σ' : ss_M}  (S : CallFix p m c cc nL s args Ts own) (hM : Met l y ws rm (Pc0 w D Y A σ (.ref (A 0 ci o) :: As)) (Qv0 w D Y A σ') 0 0 (FA w A)) (cw : CallW R s args own C index y bytes maxL ret ws rm 0 0 n) (hW : sW w D Y A σ s s.heap H locs) (hk : (0, ci, o) ∈ kS w) (hc : vwCl[ci]? = some (C, T, N)) (hst : st0 = As.reverse ++ .ref (A 0 ci o) :: rest) (hn : As.length = n) (hsz : ls.size = nL) (hR : (rest.map fun v => v.category).sum ≤ 8) (hcs : cells ≤ R.cells ∧ slots ≤ R.slots) (hdg : decode cc pc = .ok (.invokevirtual index, 3)) (kk : ∀ (H1 : Heap) (locs1 : List Loc), sW w D Y A σ' s s.heap H1 locs1 → W p l e R s m args below meth c H1 locs1 cells slots Q (F0 m (pc + 3) ls (rest))) : W p l e R s m args below meth c H locs cells slots Q (F0 m pc ls st0) :=
  va_callv (va_runV (As := As) (rest := rest) (b := A 0 ci o) (g := F0 m pc ls st0) S hM cw ⟨ss_blind, ss_recv hW hk hc, ss_pre hW⟩ rfl hn hsz hst (lv_room hR) hdg hcs) hW.2.2.2.1 (fun q _ h => h) (fun q h => h) (fun u t H1 locs1 ht hvm hp hB _ _ hS => by subst hp; exact kk H1 locs1 (ss_back hW ht hvm hB hS))
theorem rt_v {nL n index maxL : Nat} {y : MethodName} {bytes : ByteArray} {ret : Option FieldType} {ws : List Cond} {rm : Room} {As st0 : List Value} {σ' : ss_M}  (S : CallFix p m c cc nL s args Ts own) (hM : Met l y ws rm (Pc0 w D Y A σ As) (Qv0 w D Y A σ') 0 0 (FA w A)) (cw : CallB R s args own index y bytes maxL ret ws rm 0 0 n ∧ (Cond.static y).before args s = true) (hW : sW w D Y A σ s s.heap H locs) (hst : st0 = As.reverse ++ rest) (hn : As.length = n) (hsz : ls.size = nL) (hR : (rest.map fun v => v.category).sum ≤ 8) (hcs : cells ≤ R.cells ∧ slots ≤ R.slots) (hdg : decode cc pc = .ok (.invokestatic index, 3)) (kk : ∀ (H1 : Heap) (locs1 : List Loc), sW w D Y A σ' s s.heap H1 locs1 → W p l e R s m args below meth c H1 locs1 cells slots Q (F0 m (pc + 3) ls (rest))) : W p l e R s m args below meth c H locs cells slots Q (F0 m pc ls st0) :=
  va_callv (va_runS (As := As) (rest := rest) (g := F0 m pc ls st0) S hM cw ⟨ss_blind, ss_pre hW⟩ rfl hn hsz hst (lv_room hR) hdg hcs) hW.2.2.2.1 (fun q _ h => h) (fun q h => h) (fun u t H1 locs1 ht hvm hp hB _ _ hS => by subst hp; exact kk H1 locs1 (ss_back hW ht hvm hB hS))
theorem ss_end {t : State} {σ' : ss_M} (hW : sW w D Y A σ s s.heap H locs) (hσ : σ = σ') (ht : t.heap = H) (hw : s.WarmedH t.vm) : WB w D Y A σ' t := by
  subst hσ
  exact ⟨va_K.moved hw.alike hW.2.1, by rw [ht]; exact hW.2.2.1, hW.2.2.2.2.next hw (by rw [ht]; exact hW.2.2.2.1)⟩
theorem re_i (hx : p.tables.exec = Jvm.exec) (hb : c.code = cc) (hr : meth.sig.returnType = some .int) (hlocks : meth.locks = false) (hW : sW w D Y A σ s s.heap H locs) {v r : Int32} {σ' : ss_M} (hf : (v, σ) = (r, σ')) (hdg : decode cc pc = .ok (.ireturn, 1)) : W p l e R s m args below meth c H locs 0 0 (MQ below (Qi0 w D Y A r σ') args s 0 0 (FA w A)) (F0 m pc ls [.int v]) :=
  W.iret hx hb hr (fun t ht hw => ⟨⟨v, σ', rfl, ⟨congrArg Prod.fst hf, rfl⟩, ss_end hW (congrArg Prod.snd hf) ht hw⟩, hW.2.2.2.1.F ht⟩) hW.2.2.2.1.2.2 hdg hlocks
theorem re_z (hx : p.tables.exec = Jvm.exec) (hb : c.code = cc) (hr : meth.sig.returnType = some .boolean) (hlocks : meth.locks = false) (hW : sW w D Y A σ s s.heap H locs) {v r : Int32} {σ' : ss_M} (hv : v &&& 1 = v) (hf : (v, σ) = (r, σ')) (hdg : decode cc pc = .ok (.ireturn, 1)) : W p l e R s m args below meth c H locs 0 0 (MQ below (Qi0 w D Y A r σ') args s 0 0 (FA w A)) (F0 m pc ls [.int v]) :=
  W.zret hx hb hr (show Value.int (v &&& 1) = Value.int v by rw [hv]) (fun t ht hw => ⟨⟨v, σ', rfl, ⟨congrArg Prod.fst hf, rfl⟩, ss_end hW (congrArg Prod.snd hf) ht hw⟩, hW.2.2.2.1.F ht⟩) hW.2.2.2.1.2.2 hdg hlocks
theorem re_l (hx : p.tables.exec = Jvm.exec) (hb : c.code = cc) (hr : meth.sig.returnType = some .long) (hlocks : meth.locks = false) (hW : sW w D Y A σ s s.heap H locs) {v r : Int64} {σ' : ss_M} (hf : (v, σ) = (r, σ')) (hdg : decode cc pc = .ok (.lreturn, 1)) : W p l e R s m args below meth c H locs 0 0 (MQ below (Ql0 w D Y A r σ') args s 0 0 (FA w A)) (F0 m pc ls [.long v]) :=
  W.lret hx hb hr (fun t ht hw => ⟨⟨v, σ', rfl, ⟨congrArg Prod.fst hf, rfl⟩, ss_end hW (congrArg Prod.snd hf) ht hw⟩, hW.2.2.2.1.F ht⟩) hW.2.2.2.1.2.2 hdg hlocks
theorem re_v (hx : p.tables.exec = Jvm.exec) (hb : c.code = cc) (hr : meth.sig.returnType = none) (hlocks : meth.locks = false) (hW : sW w D Y A σ s s.heap H locs) {σ' : ss_M} (hf : σ = σ') (hdg : decode cc pc = .ok (.return_, 1)) : W p l e R s m args below meth c H locs 0 0 (MQ below (Qv0 w D Y A σ') args s 0 0 (FA w A)) (F0 m pc ls []) :=
  W.vret hx hb hr (fun t ht hw => ⟨⟨σ', rfl, rfl, ss_end hW hf ht hw⟩, hW.2.2.2.1.F ht⟩) hW.2.2.2.1.2.2 hdg hlocks
/-- a contract out of a walk of the body -/
theorem Met0 {y : MethodName} {ws ws' : List Cond} {rm : Room} {av : List Value} {Qc : Array Value → State → Outcome → State → Prop} {maxL : Nat} {ret : Option FieldType} (hy : plainName y.cls = true) (hw : ws = Cond.code y cc maxL ret :: ws') (hAD : AD w A) (hcls : y.cls = own) (hlen : (lg_sl av).length ≤ maxL)
    (body : ∀ (p : Program) (e : Env) (s : State) (m : MethodId) (args : Array Value) (below : List Frame) (meth : Method) (c : Code), CallFix p m c cc maxL s args ws own → meth.sig.returnType = ret → meth.locks = false → sW w D Y A σ s s.heap s.heap [] → ∀ ls, lv_has ls maxL (lv_args 0 av) → W p l e rm s m args below meth c s.heap [] 0 0 (MQ below Qc args s 0 0 (FA w A)) (F0 m 0 ls [])) : Met l y ws rm (Pc0 w D Y A σ av) Qc 0 0 (FA w A) := by
  refine Met.ofW (cc := cc) (maxL := maxL) (ret := ret) hy hw ?_
  intro p e s m args below meth c s₁ B hml hv
  obtain ⟨rfl, hK, hP, hE⟩ := hv
  have hts := atoms_spec (ws := ws) B.pre
  have hown : s.vm.findClass own = some m.cls := by rw [← hcls]; exact findClass_of_methodNamed B.named
  have hl := lv_entry av (n := maxL) hlen
  rw [lg_entry_eq]
  exact body p e s m _ below meth c ⟨B.exec, B.bytes, hml, hown, hts⟩ B.returns B.notSynchronized ⟨hAD, hK, hP, va_S.rf, hE⟩ _ hl
end SSR
end
