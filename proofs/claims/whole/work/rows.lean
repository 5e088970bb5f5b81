section
-- ===== PART A: goes FIRST, ahead of the names: the tables' words, and 'selects' of the private methods out of them =====
/-- a private method of a class that the tables say can be made, by its rows of tables_1 -/
def lw_okq (q : MethodName × Nat) : Prop := (q.1.cls ≠ "java/lang/invoke/MethodHandle" ∧ q.1.cls ≠ "java/lang/invoke/VarHandle") ∧ Cond.instantiable q.1.cls q.2 ∈ tables_1 ∧ Cond.privateMethod q.1 ∈ tables_1 ∧ Cond.instanceMethod q.1 ∈ tables_1
theorem lw_p0 : lw_okq (⟨"StripPage$Dictionary", "mayEndAt", "(I)V"⟩, 2) := ⟨⟨by decide +kernel, by decide +kernel⟩, List.mem_of_getElem? (i := 56) (by decide +kernel), List.mem_of_getElem? (i := 69) (by decide +kernel), List.mem_of_getElem? (i := 70) (by decide +kernel)⟩
theorem lw_p1 : lw_okq (⟨"StripPage$Text", "advance", "()V"⟩, 5) := ⟨⟨by decide +kernel, by decide +kernel⟩, List.mem_of_getElem? (i := 26) (by decide +kernel), List.mem_of_getElem? (i := 372) (by decide +kernel), List.mem_of_getElem? (i := 373) (by decide +kernel)⟩
theorem lw_p2 : lw_okq (⟨"StripPage$Text", "readItem", "(LStripPage$Sheet;Z)Z"⟩, 5) := ⟨⟨by decide +kernel, by decide +kernel⟩, List.mem_of_getElem? (i := 26) (by decide +kernel), List.mem_of_getElem? (i := 379) (by decide +kernel), List.mem_of_getElem? (i := 380) (by decide +kernel)⟩
theorem lw_p3 : lw_okq (⟨"StripPage$Text", "readLines", "(LStripPage$Sheet;)Z"⟩, 5) := ⟨⟨by decide +kernel, by decide +kernel⟩, List.mem_of_getElem? (i := 26) (by decide +kernel), List.mem_of_getElem? (i := 383) (by decide +kernel), List.mem_of_getElem? (i := 384) (by decide +kernel)⟩
theorem lw_p4 : lw_okq (⟨"StripPage$Text", "readStop", "()Z"⟩, 5) := ⟨⟨by decide +kernel, by decide +kernel⟩, List.mem_of_getElem? (i := 26) (by decide +kernel), List.mem_of_getElem? (i := 387) (by decide +kernel), List.mem_of_getElem? (i := 388) (by decide +kernel)⟩
theorem lw_p5 : lw_okq (⟨"StripPage$Text", "readStrip", "(LStripPage$Sheet;)Z"⟩, 5) := ⟨⟨by decide +kernel, by decide +kernel⟩, List.mem_of_getElem? (i := 26) (by decide +kernel), List.mem_of_getElem? (i := 391) (by decide +kernel), List.mem_of_getElem? (i := 392) (by decide +kernel)⟩
theorem lw_p6 : lw_okq (⟨"StripPage$Text", "readWord", "(LStripPage$Sheet;)Z"⟩, 5) := ⟨⟨by decide +kernel, by decide +kernel⟩, List.mem_of_getElem? (i := 26) (by decide +kernel), List.mem_of_getElem? (i := 405) (by decide +kernel), List.mem_of_getElem? (i := 406) (by decide +kernel)⟩
theorem lw_p7 : lw_okq (⟨"StripPage$Dictionary", "grow", "(II)I"⟩, 2) := ⟨⟨by decide +kernel, by decide +kernel⟩, List.mem_of_getElem? (i := 56) (by decide +kernel), List.mem_of_getElem? (i := 421) (by decide +kernel), List.mem_of_getElem? (i := 422) (by decide +kernel)⟩
theorem lw_p8 : lw_okq (⟨"StripPage", "isStrip", "(I)Z"⟩, 16) := ⟨⟨by decide +kernel, by decide +kernel⟩, List.mem_of_getElem? (i := 18) (by decide +kernel), List.mem_of_getElem? (i := 445) (by decide +kernel), List.mem_of_getElem? (i := 446) (by decide +kernel)⟩
theorem lw_p9 : lw_okq (⟨"StripPage$Reading", "endRun", "(LStripPage$Dictionary;)V"⟩, 6) := ⟨⟨by decide +kernel, by decide +kernel⟩, List.mem_of_getElem? (i := 161) (by decide +kernel), List.mem_of_getElem? (i := 519) (by decide +kernel), List.mem_of_getElem? (i := 520) (by decide +kernel)⟩
theorem lw_p10 : lw_okq (⟨"StripPage$RightOrders", "noteFollowers", "()V"⟩, 10) := ⟨⟨by decide +kernel, by decide +kernel⟩, List.mem_of_getElem? (i := 190) (by decide +kernel), List.mem_of_getElem? (i := 534) (by decide +kernel), List.mem_of_getElem? (i := 535) (by decide +kernel)⟩
theorem lw_p11 : lw_okq (⟨"StripPage$RightOrders", "mostThatStay", "()I"⟩, 10) := ⟨⟨by decide +kernel, by decide +kernel⟩, List.mem_of_getElem? (i := 190) (by decide +kernel), List.mem_of_getElem? (i := 538) (by decide +kernel), List.mem_of_getElem? (i := 539) (by decide +kernel)⟩
theorem lw_p12 : lw_okq (⟨"StripPage", "isLine", "(I)Z"⟩, 16) := ⟨⟨by decide +kernel, by decide +kernel⟩, List.mem_of_getElem? (i := 18) (by decide +kernel), List.mem_of_getElem? (i := 567) (by decide +kernel), List.mem_of_getElem? (i := 568) (by decide +kernel)⟩
theorem lw_p13 : lw_okq (⟨"StripPage", "isPlace", "(I)Z"⟩, 16) := ⟨⟨by decide +kernel, by decide +kernel⟩, List.mem_of_getElem? (i := 18) (by decide +kernel), List.mem_of_getElem? (i := 579) (by decide +kernel), List.mem_of_getElem? (i := 580) (by decide +kernel)⟩
theorem lw_p14 : lw_okq (⟨"StripPage$Desk", "loseOldest", "()V"⟩, 3) := ⟨⟨by decide +kernel, by decide +kernel⟩, List.mem_of_getElem? (i := 115) (by decide +kernel), List.mem_of_getElem? (i := 595) (by decide +kernel), List.mem_of_getElem? (i := 596) (by decide +kernel)⟩
theorem lw_p15 : lw_okq (⟨"StripPage", "rightLines", "()I"⟩, 16) := ⟨⟨by decide +kernel, by decide +kernel⟩, List.mem_of_getElem? (i := 18) (by decide +kernel), List.mem_of_getElem? (i := 604) (by decide +kernel), List.mem_of_getElem? (i := 605) (by decide +kernel)⟩
def lw_privs_1 : List (MethodName × Nat) := [(⟨"StripPage$Dictionary", "mayEndAt", "(I)V"⟩, 2), (⟨"StripPage$Text", "advance", "()V"⟩, 5), (⟨"StripPage$Text", "readItem", "(LStripPage$Sheet;Z)Z"⟩, 5), (⟨"StripPage$Text", "readLines", "(LStripPage$Sheet;)Z"⟩, 5), (⟨"StripPage$Text", "readStop", "()Z"⟩, 5), (⟨"StripPage$Text", "readStrip", "(LStripPage$Sheet;)Z"⟩, 5), (⟨"StripPage$Text", "readWord", "(LStripPage$Sheet;)Z"⟩, 5), (⟨"StripPage$Dictionary", "grow", "(II)I"⟩, 2), (⟨"StripPage", "isStrip", "(I)Z"⟩, 16), (⟨"StripPage$Reading", "endRun", "(LStripPage$Dictionary;)V"⟩, 6), (⟨"StripPage$RightOrders", "noteFollowers", "()V"⟩, 10), (⟨"StripPage$RightOrders", "mostThatStay", "()I"⟩, 10), (⟨"StripPage", "isLine", "(I)Z"⟩, 16), (⟨"StripPage", "isPlace", "(I)Z"⟩, 16), (⟨"StripPage$Desk", "loseOldest", "()V"⟩, 3), (⟨"StripPage", "rightLines", "()I"⟩, 16)]
theorem lw_r1 : ∀ q ∈ lw_privs_1, lw_okq q := List.forall_mem_cons.mpr ⟨lw_p0, List.forall_mem_cons.mpr ⟨lw_p1, List.forall_mem_cons.mpr ⟨lw_p2, List.forall_mem_cons.mpr ⟨lw_p3, List.forall_mem_cons.mpr ⟨lw_p4, List.forall_mem_cons.mpr ⟨lw_p5, List.forall_mem_cons.mpr ⟨lw_p6, List.forall_mem_cons.mpr ⟨lw_p7, List.forall_mem_cons.mpr ⟨lw_p8, List.forall_mem_cons.mpr ⟨lw_p9, List.forall_mem_cons.mpr ⟨lw_p10, List.forall_mem_cons.mpr ⟨lw_p11, List.forall_mem_cons.mpr ⟨lw_p12, List.forall_mem_cons.mpr ⟨lw_p13, List.forall_mem_cons.mpr ⟨lw_p14, List.forall_mem_cons.mpr ⟨lw_p15, fun _ h => absurd h List.not_mem_nil⟩⟩⟩⟩⟩⟩⟩⟩⟩⟩⟩⟩⟩⟩⟩⟩
theorem lw_p16 : lw_okq (⟨"StripPage", "refusalOf", "(IZ)I"⟩, 16) := ⟨⟨by decide +kernel, by decide +kernel⟩, List.mem_of_getElem? (i := 18) (by decide +kernel), List.mem_of_getElem? (i := 631) (by decide +kernel), List.mem_of_getElem? (i := 632) (by decide +kernel)⟩
theorem lw_p17 : lw_okq (⟨"StripPage", "rightRuns", "()I"⟩, 16) := ⟨⟨by decide +kernel, by decide +kernel⟩, List.mem_of_getElem? (i := 18) (by decide +kernel), List.mem_of_getElem? (i := 662) (by decide +kernel), List.mem_of_getElem? (i := 663) (by decide +kernel)⟩
theorem lw_p18 : lw_okq (⟨"StripPage", "aliens", "()I"⟩, 16) := ⟨⟨by decide +kernel, by decide +kernel⟩, List.mem_of_getElem? (i := 18) (by decide +kernel), List.mem_of_getElem? (i := 670) (by decide +kernel), List.mem_of_getElem? (i := 671) (by decide +kernel)⟩
theorem lw_p19 : lw_okq (⟨"StripPage", "greaterPart", "(II)I"⟩, 16) := ⟨⟨by decide +kernel, by decide +kernel⟩, List.mem_of_getElem? (i := 18) (by decide +kernel), List.mem_of_getElem? (i := 729) (by decide +kernel), List.mem_of_getElem? (i := 730) (by decide +kernel)⟩
theorem lw_p20 : lw_okq (⟨"StripPage", "creasedMark", "(I)I"⟩, 16) := ⟨⟨by decide +kernel, by decide +kernel⟩, List.mem_of_getElem? (i := 18) (by decide +kernel), List.mem_of_getElem? (i := 739) (by decide +kernel), List.mem_of_getElem? (i := 740) (by decide +kernel)⟩
theorem lw_p21 : lw_okq (⟨"StripPage", "plainMark", "(I)I"⟩, 16) := ⟨⟨by decide +kernel, by decide +kernel⟩, List.mem_of_getElem? (i := 18) (by decide +kernel), List.mem_of_getElem? (i := 744) (by decide +kernel), List.mem_of_getElem? (i := 745) (by decide +kernel)⟩
theorem lw_p22 : lw_okq (⟨"StripPage", "smudgedMark", "(I)I"⟩, 16) := ⟨⟨by decide +kernel, by decide +kernel⟩, List.mem_of_getElem? (i := 18) (by decide +kernel), List.mem_of_getElem? (i := 752) (by decide +kernel), List.mem_of_getElem? (i := 753) (by decide +kernel)⟩
theorem lw_p23 : lw_okq (⟨"StripPage", "tornMark", "(I)I"⟩, 16) := ⟨⟨by decide +kernel, by decide +kernel⟩, List.mem_of_getElem? (i := 18) (by decide +kernel), List.mem_of_getElem? (i := 757) (by decide +kernel), List.mem_of_getElem? (i := 758) (by decide +kernel)⟩
theorem lw_p24 : lw_okq (⟨"StripPage", "greasyMark", "(I)I"⟩, 16) := ⟨⟨by decide +kernel, by decide +kernel⟩, List.mem_of_getElem? (i := 18) (by decide +kernel), List.mem_of_getElem? (i := 762) (by decide +kernel), List.mem_of_getElem? (i := 763) (by decide +kernel)⟩
theorem lw_p25 : lw_okq (⟨"StripPage", "singedMark", "(I)I"⟩, 16) := ⟨⟨by decide +kernel, by decide +kernel⟩, List.mem_of_getElem? (i := 18) (by decide +kernel), List.mem_of_getElem? (i := 767) (by decide +kernel), List.mem_of_getElem? (i := 768) (by decide +kernel)⟩
theorem lw_p26 : lw_okq (⟨"StripPage", "imageOf", "(I)LStripPage$Desk;"⟩, 16) := ⟨⟨by decide +kernel, by decide +kernel⟩, List.mem_of_getElem? (i := 18) (by decide +kernel), List.mem_of_getElem? (i := 776) (by decide +kernel), List.mem_of_getElem? (i := 777) (by decide +kernel)⟩
theorem lw_p27 : lw_okq (⟨"StripPageModel", "skip", "()V"⟩, 37) := ⟨⟨by decide +kernel, by decide +kernel⟩, List.mem_of_getElem? (i := 796) (by decide +kernel), List.mem_of_getElem? (i := 929) (by decide +kernel), List.mem_of_getElem? (i := 930) (by decide +kernel)⟩
theorem lw_p28 : lw_okq (⟨"StripPageModel", "here", "()I"⟩, 37) := ⟨⟨by decide +kernel, by decide +kernel⟩, List.mem_of_getElem? (i := 796) (by decide +kernel), List.mem_of_getElem? (i := 933) (by decide +kernel), List.mem_of_getElem? (i := 934) (by decide +kernel)⟩
theorem lw_p29 : lw_okq (⟨"StripPageModel", "readsItem", "()Z"⟩, 37) := ⟨⟨by decide +kernel, by decide +kernel⟩, List.mem_of_getElem? (i := 796) (by decide +kernel), List.mem_of_getElem? (i := 937) (by decide +kernel), List.mem_of_getElem? (i := 938) (by decide +kernel)⟩
theorem lw_p30 : lw_okq (⟨"StripPageModel", "rowSize", "()I"⟩, 37) := ⟨⟨by decide +kernel, by decide +kernel⟩, List.mem_of_getElem? (i := 796) (by decide +kernel), List.mem_of_getElem? (i := 941) (by decide +kernel), List.mem_of_getElem? (i := 942) (by decide +kernel)⟩
theorem lw_p31 : lw_okq (⟨"StripPageModel", "readsLines", "()Z"⟩, 37) := ⟨⟨by decide +kernel, by decide +kernel⟩, List.mem_of_getElem? (i := 796) (by decide +kernel), List.mem_of_getElem? (i := 948) (by decide +kernel), List.mem_of_getElem? (i := 949) (by decide +kernel)⟩
def lw_privs_2 : List (MethodName × Nat) := [(⟨"StripPage", "refusalOf", "(IZ)I"⟩, 16), (⟨"StripPage", "rightRuns", "()I"⟩, 16), (⟨"StripPage", "aliens", "()I"⟩, 16), (⟨"StripPage", "greaterPart", "(II)I"⟩, 16), (⟨"StripPage", "creasedMark", "(I)I"⟩, 16), (⟨"StripPage", "plainMark", "(I)I"⟩, 16), (⟨"StripPage", "smudgedMark", "(I)I"⟩, 16), (⟨"StripPage", "tornMark", "(I)I"⟩, 16), (⟨"StripPage", "greasyMark", "(I)I"⟩, 16), (⟨"StripPage", "singedMark", "(I)I"⟩, 16), (⟨"StripPage", "imageOf", "(I)LStripPage$Desk;"⟩, 16), (⟨"StripPageModel", "skip", "()V"⟩, 37), (⟨"StripPageModel", "here", "()I"⟩, 37), (⟨"StripPageModel", "readsItem", "()Z"⟩, 37), (⟨"StripPageModel", "rowSize", "()I"⟩, 37), (⟨"StripPageModel", "readsLines", "()Z"⟩, 37)]
theorem lw_r2 : ∀ q ∈ lw_privs_2, lw_okq q := List.forall_mem_cons.mpr ⟨lw_p16, List.forall_mem_cons.mpr ⟨lw_p17, List.forall_mem_cons.mpr ⟨lw_p18, List.forall_mem_cons.mpr ⟨lw_p19, List.forall_mem_cons.mpr ⟨lw_p20, List.forall_mem_cons.mpr ⟨lw_p21, List.forall_mem_cons.mpr ⟨lw_p22, List.forall_mem_cons.mpr ⟨lw_p23, List.forall_mem_cons.mpr ⟨lw_p24, List.forall_mem_cons.mpr ⟨lw_p25, List.forall_mem_cons.mpr ⟨lw_p26, List.forall_mem_cons.mpr ⟨lw_p27, List.forall_mem_cons.mpr ⟨lw_p28, List.forall_mem_cons.mpr ⟨lw_p29, List.forall_mem_cons.mpr ⟨lw_p30, List.forall_mem_cons.mpr ⟨lw_p31, fun _ h => absurd h List.not_mem_nil⟩⟩⟩⟩⟩⟩⟩⟩⟩⟩⟩⟩⟩⟩⟩⟩
theorem lw_p32 : lw_okq (⟨"StripPageModel", "ends", "()Z"⟩, 37) := ⟨⟨by decide +kernel, by decide +kernel⟩, List.mem_of_getElem? (i := 796) (by decide +kernel), List.mem_of_getElem? (i := 952) (by decide +kernel), List.mem_of_getElem? (i := 953) (by decide +kernel)⟩
theorem lw_p33 : lw_okq (⟨"StripPageModel", "readsStrip", "()Z"⟩, 37) := ⟨⟨by decide +kernel, by decide +kernel⟩, List.mem_of_getElem? (i := 796) (by decide +kernel), List.mem_of_getElem? (i := 956) (by decide +kernel), List.mem_of_getElem? (i := 957) (by decide +kernel)⟩
theorem lw_p34 : lw_okq (⟨"StripPageModel", "readsWord", "()Z"⟩, 37) := ⟨⟨by decide +kernel, by decide +kernel⟩, List.mem_of_getElem? (i := 796) (by decide +kernel), List.mem_of_getElem? (i := 963) (by decide +kernel), List.mem_of_getElem? (i := 964) (by decide +kernel)⟩
theorem lw_p35 : lw_okq (⟨"StripPageModel", "isStrip", "(I)Z"⟩, 37) := ⟨⟨by decide +kernel, by decide +kernel⟩, List.mem_of_getElem? (i := 796) (by decide +kernel), List.mem_of_getElem? (i := 971) (by decide +kernel), List.mem_of_getElem? (i := 972) (by decide +kernel)⟩
theorem lw_p36 : lw_okq (⟨"StripPageModel", "placeOf", "(I)I"⟩, 37) := ⟨⟨by decide +kernel, by decide +kernel⟩, List.mem_of_getElem? (i := 796) (by decide +kernel), List.mem_of_getElem? (i := 975) (by decide +kernel), List.mem_of_getElem? (i := 976) (by decide +kernel)⟩
theorem lw_p37 : lw_okq (⟨"StripPageModel", "lettersOn", "(I)I"⟩, 37) := ⟨⟨by decide +kernel, by decide +kernel⟩, List.mem_of_getElem? (i := 796) (by decide +kernel), List.mem_of_getElem? (i := 979) (by decide +kernel), List.mem_of_getElem? (i := 980) (by decide +kernel)⟩
theorem lw_p38 : lw_okq (⟨"StripPageModel", "nextOf", "(I)I"⟩, 37) := ⟨⟨by decide +kernel, by decide +kernel⟩, List.mem_of_getElem? (i := 796) (by decide +kernel), List.mem_of_getElem? (i := 983) (by decide +kernel), List.mem_of_getElem? (i := 984) (by decide +kernel)⟩
theorem lw_p39 : lw_okq (⟨"StripPageModel", "setOrders", "(I)V"⟩, 37) := ⟨⟨by decide +kernel, by decide +kernel⟩, List.mem_of_getElem? (i := 796) (by decide +kernel), List.mem_of_getElem? (i := 987) (by decide +kernel), List.mem_of_getElem? (i := 988) (by decide +kernel)⟩
theorem lw_p40 : lw_okq (⟨"StripPageModel", "firstRow", "(I)V"⟩, 37) := ⟨⟨by decide +kernel, by decide +kernel⟩, List.mem_of_getElem? (i := 796) (by decide +kernel), List.mem_of_getElem? (i := 992) (by decide +kernel), List.mem_of_getElem? (i := 993) (by decide +kernel)⟩
theorem lw_p41 : lw_okq (⟨"StripPageModel", "isRight", "([III)Z"⟩, 37) := ⟨⟨by decide +kernel, by decide +kernel⟩, List.mem_of_getElem? (i := 796) (by decide +kernel), List.mem_of_getElem? (i := 996) (by decide +kernel), List.mem_of_getElem? (i := 997) (by decide +kernel)⟩
theorem lw_p42 : lw_okq (⟨"StripPageModel", "readsAll", "([III)V"⟩, 37) := ⟨⟨by decide +kernel, by decide +kernel⟩, List.mem_of_getElem? (i := 796) (by decide +kernel), List.mem_of_getElem? (i := 1000) (by decide +kernel), List.mem_of_getElem? (i := 1001) (by decide +kernel)⟩
theorem lw_p43 : lw_okq (⟨"StripPageModel", "readBy", "([IIII)I"⟩, 37) := ⟨⟨by decide +kernel, by decide +kernel⟩, List.mem_of_getElem? (i := 796) (by decide +kernel), List.mem_of_getElem? (i := 1004) (by decide +kernel), List.mem_of_getElem? (i := 1005) (by decide +kernel)⟩
theorem lw_p44 : lw_okq (⟨"StripPageModel", "signBy", "(IIII)I"⟩, 37) := ⟨⟨by decide +kernel, by decide +kernel⟩, List.mem_of_getElem? (i := 796) (by decide +kernel), List.mem_of_getElem? (i := 1008) (by decide +kernel), List.mem_of_getElem? (i := 1009) (by decide +kernel)⟩
theorem lw_p45 : lw_okq (⟨"StripPageModel", "comesRun", "([IIIII)V"⟩, 37) := ⟨⟨by decide +kernel, by decide +kernel⟩, List.mem_of_getElem? (i := 796) (by decide +kernel), List.mem_of_getElem? (i := 1015) (by decide +kernel), List.mem_of_getElem? (i := 1016) (by decide +kernel)⟩
theorem lw_p46 : lw_okq (⟨"StripPageModel", "isWord", "([IIIII)Z"⟩, 37) := ⟨⟨by decide +kernel, by decide +kernel⟩, List.mem_of_getElem? (i := 796) (by decide +kernel), List.mem_of_getElem? (i := 1019) (by decide +kernel), List.mem_of_getElem? (i := 1020) (by decide +kernel)⟩
theorem lw_p47 : lw_okq (⟨"StripPageModel", "isSpelled", "(I[IIII)Z"⟩, 37) := ⟨⟨by decide +kernel, by decide +kernel⟩, List.mem_of_getElem? (i := 796) (by decide +kernel), List.mem_of_getElem? (i := 1023) (by decide +kernel), List.mem_of_getElem? (i := 1024) (by decide +kernel)⟩
def lw_privs_3 : List (MethodName × Nat) := [(⟨"StripPageModel", "ends", "()Z"⟩, 37), (⟨"StripPageModel", "readsStrip", "()Z"⟩, 37), (⟨"StripPageModel", "readsWord", "()Z"⟩, 37), (⟨"StripPageModel", "isStrip", "(I)Z"⟩, 37), (⟨"StripPageModel", "placeOf", "(I)I"⟩, 37), (⟨"StripPageModel", "lettersOn", "(I)I"⟩, 37), (⟨"StripPageModel", "nextOf", "(I)I"⟩, 37), (⟨"StripPageModel", "setOrders", "(I)V"⟩, 37), (⟨"StripPageModel", "firstRow", "(I)V"⟩, 37), (⟨"StripPageModel", "isRight", "([III)Z"⟩, 37), (⟨"StripPageModel", "readsAll", "([III)V"⟩, 37), (⟨"StripPageModel", "readBy", "([IIII)I"⟩, 37), (⟨"StripPageModel", "signBy", "(IIII)I"⟩, 37), (⟨"StripPageModel", "comesRun", "([IIIII)V"⟩, 37), (⟨"StripPageModel", "isWord", "([IIIII)Z"⟩, 37), (⟨"StripPageModel", "isSpelled", "(I[IIII)Z"⟩, 37)]
theorem lw_r3 : ∀ q ∈ lw_privs_3, lw_okq q := List.forall_mem_cons.mpr ⟨lw_p32, List.forall_mem_cons.mpr ⟨lw_p33, List.forall_mem_cons.mpr ⟨lw_p34, List.forall_mem_cons.mpr ⟨lw_p35, List.forall_mem_cons.mpr ⟨lw_p36, List.forall_mem_cons.mpr ⟨lw_p37, List.forall_mem_cons.mpr ⟨lw_p38, List.forall_mem_cons.mpr ⟨lw_p39, List.forall_mem_cons.mpr ⟨lw_p40, List.forall_mem_cons.mpr ⟨lw_p41, List.forall_mem_cons.mpr ⟨lw_p42, List.forall_mem_cons.mpr ⟨lw_p43, List.forall_mem_cons.mpr ⟨lw_p44, List.forall_mem_cons.mpr ⟨lw_p45, List.forall_mem_cons.mpr ⟨lw_p46, List.forall_mem_cons.mpr ⟨lw_p47, fun _ h => absurd h List.not_mem_nil⟩⟩⟩⟩⟩⟩⟩⟩⟩⟩⟩⟩⟩⟩⟩⟩
theorem lw_p48 : lw_okq (⟨"StripPageModel", "rightLines", "()I"⟩, 37) := ⟨⟨by decide +kernel, by decide +kernel⟩, List.mem_of_getElem? (i := 796) (by decide +kernel), List.mem_of_getElem? (i := 1027) (by decide +kernel), List.mem_of_getElem? (i := 1028) (by decide +kernel)⟩
theorem lw_p49 : lw_okq (⟨"StripPageModel", "comesRight", "()V"⟩, 37) := ⟨⟨by decide +kernel, by decide +kernel⟩, List.mem_of_getElem? (i := 796) (by decide +kernel), List.mem_of_getElem? (i := 1031) (by decide +kernel), List.mem_of_getElem? (i := 1032) (by decide +kernel)⟩
theorem lw_p50 : lw_okq (⟨"StripPageModel", "longestStay", "()I"⟩, 37) := ⟨⟨by decide +kernel, by decide +kernel⟩, List.mem_of_getElem? (i := 796) (by decide +kernel), List.mem_of_getElem? (i := 1038) (by decide +kernel), List.mem_of_getElem? (i := 1039) (by decide +kernel)⟩
theorem lw_p51 : lw_okq (⟨"StripPageModel", "nextRow", "()Z"⟩, 37) := ⟨⟨by decide +kernel, by decide +kernel⟩, List.mem_of_getElem? (i := 796) (by decide +kernel), List.mem_of_getElem? (i := 1042) (by decide +kernel), List.mem_of_getElem? (i := 1043) (by decide +kernel)⟩
theorem lw_p52 : lw_okq (⟨"StripPageModel", "isLine", "(I)Z"⟩, 37) := ⟨⟨by decide +kernel, by decide +kernel⟩, List.mem_of_getElem? (i := 796) (by decide +kernel), List.mem_of_getElem? (i := 1050) (by decide +kernel), List.mem_of_getElem? (i := 1051) (by decide +kernel)⟩
theorem lw_p53 : lw_okq (⟨"StripPageModel", "isPlace", "(I)Z"⟩, 37) := ⟨⟨by decide +kernel, by decide +kernel⟩, List.mem_of_getElem? (i := 796) (by decide +kernel), List.mem_of_getElem? (i := 1058) (by decide +kernel), List.mem_of_getElem? (i := 1059) (by decide +kernel)⟩
theorem lw_p54 : lw_okq (⟨"StripPageModel", "notes", "()V"⟩, 37) := ⟨⟨by decide +kernel, by decide +kernel⟩, List.mem_of_getElem? (i := 796) (by decide +kernel), List.mem_of_getElem? (i := 1070) (by decide +kernel), List.mem_of_getElem? (i := 1071) (by decide +kernel)⟩
theorem lw_p55 : lw_okq (⟨"StripPageModel", "writes", "([II)V"⟩, 37) := ⟨⟨by decide +kernel, by decide +kernel⟩, List.mem_of_getElem? (i := 796) (by decide +kernel), List.mem_of_getElem? (i := 1074) (by decide +kernel), List.mem_of_getElem? (i := 1075) (by decide +kernel)⟩
theorem lw_p56 : lw_okq (⟨"StripPageModel", "rightMany", "()I"⟩, 37) := ⟨⟨by decide +kernel, by decide +kernel⟩, List.mem_of_getElem? (i := 796) (by decide +kernel), List.mem_of_getElem? (i := 1078) (by decide +kernel), List.mem_of_getElem? (i := 1079) (by decide +kernel)⟩
theorem lw_p57 : lw_okq (⟨"StripPageModel", "comesTo", "(II)V"⟩, 37) := ⟨⟨by decide +kernel, by decide +kernel⟩, List.mem_of_getElem? (i := 796) (by decide +kernel), List.mem_of_getElem? (i := 1086) (by decide +kernel), List.mem_of_getElem? (i := 1087) (by decide +kernel)⟩
theorem lw_p58 : lw_okq (⟨"StripPageModel", "readsBack", "([II)V"⟩, 37) := ⟨⟨by decide +kernel, by decide +kernel⟩, List.mem_of_getElem? (i := 796) (by decide +kernel), List.mem_of_getElem? (i := 1106) (by decide +kernel), List.mem_of_getElem? (i := 1107) (by decide +kernel)⟩
theorem lw_p59 : lw_okq (⟨"StripPageModel", "rightSetNow", "()I"⟩, 37) := ⟨⟨by decide +kernel, by decide +kernel⟩, List.mem_of_getElem? (i := 796) (by decide +kernel), List.mem_of_getElem? (i := 1114) (by decide +kernel), List.mem_of_getElem? (i := 1115) (by decide +kernel)⟩
theorem lw_p60 : lw_okq (⟨"StripPageModel", "rightRunsNow", "()I"⟩, 37) := ⟨⟨by decide +kernel, by decide +kernel⟩, List.mem_of_getElem? (i := 796) (by decide +kernel), List.mem_of_getElem? (i := 1118) (by decide +kernel), List.mem_of_getElem? (i := 1119) (by decide +kernel)⟩
theorem lw_p61 : lw_okq (⟨"StripPageModel", "alienSet", "()I"⟩, 37) := ⟨⟨by decide +kernel, by decide +kernel⟩, List.mem_of_getElem? (i := 796) (by decide +kernel), List.mem_of_getElem? (i := 1122) (by decide +kernel), List.mem_of_getElem? (i := 1123) (by decide +kernel)⟩
theorem lw_p62 : lw_okq (⟨"StripPageModel", "fewest", "()I"⟩, 37) := ⟨⟨by decide +kernel, by decide +kernel⟩, List.mem_of_getElem? (i := 796) (by decide +kernel), List.mem_of_getElem? (i := 1126) (by decide +kernel), List.mem_of_getElem? (i := 1127) (by decide +kernel)⟩
theorem lw_p63 : lw_okq (⟨"StripPageModel", "lieSet", "()I"⟩, 37) := ⟨⟨by decide +kernel, by decide +kernel⟩, List.mem_of_getElem? (i := 796) (by decide +kernel), List.mem_of_getElem? (i := 1146) (by decide +kernel), List.mem_of_getElem? (i := 1147) (by decide +kernel)⟩
def lw_privs_4 : List (MethodName × Nat) := [(⟨"StripPageModel", "rightLines", "()I"⟩, 37), (⟨"StripPageModel", "comesRight", "()V"⟩, 37), (⟨"StripPageModel", "longestStay", "()I"⟩, 37), (⟨"StripPageModel", "nextRow", "()Z"⟩, 37), (⟨"StripPageModel", "isLine", "(I)Z"⟩, 37), (⟨"StripPageModel", "isPlace", "(I)Z"⟩, 37), (⟨"StripPageModel", "notes", "()V"⟩, 37), (⟨"StripPageModel", "writes", "([II)V"⟩, 37), (⟨"StripPageModel", "rightMany", "()I"⟩, 37), (⟨"StripPageModel", "comesTo", "(II)V"⟩, 37), (⟨"StripPageModel", "readsBack", "([II)V"⟩, 37), (⟨"StripPageModel", "rightSetNow", "()I"⟩, 37), (⟨"StripPageModel", "rightRunsNow", "()I"⟩, 37), (⟨"StripPageModel", "alienSet", "()I"⟩, 37), (⟨"StripPageModel", "fewest", "()I"⟩, 37), (⟨"StripPageModel", "lieSet", "()I"⟩, 37)]
theorem lw_r4 : ∀ q ∈ lw_privs_4, lw_okq q := List.forall_mem_cons.mpr ⟨lw_p48, List.forall_mem_cons.mpr ⟨lw_p49, List.forall_mem_cons.mpr ⟨lw_p50, List.forall_mem_cons.mpr ⟨lw_p51, List.forall_mem_cons.mpr ⟨lw_p52, List.forall_mem_cons.mpr ⟨lw_p53, List.forall_mem_cons.mpr ⟨lw_p54, List.forall_mem_cons.mpr ⟨lw_p55, List.forall_mem_cons.mpr ⟨lw_p56, List.forall_mem_cons.mpr ⟨lw_p57, List.forall_mem_cons.mpr ⟨lw_p58, List.forall_mem_cons.mpr ⟨lw_p59, List.forall_mem_cons.mpr ⟨lw_p60, List.forall_mem_cons.mpr ⟨lw_p61, List.forall_mem_cons.mpr ⟨lw_p62, List.forall_mem_cons.mpr ⟨lw_p63, fun _ h => absurd h List.not_mem_nil⟩⟩⟩⟩⟩⟩⟩⟩⟩⟩⟩⟩⟩⟩⟩⟩
theorem lw_p64 : lw_okq (⟨"StripPageModel", "marked", "(II)I"⟩, 37) := ⟨⟨by decide +kernel, by decide +kernel⟩, List.mem_of_getElem? (i := 796) (by decide +kernel), List.mem_of_getElem? (i := 1182) (by decide +kernel), List.mem_of_getElem? (i := 1183) (by decide +kernel)⟩
theorem lw_p65 : lw_okq (⟨"StripPageModel", "blanksOn", "(I)I"⟩, 37) := ⟨⟨by decide +kernel, by decide +kernel⟩, List.mem_of_getElem? (i := 796) (by decide +kernel), List.mem_of_getElem? (i := 1186) (by decide +kernel), List.mem_of_getElem? (i := 1187) (by decide +kernel)⟩
def lw_privs_5 : List (MethodName × Nat) := [(⟨"StripPageModel", "marked", "(II)I"⟩, 37), (⟨"StripPageModel", "blanksOn", "(I)I"⟩, 37)]
theorem lw_r5 : ∀ q ∈ lw_privs_5, lw_okq q := List.forall_mem_cons.mpr ⟨lw_p64, List.forall_mem_cons.mpr ⟨lw_p65, fun _ h => absurd h List.not_mem_nil⟩⟩
def lw_privs : List (MethodName × Nat) := lw_privs_1 ++ (lw_privs_2 ++ (lw_privs_3 ++ (lw_privs_4 ++ (lw_privs_5))))
def lw_tbl : List Cond := k2_sels lw_privs ++ tables_1
theorem lw_privs_ok : ∀ q ∈ lw_privs, lw_okq q := by
  show ∀ q ∈ lw_privs_1 ++ (lw_privs_2 ++ (lw_privs_3 ++ (lw_privs_4 ++ (lw_privs_5)))), lw_okq q
  exact List.forall_mem_append.mpr ⟨lw_r1, List.forall_mem_append.mpr ⟨lw_r2, List.forall_mem_append.mpr ⟨lw_r3, List.forall_mem_append.mpr ⟨lw_r4, lw_r5⟩⟩⟩⟩
end
section
/-! ===== BEGIN printed: names, fields, word lists, decode rows ===== -/
def RX0 : String := "StripPage$BestOrder"
def TX0 : u_T := fun k => match k with
  | 0 => ("StripPage$Walk", "row", "LStripPage$Row;", true)
  | 1 => ("StripPage$Walk", "bothWays", "Z", true)
  | 2 => ("StripPage$Walk", "rightOnly", "Z", true)
  | 3 => ("StripPage$Walk", "nodes", "[I", true)
  | 4 => ("StripPage$BestOrder", "most", "I", false)
  | 5 => ("StripPage$BestOrder", "first", "I", false)
  | _ => ("StripPage$BestOrder", "reading", "LStripPage$Reading;", true)
def tyX0 : Nat → FieldType := fun k => match k with
  | 0 => .object "StripPage$Row"
  | 1 => .boolean
  | 2 => .boolean
  | 3 => .array .int
  | 4 => .int
  | 5 => .int
  | _ => .object "StripPage$Reading"
abbrev wsX00 : List Cond := u_ws RX0 TX0 7
theorem nmX0 : ∀ a, a < 7 → ∀ b, b < 7 → a ≠ b → (TX0 a).2.1 ≠ (TX0 b).2.1 := by decide +kernel
theorem tyX0_ok : ∀ k, k < 7 → parseFieldDescriptor (TX0 k).2.2.1 = some (tyX0 k) := by decide +kernel
abbrev cX0_init : ByteArray := prog_2_method_1_code
def yX0_init : MethodName := ⟨RX0, "<init>", "()V"⟩
abbrev cX0_begin : ByteArray := prog_2_method_2_code
def yX0_begin : MethodName := ⟨RX0, "begin", "(LStripPage$Row;)V"⟩
abbrev cX0_meet : ByteArray := prog_2_method_3_code
def yX0_meet : MethodName := ⟨RX0, "meet", "(LStripPage$Sheet;I)V"⟩
def RX1 : String := "StripPage$Desk"
def TX1 : u_T := fun k => match k with
  | 0 => ("StripPage$Desk", "row", "LStripPage$Row;", true)
  | 1 => ("StripPage$Desk", "known", "I", false)
  | _ => ("StripPage$Desk", "past", "[LStripPage$Row;", true)
def tyX1 : Nat → FieldType := fun k => match k with
  | 0 => .object "StripPage$Row"
  | 1 => .int
  | _ => .array (.object "StripPage$Row")
abbrev wsX10 : List Cond := u_ws RX1 TX1 3
theorem nmX1 : ∀ a, a < 3 → ∀ b, b < 3 → a ≠ b → (TX1 a).2.1 ≠ (TX1 b).2.1 := by decide +kernel
theorem tyX1_ok : ∀ k, k < 3 → parseFieldDescriptor (TX1 k).2.2.1 = some (tyX1 k) := by decide +kernel
abbrev cX1_init : ByteArray := prog_3_method_1_code
def yX1_init : MethodName := ⟨RX1, "<init>", "()V"⟩
abbrev cX1_layAll : ByteArray := prog_3_method_2_code
def yX1_layAll : MethodName := ⟨RX1, "layAll", "(I)V"⟩
abbrev cX1_remember : ByteArray := prog_3_method_3_code
def yX1_remember : MethodName := ⟨RX1, "remember", "()V"⟩
abbrev cX1_loseOldest : ByteArray := prog_3_method_4_code
def yX1_loseOldest : MethodName := ⟨RX1, "loseOldest", "()V"⟩
abbrev cX1_goBack : ByteArray := prog_3_method_5_code
def yX1_goBack : MethodName := ⟨RX1, "goBack", "()Z"⟩
abbrev cX1_copy : ByteArray := prog_3_method_6_code
def yX1_copy : MethodName := ⟨RX1, "copy", "(LStripPage$Desk;)V"⟩
def RX2 : String := "StripPage$Dictionary"
def TX2 : u_T := fun k => match k with
  | 0 => ("StripPage$Dictionary", "next", "[I", true)
  | _ => ("StripPage$Dictionary", "nodes", "I", false)
def tyX2 : Nat → FieldType := fun k => match k with
  | 0 => .array .int
  | _ => .int
abbrev wsX20 : List Cond := u_ws RX2 TX2 2
theorem nmX2 : ∀ a, a < 2 → ∀ b, b < 2 → a ≠ b → (TX2 a).2.1 ≠ (TX2 b).2.1 := by decide +kernel
theorem tyX2_ok : ∀ k, k < 2 → parseFieldDescriptor (TX2 k).2.2.1 = some (tyX2 k) := by decide +kernel
abbrev cX2_init : ByteArray := prog_4_method_1_code
def yX2_init : MethodName := ⟨RX2, "<init>", "()V"⟩
abbrev cX2_empty : ByteArray := prog_4_method_2_code
def yX2_empty : MethodName := ⟨RX2, "empty", "()V"⟩
abbrev cX2_add : ByteArray := prog_4_method_3_code
def yX2_add : MethodName := ⟨RX2, "add", "([III)V"⟩
abbrev cX2_grow : ByteArray := prog_4_method_4_code
def yX2_grow : MethodName := ⟨RX2, "grow", "(II)I"⟩
abbrev cX2_mayEndAt : ByteArray := prog_4_method_5_code
def yX2_mayEndAt : MethodName := ⟨RX2, "mayEndAt", "(I)V"⟩
abbrev cX2_step : ByteArray := prog_4_method_6_code
def yX2_step : MethodName := ⟨RX2, "step", "(II)I"⟩
abbrev cX2_endsAt : ByteArray := prog_4_method_7_code
def yX2_endsAt : MethodName := ⟨RX2, "endsAt", "(I)Z"⟩
def RX3 : String := "StripPage$EitherWay"
def TX3 : u_T := fun k => match k with
  | 0 => ("StripPage$Walk", "row", "LStripPage$Row;", true)
  | 1 => ("StripPage$Walk", "bothWays", "Z", true)
  | 2 => ("StripPage$Walk", "rightOnly", "Z", true)
  | 3 => ("StripPage$Walk", "nodes", "[I", true)
  | 4 => ("StripPage$EitherWay", "found", "I", false)
  | 5 => ("StripPage$EitherWay", "first", "I", false)
  | 6 => ("StripPage$EitherWay", "firstTurned", "I", false)
  | _ => ("StripPage$EitherWay", "searched", "I", false)
def tyX3 : Nat → FieldType := fun k => match k with
  | 0 => .object "StripPage$Row"
  | 1 => .boolean
  | 2 => .boolean
  | 3 => .array .int
  | 4 => .int
  | 5 => .int
  | 6 => .int
  | _ => .int
abbrev wsX30 : List Cond := u_ws RX3 TX3 8
theorem nmX3 : ∀ a, a < 8 → ∀ b, b < 8 → a ≠ b → (TX3 a).2.1 ≠ (TX3 b).2.1 := by decide +kernel
theorem tyX3_ok : ∀ k, k < 8 → parseFieldDescriptor (TX3 k).2.2.1 = some (tyX3 k) := by decide +kernel
abbrev cX3_init : ByteArray := prog_5_method_1_code
def yX3_init : MethodName := ⟨RX3, "<init>", "()V"⟩
abbrev cX3_drop : ByteArray := prog_5_method_2_code
def yX3_drop : MethodName := ⟨RX3, "drop", "()V"⟩
abbrev cX3_knows : ByteArray := prog_5_method_3_code
def yX3_knows : MethodName := ⟨RX3, "knows", "(LStripPage$Row;)Z"⟩
abbrev cX3_begin : ByteArray := prog_5_method_4_code
def yX3_begin : MethodName := ⟨RX3, "begin", "(LStripPage$Row;)V"⟩
abbrev cX3_meet : ByteArray := prog_5_method_5_code
def yX3_meet : MethodName := ⟨RX3, "meet", "(LStripPage$Sheet;I)V"⟩
def RX4 : String := "StripPage$Reading"
def TX4 : u_T := fun k => match k with
  | 0 => ("StripPage$Reading", "runs", "I", false)
  | 1 => ("StripPage$Reading", "rightRuns", "I", false)
  | 2 => ("StripPage$Reading", "letters", "I", false)
  | 3 => ("StripPage$Reading", "rightLetters", "I", false)
  | 4 => ("StripPage$Reading", "node", "I", false)
  | _ => ("StripPage$Reading", "length", "I", false)
def tyX4 : Nat → FieldType := fun k => match k with
  | 0 => .int
  | 1 => .int
  | 2 => .int
  | 3 => .int
  | 4 => .int
  | _ => .int
abbrev wsX40 : List Cond := u_ws RX4 TX4 6
theorem nmX4 : ∀ a, a < 6 → ∀ b, b < 6 → a ≠ b → (TX4 a).2.1 ≠ (TX4 b).2.1 := by decide +kernel
theorem tyX4_ok : ∀ k, k < 6 → parseFieldDescriptor (TX4 k).2.2.1 = some (tyX4 k) := by decide +kernel
abbrev cX4_init : ByteArray := prog_6_method_1_code
def yX4_init : MethodName := ⟨RX4, "<init>", "()V"⟩
abbrev cX4_read : ByteArray := prog_6_method_2_code
def yX4_read : MethodName := ⟨RX4, "read", "(LStripPage$Sheet;LStripPage$Row;I)V"⟩
abbrev cX4_endRun : ByteArray := prog_6_method_3_code
def yX4_endRun : MethodName := ⟨RX4, "endRun", "(LStripPage$Dictionary;)V"⟩
def RX5 : String := "StripPage$RightOrders"
def TX5 : u_T := fun k => match k with
  | 0 => ("StripPage$Walk", "row", "LStripPage$Row;", true)
  | 1 => ("StripPage$Walk", "bothWays", "Z", true)
  | 2 => ("StripPage$Walk", "rightOnly", "Z", true)
  | 3 => ("StripPage$Walk", "nodes", "[I", true)
  | 4 => ("StripPage$RightOrders", "found", "I", false)
  | 5 => ("StripPage$RightOrders", "first", "I", false)
  | 6 => ("StripPage$RightOrders", "fewest", "I", false)
  | 7 => ("StripPage$RightOrders", "follower", "[I", true)
  | 8 => ("StripPage$RightOrders", "placeNow", "[I", true)
  | _ => ("StripPage$RightOrders", "chain", "[I", true)
def tyX5 : Nat → FieldType := fun k => match k with
  | 0 => .object "StripPage$Row"
  | 1 => .boolean
  | 2 => .boolean
  | 3 => .array .int
  | 4 => .int
  | 5 => .int
  | 6 => .int
  | 7 => .array .int
  | 8 => .array .int
  | _ => .array .int
abbrev wsX50 : List Cond := u_ws RX5 TX5 10
theorem nmX5 : ∀ a, a < 10 → ∀ b, b < 10 → a ≠ b → (TX5 a).2.1 ≠ (TX5 b).2.1 := by decide +kernel
theorem tyX5_ok : ∀ k, k < 10 → parseFieldDescriptor (TX5 k).2.2.1 = some (tyX5 k) := by decide +kernel
abbrev cX5_init : ByteArray := prog_7_method_1_code
def yX5_init : MethodName := ⟨RX5, "<init>", "()V"⟩
abbrev cX5_begin : ByteArray := prog_7_method_2_code
def yX5_begin : MethodName := ⟨RX5, "begin", "(LStripPage$Row;)V"⟩
abbrev cX5_meet : ByteArray := prog_7_method_3_code
def yX5_meet : MethodName := ⟨RX5, "meet", "(LStripPage$Sheet;I)V"⟩
abbrev cX5_noteFollowers : ByteArray := prog_7_method_4_code
def yX5_noteFollowers : MethodName := ⟨RX5, "noteFollowers", "()V"⟩
abbrev cX5_mostThatStay : ByteArray := prog_7_method_5_code
def yX5_mostThatStay : MethodName := ⟨RX5, "mostThatStay", "()I"⟩
def RX6 : String := "StripPage$Row"
def TX6 : u_T := fun k => match k with
  | 0 => ("StripPage$Row", "strips", "[I", true)
  | 1 => ("StripPage$Row", "lying", "I", false)
  | _ => ("StripPage$Row", "turned", "I", false)
def tyX6 : Nat → FieldType := fun k => match k with
  | 0 => .array .int
  | 1 => .int
  | _ => .int
abbrev wsX60 : List Cond := u_ws RX6 TX6 3
theorem nmX6 : ∀ a, a < 3 → ∀ b, b < 3 → a ≠ b → (TX6 a).2.1 ≠ (TX6 b).2.1 := by decide +kernel
theorem tyX6_ok : ∀ k, k < 3 → parseFieldDescriptor (TX6 k).2.2.1 = some (tyX6 k) := by decide +kernel
abbrev cX6_init : ByteArray := prog_8_method_1_code
def yX6_init : MethodName := ⟨RX6, "<init>", "()V"⟩
abbrev cX6_copy : ByteArray := prog_8_method_2_code
def yX6_copy : MethodName := ⟨RX6, "copy", "(LStripPage$Row;)V"⟩
abbrev cX6_wayOf : ByteArray := prog_8_method_3_code
def yX6_wayOf : MethodName := ⟨RX6, "wayOf", "(I)I"⟩
abbrev cX6_placeOf : ByteArray := prog_8_method_4_code
def yX6_placeOf : MethodName := ⟨RX6, "placeOf", "(I)I"⟩
abbrev cX6_number : ByteArray := prog_8_method_5_code
def yX6_number : MethodName := ⟨RX6, "number", "()I"⟩
abbrev cX6_set : ByteArray := prog_8_method_6_code
def yX6_set : MethodName := ⟨RX6, "set", "()I"⟩
abbrev cX6_put : ByteArray := prog_8_method_7_code
def yX6_put : MethodName := ⟨RX6, "put", "(III)V"⟩
abbrev cX6_exchange : ByteArray := prog_8_method_8_code
def yX6_exchange : MethodName := ⟨RX6, "exchange", "(II)V"⟩
abbrev cX6_carry : ByteArray := prog_8_method_9_code
def yX6_carry : MethodName := ⟨RX6, "carry", "(II)V"⟩
abbrev cX6_append : ByteArray := prog_8_method_10_code
def yX6_append : MethodName := ⟨RX6, "append", "(I)V"⟩
abbrev cX6_remove : ByteArray := prog_8_method_11_code
def yX6_remove : MethodName := ⟨RX6, "remove", "(I)V"⟩
def RX7 : String := "StripPage$Sheet"
def TX7 : u_T := fun k => match k with
  | 0 => ("StripPage$Sheet", "lines", "I", false)
  | 1 => ("StripPage$Sheet", "strips", "I", false)
  | 2 => ("StripPage$Sheet", "words", "I", false)
  | 3 => ("StripPage$Sheet", "letters", "[I", true)
  | 4 => ("StripPage$Sheet", "lengths", "[I", true)
  | 5 => ("StripPage$Sheet", "dictionary", "LStripPage$Dictionary;", true)
  | _ => ("StripPage$Sheet", "signs", "[I", true)
def tyX7 : Nat → FieldType := fun k => match k with
  | 0 => .int
  | 1 => .int
  | 2 => .int
  | 3 => .array .int
  | 4 => .array .int
  | 5 => .object "StripPage$Dictionary"
  | _ => .array .int
abbrev wsX70 : List Cond := u_ws RX7 TX7 7
theorem nmX7 : ∀ a, a < 7 → ∀ b, b < 7 → a ≠ b → (TX7 a).2.1 ≠ (TX7 b).2.1 := by decide +kernel
theorem tyX7_ok : ∀ k, k < 7 → parseFieldDescriptor (TX7 k).2.2.1 = some (tyX7 k) := by decide +kernel
abbrev cX7_init : ByteArray := prog_9_method_1_code
def yX7_init : MethodName := ⟨RX7, "<init>", "()V"⟩
abbrev cX7_empty : ByteArray := prog_9_method_2_code
def yX7_empty : MethodName := ⟨RX7, "empty", "()V"⟩
abbrev cX7_spotOf : ByteArray := prog_9_method_3_code
def yX7_spotOf : MethodName := ⟨RX7, "spotOf", "(III)I"⟩
abbrev cX7_tellPair : ByteArray := prog_9_method_4_code
def yX7_tellPair : MethodName := ⟨RX7, "tellPair", "(III)V"⟩
abbrev cX7_tellLetter : ByteArray := prog_9_method_5_code
def yX7_tellLetter : MethodName := ⟨RX7, "tellLetter", "(II)V"⟩
abbrev cX7_endWord : ByteArray := prog_9_method_6_code
def yX7_endWord : MethodName := ⟨RX7, "endWord", "(I)V"⟩
abbrev cX7_shown : ByteArray := prog_9_method_7_code
def yX7_shown : MethodName := ⟨RX7, "shown", "(IIII)I"⟩
abbrev cX7_pass : ByteArray := prog_9_method_8_code
def yX7_pass : MethodName := ⟨RX7, "pass", "(IIII)I"⟩
abbrev cX7_lettersOn : ByteArray := prog_9_method_9_code
def yX7_lettersOn : MethodName := ⟨RX7, "lettersOn", "(I)I"⟩
abbrev cX7_blanksOn : ByteArray := prog_9_method_10_code
def yX7_blanksOn : MethodName := ⟨RX7, "blanksOn", "(I)I"⟩
def RX8 : String := "StripPage$Text"
def TX8 : u_T := fun k => match k with
  | 0 => ("StripPage$Text", "length", "I", false)
  | 1 => ("StripPage$Text", "bytes", "[I", true)
  | 2 => ("StripPage$Text", "from", "I", false)
  | 3 => ("StripPage$Text", "to", "I", false)
  | _ => ("StripPage$Text", "token", "I", false)
def tyX8 : Nat → FieldType := fun k => match k with
  | 0 => .int
  | 1 => .array .int
  | 2 => .int
  | 3 => .int
  | _ => .int
abbrev wsX80 : List Cond := u_ws RX8 TX8 5
theorem nmX8 : ∀ a, a < 5 → ∀ b, b < 5 → a ≠ b → (TX8 a).2.1 ≠ (TX8 b).2.1 := by decide +kernel
theorem tyX8_ok : ∀ k, k < 5 → parseFieldDescriptor (TX8 k).2.2.1 = some (tyX8 k) := by decide +kernel
abbrev cX8_init : ByteArray := prog_10_method_1_code
def yX8_init : MethodName := ⟨RX8, "<init>", "()V"⟩
abbrev cX8_append : ByteArray := prog_10_method_2_code
def yX8_append : MethodName := ⟨RX8, "append", "(I)Z"⟩
abbrev cX8_wipe : ByteArray := prog_10_method_3_code
def yX8_wipe : MethodName := ⟨RX8, "wipe", "()I"⟩
abbrev cX8_readInto : ByteArray := prog_10_method_4_code
def yX8_readInto : MethodName := ⟨RX8, "readInto", "(LStripPage$Sheet;)I"⟩
abbrev cX8_readItem : ByteArray := prog_10_method_5_code
def yX8_readItem : MethodName := ⟨RX8, "readItem", "(LStripPage$Sheet;Z)Z"⟩
abbrev cX8_readLines : ByteArray := prog_10_method_6_code
def yX8_readLines : MethodName := ⟨RX8, "readLines", "(LStripPage$Sheet;)Z"⟩
abbrev cX8_readStrip : ByteArray := prog_10_method_7_code
def yX8_readStrip : MethodName := ⟨RX8, "readStrip", "(LStripPage$Sheet;)Z"⟩
abbrev cX8_readWord : ByteArray := prog_10_method_8_code
def yX8_readWord : MethodName := ⟨RX8, "readWord", "(LStripPage$Sheet;)Z"⟩
abbrev cX8_readStop : ByteArray := prog_10_method_9_code
def yX8_readStop : MethodName := ⟨RX8, "readStop", "()Z"⟩
abbrev cX8_advance : ByteArray := prog_10_method_10_code
def yX8_advance : MethodName := ⟨RX8, "advance", "()V"⟩
abbrev cX8_tokenOf : ByteArray := prog_10_method_11_code
def yX8_tokenOf : MethodName := ⟨RX8, "tokenOf", "(I)I"⟩
abbrev cX8_signOf : ByteArray := prog_10_method_12_code
def yX8_signOf : MethodName := ⟨RX8, "signOf", "(I)I"⟩
def RX9 : String := "StripPage$Walk"
def TX9 : u_T := fun k => match k with
  | _ => ("", "", "", false)
def tyX9 : Nat → FieldType := fun k => match k with
  | _ => .int
abbrev wsX90 : List Cond := u_ws RX9 TX9 0
theorem nmX9 : ∀ a, a < 0 → ∀ b, b < 0 → a ≠ b → (TX9 a).2.1 ≠ (TX9 b).2.1 := by decide +kernel
theorem tyX9_ok : ∀ k, k < 0 → parseFieldDescriptor (TX9 k).2.2.1 = some (tyX9 k) := by decide +kernel
abbrev cX9_init : ByteArray := prog_11_method_1_code
def yX9_init : MethodName := ⟨RX9, "<init>", "(ZZ)V"⟩
abbrev cX9_search : ByteArray := prog_11_method_4_code
def yX9_search : MethodName := ⟨RX9, "search", "(LStripPage$Sheet;LStripPage$Row;)V"⟩
abbrev cX9_lengthen : ByteArray := prog_11_method_5_code
def yX9_lengthen : MethodName := ⟨RX9, "lengthen", "(LStripPage$Sheet;III)V"⟩
abbrev cX9_mayLie : ByteArray := prog_11_method_6_code
def yX9_mayLie : MethodName := ⟨RX9, "mayLie", "(II)Z"⟩
abbrev cX9_goesOn : ByteArray := prog_11_method_7_code
def yX9_goesOn : MethodName := ⟨RX9, "goesOn", "(LStripPage$Sheet;III)Z"⟩
abbrev cX9_endsRight : ByteArray := prog_11_method_8_code
def yX9_endsRight : MethodName := ⟨RX9, "endsRight", "(LStripPage$Sheet;I)Z"⟩
def RX10 : String := "StripPage"
def TX10 : u_T := fun k => match k with
  | 0 => ("StripPage", "text", "LStripPage$Text;", true)
  | 1 => ("StripPage", "sheet", "LStripPage$Sheet;", false)
  | 2 => ("StripPage", "draft", "LStripPage$Sheet;", false)
  | 3 => ("StripPage", "desk", "LStripPage$Desk;", true)
  | 4 => ("StripPage", "image0", "LStripPage$Desk;", true)
  | 5 => ("StripPage", "image1", "LStripPage$Desk;", true)
  | 6 => ("StripPage", "kept", "I", false)
  | 7 => ("StripPage", "seen", "I", false)
  | 8 => ("StripPage", "seenThere", "I", false)
  | 9 => ("StripPage", "seenMissing", "I", false)
  | 10 => ("StripPage", "asked", "J", false)
  | 11 => ("StripPage", "reading", "LStripPage$Reading;", true)
  | 12 => ("StripPage", "rightOrders", "LStripPage$RightOrders;", true)
  | 13 => ("StripPage", "eitherWay", "LStripPage$EitherWay;", true)
  | 14 => ("StripPage", "bestOrder", "LStripPage$BestOrder;", true)
  | _ => ("StripPage", "scratch", "LStripPage$Row;", true)
def tyX10 : Nat → FieldType := fun k => match k with
  | 0 => .object "StripPage$Text"
  | 1 => .object "StripPage$Sheet"
  | 2 => .object "StripPage$Sheet"
  | 3 => .object "StripPage$Desk"
  | 4 => .object "StripPage$Desk"
  | 5 => .object "StripPage$Desk"
  | 6 => .int
  | 7 => .int
  | 8 => .int
  | 9 => .int
  | 10 => .long
  | 11 => .object "StripPage$Reading"
  | 12 => .object "StripPage$RightOrders"
  | 13 => .object "StripPage$EitherWay"
  | 14 => .object "StripPage$BestOrder"
  | _ => .object "StripPage$Row"
abbrev wsX100 : List Cond := u_ws RX10 TX10 16
theorem nmX10 : ∀ a, a < 16 → ∀ b, b < 16 → a ≠ b → (TX10 a).2.1 ≠ (TX10 b).2.1 := by decide +kernel
theorem tyX10_ok : ∀ k, k < 16 → parseFieldDescriptor (TX10 k).2.2.1 = some (tyX10 k) := by decide +kernel
abbrev cX10_init : ByteArray := prog_1_method_1_code
def yX10_init : MethodName := ⟨RX10, "<init>", "()V"⟩
abbrev cX10_type : ByteArray := prog_1_method_2_code
def yX10_type : MethodName := ⟨RX10, "type", "(I)I"⟩
abbrev cX10_clear : ByteArray := prog_1_method_3_code
def yX10_clear : MethodName := ⟨RX10, "clear", "()I"⟩
abbrev cX10_page : ByteArray := prog_1_method_4_code
def yX10_page : MethodName := ⟨RX10, "page", "()I"⟩
abbrev cX10_strip : ByteArray := prog_1_method_5_code
def yX10_strip : MethodName := ⟨RX10, "strip", "(II)I"⟩
abbrev cX10_sign : ByteArray := prog_1_method_6_code
def yX10_sign : MethodName := ⟨RX10, "sign", "(III)I"⟩
abbrev cX10_place : ByteArray := prog_1_method_7_code
def yX10_place : MethodName := ⟨RX10, "place", "(I)I"⟩
abbrev cX10_word : ByteArray := prog_1_method_8_code
def yX10_word : MethodName := ⟨RX10, "word", "(II)I"⟩
abbrev cX10_swaps : ByteArray := prog_1_method_9_code
def yX10_swaps : MethodName := ⟨RX10, "swaps", "(II)I"⟩
abbrev cX10_moves : ByteArray := prog_1_method_10_code
def yX10_moves : MethodName := ⟨RX10, "moves", "(II)I"⟩
abbrev cX10_turn : ByteArray := prog_1_method_11_code
def yX10_turn : MethodName := ⟨RX10, "turn", "(I)I"⟩
abbrev cX10_takes : ByteArray := prog_1_method_12_code
def yX10_takes : MethodName := ⟨RX10, "takes", "(I)I"⟩
abbrev cX10_lays : ByteArray := prog_1_method_13_code
def yX10_lays : MethodName := ⟨RX10, "lays", "(I)I"⟩
abbrev cX10_undo : ByteArray := prog_1_method_14_code
def yX10_undo : MethodName := ⟨RX10, "undo", "()I"⟩
abbrev cX10_now : ByteArray := prog_1_method_15_code
def yX10_now : MethodName := ⟨RX10, "now", "(I)I"⟩
abbrev cX10_line : ByteArray := prog_1_method_16_code
def yX10_line : MethodName := ⟨RX10, "line", "(II)I"⟩
abbrev cX10_reads : ByteArray := prog_1_method_17_code
def yX10_reads : MethodName := ⟨RX10, "reads", "(II)I"⟩
abbrev cX10_orders : ByteArray := prog_1_method_18_code
def yX10_orders : MethodName := ⟨RX10, "orders", "(I)I"⟩
abbrev cX10_either : ByteArray := prog_1_method_19_code
def yX10_either : MethodName := ⟨RX10, "either", "(I)I"⟩
abbrev cX10_best : ByteArray := prog_1_method_20_code
def yX10_best : MethodName := ⟨RX10, "best", "(I)I"⟩
abbrev cX10_odds : ByteArray := prog_1_method_21_code
def yX10_odds : MethodName := ⟨RX10, "odds", "(I)I"⟩
abbrev cX10_sees : ByteArray := prog_1_method_22_code
def yX10_sees : MethodName := ⟨RX10, "sees", "(II)I"⟩
abbrev cX10_forget : ByteArray := prog_1_method_23_code
def yX10_forget : MethodName := ⟨RX10, "forget", "()I"⟩
abbrev cX10_which : ByteArray := prog_1_method_24_code
def yX10_which : MethodName := ⟨RX10, "which", "()I"⟩
abbrev cX10_look : ByteArray := prog_1_method_25_code
def yX10_look : MethodName := ⟨RX10, "look", "()I"⟩
abbrev cX10_mark : ByteArray := prog_1_method_26_code
def yX10_mark : MethodName := ⟨RX10, "mark", "(II)I"⟩
abbrev cX10_keep : ByteArray := prog_1_method_27_code
def yX10_keep : MethodName := ⟨RX10, "keep", "(I)I"⟩
abbrev cX10_back : ByteArray := prog_1_method_28_code
def yX10_back : MethodName := ⟨RX10, "back", "(I)I"⟩
abbrev cX10_count : ByteArray := prog_1_method_29_code
def yX10_count : MethodName := ⟨RX10, "count", "(I)I"⟩
abbrev cX10_trace : ByteArray := prog_1_method_30_code
def yX10_trace : MethodName := ⟨RX10, "trace", "()J"⟩
abbrev cX10_isStrip : ByteArray := prog_1_method_31_code
def yX10_isStrip : MethodName := ⟨RX10, "isStrip", "(I)Z"⟩
abbrev cX10_isLine : ByteArray := prog_1_method_32_code
def yX10_isLine : MethodName := ⟨RX10, "isLine", "(I)Z"⟩
abbrev cX10_isPlace : ByteArray := prog_1_method_33_code
def yX10_isPlace : MethodName := ⟨RX10, "isPlace", "(I)Z"⟩
abbrev cX10_refusalOf : ByteArray := prog_1_method_34_code
def yX10_refusalOf : MethodName := ⟨RX10, "refusalOf", "(IZ)I"⟩
abbrev cX10_imageOf : ByteArray := prog_1_method_35_code
def yX10_imageOf : MethodName := ⟨RX10, "imageOf", "(I)LStripPage$Desk;"⟩
abbrev cX10_rightLines : ByteArray := prog_1_method_36_code
def yX10_rightLines : MethodName := ⟨RX10, "rightLines", "()I"⟩
abbrev cX10_rightRuns : ByteArray := prog_1_method_37_code
def yX10_rightRuns : MethodName := ⟨RX10, "rightRuns", "()I"⟩
abbrev cX10_aliens : ByteArray := prog_1_method_38_code
def yX10_aliens : MethodName := ⟨RX10, "aliens", "()I"⟩
abbrev cX10_greaterPart : ByteArray := prog_1_method_39_code
def yX10_greaterPart : MethodName := ⟨RX10, "greaterPart", "(II)I"⟩
abbrev cX10_byteOf : ByteArray := prog_1_method_40_code
def yX10_byteOf : MethodName := ⟨RX10, "byteOf", "(I)I"⟩
abbrev cX10_ordersOf : ByteArray := prog_1_method_41_code
def yX10_ordersOf : MethodName := ⟨RX10, "ordersOf", "(I)I"⟩
abbrev cX10_inLeastTerms : ByteArray := prog_1_method_42_code
def yX10_inLeastTerms : MethodName := ⟨RX10, "inLeastTerms", "(III)I"⟩
abbrev cX10_plainMark : ByteArray := prog_1_method_43_code
def yX10_plainMark : MethodName := ⟨RX10, "plainMark", "(I)I"⟩
abbrev cX10_creasedMark : ByteArray := prog_1_method_44_code
def yX10_creasedMark : MethodName := ⟨RX10, "creasedMark", "(I)I"⟩
abbrev cX10_smudgedMark : ByteArray := prog_1_method_45_code
def yX10_smudgedMark : MethodName := ⟨RX10, "smudgedMark", "(I)I"⟩
abbrev cX10_tornMark : ByteArray := prog_1_method_46_code
def yX10_tornMark : MethodName := ⟨RX10, "tornMark", "(I)I"⟩
abbrev cX10_greasyMark : ByteArray := prog_1_method_47_code
def yX10_greasyMark : MethodName := ⟨RX10, "greasyMark", "(I)I"⟩
abbrev cX10_singedMark : ByteArray := prog_1_method_48_code
def yX10_singedMark : MethodName := ⟨RX10, "singedMark", "(I)I"⟩
def RX11 : String := "StripPageModel"
def TX11 : u_T := fun k => match k with
  | 0 => ("StripPageModel", "lines", "I", false)
  | 1 => ("StripPageModel", "strips", "I", false)
  | 2 => ("StripPageModel", "words", "I", false)
  | 3 => ("StripPageModel", "signs", "[I", true)
  | 4 => ("StripPageModel", "spelled", "[I", true)
  | 5 => ("StripPageModel", "wordSize", "[I", true)
  | 6 => ("StripPageModel", "lie", "I", false)
  | 7 => ("StripPageModel", "turned", "I", false)
  | 8 => ("StripPageModel", "desk", "[I", true)
  | 9 => ("StripPageModel", "seenMany", "I", false)
  | 10 => ("StripPageModel", "seenLetter", "[I", true)
  | 11 => ("StripPageModel", "seenThere", "[I", true)
  | 12 => ("StripPageModel", "traced", "J", false)
  | 13 => ("StripPageModel", "text", "[I", true)
  | 14 => ("StripPageModel", "size", "I", false)
  | 15 => ("StripPageModel", "readAt", "I", false)
  | 16 => ("StripPageModel", "readLines", "I", false)
  | 17 => ("StripPageModel", "readStrips", "I", false)
  | 18 => ("StripPageModel", "readWords", "I", false)
  | 19 => ("StripPageModel", "readItems", "I", false)
  | 20 => ("StripPageModel", "readSigns", "[I", true)
  | 21 => ("StripPageModel", "readSpelled", "[I", true)
  | 22 => ("StripPageModel", "readSize", "[I", true)
  | 23 => ("StripPageModel", "runs", "[I", true)
  | 24 => ("StripPageModel", "rightRuns", "[I", true)
  | 25 => ("StripPageModel", "letters", "[I", true)
  | 26 => ("StripPageModel", "rightLetters", "I", false)
  | 27 => ("StripPageModel", "ahead", "[I", true)
  | 28 => ("StripPageModel", "undoMany", "I", false)
  | 29 => ("StripPageModel", "row", "[I", true)
  | 30 => ("StripPageModel", "rowMany", "I", false)
  | 31 => ("StripPageModel", "orderMany", "I", false)
  | 32 => ("StripPageModel", "orderFirst", "I", false)
  | 33 => ("StripPageModel", "fewestMoved", "I", false)
  | 34 => ("StripPageModel", "after", "[I", true)
  | 35 => ("StripPageModel", "stays", "[I", true)
  | _ => ("StripPageModel", "images", "[I", true)
def tyX11 : Nat → FieldType := fun k => match k with
  | 0 => .int
  | 1 => .int
  | 2 => .int
  | 3 => .array .int
  | 4 => .array .int
  | 5 => .array .int
  | 6 => .int
  | 7 => .int
  | 8 => .array .int
  | 9 => .int
  | 10 => .array .int
  | 11 => .array .int
  | 12 => .long
  | 13 => .array .int
  | 14 => .int
  | 15 => .int
  | 16 => .int
  | 17 => .int
  | 18 => .int
  | 19 => .int
  | 20 => .array .int
  | 21 => .array .int
  | 22 => .array .int
  | 23 => .array .int
  | 24 => .array .int
  | 25 => .array .int
  | 26 => .int
  | 27 => .array .int
  | 28 => .int
  | 29 => .array .int
  | 30 => .int
  | 31 => .int
  | 32 => .int
  | 33 => .int
  | 34 => .array .int
  | 35 => .array .int
  | _ => .array .int
abbrev wsX110 : List Cond := u_ws RX11 TX11 37
theorem nmX11 : ∀ a, a < 37 → ∀ b, b < 37 → a ≠ b → (TX11 a).2.1 ≠ (TX11 b).2.1 := by decide +kernel
theorem tyX11_ok : ∀ k, k < 37 → parseFieldDescriptor (TX11 k).2.2.1 = some (tyX11 k) := by decide +kernel
abbrev cX11_init : ByteArray := prog_13_method_1_code
def yX11_init : MethodName := ⟨RX11, "<init>", "()V"⟩
abbrev cX11_in : ByteArray := prog_13_method_2_code
def yX11_in : MethodName := ⟨RX11, "in", "(III)Z"⟩
abbrev cX11_has : ByteArray := prog_13_method_3_code
def yX11_has : MethodName := ⟨RX11, "has", "(II)Z"⟩
abbrev cX11_common : ByteArray := prog_13_method_4_code
def yX11_common : MethodName := ⟨RX11, "common", "(II)I"⟩
abbrev cX11_isStrip : ByteArray := prog_13_method_5_code
def yX11_isStrip : MethodName := ⟨RX11, "isStrip", "(I)Z"⟩
abbrev cX11_isPlace : ByteArray := prog_13_method_6_code
def yX11_isPlace : MethodName := ⟨RX11, "isPlace", "(I)Z"⟩
abbrev cX11_isLine : ByteArray := prog_13_method_7_code
def yX11_isLine : MethodName := ⟨RX11, "isLine", "(I)Z"⟩
abbrev cX11_at : ByteArray := prog_13_method_8_code
def yX11_at : MethodName := ⟨RX11, "at", "(III)I"⟩
abbrev cX11_type : ByteArray := prog_13_method_9_code
def yX11_type : MethodName := ⟨RX11, "type", "(I)I"⟩
abbrev cX11_clear : ByteArray := prog_13_method_10_code
def yX11_clear : MethodName := ⟨RX11, "clear", "()I"⟩
abbrev cX11_here : ByteArray := prog_13_method_11_code
def yX11_here : MethodName := ⟨RX11, "here", "()I"⟩
abbrev cX11_skip : ByteArray := prog_13_method_12_code
def yX11_skip : MethodName := ⟨RX11, "skip", "()V"⟩
abbrev cX11_isLetter : ByteArray := prog_13_method_13_code
def yX11_isLetter : MethodName := ⟨RX11, "isLetter", "(I)Z"⟩
abbrev cX11_rowSize : ByteArray := prog_13_method_14_code
def yX11_rowSize : MethodName := ⟨RX11, "rowSize", "()I"⟩
abbrev cX11_ends : ByteArray := prog_13_method_15_code
def yX11_ends : MethodName := ⟨RX11, "ends", "()Z"⟩
abbrev cX11_readsLines : ByteArray := prog_13_method_16_code
def yX11_readsLines : MethodName := ⟨RX11, "readsLines", "()Z"⟩
abbrev cX11_readsStrip : ByteArray := prog_13_method_17_code
def yX11_readsStrip : MethodName := ⟨RX11, "readsStrip", "()Z"⟩
abbrev cX11_readsWord : ByteArray := prog_13_method_18_code
def yX11_readsWord : MethodName := ⟨RX11, "readsWord", "()Z"⟩
abbrev cX11_readsItem : ByteArray := prog_13_method_19_code
def yX11_readsItem : MethodName := ⟨RX11, "readsItem", "()Z"⟩
abbrev cX11_page : ByteArray := prog_13_method_20_code
def yX11_page : MethodName := ⟨RX11, "page", "()I"⟩
abbrev cX11_signBy : ByteArray := prog_13_method_21_code
def yX11_signBy : MethodName := ⟨RX11, "signBy", "(IIII)I"⟩
abbrev cX11_readBy : ByteArray := prog_13_method_22_code
def yX11_readBy : MethodName := ⟨RX11, "readBy", "([IIII)I"⟩
abbrev cX11_isSpelled : ByteArray := prog_13_method_23_code
def yX11_isSpelled : MethodName := ⟨RX11, "isSpelled", "(I[IIII)Z"⟩
abbrev cX11_isWord : ByteArray := prog_13_method_24_code
def yX11_isWord : MethodName := ⟨RX11, "isWord", "([IIIII)Z"⟩
abbrev cX11_comesRun : ByteArray := prog_13_method_25_code
def yX11_comesRun : MethodName := ⟨RX11, "comesRun", "([IIIII)V"⟩
abbrev cX11_readsAll : ByteArray := prog_13_method_26_code
def yX11_readsAll : MethodName := ⟨RX11, "readsAll", "([III)V"⟩
abbrev cX11_rightLines : ByteArray := prog_13_method_27_code
def yX11_rightLines : MethodName := ⟨RX11, "rightLines", "()I"⟩
abbrev cX11_isRight : ByteArray := prog_13_method_28_code
def yX11_isRight : MethodName := ⟨RX11, "isRight", "([III)Z"⟩
abbrev cX11_rightMany : ByteArray := prog_13_method_29_code
def yX11_rightMany : MethodName := ⟨RX11, "rightMany", "()I"⟩
abbrev cX11_rightRunsNow : ByteArray := prog_13_method_30_code
def yX11_rightRunsNow : MethodName := ⟨RX11, "rightRunsNow", "()I"⟩
abbrev cX11_placeOf : ByteArray := prog_13_method_31_code
def yX11_placeOf : MethodName := ⟨RX11, "placeOf", "(I)I"⟩
abbrev cX11_lettersOn : ByteArray := prog_13_method_32_code
def yX11_lettersOn : MethodName := ⟨RX11, "lettersOn", "(I)I"⟩
abbrev cX11_blanksOn : ByteArray := prog_13_method_33_code
def yX11_blanksOn : MethodName := ⟨RX11, "blanksOn", "(I)I"⟩
abbrev cX11_strip : ByteArray := prog_13_method_34_code
def yX11_strip : MethodName := ⟨RX11, "strip", "(II)I"⟩
abbrev cX11_sign : ByteArray := prog_13_method_35_code
def yX11_sign : MethodName := ⟨RX11, "sign", "(III)I"⟩
abbrev cX11_place : ByteArray := prog_13_method_36_code
def yX11_place : MethodName := ⟨RX11, "place", "(I)I"⟩
abbrev cX11_word : ByteArray := prog_13_method_37_code
def yX11_word : MethodName := ⟨RX11, "word", "(II)I"⟩
abbrev cX11_writes : ByteArray := prog_13_method_38_code
def yX11_writes : MethodName := ⟨RX11, "writes", "([II)V"⟩
abbrev cX11_readsBack : ByteArray := prog_13_method_39_code
def yX11_readsBack : MethodName := ⟨RX11, "readsBack", "([II)V"⟩
abbrev cX11_notes : ByteArray := prog_13_method_40_code
def yX11_notes : MethodName := ⟨RX11, "notes", "()V"⟩
abbrev cX11_comesTo : ByteArray := prog_13_method_41_code
def yX11_comesTo : MethodName := ⟨RX11, "comesTo", "(II)V"⟩
abbrev cX11_swaps : ByteArray := prog_13_method_42_code
def yX11_swaps : MethodName := ⟨RX11, "swaps", "(II)I"⟩
abbrev cX11_moves : ByteArray := prog_13_method_43_code
def yX11_moves : MethodName := ⟨RX11, "moves", "(II)I"⟩
abbrev cX11_turn : ByteArray := prog_13_method_44_code
def yX11_turn : MethodName := ⟨RX11, "turn", "(I)I"⟩
abbrev cX11_takes : ByteArray := prog_13_method_45_code
def yX11_takes : MethodName := ⟨RX11, "takes", "(I)I"⟩
abbrev cX11_lays : ByteArray := prog_13_method_46_code
def yX11_lays : MethodName := ⟨RX11, "lays", "(I)I"⟩
abbrev cX11_undo : ByteArray := prog_13_method_47_code
def yX11_undo : MethodName := ⟨RX11, "undo", "()I"⟩
abbrev cX11_firstRow : ByteArray := prog_13_method_48_code
def yX11_firstRow : MethodName := ⟨RX11, "firstRow", "(I)V"⟩
abbrev cX11_nextRow : ByteArray := prog_13_method_49_code
def yX11_nextRow : MethodName := ⟨RX11, "nextRow", "()Z"⟩
abbrev cX11_numberOf : ByteArray := prog_13_method_50_code
def yX11_numberOf : MethodName := ⟨RX11, "numberOf", "([II)I"⟩
abbrev cX11_longestStay : ByteArray := prog_13_method_51_code
def yX11_longestStay : MethodName := ⟨RX11, "longestStay", "()I"⟩
abbrev cX11_comesRight : ByteArray := prog_13_method_52_code
def yX11_comesRight : MethodName := ⟨RX11, "comesRight", "()V"⟩
abbrev cX11_setOrders : ByteArray := prog_13_method_53_code
def yX11_setOrders : MethodName := ⟨RX11, "setOrders", "(I)V"⟩
abbrev cX11_nextOf : ByteArray := prog_13_method_54_code
def yX11_nextOf : MethodName := ⟨RX11, "nextOf", "(I)I"⟩
abbrev cX11_alienSet : ByteArray := prog_13_method_55_code
def yX11_alienSet : MethodName := ⟨RX11, "alienSet", "()I"⟩
abbrev cX11_fewest : ByteArray := prog_13_method_56_code
def yX11_fewest : MethodName := ⟨RX11, "fewest", "()I"⟩
abbrev cX11_rightSetNow : ByteArray := prog_13_method_57_code
def yX11_rightSetNow : MethodName := ⟨RX11, "rightSetNow", "()I"⟩
abbrev cX11_now : ByteArray := prog_13_method_58_code
def yX11_now : MethodName := ⟨RX11, "now", "(I)I"⟩
abbrev cX11_line : ByteArray := prog_13_method_59_code
def yX11_line : MethodName := ⟨RX11, "line", "(II)I"⟩
abbrev cX11_reads : ByteArray := prog_13_method_60_code
def yX11_reads : MethodName := ⟨RX11, "reads", "(II)I"⟩
abbrev cX11_orders : ByteArray := prog_13_method_61_code
def yX11_orders : MethodName := ⟨RX11, "orders", "(I)I"⟩
abbrev cX11_lieSet : ByteArray := prog_13_method_62_code
def yX11_lieSet : MethodName := ⟨RX11, "lieSet", "()I"⟩
abbrev cX11_either : ByteArray := prog_13_method_63_code
def yX11_either : MethodName := ⟨RX11, "either", "(I)I"⟩
abbrev cX11_best : ByteArray := prog_13_method_64_code
def yX11_best : MethodName := ⟨RX11, "best", "(I)I"⟩
abbrev cX11_odds : ByteArray := prog_13_method_65_code
def yX11_odds : MethodName := ⟨RX11, "odds", "(I)I"⟩
abbrev cX11_sees : ByteArray := prog_13_method_66_code
def yX11_sees : MethodName := ⟨RX11, "sees", "(II)I"⟩
abbrev cX11_forget : ByteArray := prog_13_method_67_code
def yX11_forget : MethodName := ⟨RX11, "forget", "()I"⟩
abbrev cX11_which : ByteArray := prog_13_method_68_code
def yX11_which : MethodName := ⟨RX11, "which", "()I"⟩
abbrev cX11_look : ByteArray := prog_13_method_69_code
def yX11_look : MethodName := ⟨RX11, "look", "()I"⟩
abbrev cX11_marked : ByteArray := prog_13_method_70_code
def yX11_marked : MethodName := ⟨RX11, "marked", "(II)I"⟩
abbrev cX11_mark : ByteArray := prog_13_method_71_code
def yX11_mark : MethodName := ⟨RX11, "mark", "(II)I"⟩
abbrev cX11_keep : ByteArray := prog_13_method_72_code
def yX11_keep : MethodName := ⟨RX11, "keep", "(I)I"⟩
abbrev cX11_back : ByteArray := prog_13_method_73_code
def yX11_back : MethodName := ⟨RX11, "back", "(I)I"⟩
abbrev cX11_count : ByteArray := prog_13_method_74_code
def yX11_count : MethodName := ⟨RX11, "count", "(I)I"⟩
abbrev cX11_trace : ByteArray := prog_13_method_75_code
def yX11_trace : MethodName := ⟨RX11, "trace", "()J"⟩
def RJ6 : String := "java/lang/Integer"
def TJ6 : u_T := fun k => match k with
  | _ => ("", "", "", false)
def tyJ6 : Nat → FieldType := fun k => match k with
  | _ => .int
abbrev wsJ60 : List Cond := u_ws RJ6 TJ6 0
theorem nmJ6 : ∀ a, a < 0 → ∀ b, b < 0 → a ≠ b → (TJ6 a).2.1 ≠ (TJ6 b).2.1 := by decide +kernel
theorem tyJ6_ok : ∀ k, k < 0 → parseFieldDescriptor (TJ6 k).2.2.1 = some (tyJ6 k) := by decide +kernel
abbrev cJ6_bitCount_0f7a4 : ByteArray := prog_14_method_49_code
def yJ6_bitCount_0f7a4 : MethodName := ⟨RJ6, "bitCount", "(I)I"⟩
def RJ9 : String := "java/lang/Math"
def TJ9 : u_T := fun k => match k with
  | _ => ("", "", "", false)
def tyJ9 : Nat → FieldType := fun k => match k with
  | _ => .int
abbrev wsJ90 : List Cond := u_ws RJ9 TJ9 0
theorem nmJ9 : ∀ a, a < 0 → ∀ b, b < 0 → a ≠ b → (TJ9 a).2.1 ≠ (TJ9 b).2.1 := by decide +kernel
theorem tyJ9_ok : ∀ k, k < 0 → parseFieldDescriptor (TJ9 k).2.2.1 = some (tyJ9 k) := by decide +kernel
abbrev cJ9_abs_0f7a4 : ByteArray := prog_15_method_59_code
def yJ9_abs_0f7a4 : MethodName := ⟨RJ9, "abs", "(I)I"⟩
abbrev cJ9_max_7cf53 : ByteArray := prog_15_method_65_code
def yJ9_max_7cf53 : MethodName := ⟨RJ9, "max", "(II)I"⟩
def RJ10 : String := "java/lang/System"
def TJ10 : u_T := fun k => match k with
  | _ => ("", "", "", false)
def tyJ10 : Nat → FieldType := fun k => match k with
  | _ => .int
abbrev wsJ100 : List Cond := u_ws RJ10 TJ10 0
theorem nmJ10 : ∀ a, a < 0 → ∀ b, b < 0 → a ≠ b → (TJ10 a).2.1 ≠ (TJ10 b).2.1 := by decide +kernel
theorem tyJ10_ok : ∀ k, k < 0 → parseFieldDescriptor (TJ10 k).2.2.1 = some (tyJ10 k) := by decide +kernel
def RJ7 : String := "java/util/Arrays"
def TJ7 : u_T := fun k => match k with
  | _ => ("", "", "", false)
def tyJ7 : Nat → FieldType := fun k => match k with
  | _ => .int
abbrev wsJ70 : List Cond := u_ws RJ7 TJ7 0
theorem nmJ7 : ∀ a, a < 0 → ∀ b, b < 0 → a ≠ b → (TJ7 a).2.1 ≠ (TJ7 b).2.1 := by decide +kernel
theorem tyJ7_ok : ∀ k, k < 0 → parseFieldDescriptor (TJ7 k).2.2.1 = some (tyJ7 k) := by decide +kernel
abbrev cJ7_fill_53178 : ByteArray := prog_17_method_103_code
def yJ7_fill_53178 : MethodName := ⟨RJ7, "fill", "([II)V"⟩
def RL : String := "StripPageLaw"
abbrev cL_law : ByteArray := code
def yL_law : MethodName := ⟨RL, "law", "([I)Z"⟩
abbrev vwCl : List vw_C := [(RX0, TX0, 7), (RX1, TX1, 3), (RX2, TX2, 2), (RX3, TX3, 8), (RX4, TX4, 6), (RX5, TX5, 10), (RX6, TX6, 3), (RX7, TX7, 7), (RX8, TX8, 5), (RX10, TX10, 16), (RX11, TX11, 37)]
end
section
theorem dX0_init_0 : decode cX0_init 0 = .ok (.aload_n 0, 1) := by decide +kernel
theorem dX0_init_1 : decode cX0_init 1 = .ok (.iconst 0, 1) := by decide +kernel
theorem dX0_init_2 : decode cX0_init 2 = .ok (.iconst 0, 1) := by decide +kernel
theorem dX0_init_3 : decode cX0_init 3 = .ok (.invokespecial 3, 3) := by decide +kernel
theorem dX0_init_6 : decode cX0_init 6 = .ok (.aload_n 0, 1) := by decide +kernel
theorem dX0_init_7 : decode cX0_init 7 = .ok (.new 9, 3) := by decide +kernel
theorem dX0_init_10 : decode cX0_init 10 = .ok (.dup, 1) := by decide +kernel
theorem dX0_init_11 : decode cX0_init 11 = .ok (.invokespecial 11, 3) := by decide +kernel
theorem dX0_init_14 : decode cX0_init 14 = .ok (.putfield 14, 3) := by decide +kernel
theorem dX0_init_17 : decode cX0_init 17 = .ok (.return_, 1) := by decide +kernel
theorem dX0_begin_0 : decode cX0_begin 0 = .ok (.aload_n 0, 1) := by decide +kernel
theorem dX0_begin_1 : decode cX0_begin 1 = .ok (.iconst (-1), 1) := by decide +kernel
theorem dX0_begin_2 : decode cX0_begin 2 = .ok (.putfield 20, 3) := by decide +kernel
theorem dX0_begin_5 : decode cX0_begin 5 = .ok (.aload_n 0, 1) := by decide +kernel
theorem dX0_begin_6 : decode cX0_begin 6 = .ok (.bipush (-9), 2) := by decide +kernel
theorem dX0_begin_8 : decode cX0_begin 8 = .ok (.putfield 24, 3) := by decide +kernel
theorem dX0_begin_11 : decode cX0_begin 11 = .ok (.return_, 1) := by decide +kernel
theorem dX0_meet_0 : decode cX0_meet 0 = .ok (.iconst 0, 1) := by decide +kernel
theorem dX0_meet_1 : decode cX0_meet 1 = .ok (.istore_n 3, 1) := by decide +kernel
theorem dX0_meet_2 : decode cX0_meet 2 = .ok (.iconst 0, 1) := by decide +kernel
theorem dX0_meet_3 : decode cX0_meet 3 = .ok (.istore 4, 2) := by decide +kernel
theorem dX0_meet_5 : decode cX0_meet 5 = .ok (.iload 4, 2) := by decide +kernel
theorem dX0_meet_7 : decode cX0_meet 7 = .ok (.aload_n 1, 1) := by decide +kernel
theorem dX0_meet_8 : decode cX0_meet 8 = .ok (.getfield 27, 3) := by decide +kernel
theorem dX0_meet_11 : decode cX0_meet 11 = .ok (.if_icmp .ge 33, 3) := by decide +kernel
theorem dX0_meet_14 : decode cX0_meet 14 = .ok (.aload_n 0, 1) := by decide +kernel
theorem dX0_meet_15 : decode cX0_meet 15 = .ok (.getfield 14, 3) := by decide +kernel
theorem dX0_meet_18 : decode cX0_meet 18 = .ok (.aload_n 1, 1) := by decide +kernel
theorem dX0_meet_19 : decode cX0_meet 19 = .ok (.aload_n 0, 1) := by decide +kernel
theorem dX0_meet_20 : decode cX0_meet 20 = .ok (.getfield 32, 3) := by decide +kernel
theorem dX0_meet_23 : decode cX0_meet 23 = .ok (.iload 4, 2) := by decide +kernel
theorem dX0_meet_25 : decode cX0_meet 25 = .ok (.invokevirtual 36, 3) := by decide +kernel
theorem dX0_meet_28 : decode cX0_meet 28 = .ok (.iload_n 3, 1) := by decide +kernel
theorem dX0_meet_29 : decode cX0_meet 29 = .ok (.aload_n 0, 1) := by decide +kernel
theorem dX0_meet_30 : decode cX0_meet 30 = .ok (.getfield 14, 3) := by decide +kernel
theorem dX0_meet_33 : decode cX0_meet 33 = .ok (.getfield 40, 3) := by decide +kernel
theorem dX0_meet_36 : decode cX0_meet 36 = .ok (.iadd, 1) := by decide +kernel
theorem dX0_meet_37 : decode cX0_meet 37 = .ok (.istore_n 3, 1) := by decide +kernel
theorem dX0_meet_38 : decode cX0_meet 38 = .ok (.iinc 4 1, 3) := by decide +kernel
theorem dX0_meet_41 : decode cX0_meet 41 = .ok (.goto (-36), 3) := by decide +kernel
theorem dX0_meet_44 : decode cX0_meet 44 = .ok (.iload_n 3, 1) := by decide +kernel
theorem dX0_meet_45 : decode cX0_meet 45 = .ok (.aload_n 0, 1) := by decide +kernel
theorem dX0_meet_46 : decode cX0_meet 46 = .ok (.getfield 20, 3) := by decide +kernel
theorem dX0_meet_49 : decode cX0_meet 49 = .ok (.if_icmp .le 13, 3) := by decide +kernel
theorem dX0_meet_52 : decode cX0_meet 52 = .ok (.aload_n 0, 1) := by decide +kernel
theorem dX0_meet_53 : decode cX0_meet 53 = .ok (.iload_n 3, 1) := by decide +kernel
theorem dX0_meet_54 : decode cX0_meet 54 = .ok (.putfield 20, 3) := by decide +kernel
theorem dX0_meet_57 : decode cX0_meet 57 = .ok (.aload_n 0, 1) := by decide +kernel
theorem dX0_meet_58 : decode cX0_meet 58 = .ok (.iload_n 2, 1) := by decide +kernel
theorem dX0_meet_59 : decode cX0_meet 59 = .ok (.putfield 24, 3) := by decide +kernel
theorem dX0_meet_62 : decode cX0_meet 62 = .ok (.return_, 1) := by decide +kernel
theorem dX1_init_0 : decode cX1_init 0 = .ok (.aload_n 0, 1) := by decide +kernel
theorem dX1_init_1 : decode cX1_init 1 = .ok (.invokespecial 3, 3) := by decide +kernel
theorem dX1_init_4 : decode cX1_init 4 = .ok (.aload_n 0, 1) := by decide +kernel
theorem dX1_init_5 : decode cX1_init 5 = .ok (.new 9, 3) := by decide +kernel
theorem dX1_init_8 : decode cX1_init 8 = .ok (.dup, 1) := by decide +kernel
theorem dX1_init_9 : decode cX1_init 9 = .ok (.invokespecial 11, 3) := by decide +kernel
theorem dX1_init_12 : decode cX1_init 12 = .ok (.putfield 12, 3) := by decide +kernel
theorem dX1_init_15 : decode cX1_init 15 = .ok (.aload_n 0, 1) := by decide +kernel
theorem dX1_init_16 : decode cX1_init 16 = .ok (.bipush 10, 2) := by decide +kernel
theorem dX1_init_18 : decode cX1_init 18 = .ok (.anewarray 9, 3) := by decide +kernel
theorem dX1_init_21 : decode cX1_init 21 = .ok (.putfield 18, 3) := by decide +kernel
theorem dX1_init_24 : decode cX1_init 24 = .ok (.iconst 0, 1) := by decide +kernel
theorem dX1_init_25 : decode cX1_init 25 = .ok (.istore_n 1, 1) := by decide +kernel
theorem dX1_init_26 : decode cX1_init 26 = .ok (.iload_n 1, 1) := by decide +kernel
theorem dX1_init_27 : decode cX1_init 27 = .ok (.bipush 10, 2) := by decide +kernel
theorem dX1_init_29 : decode cX1_init 29 = .ok (.if_icmp .ge 22, 3) := by decide +kernel
theorem dX1_init_32 : decode cX1_init 32 = .ok (.aload_n 0, 1) := by decide +kernel
theorem dX1_init_33 : decode cX1_init 33 = .ok (.getfield 18, 3) := by decide +kernel
theorem dX1_init_36 : decode cX1_init 36 = .ok (.iload_n 1, 1) := by decide +kernel
theorem dX1_init_37 : decode cX1_init 37 = .ok (.new 9, 3) := by decide +kernel
theorem dX1_init_40 : decode cX1_init 40 = .ok (.dup, 1) := by decide +kernel
theorem dX1_init_41 : decode cX1_init 41 = .ok (.invokespecial 11, 3) := by decide +kernel
theorem dX1_init_44 : decode cX1_init 44 = .ok (.aastore, 1) := by decide +kernel
theorem dX1_init_45 : decode cX1_init 45 = .ok (.iinc 1 1, 3) := by decide +kernel
theorem dX1_init_48 : decode cX1_init 48 = .ok (.goto (-22), 3) := by decide +kernel
theorem dX1_init_51 : decode cX1_init 51 = .ok (.return_, 1) := by decide +kernel
theorem dX1_layAll_0 : decode cX1_layAll 0 = .ok (.aload_n 0, 1) := by decide +kernel
theorem dX1_layAll_1 : decode cX1_layAll 1 = .ok (.getfield 12, 3) := by decide +kernel
theorem dX1_layAll_4 : decode cX1_layAll 4 = .ok (.iconst 0, 1) := by decide +kernel
theorem dX1_layAll_5 : decode cX1_layAll 5 = .ok (.putfield 22, 3) := by decide +kernel
theorem dX1_layAll_8 : decode cX1_layAll 8 = .ok (.aload_n 0, 1) := by decide +kernel
theorem dX1_layAll_9 : decode cX1_layAll 9 = .ok (.getfield 12, 3) := by decide +kernel
theorem dX1_layAll_12 : decode cX1_layAll 12 = .ok (.iconst 0, 1) := by decide +kernel
theorem dX1_layAll_13 : decode cX1_layAll 13 = .ok (.putfield 26, 3) := by decide +kernel
theorem dX1_layAll_16 : decode cX1_layAll 16 = .ok (.iconst 0, 1) := by decide +kernel
theorem dX1_layAll_17 : decode cX1_layAll 17 = .ok (.istore_n 2, 1) := by decide +kernel
theorem dX1_layAll_18 : decode cX1_layAll 18 = .ok (.iload_n 2, 1) := by decide +kernel
theorem dX1_layAll_19 : decode cX1_layAll 19 = .ok (.iload_n 1, 1) := by decide +kernel
theorem dX1_layAll_20 : decode cX1_layAll 20 = .ok (.if_icmp .ge 17, 3) := by decide +kernel
theorem dX1_layAll_23 : decode cX1_layAll 23 = .ok (.aload_n 0, 1) := by decide +kernel
theorem dX1_layAll_24 : decode cX1_layAll 24 = .ok (.getfield 12, 3) := by decide +kernel
theorem dX1_layAll_27 : decode cX1_layAll 27 = .ok (.iload_n 2, 1) := by decide +kernel
theorem dX1_layAll_28 : decode cX1_layAll 28 = .ok (.invokevirtual 29, 3) := by decide +kernel
theorem dX1_layAll_31 : decode cX1_layAll 31 = .ok (.iinc 2 1, 3) := by decide +kernel
theorem dX1_layAll_34 : decode cX1_layAll 34 = .ok (.goto (-16), 3) := by decide +kernel
theorem dX1_layAll_37 : decode cX1_layAll 37 = .ok (.aload_n 0, 1) := by decide +kernel
theorem dX1_layAll_38 : decode cX1_layAll 38 = .ok (.iconst 0, 1) := by decide +kernel
theorem dX1_layAll_39 : decode cX1_layAll 39 = .ok (.putfield 33, 3) := by decide +kernel
theorem dX1_layAll_42 : decode cX1_layAll 42 = .ok (.return_, 1) := by decide +kernel
theorem dX1_remember_0 : decode cX1_remember 0 = .ok (.aload_n 0, 1) := by decide +kernel
theorem dX1_remember_1 : decode cX1_remember 1 = .ok (.getfield 33, 3) := by decide +kernel
theorem dX1_remember_4 : decode cX1_remember 4 = .ok (.bipush 10, 2) := by decide +kernel
theorem dX1_remember_6 : decode cX1_remember 6 = .ok (.if_icmp .lt 7, 3) := by decide +kernel
theorem dX1_remember_9 : decode cX1_remember 9 = .ok (.aload_n 0, 1) := by decide +kernel
theorem dX1_remember_10 : decode cX1_remember 10 = .ok (.invokevirtual 36, 3) := by decide +kernel
theorem dX1_remember_13 : decode cX1_remember 13 = .ok (.aload_n 0, 1) := by decide +kernel
theorem dX1_remember_14 : decode cX1_remember 14 = .ok (.getfield 18, 3) := by decide +kernel
theorem dX1_remember_17 : decode cX1_remember 17 = .ok (.aload_n 0, 1) := by decide +kernel
theorem dX1_remember_18 : decode cX1_remember 18 = .ok (.getfield 33, 3) := by decide +kernel
theorem dX1_remember_21 : decode cX1_remember 21 = .ok (.aaload, 1) := by decide +kernel
theorem dX1_remember_22 : decode cX1_remember 22 = .ok (.aload_n 0, 1) := by decide +kernel
theorem dX1_remember_23 : decode cX1_remember 23 = .ok (.getfield 12, 3) := by decide +kernel
theorem dX1_remember_26 : decode cX1_remember 26 = .ok (.invokevirtual 39, 3) := by decide +kernel
theorem dX1_remember_29 : decode cX1_remember 29 = .ok (.aload_n 0, 1) := by decide +kernel
theorem dX1_remember_30 : decode cX1_remember 30 = .ok (.dup, 1) := by decide +kernel
theorem dX1_remember_31 : decode cX1_remember 31 = .ok (.getfield 33, 3) := by decide +kernel
theorem dX1_remember_34 : decode cX1_remember 34 = .ok (.iconst 1, 1) := by decide +kernel
theorem dX1_remember_35 : decode cX1_remember 35 = .ok (.iadd, 1) := by decide +kernel
theorem dX1_remember_36 : decode cX1_remember 36 = .ok (.putfield 33, 3) := by decide +kernel
theorem dX1_remember_39 : decode cX1_remember 39 = .ok (.return_, 1) := by decide +kernel
theorem dX1_loseOldest_0 : decode cX1_loseOldest 0 = .ok (.iconst 1, 1) := by decide +kernel
theorem dX1_loseOldest_1 : decode cX1_loseOldest 1 = .ok (.istore_n 1, 1) := by decide +kernel
theorem dX1_loseOldest_2 : decode cX1_loseOldest 2 = .ok (.iload_n 1, 1) := by decide +kernel
theorem dX1_loseOldest_3 : decode cX1_loseOldest 3 = .ok (.bipush 10, 2) := by decide +kernel
theorem dX1_loseOldest_5 : decode cX1_loseOldest 5 = .ok (.if_icmp .ge 26, 3) := by decide +kernel
theorem dX1_loseOldest_8 : decode cX1_loseOldest 8 = .ok (.aload_n 0, 1) := by decide +kernel
theorem dX1_loseOldest_9 : decode cX1_loseOldest 9 = .ok (.getfield 18, 3) := by decide +kernel
theorem dX1_loseOldest_12 : decode cX1_loseOldest 12 = .ok (.iload_n 1, 1) := by decide +kernel
theorem dX1_loseOldest_13 : decode cX1_loseOldest 13 = .ok (.iconst 1, 1) := by decide +kernel
theorem dX1_loseOldest_14 : decode cX1_loseOldest 14 = .ok (.isub, 1) := by decide +kernel
theorem dX1_loseOldest_15 : decode cX1_loseOldest 15 = .ok (.aaload, 1) := by decide +kernel
theorem dX1_loseOldest_16 : decode cX1_loseOldest 16 = .ok (.aload_n 0, 1) := by decide +kernel
theorem dX1_loseOldest_17 : decode cX1_loseOldest 17 = .ok (.getfield 18, 3) := by decide +kernel
theorem dX1_loseOldest_20 : decode cX1_loseOldest 20 = .ok (.iload_n 1, 1) := by decide +kernel
theorem dX1_loseOldest_21 : decode cX1_loseOldest 21 = .ok (.aaload, 1) := by decide +kernel
theorem dX1_loseOldest_22 : decode cX1_loseOldest 22 = .ok (.invokevirtual 39, 3) := by decide +kernel
theorem dX1_loseOldest_25 : decode cX1_loseOldest 25 = .ok (.iinc 1 1, 3) := by decide +kernel
theorem dX1_loseOldest_28 : decode cX1_loseOldest 28 = .ok (.goto (-26), 3) := by decide +kernel
theorem dX1_loseOldest_31 : decode cX1_loseOldest 31 = .ok (.aload_n 0, 1) := by decide +kernel
theorem dX1_loseOldest_32 : decode cX1_loseOldest 32 = .ok (.bipush 9, 2) := by decide +kernel
theorem dX1_loseOldest_34 : decode cX1_loseOldest 34 = .ok (.putfield 33, 3) := by decide +kernel
theorem dX1_loseOldest_37 : decode cX1_loseOldest 37 = .ok (.return_, 1) := by decide +kernel
theorem dX1_goBack_0 : decode cX1_goBack 0 = .ok (.aload_n 0, 1) := by decide +kernel
theorem dX1_goBack_1 : decode cX1_goBack 1 = .ok (.getfield 33, 3) := by decide +kernel
theorem dX1_goBack_4 : decode cX1_goBack 4 = .ok (.ifCond .gt 5, 3) := by decide +kernel
theorem dX1_goBack_7 : decode cX1_goBack 7 = .ok (.iconst 0, 1) := by decide +kernel
theorem dX1_goBack_8 : decode cX1_goBack 8 = .ok (.ireturn, 1) := by decide +kernel
theorem dX1_goBack_9 : decode cX1_goBack 9 = .ok (.aload_n 0, 1) := by decide +kernel
theorem dX1_goBack_10 : decode cX1_goBack 10 = .ok (.dup, 1) := by decide +kernel
theorem dX1_goBack_11 : decode cX1_goBack 11 = .ok (.getfield 33, 3) := by decide +kernel
theorem dX1_goBack_14 : decode cX1_goBack 14 = .ok (.iconst 1, 1) := by decide +kernel
theorem dX1_goBack_15 : decode cX1_goBack 15 = .ok (.isub, 1) := by decide +kernel
theorem dX1_goBack_16 : decode cX1_goBack 16 = .ok (.putfield 33, 3) := by decide +kernel
theorem dX1_goBack_19 : decode cX1_goBack 19 = .ok (.aload_n 0, 1) := by decide +kernel
theorem dX1_goBack_20 : decode cX1_goBack 20 = .ok (.getfield 12, 3) := by decide +kernel
theorem dX1_goBack_23 : decode cX1_goBack 23 = .ok (.aload_n 0, 1) := by decide +kernel
theorem dX1_goBack_24 : decode cX1_goBack 24 = .ok (.getfield 18, 3) := by decide +kernel
theorem dX1_goBack_27 : decode cX1_goBack 27 = .ok (.aload_n 0, 1) := by decide +kernel
theorem dX1_goBack_28 : decode cX1_goBack 28 = .ok (.getfield 33, 3) := by decide +kernel
theorem dX1_goBack_31 : decode cX1_goBack 31 = .ok (.aaload, 1) := by decide +kernel
theorem dX1_goBack_32 : decode cX1_goBack 32 = .ok (.invokevirtual 39, 3) := by decide +kernel
theorem dX1_goBack_35 : decode cX1_goBack 35 = .ok (.iconst 1, 1) := by decide +kernel
theorem dX1_goBack_36 : decode cX1_goBack 36 = .ok (.ireturn, 1) := by decide +kernel
theorem dX1_copy_0 : decode cX1_copy 0 = .ok (.aload_n 0, 1) := by decide +kernel
theorem dX1_copy_1 : decode cX1_copy 1 = .ok (.getfield 12, 3) := by decide +kernel
theorem dX1_copy_4 : decode cX1_copy 4 = .ok (.aload_n 1, 1) := by decide +kernel
theorem dX1_copy_5 : decode cX1_copy 5 = .ok (.getfield 12, 3) := by decide +kernel
theorem dX1_copy_8 : decode cX1_copy 8 = .ok (.invokevirtual 39, 3) := by decide +kernel
theorem dX1_copy_11 : decode cX1_copy 11 = .ok (.aload_n 0, 1) := by decide +kernel
theorem dX1_copy_12 : decode cX1_copy 12 = .ok (.aload_n 1, 1) := by decide +kernel
theorem dX1_copy_13 : decode cX1_copy 13 = .ok (.getfield 33, 3) := by decide +kernel
theorem dX1_copy_16 : decode cX1_copy 16 = .ok (.putfield 33, 3) := by decide +kernel
theorem dX1_copy_19 : decode cX1_copy 19 = .ok (.iconst 0, 1) := by decide +kernel
theorem dX1_copy_20 : decode cX1_copy 20 = .ok (.istore_n 2, 1) := by decide +kernel
theorem dX1_copy_21 : decode cX1_copy 21 = .ok (.iload_n 2, 1) := by decide +kernel
theorem dX1_copy_22 : decode cX1_copy 22 = .ok (.aload_n 0, 1) := by decide +kernel
theorem dX1_copy_23 : decode cX1_copy 23 = .ok (.getfield 33, 3) := by decide +kernel
theorem dX1_copy_26 : decode cX1_copy 26 = .ok (.if_icmp .ge 24, 3) := by decide +kernel
theorem dX1_copy_29 : decode cX1_copy 29 = .ok (.aload_n 0, 1) := by decide +kernel
theorem dX1_copy_30 : decode cX1_copy 30 = .ok (.getfield 18, 3) := by decide +kernel
theorem dX1_copy_33 : decode cX1_copy 33 = .ok (.iload_n 2, 1) := by decide +kernel
theorem dX1_copy_34 : decode cX1_copy 34 = .ok (.aaload, 1) := by decide +kernel
theorem dX1_copy_35 : decode cX1_copy 35 = .ok (.aload_n 1, 1) := by decide +kernel
theorem dX1_copy_36 : decode cX1_copy 36 = .ok (.getfield 18, 3) := by decide +kernel
theorem dX1_copy_39 : decode cX1_copy 39 = .ok (.iload_n 2, 1) := by decide +kernel
theorem dX1_copy_40 : decode cX1_copy 40 = .ok (.aaload, 1) := by decide +kernel
theorem dX1_copy_41 : decode cX1_copy 41 = .ok (.invokevirtual 39, 3) := by decide +kernel
theorem dX1_copy_44 : decode cX1_copy 44 = .ok (.iinc 2 1, 3) := by decide +kernel
theorem dX1_copy_47 : decode cX1_copy 47 = .ok (.goto (-26), 3) := by decide +kernel
theorem dX1_copy_50 : decode cX1_copy 50 = .ok (.return_, 1) := by decide +kernel
theorem dX2_init_0 : decode cX2_init 0 = .ok (.aload_n 0, 1) := by decide +kernel
theorem dX2_init_1 : decode cX2_init 1 = .ok (.invokespecial 3, 3) := by decide +kernel
theorem dX2_init_4 : decode cX2_init 4 = .ok (.aload_n 0, 1) := by decide +kernel
theorem dX2_init_5 : decode cX2_init 5 = .ok (.sipush 1350, 3) := by decide +kernel
theorem dX2_init_8 : decode cX2_init 8 = .ok (.newarray .int, 2) := by decide +kernel
theorem dX2_init_10 : decode cX2_init 10 = .ok (.putfield 11, 3) := by decide +kernel
theorem dX2_init_13 : decode cX2_init 13 = .ok (.aload_n 0, 1) := by decide +kernel
theorem dX2_init_14 : decode cX2_init 14 = .ok (.invokevirtual 15, 3) := by decide +kernel
theorem dX2_init_17 : decode cX2_init 17 = .ok (.return_, 1) := by decide +kernel
theorem dX2_empty_0 : decode cX2_empty 0 = .ok (.aload_n 0, 1) := by decide +kernel
theorem dX2_empty_1 : decode cX2_empty 1 = .ok (.getfield 11, 3) := by decide +kernel
theorem dX2_empty_4 : decode cX2_empty 4 = .ok (.iconst 0, 1) := by decide +kernel
theorem dX2_empty_5 : decode cX2_empty 5 = .ok (.invokestatic 18, 3) := by decide +kernel
theorem dX2_empty_8 : decode cX2_empty 8 = .ok (.aload_n 0, 1) := by decide +kernel
theorem dX2_empty_9 : decode cX2_empty 9 = .ok (.iconst 1, 1) := by decide +kernel
theorem dX2_empty_10 : decode cX2_empty 10 = .ok (.invokevirtual 24, 3) := by decide +kernel
theorem dX2_empty_13 : decode cX2_empty 13 = .ok (.aload_n 0, 1) := by decide +kernel
theorem dX2_empty_14 : decode cX2_empty 14 = .ok (.iconst 2, 1) := by decide +kernel
theorem dX2_empty_15 : decode cX2_empty 15 = .ok (.putfield 28, 3) := by decide +kernel
theorem dX2_empty_18 : decode cX2_empty 18 = .ok (.return_, 1) := by decide +kernel
theorem dX2_add_0 : decode cX2_add 0 = .ok (.iconst 1, 1) := by decide +kernel
theorem dX2_add_1 : decode cX2_add 1 = .ok (.istore 4, 2) := by decide +kernel
theorem dX2_add_3 : decode cX2_add 3 = .ok (.iload_n 2, 1) := by decide +kernel
theorem dX2_add_4 : decode cX2_add 4 = .ok (.istore 5, 2) := by decide +kernel
theorem dX2_add_6 : decode cX2_add 6 = .ok (.iload 5, 2) := by decide +kernel
theorem dX2_add_8 : decode cX2_add 8 = .ok (.iload_n 2, 1) := by decide +kernel
theorem dX2_add_9 : decode cX2_add 9 = .ok (.iload_n 3, 1) := by decide +kernel
theorem dX2_add_10 : decode cX2_add 10 = .ok (.iadd, 1) := by decide +kernel
theorem dX2_add_11 : decode cX2_add 11 = .ok (.if_icmp .ge 21, 3) := by decide +kernel
theorem dX2_add_14 : decode cX2_add 14 = .ok (.aload_n 0, 1) := by decide +kernel
theorem dX2_add_15 : decode cX2_add 15 = .ok (.iload 4, 2) := by decide +kernel
theorem dX2_add_17 : decode cX2_add 17 = .ok (.aload_n 1, 1) := by decide +kernel
theorem dX2_add_18 : decode cX2_add 18 = .ok (.iload 5, 2) := by decide +kernel
theorem dX2_add_20 : decode cX2_add 20 = .ok (.iaload, 1) := by decide +kernel
theorem dX2_add_21 : decode cX2_add 21 = .ok (.invokevirtual 32, 3) := by decide +kernel
theorem dX2_add_24 : decode cX2_add 24 = .ok (.istore 4, 2) := by decide +kernel
theorem dX2_add_26 : decode cX2_add 26 = .ok (.iinc 5 1, 3) := by decide +kernel
theorem dX2_add_29 : decode cX2_add 29 = .ok (.goto (-23), 3) := by decide +kernel
theorem dX2_add_32 : decode cX2_add 32 = .ok (.aload_n 0, 1) := by decide +kernel
theorem dX2_add_33 : decode cX2_add 33 = .ok (.iload 4, 2) := by decide +kernel
theorem dX2_add_35 : decode cX2_add 35 = .ok (.invokevirtual 24, 3) := by decide +kernel
theorem dX2_add_38 : decode cX2_add 38 = .ok (.return_, 1) := by decide +kernel
theorem dX2_grow_0 : decode cX2_grow 0 = .ok (.iload_n 1, 1) := by decide +kernel
theorem dX2_grow_1 : decode cX2_grow 1 = .ok (.bipush 27, 2) := by decide +kernel
theorem dX2_grow_3 : decode cX2_grow 3 = .ok (.imul, 1) := by decide +kernel
theorem dX2_grow_4 : decode cX2_grow 4 = .ok (.iload_n 2, 1) := by decide +kernel
theorem dX2_grow_5 : decode cX2_grow 5 = .ok (.iadd, 1) := by decide +kernel
theorem dX2_grow_6 : decode cX2_grow 6 = .ok (.istore_n 3, 1) := by decide +kernel
theorem dX2_grow_7 : decode cX2_grow 7 = .ok (.aload_n 0, 1) := by decide +kernel
theorem dX2_grow_8 : decode cX2_grow 8 = .ok (.getfield 11, 3) := by decide +kernel
theorem dX2_grow_11 : decode cX2_grow 11 = .ok (.iload_n 3, 1) := by decide +kernel
theorem dX2_grow_12 : decode cX2_grow 12 = .ok (.iaload, 1) := by decide +kernel
theorem dX2_grow_13 : decode cX2_grow 13 = .ok (.ifCond .ne 32, 3) := by decide +kernel
theorem dX2_grow_16 : decode cX2_grow 16 = .ok (.aload_n 0, 1) := by decide +kernel
theorem dX2_grow_17 : decode cX2_grow 17 = .ok (.getfield 28, 3) := by decide +kernel
theorem dX2_grow_20 : decode cX2_grow 20 = .ok (.bipush 50, 2) := by decide +kernel
theorem dX2_grow_22 : decode cX2_grow 22 = .ok (.if_icmp .ge 23, 3) := by decide +kernel
theorem dX2_grow_25 : decode cX2_grow 25 = .ok (.aload_n 0, 1) := by decide +kernel
theorem dX2_grow_26 : decode cX2_grow 26 = .ok (.getfield 11, 3) := by decide +kernel
theorem dX2_grow_29 : decode cX2_grow 29 = .ok (.iload_n 3, 1) := by decide +kernel
theorem dX2_grow_30 : decode cX2_grow 30 = .ok (.aload_n 0, 1) := by decide +kernel
theorem dX2_grow_31 : decode cX2_grow 31 = .ok (.getfield 28, 3) := by decide +kernel
theorem dX2_grow_34 : decode cX2_grow 34 = .ok (.iastore, 1) := by decide +kernel
theorem dX2_grow_35 : decode cX2_grow 35 = .ok (.aload_n 0, 1) := by decide +kernel
theorem dX2_grow_36 : decode cX2_grow 36 = .ok (.dup, 1) := by decide +kernel
theorem dX2_grow_37 : decode cX2_grow 37 = .ok (.getfield 28, 3) := by decide +kernel
theorem dX2_grow_40 : decode cX2_grow 40 = .ok (.iconst 1, 1) := by decide +kernel
theorem dX2_grow_41 : decode cX2_grow 41 = .ok (.iadd, 1) := by decide +kernel
theorem dX2_grow_42 : decode cX2_grow 42 = .ok (.putfield 28, 3) := by decide +kernel
theorem dX2_grow_45 : decode cX2_grow 45 = .ok (.aload_n 0, 1) := by decide +kernel
theorem dX2_grow_46 : decode cX2_grow 46 = .ok (.getfield 11, 3) := by decide +kernel
theorem dX2_grow_49 : decode cX2_grow 49 = .ok (.iload_n 3, 1) := by decide +kernel
theorem dX2_grow_50 : decode cX2_grow 50 = .ok (.iaload, 1) := by decide +kernel
theorem dX2_grow_51 : decode cX2_grow 51 = .ok (.ireturn, 1) := by decide +kernel
theorem dX2_mayEndAt_0 : decode cX2_mayEndAt 0 = .ok (.aload_n 0, 1) := by decide +kernel
theorem dX2_mayEndAt_1 : decode cX2_mayEndAt 1 = .ok (.getfield 11, 3) := by decide +kernel
theorem dX2_mayEndAt_4 : decode cX2_mayEndAt 4 = .ok (.iload_n 1, 1) := by decide +kernel
theorem dX2_mayEndAt_5 : decode cX2_mayEndAt 5 = .ok (.bipush 27, 2) := by decide +kernel
theorem dX2_mayEndAt_7 : decode cX2_mayEndAt 7 = .ok (.imul, 1) := by decide +kernel
theorem dX2_mayEndAt_8 : decode cX2_mayEndAt 8 = .ok (.bipush 26, 2) := by decide +kernel
theorem dX2_mayEndAt_10 : decode cX2_mayEndAt 10 = .ok (.iadd, 1) := by decide +kernel
theorem dX2_mayEndAt_11 : decode cX2_mayEndAt 11 = .ok (.iconst 1, 1) := by decide +kernel
theorem dX2_mayEndAt_12 : decode cX2_mayEndAt 12 = .ok (.iastore, 1) := by decide +kernel
theorem dX2_mayEndAt_13 : decode cX2_mayEndAt 13 = .ok (.return_, 1) := by decide +kernel
theorem dX2_step_0 : decode cX2_step 0 = .ok (.aload_n 0, 1) := by decide +kernel
theorem dX2_step_1 : decode cX2_step 1 = .ok (.getfield 11, 3) := by decide +kernel
theorem dX2_step_4 : decode cX2_step 4 = .ok (.iload_n 1, 1) := by decide +kernel
theorem dX2_step_5 : decode cX2_step 5 = .ok (.bipush 27, 2) := by decide +kernel
theorem dX2_step_7 : decode cX2_step 7 = .ok (.imul, 1) := by decide +kernel
theorem dX2_step_8 : decode cX2_step 8 = .ok (.iload_n 2, 1) := by decide +kernel
theorem dX2_step_9 : decode cX2_step 9 = .ok (.iadd, 1) := by decide +kernel
theorem dX2_step_10 : decode cX2_step 10 = .ok (.iaload, 1) := by decide +kernel
theorem dX2_step_11 : decode cX2_step 11 = .ok (.ireturn, 1) := by decide +kernel
theorem dX2_endsAt_0 : decode cX2_endsAt 0 = .ok (.aload_n 0, 1) := by decide +kernel
theorem dX2_endsAt_1 : decode cX2_endsAt 1 = .ok (.getfield 11, 3) := by decide +kernel
theorem dX2_endsAt_4 : decode cX2_endsAt 4 = .ok (.iload_n 1, 1) := by decide +kernel
theorem dX2_endsAt_5 : decode cX2_endsAt 5 = .ok (.bipush 27, 2) := by decide +kernel
theorem dX2_endsAt_7 : decode cX2_endsAt 7 = .ok (.imul, 1) := by decide +kernel
theorem dX2_endsAt_8 : decode cX2_endsAt 8 = .ok (.bipush 26, 2) := by decide +kernel
theorem dX2_endsAt_10 : decode cX2_endsAt 10 = .ok (.iadd, 1) := by decide +kernel
theorem dX2_endsAt_11 : decode cX2_endsAt 11 = .ok (.iaload, 1) := by decide +kernel
theorem dX2_endsAt_12 : decode cX2_endsAt 12 = .ok (.iconst 1, 1) := by decide +kernel
theorem dX2_endsAt_13 : decode cX2_endsAt 13 = .ok (.if_icmp .ne 7, 3) := by decide +kernel
theorem dX2_endsAt_16 : decode cX2_endsAt 16 = .ok (.iconst 1, 1) := by decide +kernel
theorem dX2_endsAt_17 : decode cX2_endsAt 17 = .ok (.goto 4, 3) := by decide +kernel
theorem dX2_endsAt_20 : decode cX2_endsAt 20 = .ok (.iconst 0, 1) := by decide +kernel
theorem dX2_endsAt_21 : decode cX2_endsAt 21 = .ok (.ireturn, 1) := by decide +kernel
theorem dX3_init_0 : decode cX3_init 0 = .ok (.aload_n 0, 1) := by decide +kernel
theorem dX3_init_1 : decode cX3_init 1 = .ok (.iconst 1, 1) := by decide +kernel
theorem dX3_init_2 : decode cX3_init 2 = .ok (.iconst 1, 1) := by decide +kernel
theorem dX3_init_3 : decode cX3_init 3 = .ok (.invokespecial 3, 3) := by decide +kernel
theorem dX3_init_6 : decode cX3_init 6 = .ok (.aload_n 0, 1) := by decide +kernel
theorem dX3_init_7 : decode cX3_init 7 = .ok (.iconst (-1), 1) := by decide +kernel
theorem dX3_init_8 : decode cX3_init 8 = .ok (.putfield 11, 3) := by decide +kernel
theorem dX3_init_11 : decode cX3_init 11 = .ok (.return_, 1) := by decide +kernel
theorem dX3_drop_0 : decode cX3_drop 0 = .ok (.aload_n 0, 1) := by decide +kernel
theorem dX3_drop_1 : decode cX3_drop 1 = .ok (.iconst (-1), 1) := by decide +kernel
theorem dX3_drop_2 : decode cX3_drop 2 = .ok (.putfield 11, 3) := by decide +kernel
theorem dX3_drop_5 : decode cX3_drop 5 = .ok (.return_, 1) := by decide +kernel
theorem dX3_knows_0 : decode cX3_knows 0 = .ok (.aload_n 1, 1) := by decide +kernel
theorem dX3_knows_1 : decode cX3_knows 1 = .ok (.invokevirtual 15, 3) := by decide +kernel
theorem dX3_knows_4 : decode cX3_knows 4 = .ok (.aload_n 0, 1) := by decide +kernel
theorem dX3_knows_5 : decode cX3_knows 5 = .ok (.getfield 11, 3) := by decide +kernel
theorem dX3_knows_8 : decode cX3_knows 8 = .ok (.if_icmp .ne 7, 3) := by decide +kernel
theorem dX3_knows_11 : decode cX3_knows 11 = .ok (.iconst 1, 1) := by decide +kernel
theorem dX3_knows_12 : decode cX3_knows 12 = .ok (.goto 4, 3) := by decide +kernel
theorem dX3_knows_15 : decode cX3_knows 15 = .ok (.iconst 0, 1) := by decide +kernel
theorem dX3_knows_16 : decode cX3_knows 16 = .ok (.ireturn, 1) := by decide +kernel
theorem dX3_begin_0 : decode cX3_begin 0 = .ok (.aload_n 0, 1) := by decide +kernel
theorem dX3_begin_1 : decode cX3_begin 1 = .ok (.aload_n 1, 1) := by decide +kernel
theorem dX3_begin_2 : decode cX3_begin 2 = .ok (.invokevirtual 15, 3) := by decide +kernel
theorem dX3_begin_5 : decode cX3_begin 5 = .ok (.putfield 11, 3) := by decide +kernel
theorem dX3_begin_8 : decode cX3_begin 8 = .ok (.aload_n 0, 1) := by decide +kernel
theorem dX3_begin_9 : decode cX3_begin 9 = .ok (.iconst 0, 1) := by decide +kernel
theorem dX3_begin_10 : decode cX3_begin 10 = .ok (.putfield 21, 3) := by decide +kernel
theorem dX3_begin_13 : decode cX3_begin 13 = .ok (.aload_n 0, 1) := by decide +kernel
theorem dX3_begin_14 : decode cX3_begin 14 = .ok (.bipush (-9), 2) := by decide +kernel
theorem dX3_begin_16 : decode cX3_begin 16 = .ok (.putfield 24, 3) := by decide +kernel
theorem dX3_begin_19 : decode cX3_begin 19 = .ok (.aload_n 0, 1) := by decide +kernel
theorem dX3_begin_20 : decode cX3_begin 20 = .ok (.bipush (-9), 2) := by decide +kernel
theorem dX3_begin_22 : decode cX3_begin 22 = .ok (.putfield 27, 3) := by decide +kernel
theorem dX3_begin_25 : decode cX3_begin 25 = .ok (.return_, 1) := by decide +kernel
theorem dX3_meet_0 : decode cX3_meet 0 = .ok (.aload_n 0, 1) := by decide +kernel
theorem dX3_meet_1 : decode cX3_meet 1 = .ok (.getfield 30, 3) := by decide +kernel
theorem dX3_meet_4 : decode cX3_meet 4 = .ok (.getfield 34, 3) := by decide +kernel
theorem dX3_meet_7 : decode cX3_meet 7 = .ok (.aload_n 0, 1) := by decide +kernel
theorem dX3_meet_8 : decode cX3_meet 8 = .ok (.getfield 11, 3) := by decide +kernel
theorem dX3_meet_11 : decode cX3_meet 11 = .ok (.iand, 1) := by decide +kernel
theorem dX3_meet_12 : decode cX3_meet 12 = .ok (.istore_n 3, 1) := by decide +kernel
theorem dX3_meet_13 : decode cX3_meet 13 = .ok (.aload_n 0, 1) := by decide +kernel
theorem dX3_meet_14 : decode cX3_meet 14 = .ok (.getfield 21, 3) := by decide +kernel
theorem dX3_meet_17 : decode cX3_meet 17 = .ok (.ifCond .eq 27, 3) := by decide +kernel
theorem dX3_meet_20 : decode cX3_meet 20 = .ok (.iload_n 2, 1) := by decide +kernel
theorem dX3_meet_21 : decode cX3_meet 21 = .ok (.aload_n 0, 1) := by decide +kernel
theorem dX3_meet_22 : decode cX3_meet 22 = .ok (.getfield 24, 3) := by decide +kernel
theorem dX3_meet_25 : decode cX3_meet 25 = .ok (.if_icmp .lt 19, 3) := by decide +kernel
theorem dX3_meet_28 : decode cX3_meet 28 = .ok (.iload_n 2, 1) := by decide +kernel
theorem dX3_meet_29 : decode cX3_meet 29 = .ok (.aload_n 0, 1) := by decide +kernel
theorem dX3_meet_30 : decode cX3_meet 30 = .ok (.getfield 24, 3) := by decide +kernel
theorem dX3_meet_33 : decode cX3_meet 33 = .ok (.if_icmp .ne 21, 3) := by decide +kernel
theorem dX3_meet_36 : decode cX3_meet 36 = .ok (.iload_n 3, 1) := by decide +kernel
theorem dX3_meet_37 : decode cX3_meet 37 = .ok (.aload_n 0, 1) := by decide +kernel
theorem dX3_meet_38 : decode cX3_meet 38 = .ok (.getfield 27, 3) := by decide +kernel
theorem dX3_meet_41 : decode cX3_meet 41 = .ok (.if_icmp .ge 13, 3) := by decide +kernel
theorem dX3_meet_44 : decode cX3_meet 44 = .ok (.aload_n 0, 1) := by decide +kernel
theorem dX3_meet_45 : decode cX3_meet 45 = .ok (.iload_n 2, 1) := by decide +kernel
theorem dX3_meet_46 : decode cX3_meet 46 = .ok (.putfield 24, 3) := by decide +kernel
theorem dX3_meet_49 : decode cX3_meet 49 = .ok (.aload_n 0, 1) := by decide +kernel
theorem dX3_meet_50 : decode cX3_meet 50 = .ok (.iload_n 3, 1) := by decide +kernel
theorem dX3_meet_51 : decode cX3_meet 51 = .ok (.putfield 27, 3) := by decide +kernel
theorem dX3_meet_54 : decode cX3_meet 54 = .ok (.aload_n 0, 1) := by decide +kernel
theorem dX3_meet_55 : decode cX3_meet 55 = .ok (.dup, 1) := by decide +kernel
theorem dX3_meet_56 : decode cX3_meet 56 = .ok (.getfield 21, 3) := by decide +kernel
theorem dX3_meet_59 : decode cX3_meet 59 = .ok (.iconst 1, 1) := by decide +kernel
theorem dX3_meet_60 : decode cX3_meet 60 = .ok (.iadd, 1) := by decide +kernel
theorem dX3_meet_61 : decode cX3_meet 61 = .ok (.putfield 21, 3) := by decide +kernel
theorem dX3_meet_64 : decode cX3_meet 64 = .ok (.return_, 1) := by decide +kernel
theorem dX4_init_0 : decode cX4_init 0 = .ok (.aload_n 0, 1) := by decide +kernel
theorem dX4_init_1 : decode cX4_init 1 = .ok (.invokespecial 3, 3) := by decide +kernel
theorem dX4_init_4 : decode cX4_init 4 = .ok (.return_, 1) := by decide +kernel
theorem dX4_read_0 : decode cX4_read 0 = .ok (.aload_n 0, 1) := by decide +kernel
theorem dX4_read_1 : decode cX4_read 1 = .ok (.iconst 0, 1) := by decide +kernel
theorem dX4_read_2 : decode cX4_read 2 = .ok (.putfield 9, 3) := by decide +kernel
theorem dX4_read_5 : decode cX4_read 5 = .ok (.aload_n 0, 1) := by decide +kernel
theorem dX4_read_6 : decode cX4_read 6 = .ok (.iconst 0, 1) := by decide +kernel
theorem dX4_read_7 : decode cX4_read 7 = .ok (.putfield 15, 3) := by decide +kernel
theorem dX4_read_10 : decode cX4_read 10 = .ok (.aload_n 0, 1) := by decide +kernel
theorem dX4_read_11 : decode cX4_read 11 = .ok (.iconst 0, 1) := by decide +kernel
theorem dX4_read_12 : decode cX4_read 12 = .ok (.putfield 18, 3) := by decide +kernel
theorem dX4_read_15 : decode cX4_read 15 = .ok (.aload_n 0, 1) := by decide +kernel
theorem dX4_read_16 : decode cX4_read 16 = .ok (.iconst 0, 1) := by decide +kernel
theorem dX4_read_17 : decode cX4_read 17 = .ok (.putfield 21, 3) := by decide +kernel
theorem dX4_read_20 : decode cX4_read 20 = .ok (.aload_n 0, 1) := by decide +kernel
theorem dX4_read_21 : decode cX4_read 21 = .ok (.iconst 1, 1) := by decide +kernel
theorem dX4_read_22 : decode cX4_read 22 = .ok (.putfield 26, 3) := by decide +kernel
theorem dX4_read_25 : decode cX4_read 25 = .ok (.aload_n 0, 1) := by decide +kernel
theorem dX4_read_26 : decode cX4_read 26 = .ok (.iconst 0, 1) := by decide +kernel
theorem dX4_read_27 : decode cX4_read 27 = .ok (.putfield 29, 3) := by decide +kernel
theorem dX4_read_30 : decode cX4_read 30 = .ok (.iconst 0, 1) := by decide +kernel
theorem dX4_read_31 : decode cX4_read 31 = .ok (.istore 4, 2) := by decide +kernel
theorem dX4_read_33 : decode cX4_read 33 = .ok (.iload 4, 2) := by decide +kernel
theorem dX4_read_35 : decode cX4_read 35 = .ok (.iconst 2, 1) := by decide +kernel
theorem dX4_read_36 : decode cX4_read 36 = .ok (.aload_n 2, 1) := by decide +kernel
theorem dX4_read_37 : decode cX4_read 37 = .ok (.getfield 32, 3) := by decide +kernel
theorem dX4_read_40 : decode cX4_read 40 = .ok (.imul, 1) := by decide +kernel
theorem dX4_read_41 : decode cX4_read 41 = .ok (.if_icmp .ge 84, 3) := by decide +kernel
theorem dX4_read_44 : decode cX4_read 44 = .ok (.aload_n 2, 1) := by decide +kernel
theorem dX4_read_45 : decode cX4_read 45 = .ok (.getfield 37, 3) := by decide +kernel
theorem dX4_read_48 : decode cX4_read 48 = .ok (.iload 4, 2) := by decide +kernel
theorem dX4_read_50 : decode cX4_read 50 = .ok (.iconst 2, 1) := by decide +kernel
theorem dX4_read_51 : decode cX4_read 51 = .ok (.idiv, 1) := by decide +kernel
theorem dX4_read_52 : decode cX4_read 52 = .ok (.iaload, 1) := by decide +kernel
theorem dX4_read_53 : decode cX4_read 53 = .ok (.istore 5, 2) := by decide +kernel
theorem dX4_read_55 : decode cX4_read 55 = .ok (.aload_n 1, 1) := by decide +kernel
theorem dX4_read_56 : decode cX4_read 56 = .ok (.iload 5, 2) := by decide +kernel
theorem dX4_read_58 : decode cX4_read 58 = .ok (.aload_n 2, 1) := by decide +kernel
theorem dX4_read_59 : decode cX4_read 59 = .ok (.iload 5, 2) := by decide +kernel
theorem dX4_read_61 : decode cX4_read 61 = .ok (.invokevirtual 41, 3) := by decide +kernel
theorem dX4_read_64 : decode cX4_read 64 = .ok (.iload_n 3, 1) := by decide +kernel
theorem dX4_read_65 : decode cX4_read 65 = .ok (.iload 4, 2) := by decide +kernel
theorem dX4_read_67 : decode cX4_read 67 = .ok (.iconst 2, 1) := by decide +kernel
theorem dX4_read_68 : decode cX4_read 68 = .ok (.irem, 1) := by decide +kernel
theorem dX4_read_69 : decode cX4_read 69 = .ok (.invokevirtual 45, 3) := by decide +kernel
theorem dX4_read_72 : decode cX4_read 72 = .ok (.istore 6, 2) := by decide +kernel
theorem dX4_read_74 : decode cX4_read 74 = .ok (.iload 6, 2) := by decide +kernel
theorem dX4_read_76 : decode cX4_read 76 = .ok (.bipush 26, 2) := by decide +kernel
theorem dX4_read_78 : decode cX4_read 78 = .ok (.if_icmp .ne 14, 3) := by decide +kernel
theorem dX4_read_81 : decode cX4_read 81 = .ok (.aload_n 0, 1) := by decide +kernel
theorem dX4_read_82 : decode cX4_read 82 = .ok (.aload_n 1, 1) := by decide +kernel
theorem dX4_read_83 : decode cX4_read 83 = .ok (.getfield 51, 3) := by decide +kernel
theorem dX4_read_86 : decode cX4_read 86 = .ok (.invokevirtual 55, 3) := by decide +kernel
theorem dX4_read_89 : decode cX4_read 89 = .ok (.goto 30, 3) := by decide +kernel
theorem dX4_read_92 : decode cX4_read 92 = .ok (.aload_n 0, 1) := by decide +kernel
theorem dX4_read_93 : decode cX4_read 93 = .ok (.dup, 1) := by decide +kernel
theorem dX4_read_94 : decode cX4_read 94 = .ok (.getfield 29, 3) := by decide +kernel
theorem dX4_read_97 : decode cX4_read 97 = .ok (.iconst 1, 1) := by decide +kernel
theorem dX4_read_98 : decode cX4_read 98 = .ok (.iadd, 1) := by decide +kernel
theorem dX4_read_99 : decode cX4_read 99 = .ok (.putfield 29, 3) := by decide +kernel
theorem dX4_read_102 : decode cX4_read 102 = .ok (.aload_n 0, 1) := by decide +kernel
theorem dX4_read_103 : decode cX4_read 103 = .ok (.aload_n 1, 1) := by decide +kernel
theorem dX4_read_104 : decode cX4_read 104 = .ok (.getfield 51, 3) := by decide +kernel
theorem dX4_read_107 : decode cX4_read 107 = .ok (.aload_n 0, 1) := by decide +kernel
theorem dX4_read_108 : decode cX4_read 108 = .ok (.getfield 26, 3) := by decide +kernel
theorem dX4_read_111 : decode cX4_read 111 = .ok (.iload 6, 2) := by decide +kernel
theorem dX4_read_113 : decode cX4_read 113 = .ok (.invokevirtual 59, 3) := by decide +kernel
theorem dX4_read_116 : decode cX4_read 116 = .ok (.putfield 26, 3) := by decide +kernel
theorem dX4_read_119 : decode cX4_read 119 = .ok (.iinc 4 1, 3) := by decide +kernel
theorem dX4_read_122 : decode cX4_read 122 = .ok (.goto (-89), 3) := by decide +kernel
theorem dX4_read_125 : decode cX4_read 125 = .ok (.aload_n 0, 1) := by decide +kernel
theorem dX4_read_126 : decode cX4_read 126 = .ok (.aload_n 1, 1) := by decide +kernel
theorem dX4_read_127 : decode cX4_read 127 = .ok (.getfield 51, 3) := by decide +kernel
theorem dX4_read_130 : decode cX4_read 130 = .ok (.invokevirtual 55, 3) := by decide +kernel
theorem dX4_read_133 : decode cX4_read 133 = .ok (.return_, 1) := by decide +kernel
theorem dX4_endRun_0 : decode cX4_endRun 0 = .ok (.aload_n 0, 1) := by decide +kernel
theorem dX4_endRun_1 : decode cX4_endRun 1 = .ok (.getfield 29, 3) := by decide +kernel
theorem dX4_endRun_4 : decode cX4_endRun 4 = .ok (.ifCond .le 60, 3) := by decide +kernel
theorem dX4_endRun_7 : decode cX4_endRun 7 = .ok (.aload_n 0, 1) := by decide +kernel
theorem dX4_endRun_8 : decode cX4_endRun 8 = .ok (.dup, 1) := by decide +kernel
theorem dX4_endRun_9 : decode cX4_endRun 9 = .ok (.getfield 9, 3) := by decide +kernel
theorem dX4_endRun_12 : decode cX4_endRun 12 = .ok (.iconst 1, 1) := by decide +kernel
theorem dX4_endRun_13 : decode cX4_endRun 13 = .ok (.iadd, 1) := by decide +kernel
theorem dX4_endRun_14 : decode cX4_endRun 14 = .ok (.putfield 9, 3) := by decide +kernel
theorem dX4_endRun_17 : decode cX4_endRun 17 = .ok (.aload_n 0, 1) := by decide +kernel
theorem dX4_endRun_18 : decode cX4_endRun 18 = .ok (.dup, 1) := by decide +kernel
theorem dX4_endRun_19 : decode cX4_endRun 19 = .ok (.getfield 18, 3) := by decide +kernel
theorem dX4_endRun_22 : decode cX4_endRun 22 = .ok (.aload_n 0, 1) := by decide +kernel
theorem dX4_endRun_23 : decode cX4_endRun 23 = .ok (.getfield 29, 3) := by decide +kernel
theorem dX4_endRun_26 : decode cX4_endRun 26 = .ok (.iadd, 1) := by decide +kernel
theorem dX4_endRun_27 : decode cX4_endRun 27 = .ok (.putfield 18, 3) := by decide +kernel
theorem dX4_endRun_30 : decode cX4_endRun 30 = .ok (.aload_n 1, 1) := by decide +kernel
theorem dX4_endRun_31 : decode cX4_endRun 31 = .ok (.aload_n 0, 1) := by decide +kernel
theorem dX4_endRun_32 : decode cX4_endRun 32 = .ok (.getfield 26, 3) := by decide +kernel
theorem dX4_endRun_35 : decode cX4_endRun 35 = .ok (.invokevirtual 63, 3) := by decide +kernel
theorem dX4_endRun_38 : decode cX4_endRun 38 = .ok (.ifCond .eq 26, 3) := by decide +kernel
theorem dX4_endRun_41 : decode cX4_endRun 41 = .ok (.aload_n 0, 1) := by decide +kernel
theorem dX4_endRun_42 : decode cX4_endRun 42 = .ok (.dup, 1) := by decide +kernel
theorem dX4_endRun_43 : decode cX4_endRun 43 = .ok (.getfield 15, 3) := by decide +kernel
theorem dX4_endRun_46 : decode cX4_endRun 46 = .ok (.iconst 1, 1) := by decide +kernel
theorem dX4_endRun_47 : decode cX4_endRun 47 = .ok (.iadd, 1) := by decide +kernel
theorem dX4_endRun_48 : decode cX4_endRun 48 = .ok (.putfield 15, 3) := by decide +kernel
theorem dX4_endRun_51 : decode cX4_endRun 51 = .ok (.aload_n 0, 1) := by decide +kernel
theorem dX4_endRun_52 : decode cX4_endRun 52 = .ok (.dup, 1) := by decide +kernel
theorem dX4_endRun_53 : decode cX4_endRun 53 = .ok (.getfield 21, 3) := by decide +kernel
theorem dX4_endRun_56 : decode cX4_endRun 56 = .ok (.aload_n 0, 1) := by decide +kernel
theorem dX4_endRun_57 : decode cX4_endRun 57 = .ok (.getfield 29, 3) := by decide +kernel
theorem dX4_endRun_60 : decode cX4_endRun 60 = .ok (.iadd, 1) := by decide +kernel
theorem dX4_endRun_61 : decode cX4_endRun 61 = .ok (.putfield 21, 3) := by decide +kernel
theorem dX4_endRun_64 : decode cX4_endRun 64 = .ok (.aload_n 0, 1) := by decide +kernel
theorem dX4_endRun_65 : decode cX4_endRun 65 = .ok (.iconst 1, 1) := by decide +kernel
theorem dX4_endRun_66 : decode cX4_endRun 66 = .ok (.putfield 26, 3) := by decide +kernel
theorem dX4_endRun_69 : decode cX4_endRun 69 = .ok (.aload_n 0, 1) := by decide +kernel
theorem dX4_endRun_70 : decode cX4_endRun 70 = .ok (.iconst 0, 1) := by decide +kernel
theorem dX4_endRun_71 : decode cX4_endRun 71 = .ok (.putfield 29, 3) := by decide +kernel
theorem dX4_endRun_74 : decode cX4_endRun 74 = .ok (.return_, 1) := by decide +kernel
theorem dX5_init_0 : decode cX5_init 0 = .ok (.aload_n 0, 1) := by decide +kernel
theorem dX5_init_1 : decode cX5_init 1 = .ok (.iconst 0, 1) := by decide +kernel
theorem dX5_init_2 : decode cX5_init 2 = .ok (.iconst 1, 1) := by decide +kernel
theorem dX5_init_3 : decode cX5_init 3 = .ok (.invokespecial 3, 3) := by decide +kernel
theorem dX5_init_6 : decode cX5_init 6 = .ok (.aload_n 0, 1) := by decide +kernel
theorem dX5_init_7 : decode cX5_init 7 = .ok (.bipush 6, 2) := by decide +kernel
theorem dX5_init_9 : decode cX5_init 9 = .ok (.newarray .int, 2) := by decide +kernel
theorem dX5_init_11 : decode cX5_init 11 = .ok (.putfield 9, 3) := by decide +kernel
theorem dX5_init_14 : decode cX5_init 14 = .ok (.aload_n 0, 1) := by decide +kernel
theorem dX5_init_15 : decode cX5_init 15 = .ok (.bipush 6, 2) := by decide +kernel
theorem dX5_init_17 : decode cX5_init 17 = .ok (.newarray .int, 2) := by decide +kernel
theorem dX5_init_19 : decode cX5_init 19 = .ok (.putfield 15, 3) := by decide +kernel
theorem dX5_init_22 : decode cX5_init 22 = .ok (.aload_n 0, 1) := by decide +kernel
theorem dX5_init_23 : decode cX5_init 23 = .ok (.bipush 6, 2) := by decide +kernel
theorem dX5_init_25 : decode cX5_init 25 = .ok (.newarray .int, 2) := by decide +kernel
theorem dX5_init_27 : decode cX5_init 27 = .ok (.putfield 18, 3) := by decide +kernel
theorem dX5_init_30 : decode cX5_init 30 = .ok (.return_, 1) := by decide +kernel
theorem dX5_begin_0 : decode cX5_begin 0 = .ok (.aload_n 0, 1) := by decide +kernel
theorem dX5_begin_1 : decode cX5_begin 1 = .ok (.iconst 0, 1) := by decide +kernel
theorem dX5_begin_2 : decode cX5_begin 2 = .ok (.putfield 21, 3) := by decide +kernel
theorem dX5_begin_5 : decode cX5_begin 5 = .ok (.aload_n 0, 1) := by decide +kernel
theorem dX5_begin_6 : decode cX5_begin 6 = .ok (.bipush (-9), 2) := by decide +kernel
theorem dX5_begin_8 : decode cX5_begin 8 = .ok (.putfield 25, 3) := by decide +kernel
theorem dX5_begin_11 : decode cX5_begin 11 = .ok (.aload_n 0, 1) := by decide +kernel
theorem dX5_begin_12 : decode cX5_begin 12 = .ok (.bipush (-9), 2) := by decide +kernel
theorem dX5_begin_14 : decode cX5_begin 14 = .ok (.putfield 28, 3) := by decide +kernel
theorem dX5_begin_17 : decode cX5_begin 17 = .ok (.aload_n 0, 1) := by decide +kernel
theorem dX5_begin_18 : decode cX5_begin 18 = .ok (.getfield 9, 3) := by decide +kernel
theorem dX5_begin_21 : decode cX5_begin 21 = .ok (.bipush (-9), 2) := by decide +kernel
theorem dX5_begin_23 : decode cX5_begin 23 = .ok (.invokestatic 31, 3) := by decide +kernel
theorem dX5_begin_26 : decode cX5_begin 26 = .ok (.iconst 0, 1) := by decide +kernel
theorem dX5_begin_27 : decode cX5_begin 27 = .ok (.istore_n 2, 1) := by decide +kernel
theorem dX5_begin_28 : decode cX5_begin 28 = .ok (.iload_n 2, 1) := by decide +kernel
theorem dX5_begin_29 : decode cX5_begin 29 = .ok (.aload_n 1, 1) := by decide +kernel
theorem dX5_begin_30 : decode cX5_begin 30 = .ok (.getfield 37, 3) := by decide +kernel
theorem dX5_begin_33 : decode cX5_begin 33 = .ok (.if_icmp .ge 21, 3) := by decide +kernel
theorem dX5_begin_36 : decode cX5_begin 36 = .ok (.aload_n 0, 1) := by decide +kernel
theorem dX5_begin_37 : decode cX5_begin 37 = .ok (.getfield 15, 3) := by decide +kernel
theorem dX5_begin_40 : decode cX5_begin 40 = .ok (.aload_n 1, 1) := by decide +kernel
theorem dX5_begin_41 : decode cX5_begin 41 = .ok (.getfield 42, 3) := by decide +kernel
theorem dX5_begin_44 : decode cX5_begin 44 = .ok (.iload_n 2, 1) := by decide +kernel
theorem dX5_begin_45 : decode cX5_begin 45 = .ok (.iaload, 1) := by decide +kernel
theorem dX5_begin_46 : decode cX5_begin 46 = .ok (.iload_n 2, 1) := by decide +kernel
theorem dX5_begin_47 : decode cX5_begin 47 = .ok (.iastore, 1) := by decide +kernel
theorem dX5_begin_48 : decode cX5_begin 48 = .ok (.iinc 2 1, 3) := by decide +kernel
theorem dX5_begin_51 : decode cX5_begin 51 = .ok (.goto (-23), 3) := by decide +kernel
theorem dX5_begin_54 : decode cX5_begin 54 = .ok (.return_, 1) := by decide +kernel
theorem dX5_meet_0 : decode cX5_meet 0 = .ok (.aload_n 0, 1) := by decide +kernel
theorem dX5_meet_1 : decode cX5_meet 1 = .ok (.getfield 21, 3) := by decide +kernel
theorem dX5_meet_4 : decode cX5_meet 4 = .ok (.ifCond .ne 8, 3) := by decide +kernel
theorem dX5_meet_7 : decode cX5_meet 7 = .ok (.aload_n 0, 1) := by decide +kernel
theorem dX5_meet_8 : decode cX5_meet 8 = .ok (.iload_n 2, 1) := by decide +kernel
theorem dX5_meet_9 : decode cX5_meet 9 = .ok (.putfield 25, 3) := by decide +kernel
theorem dX5_meet_12 : decode cX5_meet 12 = .ok (.aload_n 0, 1) := by decide +kernel
theorem dX5_meet_13 : decode cX5_meet 13 = .ok (.invokevirtual 45, 3) := by decide +kernel
theorem dX5_meet_16 : decode cX5_meet 16 = .ok (.aload_n 0, 1) := by decide +kernel
theorem dX5_meet_17 : decode cX5_meet 17 = .ok (.getfield 49, 3) := by decide +kernel
theorem dX5_meet_20 : decode cX5_meet 20 = .ok (.getfield 37, 3) := by decide +kernel
theorem dX5_meet_23 : decode cX5_meet 23 = .ok (.aload_n 0, 1) := by decide +kernel
theorem dX5_meet_24 : decode cX5_meet 24 = .ok (.invokevirtual 53, 3) := by decide +kernel
theorem dX5_meet_27 : decode cX5_meet 27 = .ok (.isub, 1) := by decide +kernel
theorem dX5_meet_28 : decode cX5_meet 28 = .ok (.istore_n 3, 1) := by decide +kernel
theorem dX5_meet_29 : decode cX5_meet 29 = .ok (.aload_n 0, 1) := by decide +kernel
theorem dX5_meet_30 : decode cX5_meet 30 = .ok (.getfield 21, 3) := by decide +kernel
theorem dX5_meet_33 : decode cX5_meet 33 = .ok (.ifCond .eq 11, 3) := by decide +kernel
theorem dX5_meet_36 : decode cX5_meet 36 = .ok (.iload_n 3, 1) := by decide +kernel
theorem dX5_meet_37 : decode cX5_meet 37 = .ok (.aload_n 0, 1) := by decide +kernel
theorem dX5_meet_38 : decode cX5_meet 38 = .ok (.getfield 28, 3) := by decide +kernel
theorem dX5_meet_41 : decode cX5_meet 41 = .ok (.if_icmp .ge 8, 3) := by decide +kernel
theorem dX5_meet_44 : decode cX5_meet 44 = .ok (.aload_n 0, 1) := by decide +kernel
theorem dX5_meet_45 : decode cX5_meet 45 = .ok (.iload_n 3, 1) := by decide +kernel
theorem dX5_meet_46 : decode cX5_meet 46 = .ok (.putfield 28, 3) := by decide +kernel
theorem dX5_meet_49 : decode cX5_meet 49 = .ok (.aload_n 0, 1) := by decide +kernel
theorem dX5_meet_50 : decode cX5_meet 50 = .ok (.dup, 1) := by decide +kernel
theorem dX5_meet_51 : decode cX5_meet 51 = .ok (.getfield 21, 3) := by decide +kernel
theorem dX5_meet_54 : decode cX5_meet 54 = .ok (.iconst 1, 1) := by decide +kernel
theorem dX5_meet_55 : decode cX5_meet 55 = .ok (.iadd, 1) := by decide +kernel
theorem dX5_meet_56 : decode cX5_meet 56 = .ok (.putfield 21, 3) := by decide +kernel
theorem dX5_meet_59 : decode cX5_meet 59 = .ok (.return_, 1) := by decide +kernel
theorem dX5_noteFollowers_0 : decode cX5_noteFollowers 0 = .ok (.iconst 0, 1) := by decide +kernel
theorem dX5_noteFollowers_1 : decode cX5_noteFollowers 1 = .ok (.istore_n 1, 1) := by decide +kernel
theorem dX5_noteFollowers_2 : decode cX5_noteFollowers 2 = .ok (.iload_n 1, 1) := by decide +kernel
theorem dX5_noteFollowers_3 : decode cX5_noteFollowers 3 = .ok (.aload_n 0, 1) := by decide +kernel
theorem dX5_noteFollowers_4 : decode cX5_noteFollowers 4 = .ok (.getfield 49, 3) := by decide +kernel
theorem dX5_noteFollowers_7 : decode cX5_noteFollowers 7 = .ok (.getfield 37, 3) := by decide +kernel
theorem dX5_noteFollowers_10 : decode cX5_noteFollowers 10 = .ok (.if_icmp .ge 84, 3) := by decide +kernel
theorem dX5_noteFollowers_13 : decode cX5_noteFollowers 13 = .ok (.aload_n 0, 1) := by decide +kernel
theorem dX5_noteFollowers_14 : decode cX5_noteFollowers 14 = .ok (.getfield 49, 3) := by decide +kernel
theorem dX5_noteFollowers_17 : decode cX5_noteFollowers 17 = .ok (.getfield 42, 3) := by decide +kernel
theorem dX5_noteFollowers_20 : decode cX5_noteFollowers 20 = .ok (.iload_n 1, 1) := by decide +kernel
theorem dX5_noteFollowers_21 : decode cX5_noteFollowers 21 = .ok (.iaload, 1) := by decide +kernel
theorem dX5_noteFollowers_22 : decode cX5_noteFollowers 22 = .ok (.istore_n 2, 1) := by decide +kernel
theorem dX5_noteFollowers_23 : decode cX5_noteFollowers 23 = .ok (.iload_n 1, 1) := by decide +kernel
theorem dX5_noteFollowers_24 : decode cX5_noteFollowers 24 = .ok (.iconst 1, 1) := by decide +kernel
theorem dX5_noteFollowers_25 : decode cX5_noteFollowers 25 = .ok (.iadd, 1) := by decide +kernel
theorem dX5_noteFollowers_26 : decode cX5_noteFollowers 26 = .ok (.aload_n 0, 1) := by decide +kernel
theorem dX5_noteFollowers_27 : decode cX5_noteFollowers 27 = .ok (.getfield 49, 3) := by decide +kernel
theorem dX5_noteFollowers_30 : decode cX5_noteFollowers 30 = .ok (.getfield 37, 3) := by decide +kernel
theorem dX5_noteFollowers_33 : decode cX5_noteFollowers 33 = .ok (.if_icmp .ge 17, 3) := by decide +kernel
theorem dX5_noteFollowers_36 : decode cX5_noteFollowers 36 = .ok (.aload_n 0, 1) := by decide +kernel
theorem dX5_noteFollowers_37 : decode cX5_noteFollowers 37 = .ok (.getfield 49, 3) := by decide +kernel
theorem dX5_noteFollowers_40 : decode cX5_noteFollowers 40 = .ok (.getfield 42, 3) := by decide +kernel
theorem dX5_noteFollowers_43 : decode cX5_noteFollowers 43 = .ok (.iload_n 1, 1) := by decide +kernel
theorem dX5_noteFollowers_44 : decode cX5_noteFollowers 44 = .ok (.iconst 1, 1) := by decide +kernel
theorem dX5_noteFollowers_45 : decode cX5_noteFollowers 45 = .ok (.iadd, 1) := by decide +kernel
theorem dX5_noteFollowers_46 : decode cX5_noteFollowers 46 = .ok (.iaload, 1) := by decide +kernel
theorem dX5_noteFollowers_47 : decode cX5_noteFollowers 47 = .ok (.goto 5, 3) := by decide +kernel
theorem dX5_noteFollowers_50 : decode cX5_noteFollowers 50 = .ok (.bipush (-9), 2) := by decide +kernel
theorem dX5_noteFollowers_52 : decode cX5_noteFollowers 52 = .ok (.istore_n 3, 1) := by decide +kernel
theorem dX5_noteFollowers_53 : decode cX5_noteFollowers 53 = .ok (.aload_n 0, 1) := by decide +kernel
theorem dX5_noteFollowers_54 : decode cX5_noteFollowers 54 = .ok (.getfield 21, 3) := by decide +kernel
theorem dX5_noteFollowers_57 : decode cX5_noteFollowers 57 = .ok (.ifCond .ne 13, 3) := by decide +kernel
theorem dX5_noteFollowers_60 : decode cX5_noteFollowers 60 = .ok (.aload_n 0, 1) := by decide +kernel
theorem dX5_noteFollowers_61 : decode cX5_noteFollowers 61 = .ok (.getfield 9, 3) := by decide +kernel
theorem dX5_noteFollowers_64 : decode cX5_noteFollowers 64 = .ok (.iload_n 2, 1) := by decide +kernel
theorem dX5_noteFollowers_65 : decode cX5_noteFollowers 65 = .ok (.iload_n 3, 1) := by decide +kernel
theorem dX5_noteFollowers_66 : decode cX5_noteFollowers 66 = .ok (.iastore, 1) := by decide +kernel
theorem dX5_noteFollowers_67 : decode cX5_noteFollowers 67 = .ok (.goto 21, 3) := by decide +kernel
theorem dX5_noteFollowers_70 : decode cX5_noteFollowers 70 = .ok (.aload_n 0, 1) := by decide +kernel
theorem dX5_noteFollowers_71 : decode cX5_noteFollowers 71 = .ok (.getfield 9, 3) := by decide +kernel
theorem dX5_noteFollowers_74 : decode cX5_noteFollowers 74 = .ok (.iload_n 2, 1) := by decide +kernel
theorem dX5_noteFollowers_75 : decode cX5_noteFollowers 75 = .ok (.iaload, 1) := by decide +kernel
theorem dX5_noteFollowers_76 : decode cX5_noteFollowers 76 = .ok (.iload_n 3, 1) := by decide +kernel
theorem dX5_noteFollowers_77 : decode cX5_noteFollowers 77 = .ok (.if_icmp .eq 11, 3) := by decide +kernel
theorem dX5_noteFollowers_80 : decode cX5_noteFollowers 80 = .ok (.aload_n 0, 1) := by decide +kernel
theorem dX5_noteFollowers_81 : decode cX5_noteFollowers 81 = .ok (.getfield 9, 3) := by decide +kernel
theorem dX5_noteFollowers_84 : decode cX5_noteFollowers 84 = .ok (.iload_n 2, 1) := by decide +kernel
theorem dX5_noteFollowers_85 : decode cX5_noteFollowers 85 = .ok (.bipush (-9), 2) := by decide +kernel
theorem dX5_noteFollowers_87 : decode cX5_noteFollowers 87 = .ok (.iastore, 1) := by decide +kernel
theorem dX5_noteFollowers_88 : decode cX5_noteFollowers 88 = .ok (.iinc 1 1, 3) := by decide +kernel
theorem dX5_noteFollowers_91 : decode cX5_noteFollowers 91 = .ok (.goto (-89), 3) := by decide +kernel
theorem dX5_noteFollowers_94 : decode cX5_noteFollowers 94 = .ok (.return_, 1) := by decide +kernel
theorem dX5_mostThatStay_0 : decode cX5_mostThatStay 0 = .ok (.iconst 0, 1) := by decide +kernel
theorem dX5_mostThatStay_1 : decode cX5_mostThatStay 1 = .ok (.istore_n 1, 1) := by decide +kernel
theorem dX5_mostThatStay_2 : decode cX5_mostThatStay 2 = .ok (.iconst 0, 1) := by decide +kernel
theorem dX5_mostThatStay_3 : decode cX5_mostThatStay 3 = .ok (.istore_n 2, 1) := by decide +kernel
theorem dX5_mostThatStay_4 : decode cX5_mostThatStay 4 = .ok (.iload_n 2, 1) := by decide +kernel
theorem dX5_mostThatStay_5 : decode cX5_mostThatStay 5 = .ok (.aload_n 0, 1) := by decide +kernel
theorem dX5_mostThatStay_6 : decode cX5_mostThatStay 6 = .ok (.getfield 49, 3) := by decide +kernel
theorem dX5_mostThatStay_9 : decode cX5_mostThatStay 9 = .ok (.getfield 37, 3) := by decide +kernel
theorem dX5_mostThatStay_12 : decode cX5_mostThatStay 12 = .ok (.if_icmp .ge 94, 3) := by decide +kernel
theorem dX5_mostThatStay_15 : decode cX5_mostThatStay 15 = .ok (.aload_n 0, 1) := by decide +kernel
theorem dX5_mostThatStay_16 : decode cX5_mostThatStay 16 = .ok (.getfield 18, 3) := by decide +kernel
theorem dX5_mostThatStay_19 : decode cX5_mostThatStay 19 = .ok (.iload_n 2, 1) := by decide +kernel
theorem dX5_mostThatStay_20 : decode cX5_mostThatStay 20 = .ok (.iconst 1, 1) := by decide +kernel
theorem dX5_mostThatStay_21 : decode cX5_mostThatStay 21 = .ok (.iastore, 1) := by decide +kernel
theorem dX5_mostThatStay_22 : decode cX5_mostThatStay 22 = .ok (.iconst 0, 1) := by decide +kernel
theorem dX5_mostThatStay_23 : decode cX5_mostThatStay 23 = .ok (.istore_n 3, 1) := by decide +kernel
theorem dX5_mostThatStay_24 : decode cX5_mostThatStay 24 = .ok (.iload_n 3, 1) := by decide +kernel
theorem dX5_mostThatStay_25 : decode cX5_mostThatStay 25 = .ok (.iload_n 2, 1) := by decide +kernel
theorem dX5_mostThatStay_26 : decode cX5_mostThatStay 26 = .ok (.if_icmp .ge 63, 3) := by decide +kernel
theorem dX5_mostThatStay_29 : decode cX5_mostThatStay 29 = .ok (.aload_n 0, 1) := by decide +kernel
theorem dX5_mostThatStay_30 : decode cX5_mostThatStay 30 = .ok (.getfield 15, 3) := by decide +kernel
theorem dX5_mostThatStay_33 : decode cX5_mostThatStay 33 = .ok (.aload_n 0, 1) := by decide +kernel
theorem dX5_mostThatStay_34 : decode cX5_mostThatStay 34 = .ok (.getfield 49, 3) := by decide +kernel
theorem dX5_mostThatStay_37 : decode cX5_mostThatStay 37 = .ok (.getfield 42, 3) := by decide +kernel
theorem dX5_mostThatStay_40 : decode cX5_mostThatStay 40 = .ok (.iload_n 3, 1) := by decide +kernel
theorem dX5_mostThatStay_41 : decode cX5_mostThatStay 41 = .ok (.iaload, 1) := by decide +kernel
theorem dX5_mostThatStay_42 : decode cX5_mostThatStay 42 = .ok (.iaload, 1) := by decide +kernel
theorem dX5_mostThatStay_43 : decode cX5_mostThatStay 43 = .ok (.aload_n 0, 1) := by decide +kernel
theorem dX5_mostThatStay_44 : decode cX5_mostThatStay 44 = .ok (.getfield 15, 3) := by decide +kernel
theorem dX5_mostThatStay_47 : decode cX5_mostThatStay 47 = .ok (.aload_n 0, 1) := by decide +kernel
theorem dX5_mostThatStay_48 : decode cX5_mostThatStay 48 = .ok (.getfield 49, 3) := by decide +kernel
theorem dX5_mostThatStay_51 : decode cX5_mostThatStay 51 = .ok (.getfield 42, 3) := by decide +kernel
theorem dX5_mostThatStay_54 : decode cX5_mostThatStay 54 = .ok (.iload_n 2, 1) := by decide +kernel
theorem dX5_mostThatStay_55 : decode cX5_mostThatStay 55 = .ok (.iaload, 1) := by decide +kernel
theorem dX5_mostThatStay_56 : decode cX5_mostThatStay 56 = .ok (.iaload, 1) := by decide +kernel
theorem dX5_mostThatStay_57 : decode cX5_mostThatStay 57 = .ok (.if_icmp .ge 26, 3) := by decide +kernel
theorem dX5_mostThatStay_60 : decode cX5_mostThatStay 60 = .ok (.aload_n 0, 1) := by decide +kernel
theorem dX5_mostThatStay_61 : decode cX5_mostThatStay 61 = .ok (.getfield 18, 3) := by decide +kernel
theorem dX5_mostThatStay_64 : decode cX5_mostThatStay 64 = .ok (.iload_n 2, 1) := by decide +kernel
theorem dX5_mostThatStay_65 : decode cX5_mostThatStay 65 = .ok (.aload_n 0, 1) := by decide +kernel
theorem dX5_mostThatStay_66 : decode cX5_mostThatStay 66 = .ok (.getfield 18, 3) := by decide +kernel
theorem dX5_mostThatStay_69 : decode cX5_mostThatStay 69 = .ok (.iload_n 2, 1) := by decide +kernel
theorem dX5_mostThatStay_70 : decode cX5_mostThatStay 70 = .ok (.iaload, 1) := by decide +kernel
theorem dX5_mostThatStay_71 : decode cX5_mostThatStay 71 = .ok (.aload_n 0, 1) := by decide +kernel
theorem dX5_mostThatStay_72 : decode cX5_mostThatStay 72 = .ok (.getfield 18, 3) := by decide +kernel
theorem dX5_mostThatStay_75 : decode cX5_mostThatStay 75 = .ok (.iload_n 3, 1) := by decide +kernel
theorem dX5_mostThatStay_76 : decode cX5_mostThatStay 76 = .ok (.iaload, 1) := by decide +kernel
theorem dX5_mostThatStay_77 : decode cX5_mostThatStay 77 = .ok (.iconst 1, 1) := by decide +kernel
theorem dX5_mostThatStay_78 : decode cX5_mostThatStay 78 = .ok (.iadd, 1) := by decide +kernel
theorem dX5_mostThatStay_79 : decode cX5_mostThatStay 79 = .ok (.invokestatic 57, 3) := by decide +kernel
theorem dX5_mostThatStay_82 : decode cX5_mostThatStay 82 = .ok (.iastore, 1) := by decide +kernel
theorem dX5_mostThatStay_83 : decode cX5_mostThatStay 83 = .ok (.iinc 3 1, 3) := by decide +kernel
theorem dX5_mostThatStay_86 : decode cX5_mostThatStay 86 = .ok (.goto (-62), 3) := by decide +kernel
theorem dX5_mostThatStay_89 : decode cX5_mostThatStay 89 = .ok (.iload_n 1, 1) := by decide +kernel
theorem dX5_mostThatStay_90 : decode cX5_mostThatStay 90 = .ok (.aload_n 0, 1) := by decide +kernel
theorem dX5_mostThatStay_91 : decode cX5_mostThatStay 91 = .ok (.getfield 18, 3) := by decide +kernel
theorem dX5_mostThatStay_94 : decode cX5_mostThatStay 94 = .ok (.iload_n 2, 1) := by decide +kernel
theorem dX5_mostThatStay_95 : decode cX5_mostThatStay 95 = .ok (.iaload, 1) := by decide +kernel
theorem dX5_mostThatStay_96 : decode cX5_mostThatStay 96 = .ok (.invokestatic 57, 3) := by decide +kernel
theorem dX5_mostThatStay_99 : decode cX5_mostThatStay 99 = .ok (.istore_n 1, 1) := by decide +kernel
theorem dX5_mostThatStay_100 : decode cX5_mostThatStay 100 = .ok (.iinc 2 1, 3) := by decide +kernel
theorem dX5_mostThatStay_103 : decode cX5_mostThatStay 103 = .ok (.goto (-99), 3) := by decide +kernel
theorem dX5_mostThatStay_106 : decode cX5_mostThatStay 106 = .ok (.iload_n 1, 1) := by decide +kernel
theorem dX5_mostThatStay_107 : decode cX5_mostThatStay 107 = .ok (.ireturn, 1) := by decide +kernel
theorem dX6_init_0 : decode cX6_init 0 = .ok (.aload_n 0, 1) := by decide +kernel
theorem dX6_init_1 : decode cX6_init 1 = .ok (.invokespecial 3, 3) := by decide +kernel
theorem dX6_init_4 : decode cX6_init 4 = .ok (.aload_n 0, 1) := by decide +kernel
theorem dX6_init_5 : decode cX6_init 5 = .ok (.bipush 6, 2) := by decide +kernel
theorem dX6_init_7 : decode cX6_init 7 = .ok (.newarray .int, 2) := by decide +kernel
theorem dX6_init_9 : decode cX6_init 9 = .ok (.putfield 9, 3) := by decide +kernel
theorem dX6_init_12 : decode cX6_init 12 = .ok (.return_, 1) := by decide +kernel
theorem dX6_copy_0 : decode cX6_copy 0 = .ok (.aload_n 1, 1) := by decide +kernel
theorem dX6_copy_1 : decode cX6_copy 1 = .ok (.getfield 9, 3) := by decide +kernel
theorem dX6_copy_4 : decode cX6_copy 4 = .ok (.iconst 0, 1) := by decide +kernel
theorem dX6_copy_5 : decode cX6_copy 5 = .ok (.aload_n 0, 1) := by decide +kernel
theorem dX6_copy_6 : decode cX6_copy 6 = .ok (.getfield 9, 3) := by decide +kernel
theorem dX6_copy_9 : decode cX6_copy 9 = .ok (.iconst 0, 1) := by decide +kernel
theorem dX6_copy_10 : decode cX6_copy 10 = .ok (.bipush 6, 2) := by decide +kernel
theorem dX6_copy_12 : decode cX6_copy 12 = .ok (.invokestatic 15, 3) := by decide +kernel
theorem dX6_copy_15 : decode cX6_copy 15 = .ok (.aload_n 0, 1) := by decide +kernel
theorem dX6_copy_16 : decode cX6_copy 16 = .ok (.aload_n 1, 1) := by decide +kernel
theorem dX6_copy_17 : decode cX6_copy 17 = .ok (.getfield 21, 3) := by decide +kernel
theorem dX6_copy_20 : decode cX6_copy 20 = .ok (.putfield 21, 3) := by decide +kernel
theorem dX6_copy_23 : decode cX6_copy 23 = .ok (.aload_n 0, 1) := by decide +kernel
theorem dX6_copy_24 : decode cX6_copy 24 = .ok (.aload_n 1, 1) := by decide +kernel
theorem dX6_copy_25 : decode cX6_copy 25 = .ok (.getfield 25, 3) := by decide +kernel
theorem dX6_copy_28 : decode cX6_copy 28 = .ok (.putfield 25, 3) := by decide +kernel
theorem dX6_copy_31 : decode cX6_copy 31 = .ok (.return_, 1) := by decide +kernel
theorem dX6_wayOf_0 : decode cX6_wayOf 0 = .ok (.aload_n 0, 1) := by decide +kernel
theorem dX6_wayOf_1 : decode cX6_wayOf 1 = .ok (.getfield 25, 3) := by decide +kernel
theorem dX6_wayOf_4 : decode cX6_wayOf 4 = .ok (.iload_n 1, 1) := by decide +kernel
theorem dX6_wayOf_5 : decode cX6_wayOf 5 = .ok (.ishr, 1) := by decide +kernel
theorem dX6_wayOf_6 : decode cX6_wayOf 6 = .ok (.iconst 1, 1) := by decide +kernel
theorem dX6_wayOf_7 : decode cX6_wayOf 7 = .ok (.iand, 1) := by decide +kernel
theorem dX6_wayOf_8 : decode cX6_wayOf 8 = .ok (.ireturn, 1) := by decide +kernel
theorem dX6_placeOf_0 : decode cX6_placeOf 0 = .ok (.iconst 0, 1) := by decide +kernel
theorem dX6_placeOf_1 : decode cX6_placeOf 1 = .ok (.istore_n 2, 1) := by decide +kernel
theorem dX6_placeOf_2 : decode cX6_placeOf 2 = .ok (.iload_n 2, 1) := by decide +kernel
theorem dX6_placeOf_3 : decode cX6_placeOf 3 = .ok (.aload_n 0, 1) := by decide +kernel
theorem dX6_placeOf_4 : decode cX6_placeOf 4 = .ok (.getfield 21, 3) := by decide +kernel
theorem dX6_placeOf_7 : decode cX6_placeOf 7 = .ok (.if_icmp .ge 21, 3) := by decide +kernel
theorem dX6_placeOf_10 : decode cX6_placeOf 10 = .ok (.aload_n 0, 1) := by decide +kernel
theorem dX6_placeOf_11 : decode cX6_placeOf 11 = .ok (.getfield 9, 3) := by decide +kernel
theorem dX6_placeOf_14 : decode cX6_placeOf 14 = .ok (.iload_n 2, 1) := by decide +kernel
theorem dX6_placeOf_15 : decode cX6_placeOf 15 = .ok (.iaload, 1) := by decide +kernel
theorem dX6_placeOf_16 : decode cX6_placeOf 16 = .ok (.iload_n 1, 1) := by decide +kernel
theorem dX6_placeOf_17 : decode cX6_placeOf 17 = .ok (.if_icmp .ne 5, 3) := by decide +kernel
theorem dX6_placeOf_20 : decode cX6_placeOf 20 = .ok (.iload_n 2, 1) := by decide +kernel
theorem dX6_placeOf_21 : decode cX6_placeOf 21 = .ok (.ireturn, 1) := by decide +kernel
theorem dX6_placeOf_22 : decode cX6_placeOf 22 = .ok (.iinc 2 1, 3) := by decide +kernel
theorem dX6_placeOf_25 : decode cX6_placeOf 25 = .ok (.goto (-23), 3) := by decide +kernel
theorem dX6_placeOf_28 : decode cX6_placeOf 28 = .ok (.bipush (-9), 2) := by decide +kernel
theorem dX6_placeOf_30 : decode cX6_placeOf 30 = .ok (.ireturn, 1) := by decide +kernel
theorem dX6_number_0 : decode cX6_number 0 = .ok (.iconst 0, 1) := by decide +kernel
theorem dX6_number_1 : decode cX6_number 1 = .ok (.istore_n 1, 1) := by decide +kernel
theorem dX6_number_2 : decode cX6_number 2 = .ok (.iconst 0, 1) := by decide +kernel
theorem dX6_number_3 : decode cX6_number 3 = .ok (.istore_n 2, 1) := by decide +kernel
theorem dX6_number_4 : decode cX6_number 4 = .ok (.iload_n 2, 1) := by decide +kernel
theorem dX6_number_5 : decode cX6_number 5 = .ok (.aload_n 0, 1) := by decide +kernel
theorem dX6_number_6 : decode cX6_number 6 = .ok (.getfield 21, 3) := by decide +kernel
theorem dX6_number_9 : decode cX6_number 9 = .ok (.if_icmp .ge 23, 3) := by decide +kernel
theorem dX6_number_12 : decode cX6_number 12 = .ok (.iload_n 1, 1) := by decide +kernel
theorem dX6_number_13 : decode cX6_number 13 = .ok (.bipush 10, 2) := by decide +kernel
theorem dX6_number_15 : decode cX6_number 15 = .ok (.imul, 1) := by decide +kernel
theorem dX6_number_16 : decode cX6_number 16 = .ok (.aload_n 0, 1) := by decide +kernel
theorem dX6_number_17 : decode cX6_number 17 = .ok (.getfield 9, 3) := by decide +kernel
theorem dX6_number_20 : decode cX6_number 20 = .ok (.iload_n 2, 1) := by decide +kernel
theorem dX6_number_21 : decode cX6_number 21 = .ok (.iaload, 1) := by decide +kernel
theorem dX6_number_22 : decode cX6_number 22 = .ok (.iadd, 1) := by decide +kernel
theorem dX6_number_23 : decode cX6_number 23 = .ok (.iconst 1, 1) := by decide +kernel
theorem dX6_number_24 : decode cX6_number 24 = .ok (.iadd, 1) := by decide +kernel
theorem dX6_number_25 : decode cX6_number 25 = .ok (.istore_n 1, 1) := by decide +kernel
theorem dX6_number_26 : decode cX6_number 26 = .ok (.iinc 2 1, 3) := by decide +kernel
theorem dX6_number_29 : decode cX6_number 29 = .ok (.goto (-25), 3) := by decide +kernel
theorem dX6_number_32 : decode cX6_number 32 = .ok (.iload_n 1, 1) := by decide +kernel
theorem dX6_number_33 : decode cX6_number 33 = .ok (.ireturn, 1) := by decide +kernel
theorem dX6_set_0 : decode cX6_set 0 = .ok (.iconst 0, 1) := by decide +kernel
theorem dX6_set_1 : decode cX6_set 1 = .ok (.istore_n 1, 1) := by decide +kernel
theorem dX6_set_2 : decode cX6_set 2 = .ok (.iconst 0, 1) := by decide +kernel
theorem dX6_set_3 : decode cX6_set 3 = .ok (.istore_n 2, 1) := by decide +kernel
theorem dX6_set_4 : decode cX6_set 4 = .ok (.iload_n 2, 1) := by decide +kernel
theorem dX6_set_5 : decode cX6_set 5 = .ok (.aload_n 0, 1) := by decide +kernel
theorem dX6_set_6 : decode cX6_set 6 = .ok (.getfield 21, 3) := by decide +kernel
theorem dX6_set_9 : decode cX6_set 9 = .ok (.if_icmp .ge 20, 3) := by decide +kernel
theorem dX6_set_12 : decode cX6_set 12 = .ok (.iload_n 1, 1) := by decide +kernel
theorem dX6_set_13 : decode cX6_set 13 = .ok (.iconst 1, 1) := by decide +kernel
theorem dX6_set_14 : decode cX6_set 14 = .ok (.aload_n 0, 1) := by decide +kernel
theorem dX6_set_15 : decode cX6_set 15 = .ok (.getfield 9, 3) := by decide +kernel
theorem dX6_set_18 : decode cX6_set 18 = .ok (.iload_n 2, 1) := by decide +kernel
theorem dX6_set_19 : decode cX6_set 19 = .ok (.iaload, 1) := by decide +kernel
theorem dX6_set_20 : decode cX6_set 20 = .ok (.ishl, 1) := by decide +kernel
theorem dX6_set_21 : decode cX6_set 21 = .ok (.ior, 1) := by decide +kernel
theorem dX6_set_22 : decode cX6_set 22 = .ok (.istore_n 1, 1) := by decide +kernel
theorem dX6_set_23 : decode cX6_set 23 = .ok (.iinc 2 1, 3) := by decide +kernel
theorem dX6_set_26 : decode cX6_set 26 = .ok (.goto (-22), 3) := by decide +kernel
theorem dX6_set_29 : decode cX6_set 29 = .ok (.iload_n 1, 1) := by decide +kernel
theorem dX6_set_30 : decode cX6_set 30 = .ok (.ireturn, 1) := by decide +kernel
theorem dX6_put_0 : decode cX6_put 0 = .ok (.aload_n 0, 1) := by decide +kernel
theorem dX6_put_1 : decode cX6_put 1 = .ok (.getfield 9, 3) := by decide +kernel
theorem dX6_put_4 : decode cX6_put 4 = .ok (.iload_n 1, 1) := by decide +kernel
theorem dX6_put_5 : decode cX6_put 5 = .ok (.iload_n 2, 1) := by decide +kernel
theorem dX6_put_6 : decode cX6_put 6 = .ok (.iastore, 1) := by decide +kernel
theorem dX6_put_7 : decode cX6_put 7 = .ok (.aload_n 0, 1) := by decide +kernel
theorem dX6_put_8 : decode cX6_put 8 = .ok (.aload_n 0, 1) := by decide +kernel
theorem dX6_put_9 : decode cX6_put 9 = .ok (.getfield 25, 3) := by decide +kernel
theorem dX6_put_12 : decode cX6_put 12 = .ok (.iconst 1, 1) := by decide +kernel
theorem dX6_put_13 : decode cX6_put 13 = .ok (.iload_n 2, 1) := by decide +kernel
theorem dX6_put_14 : decode cX6_put 14 = .ok (.ishl, 1) := by decide +kernel
theorem dX6_put_15 : decode cX6_put 15 = .ok (.iconst (-1), 1) := by decide +kernel
theorem dX6_put_16 : decode cX6_put 16 = .ok (.ixor, 1) := by decide +kernel
theorem dX6_put_17 : decode cX6_put 17 = .ok (.iand, 1) := by decide +kernel
theorem dX6_put_18 : decode cX6_put 18 = .ok (.iload_n 3, 1) := by decide +kernel
theorem dX6_put_19 : decode cX6_put 19 = .ok (.iload_n 2, 1) := by decide +kernel
theorem dX6_put_20 : decode cX6_put 20 = .ok (.ishl, 1) := by decide +kernel
theorem dX6_put_21 : decode cX6_put 21 = .ok (.ior, 1) := by decide +kernel
theorem dX6_put_22 : decode cX6_put 22 = .ok (.putfield 25, 3) := by decide +kernel
theorem dX6_put_25 : decode cX6_put 25 = .ok (.return_, 1) := by decide +kernel
theorem dX6_exchange_0 : decode cX6_exchange 0 = .ok (.aload_n 0, 1) := by decide +kernel
theorem dX6_exchange_1 : decode cX6_exchange 1 = .ok (.getfield 9, 3) := by decide +kernel
theorem dX6_exchange_4 : decode cX6_exchange 4 = .ok (.iload_n 1, 1) := by decide +kernel
theorem dX6_exchange_5 : decode cX6_exchange 5 = .ok (.iaload, 1) := by decide +kernel
theorem dX6_exchange_6 : decode cX6_exchange 6 = .ok (.istore_n 3, 1) := by decide +kernel
theorem dX6_exchange_7 : decode cX6_exchange 7 = .ok (.aload_n 0, 1) := by decide +kernel
theorem dX6_exchange_8 : decode cX6_exchange 8 = .ok (.getfield 9, 3) := by decide +kernel
theorem dX6_exchange_11 : decode cX6_exchange 11 = .ok (.iload_n 1, 1) := by decide +kernel
theorem dX6_exchange_12 : decode cX6_exchange 12 = .ok (.aload_n 0, 1) := by decide +kernel
theorem dX6_exchange_13 : decode cX6_exchange 13 = .ok (.getfield 9, 3) := by decide +kernel
theorem dX6_exchange_16 : decode cX6_exchange 16 = .ok (.iload_n 2, 1) := by decide +kernel
theorem dX6_exchange_17 : decode cX6_exchange 17 = .ok (.iaload, 1) := by decide +kernel
theorem dX6_exchange_18 : decode cX6_exchange 18 = .ok (.iastore, 1) := by decide +kernel
theorem dX6_exchange_19 : decode cX6_exchange 19 = .ok (.aload_n 0, 1) := by decide +kernel
theorem dX6_exchange_20 : decode cX6_exchange 20 = .ok (.getfield 9, 3) := by decide +kernel
theorem dX6_exchange_23 : decode cX6_exchange 23 = .ok (.iload_n 2, 1) := by decide +kernel
theorem dX6_exchange_24 : decode cX6_exchange 24 = .ok (.iload_n 3, 1) := by decide +kernel
theorem dX6_exchange_25 : decode cX6_exchange 25 = .ok (.iastore, 1) := by decide +kernel
theorem dX6_exchange_26 : decode cX6_exchange 26 = .ok (.return_, 1) := by decide +kernel
theorem dX6_carry_0 : decode cX6_carry 0 = .ok (.iload_n 1, 1) := by decide +kernel
theorem dX6_carry_1 : decode cX6_carry 1 = .ok (.iload_n 2, 1) := by decide +kernel
theorem dX6_carry_2 : decode cX6_carry 2 = .ok (.if_icmp .ge 7, 3) := by decide +kernel
theorem dX6_carry_5 : decode cX6_carry 5 = .ok (.iconst 1, 1) := by decide +kernel
theorem dX6_carry_6 : decode cX6_carry 6 = .ok (.goto 4, 3) := by decide +kernel
theorem dX6_carry_9 : decode cX6_carry 9 = .ok (.iconst (-1), 1) := by decide +kernel
theorem dX6_carry_10 : decode cX6_carry 10 = .ok (.istore_n 3, 1) := by decide +kernel
theorem dX6_carry_11 : decode cX6_carry 11 = .ok (.iload_n 2, 1) := by decide +kernel
theorem dX6_carry_12 : decode cX6_carry 12 = .ok (.iload_n 1, 1) := by decide +kernel
theorem dX6_carry_13 : decode cX6_carry 13 = .ok (.isub, 1) := by decide +kernel
theorem dX6_carry_14 : decode cX6_carry 14 = .ok (.invokestatic 28, 3) := by decide +kernel
theorem dX6_carry_17 : decode cX6_carry 17 = .ok (.istore 4, 2) := by decide +kernel
theorem dX6_carry_19 : decode cX6_carry 19 = .ok (.iconst 0, 1) := by decide +kernel
theorem dX6_carry_20 : decode cX6_carry 20 = .ok (.istore 5, 2) := by decide +kernel
theorem dX6_carry_22 : decode cX6_carry 22 = .ok (.iload 5, 2) := by decide +kernel
theorem dX6_carry_24 : decode cX6_carry 24 = .ok (.iload 4, 2) := by decide +kernel
theorem dX6_carry_26 : decode cX6_carry 26 = .ok (.if_icmp .ge 27, 3) := by decide +kernel
theorem dX6_carry_29 : decode cX6_carry 29 = .ok (.aload_n 0, 1) := by decide +kernel
theorem dX6_carry_30 : decode cX6_carry 30 = .ok (.iload_n 1, 1) := by decide +kernel
theorem dX6_carry_31 : decode cX6_carry 31 = .ok (.iload 5, 2) := by decide +kernel
theorem dX6_carry_33 : decode cX6_carry 33 = .ok (.iload_n 3, 1) := by decide +kernel
theorem dX6_carry_34 : decode cX6_carry 34 = .ok (.imul, 1) := by decide +kernel
theorem dX6_carry_35 : decode cX6_carry 35 = .ok (.iadd, 1) := by decide +kernel
theorem dX6_carry_36 : decode cX6_carry 36 = .ok (.iload_n 1, 1) := by decide +kernel
theorem dX6_carry_37 : decode cX6_carry 37 = .ok (.iload 5, 2) := by decide +kernel
theorem dX6_carry_39 : decode cX6_carry 39 = .ok (.iconst 1, 1) := by decide +kernel
theorem dX6_carry_40 : decode cX6_carry 40 = .ok (.iadd, 1) := by decide +kernel
theorem dX6_carry_41 : decode cX6_carry 41 = .ok (.iload_n 3, 1) := by decide +kernel
theorem dX6_carry_42 : decode cX6_carry 42 = .ok (.imul, 1) := by decide +kernel
theorem dX6_carry_43 : decode cX6_carry 43 = .ok (.iadd, 1) := by decide +kernel
theorem dX6_carry_44 : decode cX6_carry 44 = .ok (.invokevirtual 34, 3) := by decide +kernel
theorem dX6_carry_47 : decode cX6_carry 47 = .ok (.iinc 5 1, 3) := by decide +kernel
theorem dX6_carry_50 : decode cX6_carry 50 = .ok (.goto (-28), 3) := by decide +kernel
theorem dX6_carry_53 : decode cX6_carry 53 = .ok (.return_, 1) := by decide +kernel
theorem dX6_append_0 : decode cX6_append 0 = .ok (.aload_n 0, 1) := by decide +kernel
theorem dX6_append_1 : decode cX6_append 1 = .ok (.getfield 21, 3) := by decide +kernel
theorem dX6_append_4 : decode cX6_append 4 = .ok (.bipush 6, 2) := by decide +kernel
theorem dX6_append_6 : decode cX6_append 6 = .ok (.if_icmp .ge 23, 3) := by decide +kernel
theorem dX6_append_9 : decode cX6_append 9 = .ok (.aload_n 0, 1) := by decide +kernel
theorem dX6_append_10 : decode cX6_append 10 = .ok (.getfield 9, 3) := by decide +kernel
theorem dX6_append_13 : decode cX6_append 13 = .ok (.aload_n 0, 1) := by decide +kernel
theorem dX6_append_14 : decode cX6_append 14 = .ok (.getfield 21, 3) := by decide +kernel
theorem dX6_append_17 : decode cX6_append 17 = .ok (.iload_n 1, 1) := by decide +kernel
theorem dX6_append_18 : decode cX6_append 18 = .ok (.iastore, 1) := by decide +kernel
theorem dX6_append_19 : decode cX6_append 19 = .ok (.aload_n 0, 1) := by decide +kernel
theorem dX6_append_20 : decode cX6_append 20 = .ok (.dup, 1) := by decide +kernel
theorem dX6_append_21 : decode cX6_append 21 = .ok (.getfield 21, 3) := by decide +kernel
theorem dX6_append_24 : decode cX6_append 24 = .ok (.iconst 1, 1) := by decide +kernel
theorem dX6_append_25 : decode cX6_append 25 = .ok (.iadd, 1) := by decide +kernel
theorem dX6_append_26 : decode cX6_append 26 = .ok (.putfield 21, 3) := by decide +kernel
theorem dX6_append_29 : decode cX6_append 29 = .ok (.return_, 1) := by decide +kernel
theorem dX6_remove_0 : decode cX6_remove 0 = .ok (.aload_n 0, 1) := by decide +kernel
theorem dX6_remove_1 : decode cX6_remove 1 = .ok (.iload_n 1, 1) := by decide +kernel
theorem dX6_remove_2 : decode cX6_remove 2 = .ok (.invokevirtual 38, 3) := by decide +kernel
theorem dX6_remove_5 : decode cX6_remove 5 = .ok (.istore_n 2, 1) := by decide +kernel
theorem dX6_remove_6 : decode cX6_remove 6 = .ok (.iload_n 2, 1) := by decide +kernel
theorem dX6_remove_7 : decode cX6_remove 7 = .ok (.bipush (-9), 2) := by decide +kernel
theorem dX6_remove_9 : decode cX6_remove 9 = .ok (.if_icmp .ne 4, 3) := by decide +kernel
theorem dX6_remove_12 : decode cX6_remove 12 = .ok (.return_, 1) := by decide +kernel
theorem dX6_remove_13 : decode cX6_remove 13 = .ok (.aload_n 0, 1) := by decide +kernel
theorem dX6_remove_14 : decode cX6_remove 14 = .ok (.iload_n 2, 1) := by decide +kernel
theorem dX6_remove_15 : decode cX6_remove 15 = .ok (.aload_n 0, 1) := by decide +kernel
theorem dX6_remove_16 : decode cX6_remove 16 = .ok (.getfield 21, 3) := by decide +kernel
theorem dX6_remove_19 : decode cX6_remove 19 = .ok (.iconst 1, 1) := by decide +kernel
theorem dX6_remove_20 : decode cX6_remove 20 = .ok (.isub, 1) := by decide +kernel
theorem dX6_remove_21 : decode cX6_remove 21 = .ok (.invokevirtual 41, 3) := by decide +kernel
theorem dX6_remove_24 : decode cX6_remove 24 = .ok (.aload_n 0, 1) := by decide +kernel
theorem dX6_remove_25 : decode cX6_remove 25 = .ok (.dup, 1) := by decide +kernel
theorem dX6_remove_26 : decode cX6_remove 26 = .ok (.getfield 21, 3) := by decide +kernel
theorem dX6_remove_29 : decode cX6_remove 29 = .ok (.iconst 1, 1) := by decide +kernel
theorem dX6_remove_30 : decode cX6_remove 30 = .ok (.isub, 1) := by decide +kernel
theorem dX6_remove_31 : decode cX6_remove 31 = .ok (.putfield 21, 3) := by decide +kernel
theorem dX6_remove_34 : decode cX6_remove 34 = .ok (.return_, 1) := by decide +kernel
theorem dX7_init_0 : decode cX7_init 0 = .ok (.aload_n 0, 1) := by decide +kernel
theorem dX7_init_1 : decode cX7_init 1 = .ok (.invokespecial 3, 3) := by decide +kernel
theorem dX7_init_4 : decode cX7_init 4 = .ok (.aload_n 0, 1) := by decide +kernel
theorem dX7_init_5 : decode cX7_init 5 = .ok (.iconst 2, 1) := by decide +kernel
theorem dX7_init_6 : decode cX7_init 6 = .ok (.putfield 9, 3) := by decide +kernel
theorem dX7_init_9 : decode cX7_init 9 = .ok (.aload_n 0, 1) := by decide +kernel
theorem dX7_init_10 : decode cX7_init 10 = .ok (.bipush 48, 2) := by decide +kernel
theorem dX7_init_12 : decode cX7_init 12 = .ok (.newarray .int, 2) := by decide +kernel
theorem dX7_init_14 : decode cX7_init 14 = .ok (.putfield 15, 3) := by decide +kernel
theorem dX7_init_17 : decode cX7_init 17 = .ok (.aload_n 0, 1) := by decide +kernel
theorem dX7_init_18 : decode cX7_init 18 = .ok (.bipush 8, 2) := by decide +kernel
theorem dX7_init_20 : decode cX7_init 20 = .ok (.newarray .int, 2) := by decide +kernel
theorem dX7_init_22 : decode cX7_init 22 = .ok (.putfield 19, 3) := by decide +kernel
theorem dX7_init_25 : decode cX7_init 25 = .ok (.aload_n 0, 1) := by decide +kernel
theorem dX7_init_26 : decode cX7_init 26 = .ok (.new 22, 3) := by decide +kernel
theorem dX7_init_29 : decode cX7_init 29 = .ok (.dup, 1) := by decide +kernel
theorem dX7_init_30 : decode cX7_init 30 = .ok (.invokespecial 24, 3) := by decide +kernel
theorem dX7_init_33 : decode cX7_init 33 = .ok (.putfield 25, 3) := by decide +kernel
theorem dX7_init_36 : decode cX7_init 36 = .ok (.aload_n 0, 1) := by decide +kernel
theorem dX7_init_37 : decode cX7_init 37 = .ok (.bipush 72, 2) := by decide +kernel
theorem dX7_init_39 : decode cX7_init 39 = .ok (.newarray .int, 2) := by decide +kernel
theorem dX7_init_41 : decode cX7_init 41 = .ok (.putfield 29, 3) := by decide +kernel
theorem dX7_init_44 : decode cX7_init 44 = .ok (.return_, 1) := by decide +kernel
theorem dX7_empty_0 : decode cX7_empty 0 = .ok (.aload_n 0, 1) := by decide +kernel
theorem dX7_empty_1 : decode cX7_empty 1 = .ok (.iconst 2, 1) := by decide +kernel
theorem dX7_empty_2 : decode cX7_empty 2 = .ok (.putfield 9, 3) := by decide +kernel
theorem dX7_empty_5 : decode cX7_empty 5 = .ok (.aload_n 0, 1) := by decide +kernel
theorem dX7_empty_6 : decode cX7_empty 6 = .ok (.iconst 0, 1) := by decide +kernel
theorem dX7_empty_7 : decode cX7_empty 7 = .ok (.putfield 32, 3) := by decide +kernel
theorem dX7_empty_10 : decode cX7_empty 10 = .ok (.aload_n 0, 1) := by decide +kernel
theorem dX7_empty_11 : decode cX7_empty 11 = .ok (.iconst 0, 1) := by decide +kernel
theorem dX7_empty_12 : decode cX7_empty 12 = .ok (.putfield 35, 3) := by decide +kernel
theorem dX7_empty_15 : decode cX7_empty 15 = .ok (.aload_n 0, 1) := by decide +kernel
theorem dX7_empty_16 : decode cX7_empty 16 = .ok (.getfield 25, 3) := by decide +kernel
theorem dX7_empty_19 : decode cX7_empty 19 = .ok (.invokevirtual 38, 3) := by decide +kernel
theorem dX7_empty_22 : decode cX7_empty 22 = .ok (.return_, 1) := by decide +kernel
theorem dX7_spotOf_0 : decode cX7_spotOf 0 = .ok (.iload_n 0, 1) := by decide +kernel
theorem dX7_spotOf_1 : decode cX7_spotOf 1 = .ok (.iconst 2, 1) := by decide +kernel
theorem dX7_spotOf_2 : decode cX7_spotOf 2 = .ok (.imul, 1) := by decide +kernel
theorem dX7_spotOf_3 : decode cX7_spotOf 3 = .ok (.iload_n 1, 1) := by decide +kernel
theorem dX7_spotOf_4 : decode cX7_spotOf 4 = .ok (.iadd, 1) := by decide +kernel
theorem dX7_spotOf_5 : decode cX7_spotOf 5 = .ok (.iconst 3, 1) := by decide +kernel
theorem dX7_spotOf_6 : decode cX7_spotOf 6 = .ok (.imul, 1) := by decide +kernel
theorem dX7_spotOf_7 : decode cX7_spotOf 7 = .ok (.iload_n 2, 1) := by decide +kernel
theorem dX7_spotOf_8 : decode cX7_spotOf 8 = .ok (.iadd, 1) := by decide +kernel
theorem dX7_spotOf_9 : decode cX7_spotOf 9 = .ok (.iconst 2, 1) := by decide +kernel
theorem dX7_spotOf_10 : decode cX7_spotOf 10 = .ok (.imul, 1) := by decide +kernel
theorem dX7_spotOf_11 : decode cX7_spotOf 11 = .ok (.ireturn, 1) := by decide +kernel
theorem dX7_tellPair_0 : decode cX7_tellPair 0 = .ok (.aload_n 0, 1) := by decide +kernel
theorem dX7_tellPair_1 : decode cX7_tellPair 1 = .ok (.getfield 32, 3) := by decide +kernel
theorem dX7_tellPair_4 : decode cX7_tellPair 4 = .ok (.iconst 0, 1) := by decide +kernel
theorem dX7_tellPair_5 : decode cX7_tellPair 5 = .ok (.iload_n 1, 1) := by decide +kernel
theorem dX7_tellPair_6 : decode cX7_tellPair 6 = .ok (.invokestatic 41, 3) := by decide +kernel
theorem dX7_tellPair_9 : decode cX7_tellPair 9 = .ok (.istore 4, 2) := by decide +kernel
theorem dX7_tellPair_11 : decode cX7_tellPair 11 = .ok (.aload_n 0, 1) := by decide +kernel
theorem dX7_tellPair_12 : decode cX7_tellPair 12 = .ok (.getfield 29, 3) := by decide +kernel
theorem dX7_tellPair_15 : decode cX7_tellPair 15 = .ok (.iload 4, 2) := by decide +kernel
theorem dX7_tellPair_17 : decode cX7_tellPair 17 = .ok (.iload_n 2, 1) := by decide +kernel
theorem dX7_tellPair_18 : decode cX7_tellPair 18 = .ok (.iastore, 1) := by decide +kernel
theorem dX7_tellPair_19 : decode cX7_tellPair 19 = .ok (.aload_n 0, 1) := by decide +kernel
theorem dX7_tellPair_20 : decode cX7_tellPair 20 = .ok (.getfield 29, 3) := by decide +kernel
theorem dX7_tellPair_23 : decode cX7_tellPair 23 = .ok (.iload 4, 2) := by decide +kernel
theorem dX7_tellPair_25 : decode cX7_tellPair 25 = .ok (.iconst 1, 1) := by decide +kernel
theorem dX7_tellPair_26 : decode cX7_tellPair 26 = .ok (.iadd, 1) := by decide +kernel
theorem dX7_tellPair_27 : decode cX7_tellPair 27 = .ok (.iload_n 3, 1) := by decide +kernel
theorem dX7_tellPair_28 : decode cX7_tellPair 28 = .ok (.iastore, 1) := by decide +kernel
theorem dX7_tellPair_29 : decode cX7_tellPair 29 = .ok (.aload_n 0, 1) := by decide +kernel
theorem dX7_tellPair_30 : decode cX7_tellPair 30 = .ok (.getfield 32, 3) := by decide +kernel
theorem dX7_tellPair_33 : decode cX7_tellPair 33 = .ok (.iconst 1, 1) := by decide +kernel
theorem dX7_tellPair_34 : decode cX7_tellPair 34 = .ok (.aload_n 0, 1) := by decide +kernel
theorem dX7_tellPair_35 : decode cX7_tellPair 35 = .ok (.getfield 9, 3) := by decide +kernel
theorem dX7_tellPair_38 : decode cX7_tellPair 38 = .ok (.iconst 1, 1) := by decide +kernel
theorem dX7_tellPair_39 : decode cX7_tellPair 39 = .ok (.isub, 1) := by decide +kernel
theorem dX7_tellPair_40 : decode cX7_tellPair 40 = .ok (.iload_n 1, 1) := by decide +kernel
theorem dX7_tellPair_41 : decode cX7_tellPair 41 = .ok (.isub, 1) := by decide +kernel
theorem dX7_tellPair_42 : decode cX7_tellPair 42 = .ok (.invokestatic 41, 3) := by decide +kernel
theorem dX7_tellPair_45 : decode cX7_tellPair 45 = .ok (.istore 5, 2) := by decide +kernel
theorem dX7_tellPair_47 : decode cX7_tellPair 47 = .ok (.aload_n 0, 1) := by decide +kernel
theorem dX7_tellPair_48 : decode cX7_tellPair 48 = .ok (.getfield 29, 3) := by decide +kernel
theorem dX7_tellPair_51 : decode cX7_tellPair 51 = .ok (.iload 5, 2) := by decide +kernel
theorem dX7_tellPair_53 : decode cX7_tellPair 53 = .ok (.iload_n 3, 1) := by decide +kernel
theorem dX7_tellPair_54 : decode cX7_tellPair 54 = .ok (.iastore, 1) := by decide +kernel
theorem dX7_tellPair_55 : decode cX7_tellPair 55 = .ok (.aload_n 0, 1) := by decide +kernel
theorem dX7_tellPair_56 : decode cX7_tellPair 56 = .ok (.getfield 29, 3) := by decide +kernel
theorem dX7_tellPair_59 : decode cX7_tellPair 59 = .ok (.iload 5, 2) := by decide +kernel
theorem dX7_tellPair_61 : decode cX7_tellPair 61 = .ok (.iconst 1, 1) := by decide +kernel
theorem dX7_tellPair_62 : decode cX7_tellPair 62 = .ok (.iadd, 1) := by decide +kernel
theorem dX7_tellPair_63 : decode cX7_tellPair 63 = .ok (.iload_n 2, 1) := by decide +kernel
theorem dX7_tellPair_64 : decode cX7_tellPair 64 = .ok (.iastore, 1) := by decide +kernel
theorem dX7_tellPair_65 : decode cX7_tellPair 65 = .ok (.return_, 1) := by decide +kernel
theorem dX7_tellLetter_0 : decode cX7_tellLetter 0 = .ok (.aload_n 0, 1) := by decide +kernel
theorem dX7_tellLetter_1 : decode cX7_tellLetter 1 = .ok (.getfield 15, 3) := by decide +kernel
theorem dX7_tellLetter_4 : decode cX7_tellLetter 4 = .ok (.aload_n 0, 1) := by decide +kernel
theorem dX7_tellLetter_5 : decode cX7_tellLetter 5 = .ok (.getfield 35, 3) := by decide +kernel
theorem dX7_tellLetter_8 : decode cX7_tellLetter 8 = .ok (.bipush 6, 2) := by decide +kernel
theorem dX7_tellLetter_10 : decode cX7_tellLetter 10 = .ok (.imul, 1) := by decide +kernel
theorem dX7_tellLetter_11 : decode cX7_tellLetter 11 = .ok (.iload_n 1, 1) := by decide +kernel
theorem dX7_tellLetter_12 : decode cX7_tellLetter 12 = .ok (.iadd, 1) := by decide +kernel
theorem dX7_tellLetter_13 : decode cX7_tellLetter 13 = .ok (.iload_n 2, 1) := by decide +kernel
theorem dX7_tellLetter_14 : decode cX7_tellLetter 14 = .ok (.iastore, 1) := by decide +kernel
theorem dX7_tellLetter_15 : decode cX7_tellLetter 15 = .ok (.return_, 1) := by decide +kernel
theorem dX7_endWord_0 : decode cX7_endWord 0 = .ok (.aload_n 0, 1) := by decide +kernel
theorem dX7_endWord_1 : decode cX7_endWord 1 = .ok (.getfield 19, 3) := by decide +kernel
theorem dX7_endWord_4 : decode cX7_endWord 4 = .ok (.aload_n 0, 1) := by decide +kernel
theorem dX7_endWord_5 : decode cX7_endWord 5 = .ok (.getfield 35, 3) := by decide +kernel
theorem dX7_endWord_8 : decode cX7_endWord 8 = .ok (.iload_n 1, 1) := by decide +kernel
theorem dX7_endWord_9 : decode cX7_endWord 9 = .ok (.iastore, 1) := by decide +kernel
theorem dX7_endWord_10 : decode cX7_endWord 10 = .ok (.aload_n 0, 1) := by decide +kernel
theorem dX7_endWord_11 : decode cX7_endWord 11 = .ok (.getfield 25, 3) := by decide +kernel
theorem dX7_endWord_14 : decode cX7_endWord 14 = .ok (.aload_n 0, 1) := by decide +kernel
theorem dX7_endWord_15 : decode cX7_endWord 15 = .ok (.getfield 15, 3) := by decide +kernel
theorem dX7_endWord_18 : decode cX7_endWord 18 = .ok (.aload_n 0, 1) := by decide +kernel
theorem dX7_endWord_19 : decode cX7_endWord 19 = .ok (.getfield 35, 3) := by decide +kernel
theorem dX7_endWord_22 : decode cX7_endWord 22 = .ok (.bipush 6, 2) := by decide +kernel
theorem dX7_endWord_24 : decode cX7_endWord 24 = .ok (.imul, 1) := by decide +kernel
theorem dX7_endWord_25 : decode cX7_endWord 25 = .ok (.iload_n 1, 1) := by decide +kernel
theorem dX7_endWord_26 : decode cX7_endWord 26 = .ok (.invokevirtual 45, 3) := by decide +kernel
theorem dX7_endWord_29 : decode cX7_endWord 29 = .ok (.aload_n 0, 1) := by decide +kernel
theorem dX7_endWord_30 : decode cX7_endWord 30 = .ok (.dup, 1) := by decide +kernel
theorem dX7_endWord_31 : decode cX7_endWord 31 = .ok (.getfield 35, 3) := by decide +kernel
theorem dX7_endWord_34 : decode cX7_endWord 34 = .ok (.iconst 1, 1) := by decide +kernel
theorem dX7_endWord_35 : decode cX7_endWord 35 = .ok (.iadd, 1) := by decide +kernel
theorem dX7_endWord_36 : decode cX7_endWord 36 = .ok (.putfield 35, 3) := by decide +kernel
theorem dX7_endWord_39 : decode cX7_endWord 39 = .ok (.return_, 1) := by decide +kernel
theorem dX7_shown_0 : decode cX7_shown 0 = .ok (.aload_n 0, 1) := by decide +kernel
theorem dX7_shown_1 : decode cX7_shown 1 = .ok (.getfield 29, 3) := by decide +kernel
theorem dX7_shown_4 : decode cX7_shown 4 = .ok (.iload_n 1, 1) := by decide +kernel
theorem dX7_shown_5 : decode cX7_shown 5 = .ok (.iload_n 2, 1) := by decide +kernel
theorem dX7_shown_6 : decode cX7_shown 6 = .ok (.iload_n 3, 1) := by decide +kernel
theorem dX7_shown_7 : decode cX7_shown 7 = .ok (.invokestatic 41, 3) := by decide +kernel
theorem dX7_shown_10 : decode cX7_shown 10 = .ok (.iload 4, 2) := by decide +kernel
theorem dX7_shown_12 : decode cX7_shown 12 = .ok (.iadd, 1) := by decide +kernel
theorem dX7_shown_13 : decode cX7_shown 13 = .ok (.iaload, 1) := by decide +kernel
theorem dX7_shown_14 : decode cX7_shown 14 = .ok (.ireturn, 1) := by decide +kernel
theorem dX7_pass_0 : decode cX7_pass 0 = .ok (.iload_n 2, 1) := by decide +kernel
theorem dX7_pass_1 : decode cX7_pass 1 = .ok (.iload_n 3, 1) := by decide +kernel
theorem dX7_pass_2 : decode cX7_pass 2 = .ok (.iload 4, 2) := by decide +kernel
theorem dX7_pass_4 : decode cX7_pass 4 = .ok (.invokestatic 41, 3) := by decide +kernel
theorem dX7_pass_7 : decode cX7_pass 7 = .ok (.istore 5, 2) := by decide +kernel
theorem dX7_pass_9 : decode cX7_pass 9 = .ok (.aload_n 0, 1) := by decide +kernel
theorem dX7_pass_10 : decode cX7_pass 10 = .ok (.getfield 25, 3) := by decide +kernel
theorem dX7_pass_13 : decode cX7_pass 13 = .ok (.aload_n 0, 1) := by decide +kernel
theorem dX7_pass_14 : decode cX7_pass 14 = .ok (.getfield 25, 3) := by decide +kernel
theorem dX7_pass_17 : decode cX7_pass 17 = .ok (.iload_n 1, 1) := by decide +kernel
theorem dX7_pass_18 : decode cX7_pass 18 = .ok (.aload_n 0, 1) := by decide +kernel
theorem dX7_pass_19 : decode cX7_pass 19 = .ok (.getfield 29, 3) := by decide +kernel
theorem dX7_pass_22 : decode cX7_pass 22 = .ok (.iload 5, 2) := by decide +kernel
theorem dX7_pass_24 : decode cX7_pass 24 = .ok (.iaload, 1) := by decide +kernel
theorem dX7_pass_25 : decode cX7_pass 25 = .ok (.invokevirtual 49, 3) := by decide +kernel
theorem dX7_pass_28 : decode cX7_pass 28 = .ok (.aload_n 0, 1) := by decide +kernel
theorem dX7_pass_29 : decode cX7_pass 29 = .ok (.getfield 29, 3) := by decide +kernel
theorem dX7_pass_32 : decode cX7_pass 32 = .ok (.iload 5, 2) := by decide +kernel
theorem dX7_pass_34 : decode cX7_pass 34 = .ok (.iconst 1, 1) := by decide +kernel
theorem dX7_pass_35 : decode cX7_pass 35 = .ok (.iadd, 1) := by decide +kernel
theorem dX7_pass_36 : decode cX7_pass 36 = .ok (.iaload, 1) := by decide +kernel
theorem dX7_pass_37 : decode cX7_pass 37 = .ok (.invokevirtual 49, 3) := by decide +kernel
theorem dX7_pass_40 : decode cX7_pass 40 = .ok (.ireturn, 1) := by decide +kernel
theorem dX7_lettersOn_0 : decode cX7_lettersOn 0 = .ok (.iconst 0, 1) := by decide +kernel
theorem dX7_lettersOn_1 : decode cX7_lettersOn 1 = .ok (.istore_n 2, 1) := by decide +kernel
theorem dX7_lettersOn_2 : decode cX7_lettersOn 2 = .ok (.iload_n 1, 1) := by decide +kernel
theorem dX7_lettersOn_3 : decode cX7_lettersOn 3 = .ok (.iconst 0, 1) := by decide +kernel
theorem dX7_lettersOn_4 : decode cX7_lettersOn 4 = .ok (.iconst 0, 1) := by decide +kernel
theorem dX7_lettersOn_5 : decode cX7_lettersOn 5 = .ok (.invokestatic 41, 3) := by decide +kernel
theorem dX7_lettersOn_8 : decode cX7_lettersOn 8 = .ok (.istore_n 3, 1) := by decide +kernel
theorem dX7_lettersOn_9 : decode cX7_lettersOn 9 = .ok (.iload_n 3, 1) := by decide +kernel
theorem dX7_lettersOn_10 : decode cX7_lettersOn 10 = .ok (.istore 4, 2) := by decide +kernel
theorem dX7_lettersOn_12 : decode cX7_lettersOn 12 = .ok (.iload 4, 2) := by decide +kernel
theorem dX7_lettersOn_14 : decode cX7_lettersOn 14 = .ok (.iload_n 3, 1) := by decide +kernel
theorem dX7_lettersOn_15 : decode cX7_lettersOn 15 = .ok (.iconst 2, 1) := by decide +kernel
theorem dX7_lettersOn_16 : decode cX7_lettersOn 16 = .ok (.aload_n 0, 1) := by decide +kernel
theorem dX7_lettersOn_17 : decode cX7_lettersOn 17 = .ok (.getfield 9, 3) := by decide +kernel
theorem dX7_lettersOn_20 : decode cX7_lettersOn 20 = .ok (.imul, 1) := by decide +kernel
theorem dX7_lettersOn_21 : decode cX7_lettersOn 21 = .ok (.iadd, 1) := by decide +kernel
theorem dX7_lettersOn_22 : decode cX7_lettersOn 22 = .ok (.if_icmp .ge 33, 3) := by decide +kernel
theorem dX7_lettersOn_25 : decode cX7_lettersOn 25 = .ok (.aload_n 0, 1) := by decide +kernel
theorem dX7_lettersOn_26 : decode cX7_lettersOn 26 = .ok (.getfield 29, 3) := by decide +kernel
theorem dX7_lettersOn_29 : decode cX7_lettersOn 29 = .ok (.iload 4, 2) := by decide +kernel
theorem dX7_lettersOn_31 : decode cX7_lettersOn 31 = .ok (.iaload, 1) := by decide +kernel
theorem dX7_lettersOn_32 : decode cX7_lettersOn 32 = .ok (.bipush 26, 2) := by decide +kernel
theorem dX7_lettersOn_34 : decode cX7_lettersOn 34 = .ok (.if_icmp .eq 15, 3) := by decide +kernel
theorem dX7_lettersOn_37 : decode cX7_lettersOn 37 = .ok (.iload_n 2, 1) := by decide +kernel
theorem dX7_lettersOn_38 : decode cX7_lettersOn 38 = .ok (.iconst 1, 1) := by decide +kernel
theorem dX7_lettersOn_39 : decode cX7_lettersOn 39 = .ok (.aload_n 0, 1) := by decide +kernel
theorem dX7_lettersOn_40 : decode cX7_lettersOn 40 = .ok (.getfield 29, 3) := by decide +kernel
theorem dX7_lettersOn_43 : decode cX7_lettersOn 43 = .ok (.iload 4, 2) := by decide +kernel
theorem dX7_lettersOn_45 : decode cX7_lettersOn 45 = .ok (.iaload, 1) := by decide +kernel
theorem dX7_lettersOn_46 : decode cX7_lettersOn 46 = .ok (.ishl, 1) := by decide +kernel
theorem dX7_lettersOn_47 : decode cX7_lettersOn 47 = .ok (.ior, 1) := by decide +kernel
theorem dX7_lettersOn_48 : decode cX7_lettersOn 48 = .ok (.istore_n 2, 1) := by decide +kernel
theorem dX7_lettersOn_49 : decode cX7_lettersOn 49 = .ok (.iinc 4 1, 3) := by decide +kernel
theorem dX7_lettersOn_52 : decode cX7_lettersOn 52 = .ok (.goto (-40), 3) := by decide +kernel
theorem dX7_lettersOn_55 : decode cX7_lettersOn 55 = .ok (.iload_n 2, 1) := by decide +kernel
theorem dX7_lettersOn_56 : decode cX7_lettersOn 56 = .ok (.ireturn, 1) := by decide +kernel
theorem dX7_blanksOn_0 : decode cX7_blanksOn 0 = .ok (.iconst 0, 1) := by decide +kernel
theorem dX7_blanksOn_1 : decode cX7_blanksOn 1 = .ok (.istore_n 2, 1) := by decide +kernel
theorem dX7_blanksOn_2 : decode cX7_blanksOn 2 = .ok (.iload_n 1, 1) := by decide +kernel
theorem dX7_blanksOn_3 : decode cX7_blanksOn 3 = .ok (.iconst 0, 1) := by decide +kernel
theorem dX7_blanksOn_4 : decode cX7_blanksOn 4 = .ok (.iconst 0, 1) := by decide +kernel
theorem dX7_blanksOn_5 : decode cX7_blanksOn 5 = .ok (.invokestatic 41, 3) := by decide +kernel
theorem dX7_blanksOn_8 : decode cX7_blanksOn 8 = .ok (.istore_n 3, 1) := by decide +kernel
theorem dX7_blanksOn_9 : decode cX7_blanksOn 9 = .ok (.iload_n 3, 1) := by decide +kernel
theorem dX7_blanksOn_10 : decode cX7_blanksOn 10 = .ok (.istore 4, 2) := by decide +kernel
theorem dX7_blanksOn_12 : decode cX7_blanksOn 12 = .ok (.iload 4, 2) := by decide +kernel
theorem dX7_blanksOn_14 : decode cX7_blanksOn 14 = .ok (.iload_n 3, 1) := by decide +kernel
theorem dX7_blanksOn_15 : decode cX7_blanksOn 15 = .ok (.iconst 2, 1) := by decide +kernel
theorem dX7_blanksOn_16 : decode cX7_blanksOn 16 = .ok (.aload_n 0, 1) := by decide +kernel
theorem dX7_blanksOn_17 : decode cX7_blanksOn 17 = .ok (.getfield 9, 3) := by decide +kernel
theorem dX7_blanksOn_20 : decode cX7_blanksOn 20 = .ok (.imul, 1) := by decide +kernel
theorem dX7_blanksOn_21 : decode cX7_blanksOn 21 = .ok (.iadd, 1) := by decide +kernel
theorem dX7_blanksOn_22 : decode cX7_blanksOn 22 = .ok (.if_icmp .ge 24, 3) := by decide +kernel
theorem dX7_blanksOn_25 : decode cX7_blanksOn 25 = .ok (.aload_n 0, 1) := by decide +kernel
theorem dX7_blanksOn_26 : decode cX7_blanksOn 26 = .ok (.getfield 29, 3) := by decide +kernel
theorem dX7_blanksOn_29 : decode cX7_blanksOn 29 = .ok (.iload 4, 2) := by decide +kernel
theorem dX7_blanksOn_31 : decode cX7_blanksOn 31 = .ok (.iaload, 1) := by decide +kernel
theorem dX7_blanksOn_32 : decode cX7_blanksOn 32 = .ok (.bipush 26, 2) := by decide +kernel
theorem dX7_blanksOn_34 : decode cX7_blanksOn 34 = .ok (.if_icmp .ne 6, 3) := by decide +kernel
theorem dX7_blanksOn_37 : decode cX7_blanksOn 37 = .ok (.iinc 2 1, 3) := by decide +kernel
theorem dX7_blanksOn_40 : decode cX7_blanksOn 40 = .ok (.iinc 4 1, 3) := by decide +kernel
theorem dX7_blanksOn_43 : decode cX7_blanksOn 43 = .ok (.goto (-31), 3) := by decide +kernel
theorem dX7_blanksOn_46 : decode cX7_blanksOn 46 = .ok (.iload_n 2, 1) := by decide +kernel
theorem dX7_blanksOn_47 : decode cX7_blanksOn 47 = .ok (.ireturn, 1) := by decide +kernel
theorem dX8_init_0 : decode cX8_init 0 = .ok (.aload_n 0, 1) := by decide +kernel
theorem dX8_init_1 : decode cX8_init 1 = .ok (.invokespecial 3, 3) := by decide +kernel
theorem dX8_init_4 : decode cX8_init 4 = .ok (.aload_n 0, 1) := by decide +kernel
theorem dX8_init_5 : decode cX8_init 5 = .ok (.sipush 150, 3) := by decide +kernel
theorem dX8_init_8 : decode cX8_init 8 = .ok (.newarray .int, 2) := by decide +kernel
theorem dX8_init_10 : decode cX8_init 10 = .ok (.putfield 9, 3) := by decide +kernel
theorem dX8_init_13 : decode cX8_init 13 = .ok (.return_, 1) := by decide +kernel
theorem dX8_append_0 : decode cX8_append 0 = .ok (.aload_n 0, 1) := by decide +kernel
theorem dX8_append_1 : decode cX8_append 1 = .ok (.getfield 15, 3) := by decide +kernel
theorem dX8_append_4 : decode cX8_append 4 = .ok (.sipush 150, 3) := by decide +kernel
theorem dX8_append_7 : decode cX8_append 7 = .ok (.if_icmp .lt 5, 3) := by decide +kernel
theorem dX8_append_10 : decode cX8_append 10 = .ok (.iconst 0, 1) := by decide +kernel
theorem dX8_append_11 : decode cX8_append 11 = .ok (.ireturn, 1) := by decide +kernel
theorem dX8_append_12 : decode cX8_append 12 = .ok (.aload_n 0, 1) := by decide +kernel
theorem dX8_append_13 : decode cX8_append 13 = .ok (.getfield 9, 3) := by decide +kernel
theorem dX8_append_16 : decode cX8_append 16 = .ok (.aload_n 0, 1) := by decide +kernel
theorem dX8_append_17 : decode cX8_append 17 = .ok (.getfield 15, 3) := by decide +kernel
theorem dX8_append_20 : decode cX8_append 20 = .ok (.iload_n 1, 1) := by decide +kernel
theorem dX8_append_21 : decode cX8_append 21 = .ok (.iastore, 1) := by decide +kernel
theorem dX8_append_22 : decode cX8_append 22 = .ok (.aload_n 0, 1) := by decide +kernel
theorem dX8_append_23 : decode cX8_append 23 = .ok (.dup, 1) := by decide +kernel
theorem dX8_append_24 : decode cX8_append 24 = .ok (.getfield 15, 3) := by decide +kernel
theorem dX8_append_27 : decode cX8_append 27 = .ok (.iconst 1, 1) := by decide +kernel
theorem dX8_append_28 : decode cX8_append 28 = .ok (.iadd, 1) := by decide +kernel
theorem dX8_append_29 : decode cX8_append 29 = .ok (.putfield 15, 3) := by decide +kernel
theorem dX8_append_32 : decode cX8_append 32 = .ok (.iconst 1, 1) := by decide +kernel
theorem dX8_append_33 : decode cX8_append 33 = .ok (.ireturn, 1) := by decide +kernel
theorem dX8_wipe_0 : decode cX8_wipe 0 = .ok (.aload_n 0, 1) := by decide +kernel
theorem dX8_wipe_1 : decode cX8_wipe 1 = .ok (.getfield 15, 3) := by decide +kernel
theorem dX8_wipe_4 : decode cX8_wipe 4 = .ok (.istore_n 1, 1) := by decide +kernel
theorem dX8_wipe_5 : decode cX8_wipe 5 = .ok (.aload_n 0, 1) := by decide +kernel
theorem dX8_wipe_6 : decode cX8_wipe 6 = .ok (.iconst 0, 1) := by decide +kernel
theorem dX8_wipe_7 : decode cX8_wipe 7 = .ok (.putfield 15, 3) := by decide +kernel
theorem dX8_wipe_10 : decode cX8_wipe 10 = .ok (.iload_n 1, 1) := by decide +kernel
theorem dX8_wipe_11 : decode cX8_wipe 11 = .ok (.ireturn, 1) := by decide +kernel
theorem dX8_readInto_0 : decode cX8_readInto 0 = .ok (.aload_n 1, 1) := by decide +kernel
theorem dX8_readInto_1 : decode cX8_readInto 1 = .ok (.invokevirtual 19, 3) := by decide +kernel
theorem dX8_readInto_4 : decode cX8_readInto 4 = .ok (.aload_n 0, 1) := by decide +kernel
theorem dX8_readInto_5 : decode cX8_readInto 5 = .ok (.iconst 0, 1) := by decide +kernel
theorem dX8_readInto_6 : decode cX8_readInto 6 = .ok (.putfield 24, 3) := by decide +kernel
theorem dX8_readInto_9 : decode cX8_readInto 9 = .ok (.aload_n 0, 1) := by decide +kernel
theorem dX8_readInto_10 : decode cX8_readInto 10 = .ok (.invokevirtual 27, 3) := by decide +kernel
theorem dX8_readInto_13 : decode cX8_readInto 13 = .ok (.iconst 0, 1) := by decide +kernel
theorem dX8_readInto_14 : decode cX8_readInto 14 = .ok (.istore_n 2, 1) := by decide +kernel
theorem dX8_readInto_15 : decode cX8_readInto 15 = .ok (.aload_n 0, 1) := by decide +kernel
theorem dX8_readInto_16 : decode cX8_readInto 16 = .ok (.getfield 30, 3) := by decide +kernel
theorem dX8_readInto_19 : decode cX8_readInto 19 = .ok (.ifCond .eq 41, 3) := by decide +kernel
theorem dX8_readInto_22 : decode cX8_readInto 22 = .ok (.iload_n 2, 1) := by decide +kernel
theorem dX8_readInto_23 : decode cX8_readInto 23 = .ok (.sipush 150, 3) := by decide +kernel
theorem dX8_readInto_26 : decode cX8_readInto 26 = .ok (.if_icmp .ge 34, 3) := by decide +kernel
theorem dX8_readInto_29 : decode cX8_readInto 29 = .ok (.aload_n 0, 1) := by decide +kernel
theorem dX8_readInto_30 : decode cX8_readInto 30 = .ok (.aload_n 1, 1) := by decide +kernel
theorem dX8_readInto_31 : decode cX8_readInto 31 = .ok (.iload_n 2, 1) := by decide +kernel
theorem dX8_readInto_32 : decode cX8_readInto 32 = .ok (.ifCond .ne 7, 3) := by decide +kernel
theorem dX8_readInto_35 : decode cX8_readInto 35 = .ok (.iconst 1, 1) := by decide +kernel
theorem dX8_readInto_36 : decode cX8_readInto 36 = .ok (.goto 4, 3) := by decide +kernel
theorem dX8_readInto_39 : decode cX8_readInto 39 = .ok (.iconst 0, 1) := by decide +kernel
theorem dX8_readInto_40 : decode cX8_readInto 40 = .ok (.invokevirtual 33, 3) := by decide +kernel
theorem dX8_readInto_43 : decode cX8_readInto 43 = .ok (.ifCond .ne 11, 3) := by decide +kernel
theorem dX8_readInto_46 : decode cX8_readInto 46 = .ok (.bipush (-10), 2) := by decide +kernel
theorem dX8_readInto_48 : decode cX8_readInto 48 = .ok (.aload_n 0, 1) := by decide +kernel
theorem dX8_readInto_49 : decode cX8_readInto 49 = .ok (.getfield 37, 3) := by decide +kernel
theorem dX8_readInto_52 : decode cX8_readInto 52 = .ok (.isub, 1) := by decide +kernel
theorem dX8_readInto_53 : decode cX8_readInto 53 = .ok (.ireturn, 1) := by decide +kernel
theorem dX8_readInto_54 : decode cX8_readInto 54 = .ok (.iinc 2 1, 3) := by decide +kernel
theorem dX8_readInto_57 : decode cX8_readInto 57 = .ok (.goto (-42), 3) := by decide +kernel
theorem dX8_readInto_60 : decode cX8_readInto 60 = .ok (.iload_n 2, 1) := by decide +kernel
theorem dX8_readInto_61 : decode cX8_readInto 61 = .ok (.ireturn, 1) := by decide +kernel
theorem dX8_readItem_0 : decode cX8_readItem 0 = .ok (.aload_n 0, 1) := by decide +kernel
theorem dX8_readItem_1 : decode cX8_readItem 1 = .ok (.getfield 30, 3) := by decide +kernel
theorem dX8_readItem_4 : decode cX8_readItem 4 = .ok (.iconst 1, 1) := by decide +kernel
theorem dX8_readItem_5 : decode cX8_readItem 5 = .ok (.if_icmp .ne 16, 3) := by decide +kernel
theorem dX8_readItem_8 : decode cX8_readItem 8 = .ok (.aload_n 0, 1) := by decide +kernel
theorem dX8_readItem_9 : decode cX8_readItem 9 = .ok (.getfield 24, 3) := by decide +kernel
theorem dX8_readItem_12 : decode cX8_readItem 12 = .ok (.aload_n 0, 1) := by decide +kernel
theorem dX8_readItem_13 : decode cX8_readItem 13 = .ok (.getfield 37, 3) := by decide +kernel
theorem dX8_readItem_16 : decode cX8_readItem 16 = .ok (.isub, 1) := by decide +kernel
theorem dX8_readItem_17 : decode cX8_readItem 17 = .ok (.iconst 1, 1) := by decide +kernel
theorem dX8_readItem_18 : decode cX8_readItem 18 = .ok (.if_icmp .eq 5, 3) := by decide +kernel
theorem dX8_readItem_21 : decode cX8_readItem 21 = .ok (.iconst 0, 1) := by decide +kernel
theorem dX8_readItem_22 : decode cX8_readItem 22 = .ok (.ireturn, 1) := by decide +kernel
theorem dX8_readItem_23 : decode cX8_readItem 23 = .ok (.aload_n 0, 1) := by decide +kernel
theorem dX8_readItem_24 : decode cX8_readItem 24 = .ok (.getfield 9, 3) := by decide +kernel
theorem dX8_readItem_27 : decode cX8_readItem 27 = .ok (.aload_n 0, 1) := by decide +kernel
theorem dX8_readItem_28 : decode cX8_readItem 28 = .ok (.getfield 37, 3) := by decide +kernel
theorem dX8_readItem_31 : decode cX8_readItem 31 = .ok (.iaload, 1) := by decide +kernel
theorem dX8_readItem_32 : decode cX8_readItem 32 = .ok (.lookupswitch 121 #[(110, 36), (115, 61), (119, 91)], 36) := by decide +kernel
theorem dX8_readItem_68 : decode cX8_readItem 68 = .ok (.iload_n 2, 1) := by decide +kernel
theorem dX8_readItem_69 : decode cX8_readItem 69 = .ok (.ifCond .eq 22, 3) := by decide +kernel
theorem dX8_readItem_72 : decode cX8_readItem 72 = .ok (.aload_n 0, 1) := by decide +kernel
theorem dX8_readItem_73 : decode cX8_readItem 73 = .ok (.aload_n 1, 1) := by decide +kernel
theorem dX8_readItem_74 : decode cX8_readItem 74 = .ok (.invokevirtual 40, 3) := by decide +kernel
theorem dX8_readItem_77 : decode cX8_readItem 77 = .ok (.ifCond .eq 14, 3) := by decide +kernel
theorem dX8_readItem_80 : decode cX8_readItem 80 = .ok (.aload_n 0, 1) := by decide +kernel
theorem dX8_readItem_81 : decode cX8_readItem 81 = .ok (.invokevirtual 44, 3) := by decide +kernel
theorem dX8_readItem_84 : decode cX8_readItem 84 = .ok (.ifCond .eq 7, 3) := by decide +kernel
theorem dX8_readItem_87 : decode cX8_readItem 87 = .ok (.iconst 1, 1) := by decide +kernel
theorem dX8_readItem_88 : decode cX8_readItem 88 = .ok (.goto 4, 3) := by decide +kernel
theorem dX8_readItem_91 : decode cX8_readItem 91 = .ok (.iconst 0, 1) := by decide +kernel
theorem dX8_readItem_92 : decode cX8_readItem 92 = .ok (.ireturn, 1) := by decide +kernel
theorem dX8_readItem_93 : decode cX8_readItem 93 = .ok (.aload_n 1, 1) := by decide +kernel
theorem dX8_readItem_94 : decode cX8_readItem 94 = .ok (.getfield 48, 3) := by decide +kernel
theorem dX8_readItem_97 : decode cX8_readItem 97 = .ok (.bipush 6, 2) := by decide +kernel
theorem dX8_readItem_99 : decode cX8_readItem 99 = .ok (.if_icmp .ge 22, 3) := by decide +kernel
theorem dX8_readItem_102 : decode cX8_readItem 102 = .ok (.aload_n 0, 1) := by decide +kernel
theorem dX8_readItem_103 : decode cX8_readItem 103 = .ok (.aload_n 1, 1) := by decide +kernel
theorem dX8_readItem_104 : decode cX8_readItem 104 = .ok (.invokevirtual 51, 3) := by decide +kernel
theorem dX8_readItem_107 : decode cX8_readItem 107 = .ok (.ifCond .eq 14, 3) := by decide +kernel
theorem dX8_readItem_110 : decode cX8_readItem 110 = .ok (.aload_n 0, 1) := by decide +kernel
theorem dX8_readItem_111 : decode cX8_readItem 111 = .ok (.invokevirtual 44, 3) := by decide +kernel
theorem dX8_readItem_114 : decode cX8_readItem 114 = .ok (.ifCond .eq 7, 3) := by decide +kernel
theorem dX8_readItem_117 : decode cX8_readItem 117 = .ok (.iconst 1, 1) := by decide +kernel
theorem dX8_readItem_118 : decode cX8_readItem 118 = .ok (.goto 4, 3) := by decide +kernel
theorem dX8_readItem_121 : decode cX8_readItem 121 = .ok (.iconst 0, 1) := by decide +kernel
theorem dX8_readItem_122 : decode cX8_readItem 122 = .ok (.ireturn, 1) := by decide +kernel
theorem dX8_readItem_123 : decode cX8_readItem 123 = .ok (.aload_n 1, 1) := by decide +kernel
theorem dX8_readItem_124 : decode cX8_readItem 124 = .ok (.getfield 54, 3) := by decide +kernel
theorem dX8_readItem_127 : decode cX8_readItem 127 = .ok (.bipush 8, 2) := by decide +kernel
theorem dX8_readItem_129 : decode cX8_readItem 129 = .ok (.if_icmp .ge 22, 3) := by decide +kernel
theorem dX8_readItem_132 : decode cX8_readItem 132 = .ok (.aload_n 0, 1) := by decide +kernel
theorem dX8_readItem_133 : decode cX8_readItem 133 = .ok (.aload_n 1, 1) := by decide +kernel
theorem dX8_readItem_134 : decode cX8_readItem 134 = .ok (.invokevirtual 57, 3) := by decide +kernel
theorem dX8_readItem_137 : decode cX8_readItem 137 = .ok (.ifCond .eq 14, 3) := by decide +kernel
theorem dX8_readItem_140 : decode cX8_readItem 140 = .ok (.aload_n 0, 1) := by decide +kernel
theorem dX8_readItem_141 : decode cX8_readItem 141 = .ok (.invokevirtual 44, 3) := by decide +kernel
theorem dX8_readItem_144 : decode cX8_readItem 144 = .ok (.ifCond .eq 7, 3) := by decide +kernel
theorem dX8_readItem_147 : decode cX8_readItem 147 = .ok (.iconst 1, 1) := by decide +kernel
theorem dX8_readItem_148 : decode cX8_readItem 148 = .ok (.goto 4, 3) := by decide +kernel
theorem dX8_readItem_151 : decode cX8_readItem 151 = .ok (.iconst 0, 1) := by decide +kernel
theorem dX8_readItem_152 : decode cX8_readItem 152 = .ok (.ireturn, 1) := by decide +kernel
theorem dX8_readItem_153 : decode cX8_readItem 153 = .ok (.iconst 0, 1) := by decide +kernel
theorem dX8_readItem_154 : decode cX8_readItem 154 = .ok (.ireturn, 1) := by decide +kernel
theorem dX8_readLines_0 : decode cX8_readLines 0 = .ok (.aload_n 0, 1) := by decide +kernel
theorem dX8_readLines_1 : decode cX8_readLines 1 = .ok (.invokevirtual 27, 3) := by decide +kernel
theorem dX8_readLines_4 : decode cX8_readLines 4 = .ok (.aload_n 0, 1) := by decide +kernel
theorem dX8_readLines_5 : decode cX8_readLines 5 = .ok (.getfield 30, 3) := by decide +kernel
theorem dX8_readLines_8 : decode cX8_readLines 8 = .ok (.iconst 2, 1) := by decide +kernel
theorem dX8_readLines_9 : decode cX8_readLines 9 = .ok (.if_icmp .ne 16, 3) := by decide +kernel
theorem dX8_readLines_12 : decode cX8_readLines 12 = .ok (.aload_n 0, 1) := by decide +kernel
theorem dX8_readLines_13 : decode cX8_readLines 13 = .ok (.getfield 24, 3) := by decide +kernel
theorem dX8_readLines_16 : decode cX8_readLines 16 = .ok (.aload_n 0, 1) := by decide +kernel
theorem dX8_readLines_17 : decode cX8_readLines 17 = .ok (.getfield 37, 3) := by decide +kernel
theorem dX8_readLines_20 : decode cX8_readLines 20 = .ok (.isub, 1) := by decide +kernel
theorem dX8_readLines_21 : decode cX8_readLines 21 = .ok (.iconst 1, 1) := by decide +kernel
theorem dX8_readLines_22 : decode cX8_readLines 22 = .ok (.if_icmp .eq 5, 3) := by decide +kernel
theorem dX8_readLines_25 : decode cX8_readLines 25 = .ok (.iconst 0, 1) := by decide +kernel
theorem dX8_readLines_26 : decode cX8_readLines 26 = .ok (.ireturn, 1) := by decide +kernel
theorem dX8_readLines_27 : decode cX8_readLines 27 = .ok (.aload_n 0, 1) := by decide +kernel
theorem dX8_readLines_28 : decode cX8_readLines 28 = .ok (.getfield 9, 3) := by decide +kernel
theorem dX8_readLines_31 : decode cX8_readLines 31 = .ok (.aload_n 0, 1) := by decide +kernel
theorem dX8_readLines_32 : decode cX8_readLines 32 = .ok (.getfield 37, 3) := by decide +kernel
theorem dX8_readLines_35 : decode cX8_readLines 35 = .ok (.iaload, 1) := by decide +kernel
theorem dX8_readLines_36 : decode cX8_readLines 36 = .ok (.bipush 48, 2) := by decide +kernel
theorem dX8_readLines_38 : decode cX8_readLines 38 = .ok (.isub, 1) := by decide +kernel
theorem dX8_readLines_39 : decode cX8_readLines 39 = .ok (.istore_n 2, 1) := by decide +kernel
theorem dX8_readLines_40 : decode cX8_readLines 40 = .ok (.iload_n 2, 1) := by decide +kernel
theorem dX8_readLines_41 : decode cX8_readLines 41 = .ok (.iconst 1, 1) := by decide +kernel
theorem dX8_readLines_42 : decode cX8_readLines 42 = .ok (.if_icmp .lt 8, 3) := by decide +kernel
theorem dX8_readLines_45 : decode cX8_readLines 45 = .ok (.iload_n 2, 1) := by decide +kernel
theorem dX8_readLines_46 : decode cX8_readLines 46 = .ok (.iconst 3, 1) := by decide +kernel
theorem dX8_readLines_47 : decode cX8_readLines 47 = .ok (.if_icmp .le 5, 3) := by decide +kernel
theorem dX8_readLines_50 : decode cX8_readLines 50 = .ok (.iconst 0, 1) := by decide +kernel
theorem dX8_readLines_51 : decode cX8_readLines 51 = .ok (.ireturn, 1) := by decide +kernel
theorem dX8_readLines_52 : decode cX8_readLines 52 = .ok (.aload_n 1, 1) := by decide +kernel
theorem dX8_readLines_53 : decode cX8_readLines 53 = .ok (.iload_n 2, 1) := by decide +kernel
theorem dX8_readLines_54 : decode cX8_readLines 54 = .ok (.putfield 60, 3) := by decide +kernel
theorem dX8_readLines_57 : decode cX8_readLines 57 = .ok (.iconst 1, 1) := by decide +kernel
theorem dX8_readLines_58 : decode cX8_readLines 58 = .ok (.ireturn, 1) := by decide +kernel
theorem dX8_readStrip_0 : decode cX8_readStrip 0 = .ok (.iconst 0, 1) := by decide +kernel
theorem dX8_readStrip_1 : decode cX8_readStrip 1 = .ok (.istore_n 2, 1) := by decide +kernel
theorem dX8_readStrip_2 : decode cX8_readStrip 2 = .ok (.iload_n 2, 1) := by decide +kernel
theorem dX8_readStrip_3 : decode cX8_readStrip 3 = .ok (.aload_n 1, 1) := by decide +kernel
theorem dX8_readStrip_4 : decode cX8_readStrip 4 = .ok (.getfield 60, 3) := by decide +kernel
theorem dX8_readStrip_7 : decode cX8_readStrip 7 = .ok (.if_icmp .ge 67, 3) := by decide +kernel
theorem dX8_readStrip_10 : decode cX8_readStrip 10 = .ok (.aload_n 0, 1) := by decide +kernel
theorem dX8_readStrip_11 : decode cX8_readStrip 11 = .ok (.invokevirtual 27, 3) := by decide +kernel
theorem dX8_readStrip_14 : decode cX8_readStrip 14 = .ok (.aload_n 0, 1) := by decide +kernel
theorem dX8_readStrip_15 : decode cX8_readStrip 15 = .ok (.getfield 30, 3) := by decide +kernel
theorem dX8_readStrip_18 : decode cX8_readStrip 18 = .ok (.iconst 1, 1) := by decide +kernel
theorem dX8_readStrip_19 : decode cX8_readStrip 19 = .ok (.if_icmp .ne 16, 3) := by decide +kernel
theorem dX8_readStrip_22 : decode cX8_readStrip 22 = .ok (.aload_n 0, 1) := by decide +kernel
theorem dX8_readStrip_23 : decode cX8_readStrip 23 = .ok (.getfield 24, 3) := by decide +kernel
theorem dX8_readStrip_26 : decode cX8_readStrip 26 = .ok (.aload_n 0, 1) := by decide +kernel
theorem dX8_readStrip_27 : decode cX8_readStrip 27 = .ok (.getfield 37, 3) := by decide +kernel
theorem dX8_readStrip_30 : decode cX8_readStrip 30 = .ok (.isub, 1) := by decide +kernel
theorem dX8_readStrip_31 : decode cX8_readStrip 31 = .ok (.iconst 2, 1) := by decide +kernel
theorem dX8_readStrip_32 : decode cX8_readStrip 32 = .ok (.if_icmp .eq 5, 3) := by decide +kernel
theorem dX8_readStrip_35 : decode cX8_readStrip 35 = .ok (.iconst 0, 1) := by decide +kernel
theorem dX8_readStrip_36 : decode cX8_readStrip 36 = .ok (.ireturn, 1) := by decide +kernel
theorem dX8_readStrip_37 : decode cX8_readStrip 37 = .ok (.aload_n 1, 1) := by decide +kernel
theorem dX8_readStrip_38 : decode cX8_readStrip 38 = .ok (.iload_n 2, 1) := by decide +kernel
theorem dX8_readStrip_39 : decode cX8_readStrip 39 = .ok (.aload_n 0, 1) := by decide +kernel
theorem dX8_readStrip_40 : decode cX8_readStrip 40 = .ok (.getfield 9, 3) := by decide +kernel
theorem dX8_readStrip_43 : decode cX8_readStrip 43 = .ok (.aload_n 0, 1) := by decide +kernel
theorem dX8_readStrip_44 : decode cX8_readStrip 44 = .ok (.getfield 37, 3) := by decide +kernel
theorem dX8_readStrip_47 : decode cX8_readStrip 47 = .ok (.iaload, 1) := by decide +kernel
theorem dX8_readStrip_48 : decode cX8_readStrip 48 = .ok (.invokestatic 63, 3) := by decide +kernel
theorem dX8_readStrip_51 : decode cX8_readStrip 51 = .ok (.aload_n 0, 1) := by decide +kernel
theorem dX8_readStrip_52 : decode cX8_readStrip 52 = .ok (.getfield 9, 3) := by decide +kernel
theorem dX8_readStrip_55 : decode cX8_readStrip 55 = .ok (.aload_n 0, 1) := by decide +kernel
theorem dX8_readStrip_56 : decode cX8_readStrip 56 = .ok (.getfield 37, 3) := by decide +kernel
theorem dX8_readStrip_59 : decode cX8_readStrip 59 = .ok (.iconst 1, 1) := by decide +kernel
theorem dX8_readStrip_60 : decode cX8_readStrip 60 = .ok (.iadd, 1) := by decide +kernel
theorem dX8_readStrip_61 : decode cX8_readStrip 61 = .ok (.iaload, 1) := by decide +kernel
theorem dX8_readStrip_62 : decode cX8_readStrip 62 = .ok (.invokestatic 63, 3) := by decide +kernel
theorem dX8_readStrip_65 : decode cX8_readStrip 65 = .ok (.invokevirtual 67, 3) := by decide +kernel
theorem dX8_readStrip_68 : decode cX8_readStrip 68 = .ok (.iinc 2 1, 3) := by decide +kernel
theorem dX8_readStrip_71 : decode cX8_readStrip 71 = .ok (.goto (-69), 3) := by decide +kernel
theorem dX8_readStrip_74 : decode cX8_readStrip 74 = .ok (.aload_n 1, 1) := by decide +kernel
theorem dX8_readStrip_75 : decode cX8_readStrip 75 = .ok (.dup, 1) := by decide +kernel
theorem dX8_readStrip_76 : decode cX8_readStrip 76 = .ok (.getfield 48, 3) := by decide +kernel
theorem dX8_readStrip_79 : decode cX8_readStrip 79 = .ok (.iconst 1, 1) := by decide +kernel
theorem dX8_readStrip_80 : decode cX8_readStrip 80 = .ok (.iadd, 1) := by decide +kernel
theorem dX8_readStrip_81 : decode cX8_readStrip 81 = .ok (.putfield 48, 3) := by decide +kernel
theorem dX8_readStrip_84 : decode cX8_readStrip 84 = .ok (.iconst 1, 1) := by decide +kernel
theorem dX8_readStrip_85 : decode cX8_readStrip 85 = .ok (.ireturn, 1) := by decide +kernel
theorem dX8_readWord_0 : decode cX8_readWord 0 = .ok (.aload_n 0, 1) := by decide +kernel
theorem dX8_readWord_1 : decode cX8_readWord 1 = .ok (.invokevirtual 27, 3) := by decide +kernel
theorem dX8_readWord_4 : decode cX8_readWord 4 = .ok (.aload_n 0, 1) := by decide +kernel
theorem dX8_readWord_5 : decode cX8_readWord 5 = .ok (.getfield 30, 3) := by decide +kernel
theorem dX8_readWord_8 : decode cX8_readWord 8 = .ok (.iconst 1, 1) := by decide +kernel
theorem dX8_readWord_9 : decode cX8_readWord 9 = .ok (.if_icmp .ne 17, 3) := by decide +kernel
theorem dX8_readWord_12 : decode cX8_readWord 12 = .ok (.aload_n 0, 1) := by decide +kernel
theorem dX8_readWord_13 : decode cX8_readWord 13 = .ok (.getfield 24, 3) := by decide +kernel
theorem dX8_readWord_16 : decode cX8_readWord 16 = .ok (.aload_n 0, 1) := by decide +kernel
theorem dX8_readWord_17 : decode cX8_readWord 17 = .ok (.getfield 37, 3) := by decide +kernel
theorem dX8_readWord_20 : decode cX8_readWord 20 = .ok (.isub, 1) := by decide +kernel
theorem dX8_readWord_21 : decode cX8_readWord 21 = .ok (.bipush 6, 2) := by decide +kernel
theorem dX8_readWord_23 : decode cX8_readWord 23 = .ok (.if_icmp .le 5, 3) := by decide +kernel
theorem dX8_readWord_26 : decode cX8_readWord 26 = .ok (.iconst 0, 1) := by decide +kernel
theorem dX8_readWord_27 : decode cX8_readWord 27 = .ok (.ireturn, 1) := by decide +kernel
theorem dX8_readWord_28 : decode cX8_readWord 28 = .ok (.iconst 0, 1) := by decide +kernel
theorem dX8_readWord_29 : decode cX8_readWord 29 = .ok (.istore_n 2, 1) := by decide +kernel
theorem dX8_readWord_30 : decode cX8_readWord 30 = .ok (.iload_n 2, 1) := by decide +kernel
theorem dX8_readWord_31 : decode cX8_readWord 31 = .ok (.aload_n 0, 1) := by decide +kernel
theorem dX8_readWord_32 : decode cX8_readWord 32 = .ok (.getfield 24, 3) := by decide +kernel
theorem dX8_readWord_35 : decode cX8_readWord 35 = .ok (.aload_n 0, 1) := by decide +kernel
theorem dX8_readWord_36 : decode cX8_readWord 36 = .ok (.getfield 37, 3) := by decide +kernel
theorem dX8_readWord_39 : decode cX8_readWord 39 = .ok (.isub, 1) := by decide +kernel
theorem dX8_readWord_40 : decode cX8_readWord 40 = .ok (.if_icmp .ge 38, 3) := by decide +kernel
theorem dX8_readWord_43 : decode cX8_readWord 43 = .ok (.aload_n 0, 1) := by decide +kernel
theorem dX8_readWord_44 : decode cX8_readWord 44 = .ok (.getfield 9, 3) := by decide +kernel
theorem dX8_readWord_47 : decode cX8_readWord 47 = .ok (.aload_n 0, 1) := by decide +kernel
theorem dX8_readWord_48 : decode cX8_readWord 48 = .ok (.getfield 37, 3) := by decide +kernel
theorem dX8_readWord_51 : decode cX8_readWord 51 = .ok (.iload_n 2, 1) := by decide +kernel
theorem dX8_readWord_52 : decode cX8_readWord 52 = .ok (.iadd, 1) := by decide +kernel
theorem dX8_readWord_53 : decode cX8_readWord 53 = .ok (.iaload, 1) := by decide +kernel
theorem dX8_readWord_54 : decode cX8_readWord 54 = .ok (.invokestatic 63, 3) := by decide +kernel
theorem dX8_readWord_57 : decode cX8_readWord 57 = .ok (.istore_n 3, 1) := by decide +kernel
theorem dX8_readWord_58 : decode cX8_readWord 58 = .ok (.iload_n 3, 1) := by decide +kernel
theorem dX8_readWord_59 : decode cX8_readWord 59 = .ok (.bipush 26, 2) := by decide +kernel
theorem dX8_readWord_61 : decode cX8_readWord 61 = .ok (.if_icmp .ne 5, 3) := by decide +kernel
theorem dX8_readWord_64 : decode cX8_readWord 64 = .ok (.iconst 0, 1) := by decide +kernel
theorem dX8_readWord_65 : decode cX8_readWord 65 = .ok (.ireturn, 1) := by decide +kernel
theorem dX8_readWord_66 : decode cX8_readWord 66 = .ok (.aload_n 1, 1) := by decide +kernel
theorem dX8_readWord_67 : decode cX8_readWord 67 = .ok (.iload_n 2, 1) := by decide +kernel
theorem dX8_readWord_68 : decode cX8_readWord 68 = .ok (.iload_n 3, 1) := by decide +kernel
theorem dX8_readWord_69 : decode cX8_readWord 69 = .ok (.invokevirtual 71, 3) := by decide +kernel
theorem dX8_readWord_72 : decode cX8_readWord 72 = .ok (.iinc 2 1, 3) := by decide +kernel
theorem dX8_readWord_75 : decode cX8_readWord 75 = .ok (.goto (-45), 3) := by decide +kernel
theorem dX8_readWord_78 : decode cX8_readWord 78 = .ok (.aload_n 1, 1) := by decide +kernel
theorem dX8_readWord_79 : decode cX8_readWord 79 = .ok (.aload_n 0, 1) := by decide +kernel
theorem dX8_readWord_80 : decode cX8_readWord 80 = .ok (.getfield 24, 3) := by decide +kernel
theorem dX8_readWord_83 : decode cX8_readWord 83 = .ok (.aload_n 0, 1) := by decide +kernel
theorem dX8_readWord_84 : decode cX8_readWord 84 = .ok (.getfield 37, 3) := by decide +kernel
theorem dX8_readWord_87 : decode cX8_readWord 87 = .ok (.isub, 1) := by decide +kernel
theorem dX8_readWord_88 : decode cX8_readWord 88 = .ok (.invokevirtual 75, 3) := by decide +kernel
theorem dX8_readWord_91 : decode cX8_readWord 91 = .ok (.iconst 1, 1) := by decide +kernel
theorem dX8_readWord_92 : decode cX8_readWord 92 = .ok (.ireturn, 1) := by decide +kernel
theorem dX8_readStop_0 : decode cX8_readStop 0 = .ok (.aload_n 0, 1) := by decide +kernel
theorem dX8_readStop_1 : decode cX8_readStop 1 = .ok (.invokevirtual 27, 3) := by decide +kernel
theorem dX8_readStop_4 : decode cX8_readStop 4 = .ok (.aload_n 0, 1) := by decide +kernel
theorem dX8_readStop_5 : decode cX8_readStop 5 = .ok (.getfield 30, 3) := by decide +kernel
theorem dX8_readStop_8 : decode cX8_readStop 8 = .ok (.iconst 3, 1) := by decide +kernel
theorem dX8_readStop_9 : decode cX8_readStop 9 = .ok (.if_icmp .eq 5, 3) := by decide +kernel
theorem dX8_readStop_12 : decode cX8_readStop 12 = .ok (.iconst 0, 1) := by decide +kernel
theorem dX8_readStop_13 : decode cX8_readStop 13 = .ok (.ireturn, 1) := by decide +kernel
theorem dX8_readStop_14 : decode cX8_readStop 14 = .ok (.aload_n 0, 1) := by decide +kernel
theorem dX8_readStop_15 : decode cX8_readStop 15 = .ok (.invokevirtual 27, 3) := by decide +kernel
theorem dX8_readStop_18 : decode cX8_readStop 18 = .ok (.iconst 1, 1) := by decide +kernel
theorem dX8_readStop_19 : decode cX8_readStop 19 = .ok (.ireturn, 1) := by decide +kernel
theorem dX8_advance_0 : decode cX8_advance 0 = .ok (.aload_n 0, 1) := by decide +kernel
theorem dX8_advance_1 : decode cX8_advance 1 = .ok (.aload_n 0, 1) := by decide +kernel
theorem dX8_advance_2 : decode cX8_advance 2 = .ok (.getfield 24, 3) := by decide +kernel
theorem dX8_advance_5 : decode cX8_advance 5 = .ok (.putfield 37, 3) := by decide +kernel
theorem dX8_advance_8 : decode cX8_advance 8 = .ok (.aload_n 0, 1) := by decide +kernel
theorem dX8_advance_9 : decode cX8_advance 9 = .ok (.getfield 37, 3) := by decide +kernel
theorem dX8_advance_12 : decode cX8_advance 12 = .ok (.aload_n 0, 1) := by decide +kernel
theorem dX8_advance_13 : decode cX8_advance 13 = .ok (.getfield 15, 3) := by decide +kernel
theorem dX8_advance_16 : decode cX8_advance 16 = .ok (.if_icmp .ge 30, 3) := by decide +kernel
theorem dX8_advance_19 : decode cX8_advance 19 = .ok (.aload_n 0, 1) := by decide +kernel
theorem dX8_advance_20 : decode cX8_advance 20 = .ok (.getfield 9, 3) := by decide +kernel
theorem dX8_advance_23 : decode cX8_advance 23 = .ok (.aload_n 0, 1) := by decide +kernel
theorem dX8_advance_24 : decode cX8_advance 24 = .ok (.getfield 37, 3) := by decide +kernel
theorem dX8_advance_27 : decode cX8_advance 27 = .ok (.iaload, 1) := by decide +kernel
theorem dX8_advance_28 : decode cX8_advance 28 = .ok (.bipush 32, 2) := by decide +kernel
theorem dX8_advance_30 : decode cX8_advance 30 = .ok (.if_icmp .ne 16, 3) := by decide +kernel
theorem dX8_advance_33 : decode cX8_advance 33 = .ok (.aload_n 0, 1) := by decide +kernel
theorem dX8_advance_34 : decode cX8_advance 34 = .ok (.dup, 1) := by decide +kernel
theorem dX8_advance_35 : decode cX8_advance 35 = .ok (.getfield 37, 3) := by decide +kernel
theorem dX8_advance_38 : decode cX8_advance 38 = .ok (.iconst 1, 1) := by decide +kernel
theorem dX8_advance_39 : decode cX8_advance 39 = .ok (.iadd, 1) := by decide +kernel
theorem dX8_advance_40 : decode cX8_advance 40 = .ok (.putfield 37, 3) := by decide +kernel
theorem dX8_advance_43 : decode cX8_advance 43 = .ok (.goto (-35), 3) := by decide +kernel
theorem dX8_advance_46 : decode cX8_advance 46 = .ok (.aload_n 0, 1) := by decide +kernel
theorem dX8_advance_47 : decode cX8_advance 47 = .ok (.aload_n 0, 1) := by decide +kernel
theorem dX8_advance_48 : decode cX8_advance 48 = .ok (.getfield 37, 3) := by decide +kernel
theorem dX8_advance_51 : decode cX8_advance 51 = .ok (.putfield 24, 3) := by decide +kernel
theorem dX8_advance_54 : decode cX8_advance 54 = .ok (.aload_n 0, 1) := by decide +kernel
theorem dX8_advance_55 : decode cX8_advance 55 = .ok (.getfield 37, 3) := by decide +kernel
theorem dX8_advance_58 : decode cX8_advance 58 = .ok (.aload_n 0, 1) := by decide +kernel
theorem dX8_advance_59 : decode cX8_advance 59 = .ok (.getfield 15, 3) := by decide +kernel
theorem dX8_advance_62 : decode cX8_advance 62 = .ok (.if_icmp .lt 9, 3) := by decide +kernel
theorem dX8_advance_65 : decode cX8_advance 65 = .ok (.aload_n 0, 1) := by decide +kernel
theorem dX8_advance_66 : decode cX8_advance 66 = .ok (.iconst 0, 1) := by decide +kernel
theorem dX8_advance_67 : decode cX8_advance 67 = .ok (.putfield 30, 3) := by decide +kernel
theorem dX8_advance_70 : decode cX8_advance 70 = .ok (.return_, 1) := by decide +kernel
theorem dX8_advance_71 : decode cX8_advance 71 = .ok (.aload_n 0, 1) := by decide +kernel
theorem dX8_advance_72 : decode cX8_advance 72 = .ok (.aload_n 0, 1) := by decide +kernel
theorem dX8_advance_73 : decode cX8_advance 73 = .ok (.getfield 9, 3) := by decide +kernel
theorem dX8_advance_76 : decode cX8_advance 76 = .ok (.aload_n 0, 1) := by decide +kernel
theorem dX8_advance_77 : decode cX8_advance 77 = .ok (.getfield 37, 3) := by decide +kernel
theorem dX8_advance_80 : decode cX8_advance 80 = .ok (.iaload, 1) := by decide +kernel
theorem dX8_advance_81 : decode cX8_advance 81 = .ok (.invokestatic 79, 3) := by decide +kernel
theorem dX8_advance_84 : decode cX8_advance 84 = .ok (.putfield 30, 3) := by decide +kernel
theorem dX8_advance_87 : decode cX8_advance 87 = .ok (.aload_n 0, 1) := by decide +kernel
theorem dX8_advance_88 : decode cX8_advance 88 = .ok (.aload_n 0, 1) := by decide +kernel
theorem dX8_advance_89 : decode cX8_advance 89 = .ok (.getfield 37, 3) := by decide +kernel
theorem dX8_advance_92 : decode cX8_advance 92 = .ok (.iconst 1, 1) := by decide +kernel
theorem dX8_advance_93 : decode cX8_advance 93 = .ok (.iadd, 1) := by decide +kernel
theorem dX8_advance_94 : decode cX8_advance 94 = .ok (.putfield 24, 3) := by decide +kernel
theorem dX8_advance_97 : decode cX8_advance 97 = .ok (.aload_n 0, 1) := by decide +kernel
theorem dX8_advance_98 : decode cX8_advance 98 = .ok (.getfield 30, 3) := by decide +kernel
theorem dX8_advance_101 : decode cX8_advance 101 = .ok (.iconst 1, 1) := by decide +kernel
theorem dX8_advance_102 : decode cX8_advance 102 = .ok (.if_icmp .eq 11, 3) := by decide +kernel
theorem dX8_advance_105 : decode cX8_advance 105 = .ok (.aload_n 0, 1) := by decide +kernel
theorem dX8_advance_106 : decode cX8_advance 106 = .ok (.getfield 30, 3) := by decide +kernel
theorem dX8_advance_109 : decode cX8_advance 109 = .ok (.iconst 2, 1) := by decide +kernel
theorem dX8_advance_110 : decode cX8_advance 110 = .ok (.if_icmp .ne 7, 3) := by decide +kernel
theorem dX8_advance_113 : decode cX8_advance 113 = .ok (.iconst 1, 1) := by decide +kernel
theorem dX8_advance_114 : decode cX8_advance 114 = .ok (.goto 4, 3) := by decide +kernel
theorem dX8_advance_117 : decode cX8_advance 117 = .ok (.iconst 0, 1) := by decide +kernel
theorem dX8_advance_118 : decode cX8_advance 118 = .ok (.istore_n 1, 1) := by decide +kernel
theorem dX8_advance_119 : decode cX8_advance 119 = .ok (.iload_n 1, 1) := by decide +kernel
theorem dX8_advance_120 : decode cX8_advance 120 = .ok (.ifCond .eq 46, 3) := by decide +kernel
theorem dX8_advance_123 : decode cX8_advance 123 = .ok (.aload_n 0, 1) := by decide +kernel
theorem dX8_advance_124 : decode cX8_advance 124 = .ok (.getfield 24, 3) := by decide +kernel
theorem dX8_advance_127 : decode cX8_advance 127 = .ok (.aload_n 0, 1) := by decide +kernel
theorem dX8_advance_128 : decode cX8_advance 128 = .ok (.getfield 15, 3) := by decide +kernel
theorem dX8_advance_131 : decode cX8_advance 131 = .ok (.if_icmp .ge 35, 3) := by decide +kernel
theorem dX8_advance_134 : decode cX8_advance 134 = .ok (.aload_n 0, 1) := by decide +kernel
theorem dX8_advance_135 : decode cX8_advance 135 = .ok (.getfield 9, 3) := by decide +kernel
theorem dX8_advance_138 : decode cX8_advance 138 = .ok (.aload_n 0, 1) := by decide +kernel
theorem dX8_advance_139 : decode cX8_advance 139 = .ok (.getfield 24, 3) := by decide +kernel
theorem dX8_advance_142 : decode cX8_advance 142 = .ok (.iaload, 1) := by decide +kernel
theorem dX8_advance_143 : decode cX8_advance 143 = .ok (.invokestatic 79, 3) := by decide +kernel
theorem dX8_advance_146 : decode cX8_advance 146 = .ok (.aload_n 0, 1) := by decide +kernel
theorem dX8_advance_147 : decode cX8_advance 147 = .ok (.getfield 30, 3) := by decide +kernel
theorem dX8_advance_150 : decode cX8_advance 150 = .ok (.if_icmp .ne 16, 3) := by decide +kernel
theorem dX8_advance_153 : decode cX8_advance 153 = .ok (.aload_n 0, 1) := by decide +kernel
theorem dX8_advance_154 : decode cX8_advance 154 = .ok (.dup, 1) := by decide +kernel
theorem dX8_advance_155 : decode cX8_advance 155 = .ok (.getfield 24, 3) := by decide +kernel
theorem dX8_advance_158 : decode cX8_advance 158 = .ok (.iconst 1, 1) := by decide +kernel
theorem dX8_advance_159 : decode cX8_advance 159 = .ok (.iadd, 1) := by decide +kernel
theorem dX8_advance_160 : decode cX8_advance 160 = .ok (.putfield 24, 3) := by decide +kernel
theorem dX8_advance_163 : decode cX8_advance 163 = .ok (.goto (-44), 3) := by decide +kernel
theorem dX8_advance_166 : decode cX8_advance 166 = .ok (.return_, 1) := by decide +kernel
theorem dX8_tokenOf_0 : decode cX8_tokenOf 0 = .ok (.iload_n 0, 1) := by decide +kernel
theorem dX8_tokenOf_1 : decode cX8_tokenOf 1 = .ok (.bipush 97, 2) := by decide +kernel
theorem dX8_tokenOf_3 : decode cX8_tokenOf 3 = .ok (.if_icmp .lt 9, 3) := by decide +kernel
theorem dX8_tokenOf_6 : decode cX8_tokenOf 6 = .ok (.iload_n 0, 1) := by decide +kernel
theorem dX8_tokenOf_7 : decode cX8_tokenOf 7 = .ok (.bipush 122, 2) := by decide +kernel
theorem dX8_tokenOf_9 : decode cX8_tokenOf 9 = .ok (.if_icmp .le 9, 3) := by decide +kernel
theorem dX8_tokenOf_12 : decode cX8_tokenOf 12 = .ok (.iload_n 0, 1) := by decide +kernel
theorem dX8_tokenOf_13 : decode cX8_tokenOf 13 = .ok (.bipush 46, 2) := by decide +kernel
theorem dX8_tokenOf_15 : decode cX8_tokenOf 15 = .ok (.if_icmp .ne 5, 3) := by decide +kernel
theorem dX8_tokenOf_18 : decode cX8_tokenOf 18 = .ok (.iconst 1, 1) := by decide +kernel
theorem dX8_tokenOf_19 : decode cX8_tokenOf 19 = .ok (.ireturn, 1) := by decide +kernel
theorem dX8_tokenOf_20 : decode cX8_tokenOf 20 = .ok (.iload_n 0, 1) := by decide +kernel
theorem dX8_tokenOf_21 : decode cX8_tokenOf 21 = .ok (.bipush 48, 2) := by decide +kernel
theorem dX8_tokenOf_23 : decode cX8_tokenOf 23 = .ok (.if_icmp .lt 11, 3) := by decide +kernel
theorem dX8_tokenOf_26 : decode cX8_tokenOf 26 = .ok (.iload_n 0, 1) := by decide +kernel
theorem dX8_tokenOf_27 : decode cX8_tokenOf 27 = .ok (.bipush 57, 2) := by decide +kernel
theorem dX8_tokenOf_29 : decode cX8_tokenOf 29 = .ok (.if_icmp .gt 5, 3) := by decide +kernel
theorem dX8_tokenOf_32 : decode cX8_tokenOf 32 = .ok (.iconst 2, 1) := by decide +kernel
theorem dX8_tokenOf_33 : decode cX8_tokenOf 33 = .ok (.ireturn, 1) := by decide +kernel
theorem dX8_tokenOf_34 : decode cX8_tokenOf 34 = .ok (.iload_n 0, 1) := by decide +kernel
theorem dX8_tokenOf_35 : decode cX8_tokenOf 35 = .ok (.bipush 59, 2) := by decide +kernel
theorem dX8_tokenOf_37 : decode cX8_tokenOf 37 = .ok (.if_icmp .ne 7, 3) := by decide +kernel
theorem dX8_tokenOf_40 : decode cX8_tokenOf 40 = .ok (.iconst 3, 1) := by decide +kernel
theorem dX8_tokenOf_41 : decode cX8_tokenOf 41 = .ok (.goto 4, 3) := by decide +kernel
theorem dX8_tokenOf_44 : decode cX8_tokenOf 44 = .ok (.iconst 4, 1) := by decide +kernel
theorem dX8_tokenOf_45 : decode cX8_tokenOf 45 = .ok (.ireturn, 1) := by decide +kernel
theorem dX8_signOf_0 : decode cX8_signOf 0 = .ok (.iload_n 0, 1) := by decide +kernel
theorem dX8_signOf_1 : decode cX8_signOf 1 = .ok (.bipush 46, 2) := by decide +kernel
theorem dX8_signOf_3 : decode cX8_signOf 3 = .ok (.if_icmp .ne 8, 3) := by decide +kernel
theorem dX8_signOf_6 : decode cX8_signOf 6 = .ok (.bipush 26, 2) := by decide +kernel
theorem dX8_signOf_8 : decode cX8_signOf 8 = .ok (.goto 7, 3) := by decide +kernel
theorem dX8_signOf_11 : decode cX8_signOf 11 = .ok (.iload_n 0, 1) := by decide +kernel
theorem dX8_signOf_12 : decode cX8_signOf 12 = .ok (.bipush 97, 2) := by decide +kernel
theorem dX8_signOf_14 : decode cX8_signOf 14 = .ok (.isub, 1) := by decide +kernel
theorem dX8_signOf_15 : decode cX8_signOf 15 = .ok (.ireturn, 1) := by decide +kernel
theorem dX9_init_0 : decode cX9_init 0 = .ok (.aload_n 0, 1) := by decide +kernel
theorem dX9_init_1 : decode cX9_init 1 = .ok (.invokespecial 3, 3) := by decide +kernel
theorem dX9_init_4 : decode cX9_init 4 = .ok (.aload_n 0, 1) := by decide +kernel
theorem dX9_init_5 : decode cX9_init 5 = .ok (.new 9, 3) := by decide +kernel
theorem dX9_init_8 : decode cX9_init 8 = .ok (.dup, 1) := by decide +kernel
theorem dX9_init_9 : decode cX9_init 9 = .ok (.invokespecial 11, 3) := by decide +kernel
theorem dX9_init_12 : decode cX9_init 12 = .ok (.putfield 12, 3) := by decide +kernel
theorem dX9_init_15 : decode cX9_init 15 = .ok (.aload_n 0, 1) := by decide +kernel
theorem dX9_init_16 : decode cX9_init 16 = .ok (.bipush 21, 2) := by decide +kernel
theorem dX9_init_18 : decode cX9_init 18 = .ok (.newarray .int, 2) := by decide +kernel
theorem dX9_init_20 : decode cX9_init 20 = .ok (.putfield 18, 3) := by decide +kernel
theorem dX9_init_23 : decode cX9_init 23 = .ok (.aload_n 0, 1) := by decide +kernel
theorem dX9_init_24 : decode cX9_init 24 = .ok (.iload_n 1, 1) := by decide +kernel
theorem dX9_init_25 : decode cX9_init 25 = .ok (.putfield 22, 3) := by decide +kernel
theorem dX9_init_28 : decode cX9_init 28 = .ok (.aload_n 0, 1) := by decide +kernel
theorem dX9_init_29 : decode cX9_init 29 = .ok (.iload_n 2, 1) := by decide +kernel
theorem dX9_init_30 : decode cX9_init 30 = .ok (.putfield 26, 3) := by decide +kernel
theorem dX9_init_33 : decode cX9_init 33 = .ok (.return_, 1) := by decide +kernel
theorem dX9_search_0 : decode cX9_search 0 = .ok (.aload_n 0, 1) := by decide +kernel
theorem dX9_search_1 : decode cX9_search 1 = .ok (.aload_n 2, 1) := by decide +kernel
theorem dX9_search_2 : decode cX9_search 2 = .ok (.invokevirtual 29, 3) := by decide +kernel
theorem dX9_search_5 : decode cX9_search 5 = .ok (.aload_n 0, 1) := by decide +kernel
theorem dX9_search_6 : decode cX9_search 6 = .ok (.getfield 12, 3) := by decide +kernel
theorem dX9_search_9 : decode cX9_search 9 = .ok (.aload_n 2, 1) := by decide +kernel
theorem dX9_search_10 : decode cX9_search 10 = .ok (.invokevirtual 33, 3) := by decide +kernel
theorem dX9_search_13 : decode cX9_search 13 = .ok (.iconst 0, 1) := by decide +kernel
theorem dX9_search_14 : decode cX9_search 14 = .ok (.istore_n 3, 1) := by decide +kernel
theorem dX9_search_15 : decode cX9_search 15 = .ok (.iload_n 3, 1) := by decide +kernel
theorem dX9_search_16 : decode cX9_search 16 = .ok (.iconst 3, 1) := by decide +kernel
theorem dX9_search_17 : decode cX9_search 17 = .ok (.if_icmp .ge 16, 3) := by decide +kernel
theorem dX9_search_20 : decode cX9_search 20 = .ok (.aload_n 0, 1) := by decide +kernel
theorem dX9_search_21 : decode cX9_search 21 = .ok (.getfield 18, 3) := by decide +kernel
theorem dX9_search_24 : decode cX9_search 24 = .ok (.iload_n 3, 1) := by decide +kernel
theorem dX9_search_25 : decode cX9_search 25 = .ok (.iconst 1, 1) := by decide +kernel
theorem dX9_search_26 : decode cX9_search 26 = .ok (.iastore, 1) := by decide +kernel
theorem dX9_search_27 : decode cX9_search 27 = .ok (.iinc 3 1, 3) := by decide +kernel
theorem dX9_search_30 : decode cX9_search 30 = .ok (.goto (-15), 3) := by decide +kernel
theorem dX9_search_33 : decode cX9_search 33 = .ok (.aload_n 0, 1) := by decide +kernel
theorem dX9_search_34 : decode cX9_search 34 = .ok (.aload_n 1, 1) := by decide +kernel
theorem dX9_search_35 : decode cX9_search 35 = .ok (.iconst 0, 1) := by decide +kernel
theorem dX9_search_36 : decode cX9_search 36 = .ok (.aload_n 2, 1) := by decide +kernel
theorem dX9_search_37 : decode cX9_search 37 = .ok (.invokevirtual 38, 3) := by decide +kernel
theorem dX9_search_40 : decode cX9_search 40 = .ok (.iconst 0, 1) := by decide +kernel
theorem dX9_search_41 : decode cX9_search 41 = .ok (.invokevirtual 42, 3) := by decide +kernel
theorem dX9_search_44 : decode cX9_search 44 = .ok (.return_, 1) := by decide +kernel
theorem dX9_lengthen_0 : decode cX9_lengthen 0 = .ok (.iload_n 2, 1) := by decide +kernel
theorem dX9_lengthen_1 : decode cX9_lengthen 1 = .ok (.aload_n 0, 1) := by decide +kernel
theorem dX9_lengthen_2 : decode cX9_lengthen 2 = .ok (.getfield 12, 3) := by decide +kernel
theorem dX9_lengthen_5 : decode cX9_lengthen 5 = .ok (.getfield 46, 3) := by decide +kernel
theorem dX9_lengthen_8 : decode cX9_lengthen 8 = .ok (.if_icmp .lt 27, 3) := by decide +kernel
theorem dX9_lengthen_11 : decode cX9_lengthen 11 = .ok (.aload_n 0, 1) := by decide +kernel
theorem dX9_lengthen_12 : decode cX9_lengthen 12 = .ok (.getfield 26, 3) := by decide +kernel
theorem dX9_lengthen_15 : decode cX9_lengthen 15 = .ok (.ifCond .eq 12, 3) := by decide +kernel
theorem dX9_lengthen_18 : decode cX9_lengthen 18 = .ok (.aload_n 0, 1) := by decide +kernel
theorem dX9_lengthen_19 : decode cX9_lengthen 19 = .ok (.aload_n 1, 1) := by decide +kernel
theorem dX9_lengthen_20 : decode cX9_lengthen 20 = .ok (.iload_n 2, 1) := by decide +kernel
theorem dX9_lengthen_21 : decode cX9_lengthen 21 = .ok (.invokevirtual 50, 3) := by decide +kernel
theorem dX9_lengthen_24 : decode cX9_lengthen 24 = .ok (.ifCond .eq 10, 3) := by decide +kernel
theorem dX9_lengthen_27 : decode cX9_lengthen 27 = .ok (.aload_n 0, 1) := by decide +kernel
theorem dX9_lengthen_28 : decode cX9_lengthen 28 = .ok (.aload_n 1, 1) := by decide +kernel
theorem dX9_lengthen_29 : decode cX9_lengthen 29 = .ok (.iload 4, 2) := by decide +kernel
theorem dX9_lengthen_31 : decode cX9_lengthen 31 = .ok (.invokevirtual 54, 3) := by decide +kernel
theorem dX9_lengthen_34 : decode cX9_lengthen 34 = .ok (.return_, 1) := by decide +kernel
theorem dX9_lengthen_35 : decode cX9_lengthen 35 = .ok (.iconst 0, 1) := by decide +kernel
theorem dX9_lengthen_36 : decode cX9_lengthen 36 = .ok (.istore 5, 2) := by decide +kernel
theorem dX9_lengthen_38 : decode cX9_lengthen 38 = .ok (.iload 5, 2) := by decide +kernel
theorem dX9_lengthen_40 : decode cX9_lengthen 40 = .ok (.aload_n 1, 1) := by decide +kernel
theorem dX9_lengthen_41 : decode cX9_lengthen 41 = .ok (.getfield 58, 3) := by decide +kernel
theorem dX9_lengthen_44 : decode cX9_lengthen 44 = .ok (.if_icmp .ge 96, 3) := by decide +kernel
theorem dX9_lengthen_47 : decode cX9_lengthen 47 = .ok (.iconst 0, 1) := by decide +kernel
theorem dX9_lengthen_48 : decode cX9_lengthen 48 = .ok (.istore 6, 2) := by decide +kernel
theorem dX9_lengthen_50 : decode cX9_lengthen 50 = .ok (.iload 6, 2) := by decide +kernel
theorem dX9_lengthen_52 : decode cX9_lengthen 52 = .ok (.iconst 2, 1) := by decide +kernel
theorem dX9_lengthen_53 : decode cX9_lengthen 53 = .ok (.if_icmp .ge 81, 3) := by decide +kernel
theorem dX9_lengthen_56 : decode cX9_lengthen 56 = .ok (.iload_n 3, 1) := by decide +kernel
theorem dX9_lengthen_57 : decode cX9_lengthen 57 = .ok (.iload 5, 2) := by decide +kernel
theorem dX9_lengthen_59 : decode cX9_lengthen 59 = .ok (.ishr, 1) := by decide +kernel
theorem dX9_lengthen_60 : decode cX9_lengthen 60 = .ok (.iconst 1, 1) := by decide +kernel
theorem dX9_lengthen_61 : decode cX9_lengthen 61 = .ok (.iand, 1) := by decide +kernel
theorem dX9_lengthen_62 : decode cX9_lengthen 62 = .ok (.iconst 1, 1) := by decide +kernel
theorem dX9_lengthen_63 : decode cX9_lengthen 63 = .ok (.if_icmp .ne 65, 3) := by decide +kernel
theorem dX9_lengthen_66 : decode cX9_lengthen 66 = .ok (.aload_n 0, 1) := by decide +kernel
theorem dX9_lengthen_67 : decode cX9_lengthen 67 = .ok (.iload 5, 2) := by decide +kernel
theorem dX9_lengthen_69 : decode cX9_lengthen 69 = .ok (.iload 6, 2) := by decide +kernel
theorem dX9_lengthen_71 : decode cX9_lengthen 71 = .ok (.invokevirtual 63, 3) := by decide +kernel
theorem dX9_lengthen_74 : decode cX9_lengthen 74 = .ok (.ifCond .eq 54, 3) := by decide +kernel
theorem dX9_lengthen_77 : decode cX9_lengthen 77 = .ok (.aload_n 0, 1) := by decide +kernel
theorem dX9_lengthen_78 : decode cX9_lengthen 78 = .ok (.aload_n 1, 1) := by decide +kernel
theorem dX9_lengthen_79 : decode cX9_lengthen 79 = .ok (.iload_n 2, 1) := by decide +kernel
theorem dX9_lengthen_80 : decode cX9_lengthen 80 = .ok (.iload 5, 2) := by decide +kernel
theorem dX9_lengthen_82 : decode cX9_lengthen 82 = .ok (.iload 6, 2) := by decide +kernel
theorem dX9_lengthen_84 : decode cX9_lengthen 84 = .ok (.invokevirtual 67, 3) := by decide +kernel
theorem dX9_lengthen_87 : decode cX9_lengthen 87 = .ok (.ifCond .eq 41, 3) := by decide +kernel
theorem dX9_lengthen_90 : decode cX9_lengthen 90 = .ok (.aload_n 0, 1) := by decide +kernel
theorem dX9_lengthen_91 : decode cX9_lengthen 91 = .ok (.getfield 12, 3) := by decide +kernel
theorem dX9_lengthen_94 : decode cX9_lengthen 94 = .ok (.iload_n 2, 1) := by decide +kernel
theorem dX9_lengthen_95 : decode cX9_lengthen 95 = .ok (.iload 5, 2) := by decide +kernel
theorem dX9_lengthen_97 : decode cX9_lengthen 97 = .ok (.iload 6, 2) := by decide +kernel
theorem dX9_lengthen_99 : decode cX9_lengthen 99 = .ok (.invokevirtual 71, 3) := by decide +kernel
theorem dX9_lengthen_102 : decode cX9_lengthen 102 = .ok (.aload_n 0, 1) := by decide +kernel
theorem dX9_lengthen_103 : decode cX9_lengthen 103 = .ok (.aload_n 1, 1) := by decide +kernel
theorem dX9_lengthen_104 : decode cX9_lengthen 104 = .ok (.iload_n 2, 1) := by decide +kernel
theorem dX9_lengthen_105 : decode cX9_lengthen 105 = .ok (.iconst 1, 1) := by decide +kernel
theorem dX9_lengthen_106 : decode cX9_lengthen 106 = .ok (.iadd, 1) := by decide +kernel
theorem dX9_lengthen_107 : decode cX9_lengthen 107 = .ok (.iload_n 3, 1) := by decide +kernel
theorem dX9_lengthen_108 : decode cX9_lengthen 108 = .ok (.iconst 1, 1) := by decide +kernel
theorem dX9_lengthen_109 : decode cX9_lengthen 109 = .ok (.iload 5, 2) := by decide +kernel
theorem dX9_lengthen_111 : decode cX9_lengthen 111 = .ok (.ishl, 1) := by decide +kernel
theorem dX9_lengthen_112 : decode cX9_lengthen 112 = .ok (.iconst (-1), 1) := by decide +kernel
theorem dX9_lengthen_113 : decode cX9_lengthen 113 = .ok (.ixor, 1) := by decide +kernel
theorem dX9_lengthen_114 : decode cX9_lengthen 114 = .ok (.iand, 1) := by decide +kernel
theorem dX9_lengthen_115 : decode cX9_lengthen 115 = .ok (.iload 4, 2) := by decide +kernel
theorem dX9_lengthen_117 : decode cX9_lengthen 117 = .ok (.bipush 10, 2) := by decide +kernel
theorem dX9_lengthen_119 : decode cX9_lengthen 119 = .ok (.imul, 1) := by decide +kernel
theorem dX9_lengthen_120 : decode cX9_lengthen 120 = .ok (.iload 5, 2) := by decide +kernel
theorem dX9_lengthen_122 : decode cX9_lengthen 122 = .ok (.iadd, 1) := by decide +kernel
theorem dX9_lengthen_123 : decode cX9_lengthen 123 = .ok (.iconst 1, 1) := by decide +kernel
theorem dX9_lengthen_124 : decode cX9_lengthen 124 = .ok (.iadd, 1) := by decide +kernel
theorem dX9_lengthen_125 : decode cX9_lengthen 125 = .ok (.invokevirtual 42, 3) := by decide +kernel
theorem dX9_lengthen_128 : decode cX9_lengthen 128 = .ok (.iinc 6 1, 3) := by decide +kernel
theorem dX9_lengthen_131 : decode cX9_lengthen 131 = .ok (.goto (-81), 3) := by decide +kernel
theorem dX9_lengthen_134 : decode cX9_lengthen 134 = .ok (.iinc 5 1, 3) := by decide +kernel
theorem dX9_lengthen_137 : decode cX9_lengthen 137 = .ok (.goto (-99), 3) := by decide +kernel
theorem dX9_lengthen_140 : decode cX9_lengthen 140 = .ok (.return_, 1) := by decide +kernel
theorem dX9_mayLie_0 : decode cX9_mayLie 0 = .ok (.aload_n 0, 1) := by decide +kernel
theorem dX9_mayLie_1 : decode cX9_mayLie 1 = .ok (.getfield 22, 3) := by decide +kernel
theorem dX9_mayLie_4 : decode cX9_mayLie 4 = .ok (.ifCond .ne 15, 3) := by decide +kernel
theorem dX9_mayLie_7 : decode cX9_mayLie 7 = .ok (.aload_n 0, 1) := by decide +kernel
theorem dX9_mayLie_8 : decode cX9_mayLie 8 = .ok (.getfield 12, 3) := by decide +kernel
theorem dX9_mayLie_11 : decode cX9_mayLie 11 = .ok (.iload_n 1, 1) := by decide +kernel
theorem dX9_mayLie_12 : decode cX9_mayLie 12 = .ok (.invokevirtual 75, 3) := by decide +kernel
theorem dX9_mayLie_15 : decode cX9_mayLie 15 = .ok (.iload_n 2, 1) := by decide +kernel
theorem dX9_mayLie_16 : decode cX9_mayLie 16 = .ok (.if_icmp .ne 7, 3) := by decide +kernel
theorem dX9_mayLie_19 : decode cX9_mayLie 19 = .ok (.iconst 1, 1) := by decide +kernel
theorem dX9_mayLie_20 : decode cX9_mayLie 20 = .ok (.goto 4, 3) := by decide +kernel
theorem dX9_mayLie_23 : decode cX9_mayLie 23 = .ok (.iconst 0, 1) := by decide +kernel
theorem dX9_mayLie_24 : decode cX9_mayLie 24 = .ok (.ireturn, 1) := by decide +kernel
theorem dX9_goesOn_0 : decode cX9_goesOn 0 = .ok (.aload_n 0, 1) := by decide +kernel
theorem dX9_goesOn_1 : decode cX9_goesOn 1 = .ok (.getfield 26, 3) := by decide +kernel
theorem dX9_goesOn_4 : decode cX9_goesOn 4 = .ok (.ifCond .ne 5, 3) := by decide +kernel
theorem dX9_goesOn_7 : decode cX9_goesOn 7 = .ok (.iconst 1, 1) := by decide +kernel
theorem dX9_goesOn_8 : decode cX9_goesOn 8 = .ok (.ireturn, 1) := by decide +kernel
theorem dX9_goesOn_9 : decode cX9_goesOn 9 = .ok (.iload_n 2, 1) := by decide +kernel
theorem dX9_goesOn_10 : decode cX9_goesOn 10 = .ok (.iconst 3, 1) := by decide +kernel
theorem dX9_goesOn_11 : decode cX9_goesOn 11 = .ok (.imul, 1) := by decide +kernel
theorem dX9_goesOn_12 : decode cX9_goesOn 12 = .ok (.istore 5, 2) := by decide +kernel
theorem dX9_goesOn_14 : decode cX9_goesOn 14 = .ok (.iconst 0, 1) := by decide +kernel
theorem dX9_goesOn_15 : decode cX9_goesOn 15 = .ok (.istore 6, 2) := by decide +kernel
theorem dX9_goesOn_17 : decode cX9_goesOn 17 = .ok (.iload 6, 2) := by decide +kernel
theorem dX9_goesOn_19 : decode cX9_goesOn 19 = .ok (.aload_n 1, 1) := by decide +kernel
theorem dX9_goesOn_20 : decode cX9_goesOn 20 = .ok (.getfield 79, 3) := by decide +kernel
theorem dX9_goesOn_23 : decode cX9_goesOn 23 = .ok (.if_icmp .ge 51, 3) := by decide +kernel
theorem dX9_goesOn_26 : decode cX9_goesOn 26 = .ok (.aload_n 1, 1) := by decide +kernel
theorem dX9_goesOn_27 : decode cX9_goesOn 27 = .ok (.aload_n 0, 1) := by decide +kernel
theorem dX9_goesOn_28 : decode cX9_goesOn 28 = .ok (.getfield 18, 3) := by decide +kernel
theorem dX9_goesOn_31 : decode cX9_goesOn 31 = .ok (.iload 5, 2) := by decide +kernel
theorem dX9_goesOn_33 : decode cX9_goesOn 33 = .ok (.iload 6, 2) := by decide +kernel
theorem dX9_goesOn_35 : decode cX9_goesOn 35 = .ok (.iadd, 1) := by decide +kernel
theorem dX9_goesOn_36 : decode cX9_goesOn 36 = .ok (.iaload, 1) := by decide +kernel
theorem dX9_goesOn_37 : decode cX9_goesOn 37 = .ok (.iload_n 3, 1) := by decide +kernel
theorem dX9_goesOn_38 : decode cX9_goesOn 38 = .ok (.iload 4, 2) := by decide +kernel
theorem dX9_goesOn_40 : decode cX9_goesOn 40 = .ok (.iload 6, 2) := by decide +kernel
theorem dX9_goesOn_42 : decode cX9_goesOn 42 = .ok (.invokevirtual 82, 3) := by decide +kernel
theorem dX9_goesOn_45 : decode cX9_goesOn 45 = .ok (.istore 7, 2) := by decide +kernel
theorem dX9_goesOn_47 : decode cX9_goesOn 47 = .ok (.iload 7, 2) := by decide +kernel
theorem dX9_goesOn_49 : decode cX9_goesOn 49 = .ok (.ifCond .ne 5, 3) := by decide +kernel
theorem dX9_goesOn_52 : decode cX9_goesOn 52 = .ok (.iconst 0, 1) := by decide +kernel
theorem dX9_goesOn_53 : decode cX9_goesOn 53 = .ok (.ireturn, 1) := by decide +kernel
theorem dX9_goesOn_54 : decode cX9_goesOn 54 = .ok (.aload_n 0, 1) := by decide +kernel
theorem dX9_goesOn_55 : decode cX9_goesOn 55 = .ok (.getfield 18, 3) := by decide +kernel
theorem dX9_goesOn_58 : decode cX9_goesOn 58 = .ok (.iload 5, 2) := by decide +kernel
theorem dX9_goesOn_60 : decode cX9_goesOn 60 = .ok (.iconst 3, 1) := by decide +kernel
theorem dX9_goesOn_61 : decode cX9_goesOn 61 = .ok (.iadd, 1) := by decide +kernel
theorem dX9_goesOn_62 : decode cX9_goesOn 62 = .ok (.iload 6, 2) := by decide +kernel
theorem dX9_goesOn_64 : decode cX9_goesOn 64 = .ok (.iadd, 1) := by decide +kernel
theorem dX9_goesOn_65 : decode cX9_goesOn 65 = .ok (.iload 7, 2) := by decide +kernel
theorem dX9_goesOn_67 : decode cX9_goesOn 67 = .ok (.iastore, 1) := by decide +kernel
theorem dX9_goesOn_68 : decode cX9_goesOn 68 = .ok (.iinc 6 1, 3) := by decide +kernel
theorem dX9_goesOn_71 : decode cX9_goesOn 71 = .ok (.goto (-54), 3) := by decide +kernel
theorem dX9_goesOn_74 : decode cX9_goesOn 74 = .ok (.iconst 1, 1) := by decide +kernel
theorem dX9_goesOn_75 : decode cX9_goesOn 75 = .ok (.ireturn, 1) := by decide +kernel
theorem dX9_endsRight_0 : decode cX9_endsRight 0 = .ok (.iload_n 2, 1) := by decide +kernel
theorem dX9_endsRight_1 : decode cX9_endsRight 1 = .ok (.iconst 3, 1) := by decide +kernel
theorem dX9_endsRight_2 : decode cX9_endsRight 2 = .ok (.imul, 1) := by decide +kernel
theorem dX9_endsRight_3 : decode cX9_endsRight 3 = .ok (.istore_n 3, 1) := by decide +kernel
theorem dX9_endsRight_4 : decode cX9_endsRight 4 = .ok (.iconst 0, 1) := by decide +kernel
theorem dX9_endsRight_5 : decode cX9_endsRight 5 = .ok (.istore 4, 2) := by decide +kernel
theorem dX9_endsRight_7 : decode cX9_endsRight 7 = .ok (.iload 4, 2) := by decide +kernel
theorem dX9_endsRight_9 : decode cX9_endsRight 9 = .ok (.aload_n 1, 1) := by decide +kernel
theorem dX9_endsRight_10 : decode cX9_endsRight 10 = .ok (.getfield 79, 3) := by decide +kernel
theorem dX9_endsRight_13 : decode cX9_endsRight 13 = .ok (.if_icmp .ge 30, 3) := by decide +kernel
theorem dX9_endsRight_16 : decode cX9_endsRight 16 = .ok (.aload_n 1, 1) := by decide +kernel
theorem dX9_endsRight_17 : decode cX9_endsRight 17 = .ok (.getfield 86, 3) := by decide +kernel
theorem dX9_endsRight_20 : decode cX9_endsRight 20 = .ok (.aload_n 0, 1) := by decide +kernel
theorem dX9_endsRight_21 : decode cX9_endsRight 21 = .ok (.getfield 18, 3) := by decide +kernel
theorem dX9_endsRight_24 : decode cX9_endsRight 24 = .ok (.iload_n 3, 1) := by decide +kernel
theorem dX9_endsRight_25 : decode cX9_endsRight 25 = .ok (.iload 4, 2) := by decide +kernel
theorem dX9_endsRight_27 : decode cX9_endsRight 27 = .ok (.iadd, 1) := by decide +kernel
theorem dX9_endsRight_28 : decode cX9_endsRight 28 = .ok (.iaload, 1) := by decide +kernel
theorem dX9_endsRight_29 : decode cX9_endsRight 29 = .ok (.invokevirtual 90, 3) := by decide +kernel
theorem dX9_endsRight_32 : decode cX9_endsRight 32 = .ok (.ifCond .ne 5, 3) := by decide +kernel
theorem dX9_endsRight_35 : decode cX9_endsRight 35 = .ok (.iconst 0, 1) := by decide +kernel
theorem dX9_endsRight_36 : decode cX9_endsRight 36 = .ok (.ireturn, 1) := by decide +kernel
theorem dX9_endsRight_37 : decode cX9_endsRight 37 = .ok (.iinc 4 1, 3) := by decide +kernel
theorem dX9_endsRight_40 : decode cX9_endsRight 40 = .ok (.goto (-33), 3) := by decide +kernel
theorem dX9_endsRight_43 : decode cX9_endsRight 43 = .ok (.iconst 1, 1) := by decide +kernel
theorem dX9_endsRight_44 : decode cX9_endsRight 44 = .ok (.ireturn, 1) := by decide +kernel
theorem dX10_init_0 : decode cX10_init 0 = .ok (.aload_n 0, 1) := by decide +kernel
theorem dX10_init_1 : decode cX10_init 1 = .ok (.invokespecial 1, 3) := by decide +kernel
theorem dX10_init_4 : decode cX10_init 4 = .ok (.aload_n 0, 1) := by decide +kernel
theorem dX10_init_5 : decode cX10_init 5 = .ok (.new 7, 3) := by decide +kernel
theorem dX10_init_8 : decode cX10_init 8 = .ok (.dup, 1) := by decide +kernel
theorem dX10_init_9 : decode cX10_init 9 = .ok (.invokespecial 9, 3) := by decide +kernel
theorem dX10_init_12 : decode cX10_init 12 = .ok (.putfield 10, 3) := by decide +kernel
theorem dX10_init_15 : decode cX10_init 15 = .ok (.aload_n 0, 1) := by decide +kernel
theorem dX10_init_16 : decode cX10_init 16 = .ok (.new 16, 3) := by decide +kernel
theorem dX10_init_19 : decode cX10_init 19 = .ok (.dup, 1) := by decide +kernel
theorem dX10_init_20 : decode cX10_init 20 = .ok (.invokespecial 18, 3) := by decide +kernel
theorem dX10_init_23 : decode cX10_init 23 = .ok (.putfield 19, 3) := by decide +kernel
theorem dX10_init_26 : decode cX10_init 26 = .ok (.aload_n 0, 1) := by decide +kernel
theorem dX10_init_27 : decode cX10_init 27 = .ok (.new 16, 3) := by decide +kernel
theorem dX10_init_30 : decode cX10_init 30 = .ok (.dup, 1) := by decide +kernel
theorem dX10_init_31 : decode cX10_init 31 = .ok (.invokespecial 18, 3) := by decide +kernel
theorem dX10_init_34 : decode cX10_init 34 = .ok (.putfield 23, 3) := by decide +kernel
theorem dX10_init_37 : decode cX10_init 37 = .ok (.aload_n 0, 1) := by decide +kernel
theorem dX10_init_38 : decode cX10_init 38 = .ok (.new 26, 3) := by decide +kernel
theorem dX10_init_41 : decode cX10_init 41 = .ok (.dup, 1) := by decide +kernel
theorem dX10_init_42 : decode cX10_init 42 = .ok (.invokespecial 28, 3) := by decide +kernel
theorem dX10_init_45 : decode cX10_init 45 = .ok (.putfield 29, 3) := by decide +kernel
theorem dX10_init_48 : decode cX10_init 48 = .ok (.aload_n 0, 1) := by decide +kernel
theorem dX10_init_49 : decode cX10_init 49 = .ok (.new 26, 3) := by decide +kernel
theorem dX10_init_52 : decode cX10_init 52 = .ok (.dup, 1) := by decide +kernel
theorem dX10_init_53 : decode cX10_init 53 = .ok (.invokespecial 28, 3) := by decide +kernel
theorem dX10_init_56 : decode cX10_init 56 = .ok (.putfield 33, 3) := by decide +kernel
theorem dX10_init_59 : decode cX10_init 59 = .ok (.aload_n 0, 1) := by decide +kernel
theorem dX10_init_60 : decode cX10_init 60 = .ok (.new 26, 3) := by decide +kernel
theorem dX10_init_63 : decode cX10_init 63 = .ok (.dup, 1) := by decide +kernel
theorem dX10_init_64 : decode cX10_init 64 = .ok (.invokespecial 28, 3) := by decide +kernel
theorem dX10_init_67 : decode cX10_init 67 = .ok (.putfield 36, 3) := by decide +kernel
theorem dX10_init_70 : decode cX10_init 70 = .ok (.aload_n 0, 1) := by decide +kernel
theorem dX10_init_71 : decode cX10_init 71 = .ok (.new 39, 3) := by decide +kernel
theorem dX10_init_74 : decode cX10_init 74 = .ok (.dup, 1) := by decide +kernel
theorem dX10_init_75 : decode cX10_init 75 = .ok (.invokespecial 41, 3) := by decide +kernel
theorem dX10_init_78 : decode cX10_init 78 = .ok (.putfield 42, 3) := by decide +kernel
theorem dX10_init_81 : decode cX10_init 81 = .ok (.aload_n 0, 1) := by decide +kernel
theorem dX10_init_82 : decode cX10_init 82 = .ok (.new 46, 3) := by decide +kernel
theorem dX10_init_85 : decode cX10_init 85 = .ok (.dup, 1) := by decide +kernel
theorem dX10_init_86 : decode cX10_init 86 = .ok (.invokespecial 48, 3) := by decide +kernel
theorem dX10_init_89 : decode cX10_init 89 = .ok (.putfield 49, 3) := by decide +kernel
theorem dX10_init_92 : decode cX10_init 92 = .ok (.aload_n 0, 1) := by decide +kernel
theorem dX10_init_93 : decode cX10_init 93 = .ok (.new 53, 3) := by decide +kernel
theorem dX10_init_96 : decode cX10_init 96 = .ok (.dup, 1) := by decide +kernel
theorem dX10_init_97 : decode cX10_init 97 = .ok (.invokespecial 55, 3) := by decide +kernel
theorem dX10_init_100 : decode cX10_init 100 = .ok (.putfield 56, 3) := by decide +kernel
theorem dX10_init_103 : decode cX10_init 103 = .ok (.aload_n 0, 1) := by decide +kernel
theorem dX10_init_104 : decode cX10_init 104 = .ok (.new 60, 3) := by decide +kernel
theorem dX10_init_107 : decode cX10_init 107 = .ok (.dup, 1) := by decide +kernel
theorem dX10_init_108 : decode cX10_init 108 = .ok (.invokespecial 62, 3) := by decide +kernel
theorem dX10_init_111 : decode cX10_init 111 = .ok (.putfield 63, 3) := by decide +kernel
theorem dX10_init_114 : decode cX10_init 114 = .ok (.aload_n 0, 1) := by decide +kernel
theorem dX10_init_115 : decode cX10_init 115 = .ok (.new 67, 3) := by decide +kernel
theorem dX10_init_118 : decode cX10_init 118 = .ok (.dup, 1) := by decide +kernel
theorem dX10_init_119 : decode cX10_init 119 = .ok (.invokespecial 69, 3) := by decide +kernel
theorem dX10_init_122 : decode cX10_init 122 = .ok (.putfield 70, 3) := by decide +kernel
theorem dX10_init_125 : decode cX10_init 125 = .ok (.return_, 1) := by decide +kernel
theorem dX10_type_0 : decode cX10_type 0 = .ok (.iload_n 1, 1) := by decide +kernel
theorem dX10_type_1 : decode cX10_type 1 = .ok (.ifCond .lt 10, 3) := by decide +kernel
theorem dX10_type_4 : decode cX10_type 4 = .ok (.iload_n 1, 1) := by decide +kernel
theorem dX10_type_5 : decode cX10_type 5 = .ok (.sipush 255, 3) := by decide +kernel
theorem dX10_type_8 : decode cX10_type 8 = .ok (.if_icmp .le 5, 3) := by decide +kernel
theorem dX10_type_11 : decode cX10_type 11 = .ok (.iconst (-1), 1) := by decide +kernel
theorem dX10_type_12 : decode cX10_type 12 = .ok (.ireturn, 1) := by decide +kernel
theorem dX10_type_13 : decode cX10_type 13 = .ok (.aload_n 0, 1) := by decide +kernel
theorem dX10_type_14 : decode cX10_type 14 = .ok (.getfield 10, 3) := by decide +kernel
theorem dX10_type_17 : decode cX10_type 17 = .ok (.iload_n 1, 1) := by decide +kernel
theorem dX10_type_18 : decode cX10_type 18 = .ok (.invokevirtual 74, 3) := by decide +kernel
theorem dX10_type_21 : decode cX10_type 21 = .ok (.ifCond .eq 13, 3) := by decide +kernel
theorem dX10_type_24 : decode cX10_type 24 = .ok (.aload_n 0, 1) := by decide +kernel
theorem dX10_type_25 : decode cX10_type 25 = .ok (.getfield 10, 3) := by decide +kernel
theorem dX10_type_28 : decode cX10_type 28 = .ok (.getfield 78, 3) := by decide +kernel
theorem dX10_type_31 : decode cX10_type 31 = .ok (.goto 5, 3) := by decide +kernel
theorem dX10_type_34 : decode cX10_type 34 = .ok (.bipush (-3), 2) := by decide +kernel
theorem dX10_type_36 : decode cX10_type 36 = .ok (.ireturn, 1) := by decide +kernel
theorem dX10_clear_0 : decode cX10_clear 0 = .ok (.aload_n 0, 1) := by decide +kernel
theorem dX10_clear_1 : decode cX10_clear 1 = .ok (.getfield 10, 3) := by decide +kernel
theorem dX10_clear_4 : decode cX10_clear 4 = .ok (.invokevirtual 82, 3) := by decide +kernel
theorem dX10_clear_7 : decode cX10_clear 7 = .ok (.ireturn, 1) := by decide +kernel
theorem dX10_page_0 : decode cX10_page 0 = .ok (.aload_n 0, 1) := by decide +kernel
theorem dX10_page_1 : decode cX10_page 1 = .ok (.getfield 10, 3) := by decide +kernel
theorem dX10_page_4 : decode cX10_page 4 = .ok (.aload_n 0, 1) := by decide +kernel
theorem dX10_page_5 : decode cX10_page 5 = .ok (.getfield 23, 3) := by decide +kernel
theorem dX10_page_8 : decode cX10_page 8 = .ok (.invokevirtual 86, 3) := by decide +kernel
theorem dX10_page_11 : decode cX10_page 11 = .ok (.istore_n 1, 1) := by decide +kernel
theorem dX10_page_12 : decode cX10_page 12 = .ok (.iload_n 1, 1) := by decide +kernel
theorem dX10_page_13 : decode cX10_page 13 = .ok (.ifCond .ge 5, 3) := by decide +kernel
theorem dX10_page_16 : decode cX10_page 16 = .ok (.iload_n 1, 1) := by decide +kernel
theorem dX10_page_17 : decode cX10_page 17 = .ok (.ireturn, 1) := by decide +kernel
theorem dX10_page_18 : decode cX10_page 18 = .ok (.aload_n 0, 1) := by decide +kernel
theorem dX10_page_19 : decode cX10_page 19 = .ok (.getfield 19, 3) := by decide +kernel
theorem dX10_page_22 : decode cX10_page 22 = .ok (.astore_n 2, 1) := by decide +kernel
theorem dX10_page_23 : decode cX10_page 23 = .ok (.aload_n 0, 1) := by decide +kernel
theorem dX10_page_24 : decode cX10_page 24 = .ok (.aload_n 0, 1) := by decide +kernel
theorem dX10_page_25 : decode cX10_page 25 = .ok (.getfield 23, 3) := by decide +kernel
theorem dX10_page_28 : decode cX10_page 28 = .ok (.putfield 19, 3) := by decide +kernel
theorem dX10_page_31 : decode cX10_page 31 = .ok (.aload_n 0, 1) := by decide +kernel
theorem dX10_page_32 : decode cX10_page 32 = .ok (.aload_n 2, 1) := by decide +kernel
theorem dX10_page_33 : decode cX10_page 33 = .ok (.putfield 23, 3) := by decide +kernel
theorem dX10_page_36 : decode cX10_page 36 = .ok (.aload_n 0, 1) := by decide +kernel
theorem dX10_page_37 : decode cX10_page 37 = .ok (.getfield 10, 3) := by decide +kernel
theorem dX10_page_40 : decode cX10_page 40 = .ok (.invokevirtual 82, 3) := by decide +kernel
theorem dX10_page_43 : decode cX10_page 43 = .ok (.pop, 1) := by decide +kernel
theorem dX10_page_44 : decode cX10_page 44 = .ok (.aload_n 0, 1) := by decide +kernel
theorem dX10_page_45 : decode cX10_page 45 = .ok (.getfield 29, 3) := by decide +kernel
theorem dX10_page_48 : decode cX10_page 48 = .ok (.aload_n 0, 1) := by decide +kernel
theorem dX10_page_49 : decode cX10_page 49 = .ok (.getfield 19, 3) := by decide +kernel
theorem dX10_page_52 : decode cX10_page 52 = .ok (.getfield 90, 3) := by decide +kernel
theorem dX10_page_55 : decode cX10_page 55 = .ok (.invokevirtual 93, 3) := by decide +kernel
theorem dX10_page_58 : decode cX10_page 58 = .ok (.aload_n 0, 1) := by decide +kernel
theorem dX10_page_59 : decode cX10_page 59 = .ok (.getfield 56, 3) := by decide +kernel
theorem dX10_page_62 : decode cX10_page 62 = .ok (.invokevirtual 97, 3) := by decide +kernel
theorem dX10_page_65 : decode cX10_page 65 = .ok (.aload_n 0, 1) := by decide +kernel
theorem dX10_page_66 : decode cX10_page 66 = .ok (.invokevirtual 100, 3) := by decide +kernel
theorem dX10_page_69 : decode cX10_page 69 = .ok (.pop, 1) := by decide +kernel
theorem dX10_page_70 : decode cX10_page 70 = .ok (.aload_n 0, 1) := by decide +kernel
theorem dX10_page_71 : decode cX10_page 71 = .ok (.iconst 0, 1) := by decide +kernel
theorem dX10_page_72 : decode cX10_page 72 = .ok (.putfield 103, 3) := by decide +kernel
theorem dX10_page_75 : decode cX10_page 75 = .ok (.iload_n 1, 1) := by decide +kernel
theorem dX10_page_76 : decode cX10_page 76 = .ok (.ireturn, 1) := by decide +kernel
theorem dX10_strip_0 : decode cX10_strip 0 = .ok (.aload_n 0, 1) := by decide +kernel
theorem dX10_strip_1 : decode cX10_strip 1 = .ok (.iload_n 1, 1) := by decide +kernel
theorem dX10_strip_2 : decode cX10_strip 2 = .ok (.invokevirtual 106, 3) := by decide +kernel
theorem dX10_strip_5 : decode cX10_strip 5 = .ok (.ifCond .ne 5, 3) := by decide +kernel
theorem dX10_strip_8 : decode cX10_strip 8 = .ok (.iconst (-1), 1) := by decide +kernel
theorem dX10_strip_9 : decode cX10_strip 9 = .ok (.ireturn, 1) := by decide +kernel
theorem dX10_strip_10 : decode cX10_strip 10 = .ok (.iload_n 2, 1) := by decide +kernel
theorem dX10_strip_11 : decode cX10_strip 11 = .ok (.tableswitch 90 0 3 #[29, 41, 53, 62], 29) := by decide +kernel
theorem dX10_strip_40 : decode cX10_strip 40 = .ok (.aload_n 0, 1) := by decide +kernel
theorem dX10_strip_41 : decode cX10_strip 41 = .ok (.getfield 29, 3) := by decide +kernel
theorem dX10_strip_44 : decode cX10_strip 44 = .ok (.getfield 109, 3) := by decide +kernel
theorem dX10_strip_47 : decode cX10_strip 47 = .ok (.iload_n 1, 1) := by decide +kernel
theorem dX10_strip_48 : decode cX10_strip 48 = .ok (.invokevirtual 112, 3) := by decide +kernel
theorem dX10_strip_51 : decode cX10_strip 51 = .ok (.ireturn, 1) := by decide +kernel
theorem dX10_strip_52 : decode cX10_strip 52 = .ok (.aload_n 0, 1) := by decide +kernel
theorem dX10_strip_53 : decode cX10_strip 53 = .ok (.getfield 29, 3) := by decide +kernel
theorem dX10_strip_56 : decode cX10_strip 56 = .ok (.getfield 109, 3) := by decide +kernel
theorem dX10_strip_59 : decode cX10_strip 59 = .ok (.iload_n 1, 1) := by decide +kernel
theorem dX10_strip_60 : decode cX10_strip 60 = .ok (.invokevirtual 116, 3) := by decide +kernel
theorem dX10_strip_63 : decode cX10_strip 63 = .ok (.ireturn, 1) := by decide +kernel
theorem dX10_strip_64 : decode cX10_strip 64 = .ok (.aload_n 0, 1) := by decide +kernel
theorem dX10_strip_65 : decode cX10_strip 65 = .ok (.getfield 19, 3) := by decide +kernel
theorem dX10_strip_68 : decode cX10_strip 68 = .ok (.iload_n 1, 1) := by decide +kernel
theorem dX10_strip_69 : decode cX10_strip 69 = .ok (.invokevirtual 119, 3) := by decide +kernel
theorem dX10_strip_72 : decode cX10_strip 72 = .ok (.ireturn, 1) := by decide +kernel
theorem dX10_strip_73 : decode cX10_strip 73 = .ok (.aload_n 0, 1) := by decide +kernel
theorem dX10_strip_74 : decode cX10_strip 74 = .ok (.getfield 49, 3) := by decide +kernel
theorem dX10_strip_77 : decode cX10_strip 77 = .ok (.aload_n 0, 1) := by decide +kernel
theorem dX10_strip_78 : decode cX10_strip 78 = .ok (.getfield 19, 3) := by decide +kernel
theorem dX10_strip_81 : decode cX10_strip 81 = .ok (.aload_n 0, 1) := by decide +kernel
theorem dX10_strip_82 : decode cX10_strip 82 = .ok (.getfield 29, 3) := by decide +kernel
theorem dX10_strip_85 : decode cX10_strip 85 = .ok (.getfield 109, 3) := by decide +kernel
theorem dX10_strip_88 : decode cX10_strip 88 = .ok (.invokevirtual 122, 3) := by decide +kernel
theorem dX10_strip_91 : decode cX10_strip 91 = .ok (.aload_n 0, 1) := by decide +kernel
theorem dX10_strip_92 : decode cX10_strip 92 = .ok (.getfield 49, 3) := by decide +kernel
theorem dX10_strip_95 : decode cX10_strip 95 = .ok (.getfield 126, 3) := by decide +kernel
theorem dX10_strip_98 : decode cX10_strip 98 = .ok (.iload_n 1, 1) := by decide +kernel
theorem dX10_strip_99 : decode cX10_strip 99 = .ok (.iaload, 1) := by decide +kernel
theorem dX10_strip_100 : decode cX10_strip 100 = .ok (.ireturn, 1) := by decide +kernel
theorem dX10_strip_101 : decode cX10_strip 101 = .ok (.iconst (-1), 1) := by decide +kernel
theorem dX10_strip_102 : decode cX10_strip 102 = .ok (.ireturn, 1) := by decide +kernel
theorem dX10_sign_0 : decode cX10_sign 0 = .ok (.aload_n 0, 1) := by decide +kernel
theorem dX10_sign_1 : decode cX10_sign 1 = .ok (.iload_n 1, 1) := by decide +kernel
theorem dX10_sign_2 : decode cX10_sign 2 = .ok (.invokevirtual 106, 3) := by decide +kernel
theorem dX10_sign_5 : decode cX10_sign 5 = .ok (.ifCond .eq 20, 3) := by decide +kernel
theorem dX10_sign_8 : decode cX10_sign 8 = .ok (.aload_n 0, 1) := by decide +kernel
theorem dX10_sign_9 : decode cX10_sign 9 = .ok (.iload_n 2, 1) := by decide +kernel
theorem dX10_sign_10 : decode cX10_sign 10 = .ok (.invokevirtual 130, 3) := by decide +kernel
theorem dX10_sign_13 : decode cX10_sign 13 = .ok (.ifCond .eq 12, 3) := by decide +kernel
theorem dX10_sign_16 : decode cX10_sign 16 = .ok (.iload_n 3, 1) := by decide +kernel
theorem dX10_sign_17 : decode cX10_sign 17 = .ok (.ifCond .lt 8, 3) := by decide +kernel
theorem dX10_sign_20 : decode cX10_sign 20 = .ok (.iload_n 3, 1) := by decide +kernel
theorem dX10_sign_21 : decode cX10_sign 21 = .ok (.iconst 1, 1) := by decide +kernel
theorem dX10_sign_22 : decode cX10_sign 22 = .ok (.if_icmp .le 5, 3) := by decide +kernel
theorem dX10_sign_25 : decode cX10_sign 25 = .ok (.iconst (-1), 1) := by decide +kernel
theorem dX10_sign_26 : decode cX10_sign 26 = .ok (.ireturn, 1) := by decide +kernel
theorem dX10_sign_27 : decode cX10_sign 27 = .ok (.aload_n 0, 1) := by decide +kernel
theorem dX10_sign_28 : decode cX10_sign 28 = .ok (.getfield 19, 3) := by decide +kernel
theorem dX10_sign_31 : decode cX10_sign 31 = .ok (.iload_n 1, 1) := by decide +kernel
theorem dX10_sign_32 : decode cX10_sign 32 = .ok (.iconst 0, 1) := by decide +kernel
theorem dX10_sign_33 : decode cX10_sign 33 = .ok (.iload_n 2, 1) := by decide +kernel
theorem dX10_sign_34 : decode cX10_sign 34 = .ok (.iload_n 3, 1) := by decide +kernel
theorem dX10_sign_35 : decode cX10_sign 35 = .ok (.invokevirtual 133, 3) := by decide +kernel
theorem dX10_sign_38 : decode cX10_sign 38 = .ok (.invokestatic 137, 3) := by decide +kernel
theorem dX10_sign_41 : decode cX10_sign 41 = .ok (.ireturn, 1) := by decide +kernel
theorem dX10_place_0 : decode cX10_place 0 = .ok (.aload_n 0, 1) := by decide +kernel
theorem dX10_place_1 : decode cX10_place 1 = .ok (.iload_n 1, 1) := by decide +kernel
theorem dX10_place_2 : decode cX10_place 2 = .ok (.invokevirtual 140, 3) := by decide +kernel
theorem dX10_place_5 : decode cX10_place 5 = .ok (.ifCond .eq 18, 3) := by decide +kernel
theorem dX10_place_8 : decode cX10_place 8 = .ok (.aload_n 0, 1) := by decide +kernel
theorem dX10_place_9 : decode cX10_place 9 = .ok (.getfield 29, 3) := by decide +kernel
theorem dX10_place_12 : decode cX10_place 12 = .ok (.getfield 109, 3) := by decide +kernel
theorem dX10_place_15 : decode cX10_place 15 = .ok (.getfield 143, 3) := by decide +kernel
theorem dX10_place_18 : decode cX10_place 18 = .ok (.iload_n 1, 1) := by decide +kernel
theorem dX10_place_19 : decode cX10_place 19 = .ok (.iaload, 1) := by decide +kernel
theorem dX10_place_20 : decode cX10_place 20 = .ok (.goto 4, 3) := by decide +kernel
theorem dX10_place_23 : decode cX10_place 23 = .ok (.iconst (-1), 1) := by decide +kernel
theorem dX10_place_24 : decode cX10_place 24 = .ok (.ireturn, 1) := by decide +kernel
theorem dX10_word_0 : decode cX10_word 0 = .ok (.iload_n 1, 1) := by decide +kernel
theorem dX10_word_1 : decode cX10_word 1 = .ok (.ifCond .lt 24, 3) := by decide +kernel
theorem dX10_word_4 : decode cX10_word 4 = .ok (.iload_n 1, 1) := by decide +kernel
theorem dX10_word_5 : decode cX10_word 5 = .ok (.aload_n 0, 1) := by decide +kernel
theorem dX10_word_6 : decode cX10_word 6 = .ok (.getfield 19, 3) := by decide +kernel
theorem dX10_word_9 : decode cX10_word 9 = .ok (.getfield 145, 3) := by decide +kernel
theorem dX10_word_12 : decode cX10_word 12 = .ok (.if_icmp .ge 13, 3) := by decide +kernel
theorem dX10_word_15 : decode cX10_word 15 = .ok (.iload_n 2, 1) := by decide +kernel
theorem dX10_word_16 : decode cX10_word 16 = .ok (.ifCond .lt 9, 3) := by decide +kernel
theorem dX10_word_19 : decode cX10_word 19 = .ok (.iload_n 2, 1) := by decide +kernel
theorem dX10_word_20 : decode cX10_word 20 = .ok (.bipush 6, 2) := by decide +kernel
theorem dX10_word_22 : decode cX10_word 22 = .ok (.if_icmp .lt 5, 3) := by decide +kernel
theorem dX10_word_25 : decode cX10_word 25 = .ok (.iconst (-1), 1) := by decide +kernel
theorem dX10_word_26 : decode cX10_word 26 = .ok (.ireturn, 1) := by decide +kernel
theorem dX10_word_27 : decode cX10_word 27 = .ok (.iload_n 2, 1) := by decide +kernel
theorem dX10_word_28 : decode cX10_word 28 = .ok (.aload_n 0, 1) := by decide +kernel
theorem dX10_word_29 : decode cX10_word 29 = .ok (.getfield 19, 3) := by decide +kernel
theorem dX10_word_32 : decode cX10_word 32 = .ok (.getfield 148, 3) := by decide +kernel
theorem dX10_word_35 : decode cX10_word 35 = .ok (.iload_n 1, 1) := by decide +kernel
theorem dX10_word_36 : decode cX10_word 36 = .ok (.iaload, 1) := by decide +kernel
theorem dX10_word_37 : decode cX10_word 37 = .ok (.if_icmp .ge 23, 3) := by decide +kernel
theorem dX10_word_40 : decode cX10_word 40 = .ok (.aload_n 0, 1) := by decide +kernel
theorem dX10_word_41 : decode cX10_word 41 = .ok (.getfield 19, 3) := by decide +kernel
theorem dX10_word_44 : decode cX10_word 44 = .ok (.getfield 151, 3) := by decide +kernel
theorem dX10_word_47 : decode cX10_word 47 = .ok (.iload_n 1, 1) := by decide +kernel
theorem dX10_word_48 : decode cX10_word 48 = .ok (.bipush 6, 2) := by decide +kernel
theorem dX10_word_50 : decode cX10_word 50 = .ok (.imul, 1) := by decide +kernel
theorem dX10_word_51 : decode cX10_word 51 = .ok (.iload_n 2, 1) := by decide +kernel
theorem dX10_word_52 : decode cX10_word 52 = .ok (.iadd, 1) := by decide +kernel
theorem dX10_word_53 : decode cX10_word 53 = .ok (.iaload, 1) := by decide +kernel
theorem dX10_word_54 : decode cX10_word 54 = .ok (.invokestatic 137, 3) := by decide +kernel
theorem dX10_word_57 : decode cX10_word 57 = .ok (.goto 5, 3) := by decide +kernel
theorem dX10_word_60 : decode cX10_word 60 = .ok (.bipush (-9), 2) := by decide +kernel
theorem dX10_word_62 : decode cX10_word 62 = .ok (.ireturn, 1) := by decide +kernel
theorem dX10_swaps_0 : decode cX10_swaps 0 = .ok (.aload_n 0, 1) := by decide +kernel
theorem dX10_swaps_1 : decode cX10_swaps 1 = .ok (.iload_n 1, 1) := by decide +kernel
theorem dX10_swaps_2 : decode cX10_swaps 2 = .ok (.invokevirtual 140, 3) := by decide +kernel
theorem dX10_swaps_5 : decode cX10_swaps 5 = .ok (.ifCond .eq 16, 3) := by decide +kernel
theorem dX10_swaps_8 : decode cX10_swaps 8 = .ok (.aload_n 0, 1) := by decide +kernel
theorem dX10_swaps_9 : decode cX10_swaps 9 = .ok (.iload_n 2, 1) := by decide +kernel
theorem dX10_swaps_10 : decode cX10_swaps 10 = .ok (.invokevirtual 140, 3) := by decide +kernel
theorem dX10_swaps_13 : decode cX10_swaps 13 = .ok (.ifCond .eq 8, 3) := by decide +kernel
theorem dX10_swaps_16 : decode cX10_swaps 16 = .ok (.iload_n 1, 1) := by decide +kernel
theorem dX10_swaps_17 : decode cX10_swaps 17 = .ok (.iload_n 2, 1) := by decide +kernel
theorem dX10_swaps_18 : decode cX10_swaps 18 = .ok (.if_icmp .ne 5, 3) := by decide +kernel
theorem dX10_swaps_21 : decode cX10_swaps 21 = .ok (.iconst (-1), 1) := by decide +kernel
theorem dX10_swaps_22 : decode cX10_swaps 22 = .ok (.ireturn, 1) := by decide +kernel
theorem dX10_swaps_23 : decode cX10_swaps 23 = .ok (.aload_n 0, 1) := by decide +kernel
theorem dX10_swaps_24 : decode cX10_swaps 24 = .ok (.getfield 29, 3) := by decide +kernel
theorem dX10_swaps_27 : decode cX10_swaps 27 = .ok (.invokevirtual 154, 3) := by decide +kernel
theorem dX10_swaps_30 : decode cX10_swaps 30 = .ok (.aload_n 0, 1) := by decide +kernel
theorem dX10_swaps_31 : decode cX10_swaps 31 = .ok (.getfield 29, 3) := by decide +kernel
theorem dX10_swaps_34 : decode cX10_swaps 34 = .ok (.getfield 109, 3) := by decide +kernel
theorem dX10_swaps_37 : decode cX10_swaps 37 = .ok (.iload_n 1, 1) := by decide +kernel
theorem dX10_swaps_38 : decode cX10_swaps 38 = .ok (.iload_n 2, 1) := by decide +kernel
theorem dX10_swaps_39 : decode cX10_swaps 39 = .ok (.invokevirtual 157, 3) := by decide +kernel
theorem dX10_swaps_42 : decode cX10_swaps 42 = .ok (.aload_n 0, 1) := by decide +kernel
theorem dX10_swaps_43 : decode cX10_swaps 43 = .ok (.invokevirtual 161, 3) := by decide +kernel
theorem dX10_swaps_46 : decode cX10_swaps 46 = .ok (.invokestatic 164, 3) := by decide +kernel
theorem dX10_swaps_49 : decode cX10_swaps 49 = .ok (.ireturn, 1) := by decide +kernel
theorem dX10_moves_0 : decode cX10_moves 0 = .ok (.aload_n 0, 1) := by decide +kernel
theorem dX10_moves_1 : decode cX10_moves 1 = .ok (.iload_n 1, 1) := by decide +kernel
theorem dX10_moves_2 : decode cX10_moves 2 = .ok (.invokevirtual 140, 3) := by decide +kernel
theorem dX10_moves_5 : decode cX10_moves 5 = .ok (.ifCond .eq 16, 3) := by decide +kernel
theorem dX10_moves_8 : decode cX10_moves 8 = .ok (.aload_n 0, 1) := by decide +kernel
theorem dX10_moves_9 : decode cX10_moves 9 = .ok (.iload_n 2, 1) := by decide +kernel
theorem dX10_moves_10 : decode cX10_moves 10 = .ok (.invokevirtual 140, 3) := by decide +kernel
theorem dX10_moves_13 : decode cX10_moves 13 = .ok (.ifCond .eq 8, 3) := by decide +kernel
theorem dX10_moves_16 : decode cX10_moves 16 = .ok (.iload_n 1, 1) := by decide +kernel
theorem dX10_moves_17 : decode cX10_moves 17 = .ok (.iload_n 2, 1) := by decide +kernel
theorem dX10_moves_18 : decode cX10_moves 18 = .ok (.if_icmp .ne 5, 3) := by decide +kernel
theorem dX10_moves_21 : decode cX10_moves 21 = .ok (.iconst (-1), 1) := by decide +kernel
theorem dX10_moves_22 : decode cX10_moves 22 = .ok (.ireturn, 1) := by decide +kernel
theorem dX10_moves_23 : decode cX10_moves 23 = .ok (.aload_n 0, 1) := by decide +kernel
theorem dX10_moves_24 : decode cX10_moves 24 = .ok (.getfield 29, 3) := by decide +kernel
theorem dX10_moves_27 : decode cX10_moves 27 = .ok (.invokevirtual 154, 3) := by decide +kernel
theorem dX10_moves_30 : decode cX10_moves 30 = .ok (.aload_n 0, 1) := by decide +kernel
theorem dX10_moves_31 : decode cX10_moves 31 = .ok (.getfield 29, 3) := by decide +kernel
theorem dX10_moves_34 : decode cX10_moves 34 = .ok (.getfield 109, 3) := by decide +kernel
theorem dX10_moves_37 : decode cX10_moves 37 = .ok (.iload_n 1, 1) := by decide +kernel
theorem dX10_moves_38 : decode cX10_moves 38 = .ok (.iload_n 2, 1) := by decide +kernel
theorem dX10_moves_39 : decode cX10_moves 39 = .ok (.invokevirtual 169, 3) := by decide +kernel
theorem dX10_moves_42 : decode cX10_moves 42 = .ok (.aload_n 0, 1) := by decide +kernel
theorem dX10_moves_43 : decode cX10_moves 43 = .ok (.invokevirtual 161, 3) := by decide +kernel
theorem dX10_moves_46 : decode cX10_moves 46 = .ok (.invokestatic 164, 3) := by decide +kernel
theorem dX10_moves_49 : decode cX10_moves 49 = .ok (.ireturn, 1) := by decide +kernel
theorem dX10_turn_0 : decode cX10_turn 0 = .ok (.aload_n 0, 1) := by decide +kernel
theorem dX10_turn_1 : decode cX10_turn 1 = .ok (.iload_n 1, 1) := by decide +kernel
theorem dX10_turn_2 : decode cX10_turn 2 = .ok (.iconst 1, 1) := by decide +kernel
theorem dX10_turn_3 : decode cX10_turn 3 = .ok (.invokevirtual 172, 3) := by decide +kernel
theorem dX10_turn_6 : decode cX10_turn 6 = .ok (.istore_n 2, 1) := by decide +kernel
theorem dX10_turn_7 : decode cX10_turn 7 = .ok (.iload_n 2, 1) := by decide +kernel
theorem dX10_turn_8 : decode cX10_turn 8 = .ok (.ifCond .eq 5, 3) := by decide +kernel
theorem dX10_turn_11 : decode cX10_turn 11 = .ok (.iload_n 2, 1) := by decide +kernel
theorem dX10_turn_12 : decode cX10_turn 12 = .ok (.ireturn, 1) := by decide +kernel
theorem dX10_turn_13 : decode cX10_turn 13 = .ok (.aload_n 0, 1) := by decide +kernel
theorem dX10_turn_14 : decode cX10_turn 14 = .ok (.getfield 29, 3) := by decide +kernel
theorem dX10_turn_17 : decode cX10_turn 17 = .ok (.invokevirtual 154, 3) := by decide +kernel
theorem dX10_turn_20 : decode cX10_turn 20 = .ok (.aload_n 0, 1) := by decide +kernel
theorem dX10_turn_21 : decode cX10_turn 21 = .ok (.getfield 29, 3) := by decide +kernel
theorem dX10_turn_24 : decode cX10_turn 24 = .ok (.getfield 109, 3) := by decide +kernel
theorem dX10_turn_27 : decode cX10_turn 27 = .ok (.dup, 1) := by decide +kernel
theorem dX10_turn_28 : decode cX10_turn 28 = .ok (.getfield 176, 3) := by decide +kernel
theorem dX10_turn_31 : decode cX10_turn 31 = .ok (.iconst 1, 1) := by decide +kernel
theorem dX10_turn_32 : decode cX10_turn 32 = .ok (.iload_n 1, 1) := by decide +kernel
theorem dX10_turn_33 : decode cX10_turn 33 = .ok (.ishl, 1) := by decide +kernel
theorem dX10_turn_34 : decode cX10_turn 34 = .ok (.ixor, 1) := by decide +kernel
theorem dX10_turn_35 : decode cX10_turn 35 = .ok (.putfield 176, 3) := by decide +kernel
theorem dX10_turn_38 : decode cX10_turn 38 = .ok (.aload_n 0, 1) := by decide +kernel
theorem dX10_turn_39 : decode cX10_turn 39 = .ok (.getfield 29, 3) := by decide +kernel
theorem dX10_turn_42 : decode cX10_turn 42 = .ok (.getfield 109, 3) := by decide +kernel
theorem dX10_turn_45 : decode cX10_turn 45 = .ok (.iload_n 1, 1) := by decide +kernel
theorem dX10_turn_46 : decode cX10_turn 46 = .ok (.invokevirtual 116, 3) := by decide +kernel
theorem dX10_turn_49 : decode cX10_turn 49 = .ok (.ireturn, 1) := by decide +kernel
theorem dX10_takes_0 : decode cX10_takes 0 = .ok (.aload_n 0, 1) := by decide +kernel
theorem dX10_takes_1 : decode cX10_takes 1 = .ok (.iload_n 1, 1) := by decide +kernel
theorem dX10_takes_2 : decode cX10_takes 2 = .ok (.iconst 1, 1) := by decide +kernel
theorem dX10_takes_3 : decode cX10_takes 3 = .ok (.invokevirtual 172, 3) := by decide +kernel
theorem dX10_takes_6 : decode cX10_takes 6 = .ok (.istore_n 2, 1) := by decide +kernel
theorem dX10_takes_7 : decode cX10_takes 7 = .ok (.iload_n 2, 1) := by decide +kernel
theorem dX10_takes_8 : decode cX10_takes 8 = .ok (.ifCond .eq 5, 3) := by decide +kernel
theorem dX10_takes_11 : decode cX10_takes 11 = .ok (.iload_n 2, 1) := by decide +kernel
theorem dX10_takes_12 : decode cX10_takes 12 = .ok (.ireturn, 1) := by decide +kernel
theorem dX10_takes_13 : decode cX10_takes 13 = .ok (.aload_n 0, 1) := by decide +kernel
theorem dX10_takes_14 : decode cX10_takes 14 = .ok (.getfield 29, 3) := by decide +kernel
theorem dX10_takes_17 : decode cX10_takes 17 = .ok (.invokevirtual 154, 3) := by decide +kernel
theorem dX10_takes_20 : decode cX10_takes 20 = .ok (.aload_n 0, 1) := by decide +kernel
theorem dX10_takes_21 : decode cX10_takes 21 = .ok (.getfield 29, 3) := by decide +kernel
theorem dX10_takes_24 : decode cX10_takes 24 = .ok (.getfield 109, 3) := by decide +kernel
theorem dX10_takes_27 : decode cX10_takes 27 = .ok (.iload_n 1, 1) := by decide +kernel
theorem dX10_takes_28 : decode cX10_takes 28 = .ok (.invokevirtual 179, 3) := by decide +kernel
theorem dX10_takes_31 : decode cX10_takes 31 = .ok (.aload_n 0, 1) := by decide +kernel
theorem dX10_takes_32 : decode cX10_takes 32 = .ok (.getfield 29, 3) := by decide +kernel
theorem dX10_takes_35 : decode cX10_takes 35 = .ok (.getfield 109, 3) := by decide +kernel
theorem dX10_takes_38 : decode cX10_takes 38 = .ok (.getfield 182, 3) := by decide +kernel
theorem dX10_takes_41 : decode cX10_takes 41 = .ok (.ireturn, 1) := by decide +kernel
theorem dX10_lays_0 : decode cX10_lays 0 = .ok (.aload_n 0, 1) := by decide +kernel
theorem dX10_lays_1 : decode cX10_lays 1 = .ok (.iload_n 1, 1) := by decide +kernel
theorem dX10_lays_2 : decode cX10_lays 2 = .ok (.iconst 0, 1) := by decide +kernel
theorem dX10_lays_3 : decode cX10_lays 3 = .ok (.invokevirtual 172, 3) := by decide +kernel
theorem dX10_lays_6 : decode cX10_lays 6 = .ok (.istore_n 2, 1) := by decide +kernel
theorem dX10_lays_7 : decode cX10_lays 7 = .ok (.iload_n 2, 1) := by decide +kernel
theorem dX10_lays_8 : decode cX10_lays 8 = .ok (.ifCond .eq 5, 3) := by decide +kernel
theorem dX10_lays_11 : decode cX10_lays 11 = .ok (.iload_n 2, 1) := by decide +kernel
theorem dX10_lays_12 : decode cX10_lays 12 = .ok (.ireturn, 1) := by decide +kernel
theorem dX10_lays_13 : decode cX10_lays 13 = .ok (.aload_n 0, 1) := by decide +kernel
theorem dX10_lays_14 : decode cX10_lays 14 = .ok (.getfield 29, 3) := by decide +kernel
theorem dX10_lays_17 : decode cX10_lays 17 = .ok (.invokevirtual 154, 3) := by decide +kernel
theorem dX10_lays_20 : decode cX10_lays 20 = .ok (.aload_n 0, 1) := by decide +kernel
theorem dX10_lays_21 : decode cX10_lays 21 = .ok (.getfield 29, 3) := by decide +kernel
theorem dX10_lays_24 : decode cX10_lays 24 = .ok (.getfield 109, 3) := by decide +kernel
theorem dX10_lays_27 : decode cX10_lays 27 = .ok (.iload_n 1, 1) := by decide +kernel
theorem dX10_lays_28 : decode cX10_lays 28 = .ok (.invokevirtual 185, 3) := by decide +kernel
theorem dX10_lays_31 : decode cX10_lays 31 = .ok (.aload_n 0, 1) := by decide +kernel
theorem dX10_lays_32 : decode cX10_lays 32 = .ok (.getfield 29, 3) := by decide +kernel
theorem dX10_lays_35 : decode cX10_lays 35 = .ok (.getfield 109, 3) := by decide +kernel
theorem dX10_lays_38 : decode cX10_lays 38 = .ok (.getfield 182, 3) := by decide +kernel
theorem dX10_lays_41 : decode cX10_lays 41 = .ok (.ireturn, 1) := by decide +kernel
theorem dX10_undo_0 : decode cX10_undo 0 = .ok (.aload_n 0, 1) := by decide +kernel
theorem dX10_undo_1 : decode cX10_undo 1 = .ok (.getfield 29, 3) := by decide +kernel
theorem dX10_undo_4 : decode cX10_undo 4 = .ok (.invokevirtual 187, 3) := by decide +kernel
theorem dX10_undo_7 : decode cX10_undo 7 = .ok (.ifCond .eq 13, 3) := by decide +kernel
theorem dX10_undo_10 : decode cX10_undo 10 = .ok (.aload_n 0, 1) := by decide +kernel
theorem dX10_undo_11 : decode cX10_undo 11 = .ok (.getfield 29, 3) := by decide +kernel
theorem dX10_undo_14 : decode cX10_undo 14 = .ok (.getfield 191, 3) := by decide +kernel
theorem dX10_undo_17 : decode cX10_undo 17 = .ok (.goto 5, 3) := by decide +kernel
theorem dX10_undo_20 : decode cX10_undo 20 = .ok (.bipush (-2), 2) := by decide +kernel
theorem dX10_undo_22 : decode cX10_undo 22 = .ok (.ireturn, 1) := by decide +kernel
theorem dX10_now_0 : decode cX10_now 0 = .ok (.iload_n 1, 1) := by decide +kernel
theorem dX10_now_1 : decode cX10_now 1 = .ok (.tableswitch 102 0 5 #[39, 50, 55, 60, 71, 76], 39) := by decide +kernel
theorem dX10_now_40 : decode cX10_now 40 = .ok (.aload_n 0, 1) := by decide +kernel
theorem dX10_now_41 : decode cX10_now 41 = .ok (.getfield 29, 3) := by decide +kernel
theorem dX10_now_44 : decode cX10_now 44 = .ok (.getfield 109, 3) := by decide +kernel
theorem dX10_now_47 : decode cX10_now 47 = .ok (.getfield 182, 3) := by decide +kernel
theorem dX10_now_50 : decode cX10_now 50 = .ok (.ireturn, 1) := by decide +kernel
theorem dX10_now_51 : decode cX10_now 51 = .ok (.aload_n 0, 1) := by decide +kernel
theorem dX10_now_52 : decode cX10_now 52 = .ok (.invokevirtual 161, 3) := by decide +kernel
theorem dX10_now_55 : decode cX10_now 55 = .ok (.ireturn, 1) := by decide +kernel
theorem dX10_now_56 : decode cX10_now 56 = .ok (.aload_n 0, 1) := by decide +kernel
theorem dX10_now_57 : decode cX10_now 57 = .ok (.invokevirtual 194, 3) := by decide +kernel
theorem dX10_now_60 : decode cX10_now 60 = .ok (.ireturn, 1) := by decide +kernel
theorem dX10_now_61 : decode cX10_now 61 = .ok (.aload_n 0, 1) := by decide +kernel
theorem dX10_now_62 : decode cX10_now 62 = .ok (.getfield 29, 3) := by decide +kernel
theorem dX10_now_65 : decode cX10_now 65 = .ok (.getfield 109, 3) := by decide +kernel
theorem dX10_now_68 : decode cX10_now 68 = .ok (.invokevirtual 197, 3) := by decide +kernel
theorem dX10_now_71 : decode cX10_now 71 = .ok (.ireturn, 1) := by decide +kernel
theorem dX10_now_72 : decode cX10_now 72 = .ok (.aload_n 0, 1) := by decide +kernel
theorem dX10_now_73 : decode cX10_now 73 = .ok (.invokevirtual 200, 3) := by decide +kernel
theorem dX10_now_76 : decode cX10_now 76 = .ok (.ireturn, 1) := by decide +kernel
theorem dX10_now_77 : decode cX10_now 77 = .ok (.aload_n 0, 1) := by decide +kernel
theorem dX10_now_78 : decode cX10_now 78 = .ok (.getfield 49, 3) := by decide +kernel
theorem dX10_now_81 : decode cX10_now 81 = .ok (.aload_n 0, 1) := by decide +kernel
theorem dX10_now_82 : decode cX10_now 82 = .ok (.getfield 19, 3) := by decide +kernel
theorem dX10_now_85 : decode cX10_now 85 = .ok (.aload_n 0, 1) := by decide +kernel
theorem dX10_now_86 : decode cX10_now 86 = .ok (.getfield 29, 3) := by decide +kernel
theorem dX10_now_89 : decode cX10_now 89 = .ok (.getfield 109, 3) := by decide +kernel
theorem dX10_now_92 : decode cX10_now 92 = .ok (.invokevirtual 122, 3) := by decide +kernel
theorem dX10_now_95 : decode cX10_now 95 = .ok (.aload_n 0, 1) := by decide +kernel
theorem dX10_now_96 : decode cX10_now 96 = .ok (.getfield 49, 3) := by decide +kernel
theorem dX10_now_99 : decode cX10_now 99 = .ok (.getfield 203, 3) := by decide +kernel
theorem dX10_now_102 : decode cX10_now 102 = .ok (.ireturn, 1) := by decide +kernel
theorem dX10_now_103 : decode cX10_now 103 = .ok (.iconst (-1), 1) := by decide +kernel
theorem dX10_now_104 : decode cX10_now 104 = .ok (.ireturn, 1) := by decide +kernel
theorem dX10_line_0 : decode cX10_line 0 = .ok (.aload_n 0, 1) := by decide +kernel
theorem dX10_line_1 : decode cX10_line 1 = .ok (.iload_n 1, 1) := by decide +kernel
theorem dX10_line_2 : decode cX10_line 2 = .ok (.invokevirtual 130, 3) := by decide +kernel
theorem dX10_line_5 : decode cX10_line 5 = .ok (.ifCond .ne 5, 3) := by decide +kernel
theorem dX10_line_8 : decode cX10_line 8 = .ok (.iconst (-1), 1) := by decide +kernel
theorem dX10_line_9 : decode cX10_line 9 = .ok (.ireturn, 1) := by decide +kernel
theorem dX10_line_10 : decode cX10_line 10 = .ok (.aload_n 0, 1) := by decide +kernel
theorem dX10_line_11 : decode cX10_line 11 = .ok (.getfield 42, 3) := by decide +kernel
theorem dX10_line_14 : decode cX10_line 14 = .ok (.aload_n 0, 1) := by decide +kernel
theorem dX10_line_15 : decode cX10_line 15 = .ok (.getfield 19, 3) := by decide +kernel
theorem dX10_line_18 : decode cX10_line 18 = .ok (.aload_n 0, 1) := by decide +kernel
theorem dX10_line_19 : decode cX10_line 19 = .ok (.getfield 29, 3) := by decide +kernel
theorem dX10_line_22 : decode cX10_line 22 = .ok (.getfield 109, 3) := by decide +kernel
theorem dX10_line_25 : decode cX10_line 25 = .ok (.iload_n 1, 1) := by decide +kernel
theorem dX10_line_26 : decode cX10_line 26 = .ok (.invokevirtual 206, 3) := by decide +kernel
theorem dX10_line_29 : decode cX10_line 29 = .ok (.iload_n 2, 1) := by decide +kernel
theorem dX10_line_30 : decode cX10_line 30 = .ok (.tableswitch 50 0 2 #[26, 34, 42], 26) := by decide +kernel
theorem dX10_line_56 : decode cX10_line 56 = .ok (.aload_n 0, 1) := by decide +kernel
theorem dX10_line_57 : decode cX10_line 57 = .ok (.getfield 42, 3) := by decide +kernel
theorem dX10_line_60 : decode cX10_line 60 = .ok (.getfield 210, 3) := by decide +kernel
theorem dX10_line_63 : decode cX10_line 63 = .ok (.ireturn, 1) := by decide +kernel
theorem dX10_line_64 : decode cX10_line 64 = .ok (.aload_n 0, 1) := by decide +kernel
theorem dX10_line_65 : decode cX10_line 65 = .ok (.getfield 42, 3) := by decide +kernel
theorem dX10_line_68 : decode cX10_line 68 = .ok (.getfield 213, 3) := by decide +kernel
theorem dX10_line_71 : decode cX10_line 71 = .ok (.ireturn, 1) := by decide +kernel
theorem dX10_line_72 : decode cX10_line 72 = .ok (.aload_n 0, 1) := by decide +kernel
theorem dX10_line_73 : decode cX10_line 73 = .ok (.getfield 42, 3) := by decide +kernel
theorem dX10_line_76 : decode cX10_line 76 = .ok (.getfield 215, 3) := by decide +kernel
theorem dX10_line_79 : decode cX10_line 79 = .ok (.ireturn, 1) := by decide +kernel
theorem dX10_line_80 : decode cX10_line 80 = .ok (.iconst (-1), 1) := by decide +kernel
theorem dX10_line_81 : decode cX10_line 81 = .ok (.ireturn, 1) := by decide +kernel
theorem dX10_reads_0 : decode cX10_reads 0 = .ok (.aload_n 0, 1) := by decide +kernel
theorem dX10_reads_1 : decode cX10_reads 1 = .ok (.iload_n 1, 1) := by decide +kernel
theorem dX10_reads_2 : decode cX10_reads 2 = .ok (.invokevirtual 130, 3) := by decide +kernel
theorem dX10_reads_5 : decode cX10_reads 5 = .ok (.ifCond .eq 23, 3) := by decide +kernel
theorem dX10_reads_8 : decode cX10_reads 8 = .ok (.iload_n 2, 1) := by decide +kernel
theorem dX10_reads_9 : decode cX10_reads 9 = .ok (.ifCond .lt 19, 3) := by decide +kernel
theorem dX10_reads_12 : decode cX10_reads 12 = .ok (.iload_n 2, 1) := by decide +kernel
theorem dX10_reads_13 : decode cX10_reads 13 = .ok (.iconst 2, 1) := by decide +kernel
theorem dX10_reads_14 : decode cX10_reads 14 = .ok (.aload_n 0, 1) := by decide +kernel
theorem dX10_reads_15 : decode cX10_reads 15 = .ok (.getfield 29, 3) := by decide +kernel
theorem dX10_reads_18 : decode cX10_reads 18 = .ok (.getfield 109, 3) := by decide +kernel
theorem dX10_reads_21 : decode cX10_reads 21 = .ok (.getfield 182, 3) := by decide +kernel
theorem dX10_reads_24 : decode cX10_reads 24 = .ok (.imul, 1) := by decide +kernel
theorem dX10_reads_25 : decode cX10_reads 25 = .ok (.if_icmp .lt 5, 3) := by decide +kernel
theorem dX10_reads_28 : decode cX10_reads 28 = .ok (.iconst (-1), 1) := by decide +kernel
theorem dX10_reads_29 : decode cX10_reads 29 = .ok (.ireturn, 1) := by decide +kernel
theorem dX10_reads_30 : decode cX10_reads 30 = .ok (.aload_n 0, 1) := by decide +kernel
theorem dX10_reads_31 : decode cX10_reads 31 = .ok (.getfield 29, 3) := by decide +kernel
theorem dX10_reads_34 : decode cX10_reads 34 = .ok (.getfield 109, 3) := by decide +kernel
theorem dX10_reads_37 : decode cX10_reads 37 = .ok (.getfield 143, 3) := by decide +kernel
theorem dX10_reads_40 : decode cX10_reads 40 = .ok (.iload_n 2, 1) := by decide +kernel
theorem dX10_reads_41 : decode cX10_reads 41 = .ok (.iconst 2, 1) := by decide +kernel
theorem dX10_reads_42 : decode cX10_reads 42 = .ok (.idiv, 1) := by decide +kernel
theorem dX10_reads_43 : decode cX10_reads 43 = .ok (.iaload, 1) := by decide +kernel
theorem dX10_reads_44 : decode cX10_reads 44 = .ok (.istore_n 3, 1) := by decide +kernel
theorem dX10_reads_45 : decode cX10_reads 45 = .ok (.aload_n 0, 1) := by decide +kernel
theorem dX10_reads_46 : decode cX10_reads 46 = .ok (.getfield 19, 3) := by decide +kernel
theorem dX10_reads_49 : decode cX10_reads 49 = .ok (.iload_n 3, 1) := by decide +kernel
theorem dX10_reads_50 : decode cX10_reads 50 = .ok (.aload_n 0, 1) := by decide +kernel
theorem dX10_reads_51 : decode cX10_reads 51 = .ok (.getfield 29, 3) := by decide +kernel
theorem dX10_reads_54 : decode cX10_reads 54 = .ok (.getfield 109, 3) := by decide +kernel
theorem dX10_reads_57 : decode cX10_reads 57 = .ok (.iload_n 3, 1) := by decide +kernel
theorem dX10_reads_58 : decode cX10_reads 58 = .ok (.invokevirtual 116, 3) := by decide +kernel
theorem dX10_reads_61 : decode cX10_reads 61 = .ok (.iload_n 1, 1) := by decide +kernel
theorem dX10_reads_62 : decode cX10_reads 62 = .ok (.iload_n 2, 1) := by decide +kernel
theorem dX10_reads_63 : decode cX10_reads 63 = .ok (.iconst 2, 1) := by decide +kernel
theorem dX10_reads_64 : decode cX10_reads 64 = .ok (.irem, 1) := by decide +kernel
theorem dX10_reads_65 : decode cX10_reads 65 = .ok (.invokevirtual 133, 3) := by decide +kernel
theorem dX10_reads_68 : decode cX10_reads 68 = .ok (.invokestatic 137, 3) := by decide +kernel
theorem dX10_reads_71 : decode cX10_reads 71 = .ok (.ireturn, 1) := by decide +kernel
theorem dX10_orders_0 : decode cX10_orders 0 = .ok (.iload_n 1, 1) := by decide +kernel
theorem dX10_orders_1 : decode cX10_orders 1 = .ok (.ifCond .lt 8, 3) := by decide +kernel
theorem dX10_orders_4 : decode cX10_orders 4 = .ok (.iload_n 1, 1) := by decide +kernel
theorem dX10_orders_5 : decode cX10_orders 5 = .ok (.iconst 1, 1) := by decide +kernel
theorem dX10_orders_6 : decode cX10_orders 6 = .ok (.if_icmp .le 5, 3) := by decide +kernel
theorem dX10_orders_9 : decode cX10_orders 9 = .ok (.iconst (-1), 1) := by decide +kernel
theorem dX10_orders_10 : decode cX10_orders 10 = .ok (.ireturn, 1) := by decide +kernel
theorem dX10_orders_11 : decode cX10_orders 11 = .ok (.aload_n 0, 1) := by decide +kernel
theorem dX10_orders_12 : decode cX10_orders 12 = .ok (.getfield 49, 3) := by decide +kernel
theorem dX10_orders_15 : decode cX10_orders 15 = .ok (.aload_n 0, 1) := by decide +kernel
theorem dX10_orders_16 : decode cX10_orders 16 = .ok (.getfield 19, 3) := by decide +kernel
theorem dX10_orders_19 : decode cX10_orders 19 = .ok (.aload_n 0, 1) := by decide +kernel
theorem dX10_orders_20 : decode cX10_orders 20 = .ok (.getfield 29, 3) := by decide +kernel
theorem dX10_orders_23 : decode cX10_orders 23 = .ok (.getfield 109, 3) := by decide +kernel
theorem dX10_orders_26 : decode cX10_orders 26 = .ok (.invokevirtual 122, 3) := by decide +kernel
theorem dX10_orders_29 : decode cX10_orders 29 = .ok (.iload_n 1, 1) := by decide +kernel
theorem dX10_orders_30 : decode cX10_orders 30 = .ok (.ifCond .ne 13, 3) := by decide +kernel
theorem dX10_orders_33 : decode cX10_orders 33 = .ok (.aload_n 0, 1) := by decide +kernel
theorem dX10_orders_34 : decode cX10_orders 34 = .ok (.getfield 49, 3) := by decide +kernel
theorem dX10_orders_37 : decode cX10_orders 37 = .ok (.getfield 217, 3) := by decide +kernel
theorem dX10_orders_40 : decode cX10_orders 40 = .ok (.goto 10, 3) := by decide +kernel
theorem dX10_orders_43 : decode cX10_orders 43 = .ok (.aload_n 0, 1) := by decide +kernel
theorem dX10_orders_44 : decode cX10_orders 44 = .ok (.getfield 49, 3) := by decide +kernel
theorem dX10_orders_47 : decode cX10_orders 47 = .ok (.getfield 220, 3) := by decide +kernel
theorem dX10_orders_50 : decode cX10_orders 50 = .ok (.ireturn, 1) := by decide +kernel
theorem dX10_either_0 : decode cX10_either 0 = .ok (.iload_n 1, 1) := by decide +kernel
theorem dX10_either_1 : decode cX10_either 1 = .ok (.ifCond .lt 8, 3) := by decide +kernel
theorem dX10_either_4 : decode cX10_either 4 = .ok (.iload_n 1, 1) := by decide +kernel
theorem dX10_either_5 : decode cX10_either 5 = .ok (.iconst 2, 1) := by decide +kernel
theorem dX10_either_6 : decode cX10_either 6 = .ok (.if_icmp .le 5, 3) := by decide +kernel
theorem dX10_either_9 : decode cX10_either 9 = .ok (.iconst (-1), 1) := by decide +kernel
theorem dX10_either_10 : decode cX10_either 10 = .ok (.ireturn, 1) := by decide +kernel
theorem dX10_either_11 : decode cX10_either 11 = .ok (.aload_n 0, 1) := by decide +kernel
theorem dX10_either_12 : decode cX10_either 12 = .ok (.getfield 56, 3) := by decide +kernel
theorem dX10_either_15 : decode cX10_either 15 = .ok (.aload_n 0, 1) := by decide +kernel
theorem dX10_either_16 : decode cX10_either 16 = .ok (.getfield 29, 3) := by decide +kernel
theorem dX10_either_19 : decode cX10_either 19 = .ok (.getfield 109, 3) := by decide +kernel
theorem dX10_either_22 : decode cX10_either 22 = .ok (.invokevirtual 223, 3) := by decide +kernel
theorem dX10_either_25 : decode cX10_either 25 = .ok (.ifCond .ne 21, 3) := by decide +kernel
theorem dX10_either_28 : decode cX10_either 28 = .ok (.aload_n 0, 1) := by decide +kernel
theorem dX10_either_29 : decode cX10_either 29 = .ok (.getfield 56, 3) := by decide +kernel
theorem dX10_either_32 : decode cX10_either 32 = .ok (.aload_n 0, 1) := by decide +kernel
theorem dX10_either_33 : decode cX10_either 33 = .ok (.getfield 19, 3) := by decide +kernel
theorem dX10_either_36 : decode cX10_either 36 = .ok (.aload_n 0, 1) := by decide +kernel
theorem dX10_either_37 : decode cX10_either 37 = .ok (.getfield 29, 3) := by decide +kernel
theorem dX10_either_40 : decode cX10_either 40 = .ok (.getfield 109, 3) := by decide +kernel
theorem dX10_either_43 : decode cX10_either 43 = .ok (.invokevirtual 227, 3) := by decide +kernel
theorem dX10_either_46 : decode cX10_either 46 = .ok (.iload_n 1, 1) := by decide +kernel
theorem dX10_either_47 : decode cX10_either 47 = .ok (.ifCond .ne 11, 3) := by decide +kernel
theorem dX10_either_50 : decode cX10_either 50 = .ok (.aload_n 0, 1) := by decide +kernel
theorem dX10_either_51 : decode cX10_either 51 = .ok (.getfield 56, 3) := by decide +kernel
theorem dX10_either_54 : decode cX10_either 54 = .ok (.getfield 228, 3) := by decide +kernel
theorem dX10_either_57 : decode cX10_either 57 = .ok (.ireturn, 1) := by decide +kernel
theorem dX10_either_58 : decode cX10_either 58 = .ok (.iload_n 1, 1) := by decide +kernel
theorem dX10_either_59 : decode cX10_either 59 = .ok (.iconst 1, 1) := by decide +kernel
theorem dX10_either_60 : decode cX10_either 60 = .ok (.if_icmp .ne 13, 3) := by decide +kernel
theorem dX10_either_63 : decode cX10_either 63 = .ok (.aload_n 0, 1) := by decide +kernel
theorem dX10_either_64 : decode cX10_either 64 = .ok (.getfield 56, 3) := by decide +kernel
theorem dX10_either_67 : decode cX10_either 67 = .ok (.getfield 229, 3) := by decide +kernel
theorem dX10_either_70 : decode cX10_either 70 = .ok (.goto 10, 3) := by decide +kernel
theorem dX10_either_73 : decode cX10_either 73 = .ok (.aload_n 0, 1) := by decide +kernel
theorem dX10_either_74 : decode cX10_either 74 = .ok (.getfield 56, 3) := by decide +kernel
theorem dX10_either_77 : decode cX10_either 77 = .ok (.getfield 230, 3) := by decide +kernel
theorem dX10_either_80 : decode cX10_either 80 = .ok (.ireturn, 1) := by decide +kernel
theorem dX10_best_0 : decode cX10_best 0 = .ok (.iload_n 1, 1) := by decide +kernel
theorem dX10_best_1 : decode cX10_best 1 = .ok (.ifCond .lt 8, 3) := by decide +kernel
theorem dX10_best_4 : decode cX10_best 4 = .ok (.iload_n 1, 1) := by decide +kernel
theorem dX10_best_5 : decode cX10_best 5 = .ok (.iconst 1, 1) := by decide +kernel
theorem dX10_best_6 : decode cX10_best 6 = .ok (.if_icmp .le 5, 3) := by decide +kernel
theorem dX10_best_9 : decode cX10_best 9 = .ok (.iconst (-1), 1) := by decide +kernel
theorem dX10_best_10 : decode cX10_best 10 = .ok (.ireturn, 1) := by decide +kernel
theorem dX10_best_11 : decode cX10_best 11 = .ok (.aload_n 0, 1) := by decide +kernel
theorem dX10_best_12 : decode cX10_best 12 = .ok (.getfield 63, 3) := by decide +kernel
theorem dX10_best_15 : decode cX10_best 15 = .ok (.aload_n 0, 1) := by decide +kernel
theorem dX10_best_16 : decode cX10_best 16 = .ok (.getfield 19, 3) := by decide +kernel
theorem dX10_best_19 : decode cX10_best 19 = .ok (.aload_n 0, 1) := by decide +kernel
theorem dX10_best_20 : decode cX10_best 20 = .ok (.getfield 29, 3) := by decide +kernel
theorem dX10_best_23 : decode cX10_best 23 = .ok (.getfield 109, 3) := by decide +kernel
theorem dX10_best_26 : decode cX10_best 26 = .ok (.invokevirtual 233, 3) := by decide +kernel
theorem dX10_best_29 : decode cX10_best 29 = .ok (.iload_n 1, 1) := by decide +kernel
theorem dX10_best_30 : decode cX10_best 30 = .ok (.ifCond .ne 13, 3) := by decide +kernel
theorem dX10_best_33 : decode cX10_best 33 = .ok (.aload_n 0, 1) := by decide +kernel
theorem dX10_best_34 : decode cX10_best 34 = .ok (.getfield 63, 3) := by decide +kernel
theorem dX10_best_37 : decode cX10_best 37 = .ok (.getfield 234, 3) := by decide +kernel
theorem dX10_best_40 : decode cX10_best 40 = .ok (.goto 10, 3) := by decide +kernel
theorem dX10_best_43 : decode cX10_best 43 = .ok (.aload_n 0, 1) := by decide +kernel
theorem dX10_best_44 : decode cX10_best 44 = .ok (.getfield 63, 3) := by decide +kernel
theorem dX10_best_47 : decode cX10_best 47 = .ok (.getfield 237, 3) := by decide +kernel
theorem dX10_best_50 : decode cX10_best 50 = .ok (.ireturn, 1) := by decide +kernel
theorem dX10_odds_0 : decode cX10_odds 0 = .ok (.iload_n 1, 1) := by decide +kernel
theorem dX10_odds_1 : decode cX10_odds 1 = .ok (.ifCond .lt 8, 3) := by decide +kernel
theorem dX10_odds_4 : decode cX10_odds 4 = .ok (.iload_n 1, 1) := by decide +kernel
theorem dX10_odds_5 : decode cX10_odds 5 = .ok (.iconst 1, 1) := by decide +kernel
theorem dX10_odds_6 : decode cX10_odds 6 = .ok (.if_icmp .le 5, 3) := by decide +kernel
theorem dX10_odds_9 : decode cX10_odds 9 = .ok (.iconst (-1), 1) := by decide +kernel
theorem dX10_odds_10 : decode cX10_odds 10 = .ok (.ireturn, 1) := by decide +kernel
theorem dX10_odds_11 : decode cX10_odds 11 = .ok (.aload_n 0, 1) := by decide +kernel
theorem dX10_odds_12 : decode cX10_odds 12 = .ok (.getfield 49, 3) := by decide +kernel
theorem dX10_odds_15 : decode cX10_odds 15 = .ok (.aload_n 0, 1) := by decide +kernel
theorem dX10_odds_16 : decode cX10_odds 16 = .ok (.getfield 19, 3) := by decide +kernel
theorem dX10_odds_19 : decode cX10_odds 19 = .ok (.aload_n 0, 1) := by decide +kernel
theorem dX10_odds_20 : decode cX10_odds 20 = .ok (.getfield 29, 3) := by decide +kernel
theorem dX10_odds_23 : decode cX10_odds 23 = .ok (.getfield 109, 3) := by decide +kernel
theorem dX10_odds_26 : decode cX10_odds 26 = .ok (.invokevirtual 122, 3) := by decide +kernel
theorem dX10_odds_29 : decode cX10_odds 29 = .ok (.aload_n 0, 1) := by decide +kernel
theorem dX10_odds_30 : decode cX10_odds 30 = .ok (.getfield 49, 3) := by decide +kernel
theorem dX10_odds_33 : decode cX10_odds 33 = .ok (.getfield 217, 3) := by decide +kernel
theorem dX10_odds_36 : decode cX10_odds 36 = .ok (.istore_n 2, 1) := by decide +kernel
theorem dX10_odds_37 : decode cX10_odds 37 = .ok (.aload_n 0, 1) := by decide +kernel
theorem dX10_odds_38 : decode cX10_odds 38 = .ok (.getfield 29, 3) := by decide +kernel
theorem dX10_odds_41 : decode cX10_odds 41 = .ok (.getfield 109, 3) := by decide +kernel
theorem dX10_odds_44 : decode cX10_odds 44 = .ok (.getfield 182, 3) := by decide +kernel
theorem dX10_odds_47 : decode cX10_odds 47 = .ok (.invokestatic 238, 3) := by decide +kernel
theorem dX10_odds_50 : decode cX10_odds 50 = .ok (.istore_n 3, 1) := by decide +kernel
theorem dX10_odds_51 : decode cX10_odds 51 = .ok (.iload_n 1, 1) := by decide +kernel
theorem dX10_odds_52 : decode cX10_odds 52 = .ok (.ifCond .ne 7, 3) := by decide +kernel
theorem dX10_odds_55 : decode cX10_odds 55 = .ok (.iload_n 2, 1) := by decide +kernel
theorem dX10_odds_56 : decode cX10_odds 56 = .ok (.goto 4, 3) := by decide +kernel
theorem dX10_odds_59 : decode cX10_odds 59 = .ok (.iload_n 3, 1) := by decide +kernel
theorem dX10_odds_60 : decode cX10_odds 60 = .ok (.iload_n 2, 1) := by decide +kernel
theorem dX10_odds_61 : decode cX10_odds 61 = .ok (.iload_n 3, 1) := by decide +kernel
theorem dX10_odds_62 : decode cX10_odds 62 = .ok (.invokestatic 241, 3) := by decide +kernel
theorem dX10_odds_65 : decode cX10_odds 65 = .ok (.ireturn, 1) := by decide +kernel
theorem dX10_sees_0 : decode cX10_sees 0 = .ok (.iload_n 1, 1) := by decide +kernel
theorem dX10_sees_1 : decode cX10_sees 1 = .ok (.ifCond .lt 18, 3) := by decide +kernel
theorem dX10_sees_4 : decode cX10_sees 4 = .ok (.iload_n 1, 1) := by decide +kernel
theorem dX10_sees_5 : decode cX10_sees 5 = .ok (.bipush 26, 2) := by decide +kernel
theorem dX10_sees_7 : decode cX10_sees 7 = .ok (.if_icmp .ge 12, 3) := by decide +kernel
theorem dX10_sees_10 : decode cX10_sees 10 = .ok (.iload_n 2, 1) := by decide +kernel
theorem dX10_sees_11 : decode cX10_sees 11 = .ok (.ifCond .lt 8, 3) := by decide +kernel
theorem dX10_sees_14 : decode cX10_sees 14 = .ok (.iload_n 2, 1) := by decide +kernel
theorem dX10_sees_15 : decode cX10_sees 15 = .ok (.iconst 1, 1) := by decide +kernel
theorem dX10_sees_16 : decode cX10_sees 16 = .ok (.if_icmp .le 5, 3) := by decide +kernel
theorem dX10_sees_19 : decode cX10_sees 19 = .ok (.iconst (-1), 1) := by decide +kernel
theorem dX10_sees_20 : decode cX10_sees 20 = .ok (.ireturn, 1) := by decide +kernel
theorem dX10_sees_21 : decode cX10_sees 21 = .ok (.aload_n 0, 1) := by decide +kernel
theorem dX10_sees_22 : decode cX10_sees 22 = .ok (.getfield 245, 3) := by decide +kernel
theorem dX10_sees_25 : decode cX10_sees 25 = .ok (.bipush 6, 2) := by decide +kernel
theorem dX10_sees_27 : decode cX10_sees 27 = .ok (.if_icmp .lt 6, 3) := by decide +kernel
theorem dX10_sees_30 : decode cX10_sees 30 = .ok (.bipush (-3), 2) := by decide +kernel
theorem dX10_sees_32 : decode cX10_sees 32 = .ok (.ireturn, 1) := by decide +kernel
theorem dX10_sees_33 : decode cX10_sees 33 = .ok (.iload_n 2, 1) := by decide +kernel
theorem dX10_sees_34 : decode cX10_sees 34 = .ok (.iconst 1, 1) := by decide +kernel
theorem dX10_sees_35 : decode cX10_sees 35 = .ok (.if_icmp .ne 18, 3) := by decide +kernel
theorem dX10_sees_38 : decode cX10_sees 38 = .ok (.aload_n 0, 1) := by decide +kernel
theorem dX10_sees_39 : decode cX10_sees 39 = .ok (.dup, 1) := by decide +kernel
theorem dX10_sees_40 : decode cX10_sees 40 = .ok (.getfield 248, 3) := by decide +kernel
theorem dX10_sees_43 : decode cX10_sees 43 = .ok (.iconst 1, 1) := by decide +kernel
theorem dX10_sees_44 : decode cX10_sees 44 = .ok (.iload_n 1, 1) := by decide +kernel
theorem dX10_sees_45 : decode cX10_sees 45 = .ok (.ishl, 1) := by decide +kernel
theorem dX10_sees_46 : decode cX10_sees 46 = .ok (.ior, 1) := by decide +kernel
theorem dX10_sees_47 : decode cX10_sees 47 = .ok (.putfield 248, 3) := by decide +kernel
theorem dX10_sees_50 : decode cX10_sees 50 = .ok (.goto 15, 3) := by decide +kernel
theorem dX10_sees_53 : decode cX10_sees 53 = .ok (.aload_n 0, 1) := by decide +kernel
theorem dX10_sees_54 : decode cX10_sees 54 = .ok (.dup, 1) := by decide +kernel
theorem dX10_sees_55 : decode cX10_sees 55 = .ok (.getfield 251, 3) := by decide +kernel
theorem dX10_sees_58 : decode cX10_sees 58 = .ok (.iconst 1, 1) := by decide +kernel
theorem dX10_sees_59 : decode cX10_sees 59 = .ok (.iload_n 1, 1) := by decide +kernel
theorem dX10_sees_60 : decode cX10_sees 60 = .ok (.ishl, 1) := by decide +kernel
theorem dX10_sees_61 : decode cX10_sees 61 = .ok (.ior, 1) := by decide +kernel
theorem dX10_sees_62 : decode cX10_sees 62 = .ok (.putfield 251, 3) := by decide +kernel
theorem dX10_sees_65 : decode cX10_sees 65 = .ok (.aload_n 0, 1) := by decide +kernel
theorem dX10_sees_66 : decode cX10_sees 66 = .ok (.dup, 1) := by decide +kernel
theorem dX10_sees_67 : decode cX10_sees 67 = .ok (.getfield 245, 3) := by decide +kernel
theorem dX10_sees_70 : decode cX10_sees 70 = .ok (.iconst 1, 1) := by decide +kernel
theorem dX10_sees_71 : decode cX10_sees 71 = .ok (.iadd, 1) := by decide +kernel
theorem dX10_sees_72 : decode cX10_sees 72 = .ok (.putfield 245, 3) := by decide +kernel
theorem dX10_sees_75 : decode cX10_sees 75 = .ok (.aload_n 0, 1) := by decide +kernel
theorem dX10_sees_76 : decode cX10_sees 76 = .ok (.getfield 245, 3) := by decide +kernel
theorem dX10_sees_79 : decode cX10_sees 79 = .ok (.ireturn, 1) := by decide +kernel
theorem dX10_forget_0 : decode cX10_forget 0 = .ok (.aload_n 0, 1) := by decide +kernel
theorem dX10_forget_1 : decode cX10_forget 1 = .ok (.getfield 245, 3) := by decide +kernel
theorem dX10_forget_4 : decode cX10_forget 4 = .ok (.istore_n 1, 1) := by decide +kernel
theorem dX10_forget_5 : decode cX10_forget 5 = .ok (.aload_n 0, 1) := by decide +kernel
theorem dX10_forget_6 : decode cX10_forget 6 = .ok (.iconst 0, 1) := by decide +kernel
theorem dX10_forget_7 : decode cX10_forget 7 = .ok (.putfield 245, 3) := by decide +kernel
theorem dX10_forget_10 : decode cX10_forget 10 = .ok (.aload_n 0, 1) := by decide +kernel
theorem dX10_forget_11 : decode cX10_forget 11 = .ok (.iconst 0, 1) := by decide +kernel
theorem dX10_forget_12 : decode cX10_forget 12 = .ok (.putfield 248, 3) := by decide +kernel
theorem dX10_forget_15 : decode cX10_forget 15 = .ok (.aload_n 0, 1) := by decide +kernel
theorem dX10_forget_16 : decode cX10_forget 16 = .ok (.iconst 0, 1) := by decide +kernel
theorem dX10_forget_17 : decode cX10_forget 17 = .ok (.putfield 251, 3) := by decide +kernel
theorem dX10_forget_20 : decode cX10_forget 20 = .ok (.iload_n 1, 1) := by decide +kernel
theorem dX10_forget_21 : decode cX10_forget 21 = .ok (.ireturn, 1) := by decide +kernel
theorem dX10_which_0 : decode cX10_which 0 = .ok (.iconst 0, 1) := by decide +kernel
theorem dX10_which_1 : decode cX10_which 1 = .ok (.istore_n 1, 1) := by decide +kernel
theorem dX10_which_2 : decode cX10_which 2 = .ok (.iconst 0, 1) := by decide +kernel
theorem dX10_which_3 : decode cX10_which 3 = .ok (.istore_n 2, 1) := by decide +kernel
theorem dX10_which_4 : decode cX10_which 4 = .ok (.iload_n 2, 1) := by decide +kernel
theorem dX10_which_5 : decode cX10_which 5 = .ok (.aload_n 0, 1) := by decide +kernel
theorem dX10_which_6 : decode cX10_which 6 = .ok (.getfield 19, 3) := by decide +kernel
theorem dX10_which_9 : decode cX10_which 9 = .ok (.getfield 90, 3) := by decide +kernel
theorem dX10_which_12 : decode cX10_which 12 = .ok (.if_icmp .ge 46, 3) := by decide +kernel
theorem dX10_which_15 : decode cX10_which 15 = .ok (.aload_n 0, 1) := by decide +kernel
theorem dX10_which_16 : decode cX10_which 16 = .ok (.getfield 19, 3) := by decide +kernel
theorem dX10_which_19 : decode cX10_which 19 = .ok (.iload_n 2, 1) := by decide +kernel
theorem dX10_which_20 : decode cX10_which 20 = .ok (.invokevirtual 119, 3) := by decide +kernel
theorem dX10_which_23 : decode cX10_which 23 = .ok (.istore_n 3, 1) := by decide +kernel
theorem dX10_which_24 : decode cX10_which 24 = .ok (.iload_n 3, 1) := by decide +kernel
theorem dX10_which_25 : decode cX10_which 25 = .ok (.aload_n 0, 1) := by decide +kernel
theorem dX10_which_26 : decode cX10_which 26 = .ok (.getfield 248, 3) := by decide +kernel
theorem dX10_which_29 : decode cX10_which 29 = .ok (.iand, 1) := by decide +kernel
theorem dX10_which_30 : decode cX10_which 30 = .ok (.aload_n 0, 1) := by decide +kernel
theorem dX10_which_31 : decode cX10_which 31 = .ok (.getfield 248, 3) := by decide +kernel
theorem dX10_which_34 : decode cX10_which 34 = .ok (.if_icmp .ne 18, 3) := by decide +kernel
theorem dX10_which_37 : decode cX10_which 37 = .ok (.iload_n 3, 1) := by decide +kernel
theorem dX10_which_38 : decode cX10_which 38 = .ok (.aload_n 0, 1) := by decide +kernel
theorem dX10_which_39 : decode cX10_which 39 = .ok (.getfield 251, 3) := by decide +kernel
theorem dX10_which_42 : decode cX10_which 42 = .ok (.iand, 1) := by decide +kernel
theorem dX10_which_43 : decode cX10_which 43 = .ok (.ifCond .ne 9, 3) := by decide +kernel
theorem dX10_which_46 : decode cX10_which 46 = .ok (.iload_n 1, 1) := by decide +kernel
theorem dX10_which_47 : decode cX10_which 47 = .ok (.iconst 1, 1) := by decide +kernel
theorem dX10_which_48 : decode cX10_which 48 = .ok (.iload_n 2, 1) := by decide +kernel
theorem dX10_which_49 : decode cX10_which 49 = .ok (.ishl, 1) := by decide +kernel
theorem dX10_which_50 : decode cX10_which 50 = .ok (.ior, 1) := by decide +kernel
theorem dX10_which_51 : decode cX10_which 51 = .ok (.istore_n 1, 1) := by decide +kernel
theorem dX10_which_52 : decode cX10_which 52 = .ok (.iinc 2 1, 3) := by decide +kernel
theorem dX10_which_55 : decode cX10_which 55 = .ok (.goto (-51), 3) := by decide +kernel
theorem dX10_which_58 : decode cX10_which 58 = .ok (.iload_n 1, 1) := by decide +kernel
theorem dX10_which_59 : decode cX10_which 59 = .ok (.ireturn, 1) := by decide +kernel
theorem dX10_look_0 : decode cX10_look 0 = .ok (.aload_n 0, 1) := by decide +kernel
theorem dX10_look_1 : decode cX10_look 1 = .ok (.invokevirtual 254, 3) := by decide +kernel
theorem dX10_look_4 : decode cX10_look 4 = .ok (.istore_n 1, 1) := by decide +kernel
theorem dX10_look_5 : decode cX10_look 5 = .ok (.iload_n 1, 1) := by decide +kernel
theorem dX10_look_6 : decode cX10_look 6 = .ok (.invokestatic 164, 3) := by decide +kernel
theorem dX10_look_9 : decode cX10_look 9 = .ok (.istore_n 2, 1) := by decide +kernel
theorem dX10_look_10 : decode cX10_look 10 = .ok (.bipush (-9), 2) := by decide +kernel
theorem dX10_look_12 : decode cX10_look 12 = .ok (.istore_n 3, 1) := by decide +kernel
theorem dX10_look_13 : decode cX10_look 13 = .ok (.iconst 0, 1) := by decide +kernel
theorem dX10_look_14 : decode cX10_look 14 = .ok (.istore 4, 2) := by decide +kernel
theorem dX10_look_16 : decode cX10_look 16 = .ok (.iload 4, 2) := by decide +kernel
theorem dX10_look_18 : decode cX10_look 18 = .ok (.bipush 26, 2) := by decide +kernel
theorem dX10_look_20 : decode cX10_look 20 = .ok (.if_icmp .ge 30, 3) := by decide +kernel
theorem dX10_look_23 : decode cX10_look 23 = .ok (.aload_n 0, 1) := by decide +kernel
theorem dX10_look_24 : decode cX10_look 24 = .ok (.iload_n 1, 1) := by decide +kernel
theorem dX10_look_25 : decode cX10_look 25 = .ok (.iload 4, 2) := by decide +kernel
theorem dX10_look_27 : decode cX10_look 27 = .ok (.invokevirtual 257, 3) := by decide +kernel
theorem dX10_look_30 : decode cX10_look 30 = .ok (.istore 5, 2) := by decide +kernel
theorem dX10_look_32 : decode cX10_look 32 = .ok (.iload 5, 2) := by decide +kernel
theorem dX10_look_34 : decode cX10_look 34 = .ok (.iload_n 2, 1) := by decide +kernel
theorem dX10_look_35 : decode cX10_look 35 = .ok (.if_icmp .ge 9, 3) := by decide +kernel
theorem dX10_look_38 : decode cX10_look 38 = .ok (.iload 5, 2) := by decide +kernel
theorem dX10_look_40 : decode cX10_look 40 = .ok (.istore_n 2, 1) := by decide +kernel
theorem dX10_look_41 : decode cX10_look 41 = .ok (.iload 4, 2) := by decide +kernel
theorem dX10_look_43 : decode cX10_look 43 = .ok (.istore_n 3, 1) := by decide +kernel
theorem dX10_look_44 : decode cX10_look 44 = .ok (.iinc 4 1, 3) := by decide +kernel
theorem dX10_look_47 : decode cX10_look 47 = .ok (.goto (-31), 3) := by decide +kernel
theorem dX10_look_50 : decode cX10_look 50 = .ok (.iload_n 3, 1) := by decide +kernel
theorem dX10_look_51 : decode cX10_look 51 = .ok (.ireturn, 1) := by decide +kernel
theorem dX10_mark_0 : decode cX10_mark 0 = .ok (.iload_n 1, 1) := by decide +kernel
theorem dX10_mark_1 : decode cX10_mark 1 = .ok (.ifCond .lt 17, 3) := by decide +kernel
theorem dX10_mark_4 : decode cX10_mark 4 = .ok (.iload_n 1, 1) := by decide +kernel
theorem dX10_mark_5 : decode cX10_mark 5 = .ok (.bipush 6, 2) := by decide +kernel
theorem dX10_mark_7 : decode cX10_mark 7 = .ok (.if_icmp .ge 11, 3) := by decide +kernel
theorem dX10_mark_10 : decode cX10_mark 10 = .ok (.aload_n 0, 1) := by decide +kernel
theorem dX10_mark_11 : decode cX10_mark 11 = .ok (.iload_n 2, 1) := by decide +kernel
theorem dX10_mark_12 : decode cX10_mark 12 = .ok (.invokevirtual 106, 3) := by decide +kernel
theorem dX10_mark_15 : decode cX10_mark 15 = .ok (.ifCond .ne 7, 3) := by decide +kernel
theorem dX10_mark_18 : decode cX10_mark 18 = .ok (.ldc_w 261, 3) := by decide +kernel
theorem dX10_mark_21 : decode cX10_mark 21 = .ok (.ireturn, 1) := by decide +kernel
theorem dX10_mark_22 : decode cX10_mark 22 = .ok (.iload_n 1, 1) := by decide +kernel
theorem dX10_mark_23 : decode cX10_mark 23 = .ok (.tableswitch 63 1 5 #[33, 39, 45, 51, 57], 33) := by decide +kernel
theorem dX10_mark_56 : decode cX10_mark 56 = .ok (.aload_n 0, 1) := by decide +kernel
theorem dX10_mark_57 : decode cX10_mark 57 = .ok (.iload_n 2, 1) := by decide +kernel
theorem dX10_mark_58 : decode cX10_mark 58 = .ok (.invokevirtual 262, 3) := by decide +kernel
theorem dX10_mark_61 : decode cX10_mark 61 = .ok (.ireturn, 1) := by decide +kernel
theorem dX10_mark_62 : decode cX10_mark 62 = .ok (.aload_n 0, 1) := by decide +kernel
theorem dX10_mark_63 : decode cX10_mark 63 = .ok (.iload_n 2, 1) := by decide +kernel
theorem dX10_mark_64 : decode cX10_mark 64 = .ok (.invokevirtual 265, 3) := by decide +kernel
theorem dX10_mark_67 : decode cX10_mark 67 = .ok (.ireturn, 1) := by decide +kernel
theorem dX10_mark_68 : decode cX10_mark 68 = .ok (.aload_n 0, 1) := by decide +kernel
theorem dX10_mark_69 : decode cX10_mark 69 = .ok (.iload_n 2, 1) := by decide +kernel
theorem dX10_mark_70 : decode cX10_mark 70 = .ok (.invokevirtual 268, 3) := by decide +kernel
theorem dX10_mark_73 : decode cX10_mark 73 = .ok (.ireturn, 1) := by decide +kernel
theorem dX10_mark_74 : decode cX10_mark 74 = .ok (.aload_n 0, 1) := by decide +kernel
theorem dX10_mark_75 : decode cX10_mark 75 = .ok (.iload_n 2, 1) := by decide +kernel
theorem dX10_mark_76 : decode cX10_mark 76 = .ok (.invokevirtual 271, 3) := by decide +kernel
theorem dX10_mark_79 : decode cX10_mark 79 = .ok (.ireturn, 1) := by decide +kernel
theorem dX10_mark_80 : decode cX10_mark 80 = .ok (.aload_n 0, 1) := by decide +kernel
theorem dX10_mark_81 : decode cX10_mark 81 = .ok (.iload_n 2, 1) := by decide +kernel
theorem dX10_mark_82 : decode cX10_mark 82 = .ok (.invokevirtual 274, 3) := by decide +kernel
theorem dX10_mark_85 : decode cX10_mark 85 = .ok (.ireturn, 1) := by decide +kernel
theorem dX10_mark_86 : decode cX10_mark 86 = .ok (.aload_n 0, 1) := by decide +kernel
theorem dX10_mark_87 : decode cX10_mark 87 = .ok (.iload_n 2, 1) := by decide +kernel
theorem dX10_mark_88 : decode cX10_mark 88 = .ok (.invokevirtual 277, 3) := by decide +kernel
theorem dX10_mark_91 : decode cX10_mark 91 = .ok (.ireturn, 1) := by decide +kernel
theorem dX10_keep_0 : decode cX10_keep 0 = .ok (.iload_n 1, 1) := by decide +kernel
theorem dX10_keep_1 : decode cX10_keep 1 = .ok (.ifCond .lt 8, 3) := by decide +kernel
theorem dX10_keep_4 : decode cX10_keep 4 = .ok (.iload_n 1, 1) := by decide +kernel
theorem dX10_keep_5 : decode cX10_keep 5 = .ok (.iconst 2, 1) := by decide +kernel
theorem dX10_keep_6 : decode cX10_keep 6 = .ok (.if_icmp .lt 5, 3) := by decide +kernel
theorem dX10_keep_9 : decode cX10_keep 9 = .ok (.iconst (-1), 1) := by decide +kernel
theorem dX10_keep_10 : decode cX10_keep 10 = .ok (.ireturn, 1) := by decide +kernel
theorem dX10_keep_11 : decode cX10_keep 11 = .ok (.aload_n 0, 1) := by decide +kernel
theorem dX10_keep_12 : decode cX10_keep 12 = .ok (.iload_n 1, 1) := by decide +kernel
theorem dX10_keep_13 : decode cX10_keep 13 = .ok (.invokevirtual 280, 3) := by decide +kernel
theorem dX10_keep_16 : decode cX10_keep 16 = .ok (.aload_n 0, 1) := by decide +kernel
theorem dX10_keep_17 : decode cX10_keep 17 = .ok (.getfield 29, 3) := by decide +kernel
theorem dX10_keep_20 : decode cX10_keep 20 = .ok (.invokevirtual 284, 3) := by decide +kernel
theorem dX10_keep_23 : decode cX10_keep 23 = .ok (.aload_n 0, 1) := by decide +kernel
theorem dX10_keep_24 : decode cX10_keep 24 = .ok (.dup, 1) := by decide +kernel
theorem dX10_keep_25 : decode cX10_keep 25 = .ok (.getfield 103, 3) := by decide +kernel
theorem dX10_keep_28 : decode cX10_keep 28 = .ok (.iconst 1, 1) := by decide +kernel
theorem dX10_keep_29 : decode cX10_keep 29 = .ok (.iload_n 1, 1) := by decide +kernel
theorem dX10_keep_30 : decode cX10_keep 30 = .ok (.ishl, 1) := by decide +kernel
theorem dX10_keep_31 : decode cX10_keep 31 = .ok (.ior, 1) := by decide +kernel
theorem dX10_keep_32 : decode cX10_keep 32 = .ok (.putfield 103, 3) := by decide +kernel
theorem dX10_keep_35 : decode cX10_keep 35 = .ok (.aload_n 0, 1) := by decide +kernel
theorem dX10_keep_36 : decode cX10_keep 36 = .ok (.getfield 29, 3) := by decide +kernel
theorem dX10_keep_39 : decode cX10_keep 39 = .ok (.getfield 109, 3) := by decide +kernel
theorem dX10_keep_42 : decode cX10_keep 42 = .ok (.getfield 182, 3) := by decide +kernel
theorem dX10_keep_45 : decode cX10_keep 45 = .ok (.ireturn, 1) := by decide +kernel
theorem dX10_back_0 : decode cX10_back 0 = .ok (.iload_n 1, 1) := by decide +kernel
theorem dX10_back_1 : decode cX10_back 1 = .ok (.ifCond .lt 8, 3) := by decide +kernel
theorem dX10_back_4 : decode cX10_back 4 = .ok (.iload_n 1, 1) := by decide +kernel
theorem dX10_back_5 : decode cX10_back 5 = .ok (.iconst 2, 1) := by decide +kernel
theorem dX10_back_6 : decode cX10_back 6 = .ok (.if_icmp .lt 5, 3) := by decide +kernel
theorem dX10_back_9 : decode cX10_back 9 = .ok (.iconst (-1), 1) := by decide +kernel
theorem dX10_back_10 : decode cX10_back 10 = .ok (.ireturn, 1) := by decide +kernel
theorem dX10_back_11 : decode cX10_back 11 = .ok (.aload_n 0, 1) := by decide +kernel
theorem dX10_back_12 : decode cX10_back 12 = .ok (.getfield 103, 3) := by decide +kernel
theorem dX10_back_15 : decode cX10_back 15 = .ok (.iload_n 1, 1) := by decide +kernel
theorem dX10_back_16 : decode cX10_back 16 = .ok (.ishr, 1) := by decide +kernel
theorem dX10_back_17 : decode cX10_back 17 = .ok (.iconst 1, 1) := by decide +kernel
theorem dX10_back_18 : decode cX10_back 18 = .ok (.iand, 1) := by decide +kernel
theorem dX10_back_19 : decode cX10_back 19 = .ok (.ifCond .ne 6, 3) := by decide +kernel
theorem dX10_back_22 : decode cX10_back 22 = .ok (.bipush (-2), 2) := by decide +kernel
theorem dX10_back_24 : decode cX10_back 24 = .ok (.ireturn, 1) := by decide +kernel
theorem dX10_back_25 : decode cX10_back 25 = .ok (.aload_n 0, 1) := by decide +kernel
theorem dX10_back_26 : decode cX10_back 26 = .ok (.getfield 29, 3) := by decide +kernel
theorem dX10_back_29 : decode cX10_back 29 = .ok (.aload_n 0, 1) := by decide +kernel
theorem dX10_back_30 : decode cX10_back 30 = .ok (.iload_n 1, 1) := by decide +kernel
theorem dX10_back_31 : decode cX10_back 31 = .ok (.invokevirtual 280, 3) := by decide +kernel
theorem dX10_back_34 : decode cX10_back 34 = .ok (.invokevirtual 284, 3) := by decide +kernel
theorem dX10_back_37 : decode cX10_back 37 = .ok (.aload_n 0, 1) := by decide +kernel
theorem dX10_back_38 : decode cX10_back 38 = .ok (.getfield 29, 3) := by decide +kernel
theorem dX10_back_41 : decode cX10_back 41 = .ok (.getfield 109, 3) := by decide +kernel
theorem dX10_back_44 : decode cX10_back 44 = .ok (.getfield 182, 3) := by decide +kernel
theorem dX10_back_47 : decode cX10_back 47 = .ok (.ireturn, 1) := by decide +kernel
theorem dX10_count_0 : decode cX10_count 0 = .ok (.iload_n 1, 1) := by decide +kernel
theorem dX10_count_1 : decode cX10_count 1 = .ok (.tableswitch 84 0 5 #[39, 47, 55, 63, 68, 76], 39) := by decide +kernel
theorem dX10_count_40 : decode cX10_count 40 = .ok (.aload_n 0, 1) := by decide +kernel
theorem dX10_count_41 : decode cX10_count 41 = .ok (.getfield 19, 3) := by decide +kernel
theorem dX10_count_44 : decode cX10_count 44 = .ok (.getfield 288, 3) := by decide +kernel
theorem dX10_count_47 : decode cX10_count 47 = .ok (.ireturn, 1) := by decide +kernel
theorem dX10_count_48 : decode cX10_count 48 = .ok (.aload_n 0, 1) := by decide +kernel
theorem dX10_count_49 : decode cX10_count 49 = .ok (.getfield 19, 3) := by decide +kernel
theorem dX10_count_52 : decode cX10_count 52 = .ok (.getfield 90, 3) := by decide +kernel
theorem dX10_count_55 : decode cX10_count 55 = .ok (.ireturn, 1) := by decide +kernel
theorem dX10_count_56 : decode cX10_count 56 = .ok (.aload_n 0, 1) := by decide +kernel
theorem dX10_count_57 : decode cX10_count 57 = .ok (.getfield 19, 3) := by decide +kernel
theorem dX10_count_60 : decode cX10_count 60 = .ok (.getfield 145, 3) := by decide +kernel
theorem dX10_count_63 : decode cX10_count 63 = .ok (.ireturn, 1) := by decide +kernel
theorem dX10_count_64 : decode cX10_count 64 = .ok (.aload_n 0, 1) := by decide +kernel
theorem dX10_count_65 : decode cX10_count 65 = .ok (.getfield 245, 3) := by decide +kernel
theorem dX10_count_68 : decode cX10_count 68 = .ok (.ireturn, 1) := by decide +kernel
theorem dX10_count_69 : decode cX10_count 69 = .ok (.aload_n 0, 1) := by decide +kernel
theorem dX10_count_70 : decode cX10_count 70 = .ok (.getfield 29, 3) := by decide +kernel
theorem dX10_count_73 : decode cX10_count 73 = .ok (.getfield 191, 3) := by decide +kernel
theorem dX10_count_76 : decode cX10_count 76 = .ok (.ireturn, 1) := by decide +kernel
theorem dX10_count_77 : decode cX10_count 77 = .ok (.aload_n 0, 1) := by decide +kernel
theorem dX10_count_78 : decode cX10_count 78 = .ok (.getfield 10, 3) := by decide +kernel
theorem dX10_count_81 : decode cX10_count 81 = .ok (.getfield 78, 3) := by decide +kernel
theorem dX10_count_84 : decode cX10_count 84 = .ok (.ireturn, 1) := by decide +kernel
theorem dX10_count_85 : decode cX10_count 85 = .ok (.iconst (-1), 1) := by decide +kernel
theorem dX10_count_86 : decode cX10_count 86 = .ok (.ireturn, 1) := by decide +kernel
theorem dX10_trace_0 : decode cX10_trace 0 = .ok (.aload_n 0, 1) := by decide +kernel
theorem dX10_trace_1 : decode cX10_trace 1 = .ok (.getfield 291, 3) := by decide +kernel
theorem dX10_trace_4 : decode cX10_trace 4 = .ok (.lreturn, 1) := by decide +kernel
theorem dX10_isStrip_0 : decode cX10_isStrip 0 = .ok (.iload_n 1, 1) := by decide +kernel
theorem dX10_isStrip_1 : decode cX10_isStrip 1 = .ok (.ifCond .lt 18, 3) := by decide +kernel
theorem dX10_isStrip_4 : decode cX10_isStrip 4 = .ok (.iload_n 1, 1) := by decide +kernel
theorem dX10_isStrip_5 : decode cX10_isStrip 5 = .ok (.aload_n 0, 1) := by decide +kernel
theorem dX10_isStrip_6 : decode cX10_isStrip 6 = .ok (.getfield 19, 3) := by decide +kernel
theorem dX10_isStrip_9 : decode cX10_isStrip 9 = .ok (.getfield 90, 3) := by decide +kernel
theorem dX10_isStrip_12 : decode cX10_isStrip 12 = .ok (.if_icmp .ge 7, 3) := by decide +kernel
theorem dX10_isStrip_15 : decode cX10_isStrip 15 = .ok (.iconst 1, 1) := by decide +kernel
theorem dX10_isStrip_16 : decode cX10_isStrip 16 = .ok (.goto 4, 3) := by decide +kernel
theorem dX10_isStrip_19 : decode cX10_isStrip 19 = .ok (.iconst 0, 1) := by decide +kernel
theorem dX10_isStrip_20 : decode cX10_isStrip 20 = .ok (.ireturn, 1) := by decide +kernel
theorem dX10_isLine_0 : decode cX10_isLine 0 = .ok (.iload_n 1, 1) := by decide +kernel
theorem dX10_isLine_1 : decode cX10_isLine 1 = .ok (.ifCond .lt 18, 3) := by decide +kernel
theorem dX10_isLine_4 : decode cX10_isLine 4 = .ok (.iload_n 1, 1) := by decide +kernel
theorem dX10_isLine_5 : decode cX10_isLine 5 = .ok (.aload_n 0, 1) := by decide +kernel
theorem dX10_isLine_6 : decode cX10_isLine 6 = .ok (.getfield 19, 3) := by decide +kernel
theorem dX10_isLine_9 : decode cX10_isLine 9 = .ok (.getfield 288, 3) := by decide +kernel
theorem dX10_isLine_12 : decode cX10_isLine 12 = .ok (.if_icmp .ge 7, 3) := by decide +kernel
theorem dX10_isLine_15 : decode cX10_isLine 15 = .ok (.iconst 1, 1) := by decide +kernel
theorem dX10_isLine_16 : decode cX10_isLine 16 = .ok (.goto 4, 3) := by decide +kernel
theorem dX10_isLine_19 : decode cX10_isLine 19 = .ok (.iconst 0, 1) := by decide +kernel
theorem dX10_isLine_20 : decode cX10_isLine 20 = .ok (.ireturn, 1) := by decide +kernel
theorem dX10_isPlace_0 : decode cX10_isPlace 0 = .ok (.iload_n 1, 1) := by decide +kernel
theorem dX10_isPlace_1 : decode cX10_isPlace 1 = .ok (.ifCond .lt 21, 3) := by decide +kernel
theorem dX10_isPlace_4 : decode cX10_isPlace 4 = .ok (.iload_n 1, 1) := by decide +kernel
theorem dX10_isPlace_5 : decode cX10_isPlace 5 = .ok (.aload_n 0, 1) := by decide +kernel
theorem dX10_isPlace_6 : decode cX10_isPlace 6 = .ok (.getfield 29, 3) := by decide +kernel
theorem dX10_isPlace_9 : decode cX10_isPlace 9 = .ok (.getfield 109, 3) := by decide +kernel
theorem dX10_isPlace_12 : decode cX10_isPlace 12 = .ok (.getfield 182, 3) := by decide +kernel
theorem dX10_isPlace_15 : decode cX10_isPlace 15 = .ok (.if_icmp .ge 7, 3) := by decide +kernel
theorem dX10_isPlace_18 : decode cX10_isPlace 18 = .ok (.iconst 1, 1) := by decide +kernel
theorem dX10_isPlace_19 : decode cX10_isPlace 19 = .ok (.goto 4, 3) := by decide +kernel
theorem dX10_isPlace_22 : decode cX10_isPlace 22 = .ok (.iconst 0, 1) := by decide +kernel
theorem dX10_isPlace_23 : decode cX10_isPlace 23 = .ok (.ireturn, 1) := by decide +kernel
theorem dX10_refusalOf_0 : decode cX10_refusalOf 0 = .ok (.aload_n 0, 1) := by decide +kernel
theorem dX10_refusalOf_1 : decode cX10_refusalOf 1 = .ok (.iload_n 1, 1) := by decide +kernel
theorem dX10_refusalOf_2 : decode cX10_refusalOf 2 = .ok (.invokevirtual 106, 3) := by decide +kernel
theorem dX10_refusalOf_5 : decode cX10_refusalOf 5 = .ok (.ifCond .ne 5, 3) := by decide +kernel
theorem dX10_refusalOf_8 : decode cX10_refusalOf 8 = .ok (.iconst (-1), 1) := by decide +kernel
theorem dX10_refusalOf_9 : decode cX10_refusalOf 9 = .ok (.ireturn, 1) := by decide +kernel
theorem dX10_refusalOf_10 : decode cX10_refusalOf 10 = .ok (.aload_n 0, 1) := by decide +kernel
theorem dX10_refusalOf_11 : decode cX10_refusalOf 11 = .ok (.getfield 29, 3) := by decide +kernel
theorem dX10_refusalOf_14 : decode cX10_refusalOf 14 = .ok (.getfield 109, 3) := by decide +kernel
theorem dX10_refusalOf_17 : decode cX10_refusalOf 17 = .ok (.iload_n 1, 1) := by decide +kernel
theorem dX10_refusalOf_18 : decode cX10_refusalOf 18 = .ok (.invokevirtual 112, 3) := by decide +kernel
theorem dX10_refusalOf_21 : decode cX10_refusalOf 21 = .ok (.bipush (-9), 2) := by decide +kernel
theorem dX10_refusalOf_23 : decode cX10_refusalOf 23 = .ok (.if_icmp .eq 7, 3) := by decide +kernel
theorem dX10_refusalOf_26 : decode cX10_refusalOf 26 = .ok (.iconst 1, 1) := by decide +kernel
theorem dX10_refusalOf_27 : decode cX10_refusalOf 27 = .ok (.goto 4, 3) := by decide +kernel
theorem dX10_refusalOf_30 : decode cX10_refusalOf 30 = .ok (.iconst 0, 1) := by decide +kernel
theorem dX10_refusalOf_31 : decode cX10_refusalOf 31 = .ok (.istore_n 3, 1) := by decide +kernel
theorem dX10_refusalOf_32 : decode cX10_refusalOf 32 = .ok (.iload_n 3, 1) := by decide +kernel
theorem dX10_refusalOf_33 : decode cX10_refusalOf 33 = .ok (.iload_n 2, 1) := by decide +kernel
theorem dX10_refusalOf_34 : decode cX10_refusalOf 34 = .ok (.if_icmp .ne 7, 3) := by decide +kernel
theorem dX10_refusalOf_37 : decode cX10_refusalOf 37 = .ok (.iconst 0, 1) := by decide +kernel
theorem dX10_refusalOf_38 : decode cX10_refusalOf 38 = .ok (.goto 5, 3) := by decide +kernel
theorem dX10_refusalOf_41 : decode cX10_refusalOf 41 = .ok (.bipush (-2), 2) := by decide +kernel
theorem dX10_refusalOf_43 : decode cX10_refusalOf 43 = .ok (.ireturn, 1) := by decide +kernel
theorem dX10_imageOf_0 : decode cX10_imageOf 0 = .ok (.iload_n 1, 1) := by decide +kernel
theorem dX10_imageOf_1 : decode cX10_imageOf 1 = .ok (.ifCond .ne 10, 3) := by decide +kernel
theorem dX10_imageOf_4 : decode cX10_imageOf 4 = .ok (.aload_n 0, 1) := by decide +kernel
theorem dX10_imageOf_5 : decode cX10_imageOf 5 = .ok (.getfield 33, 3) := by decide +kernel
theorem dX10_imageOf_8 : decode cX10_imageOf 8 = .ok (.goto 7, 3) := by decide +kernel
theorem dX10_imageOf_11 : decode cX10_imageOf 11 = .ok (.aload_n 0, 1) := by decide +kernel
theorem dX10_imageOf_12 : decode cX10_imageOf 12 = .ok (.getfield 36, 3) := by decide +kernel
theorem dX10_imageOf_15 : decode cX10_imageOf 15 = .ok (.areturn, 1) := by decide +kernel
theorem dX10_rightLines_0 : decode cX10_rightLines 0 = .ok (.iconst 0, 1) := by decide +kernel
theorem dX10_rightLines_1 : decode cX10_rightLines 1 = .ok (.istore_n 1, 1) := by decide +kernel
theorem dX10_rightLines_2 : decode cX10_rightLines 2 = .ok (.iconst 0, 1) := by decide +kernel
theorem dX10_rightLines_3 : decode cX10_rightLines 3 = .ok (.istore_n 2, 1) := by decide +kernel
theorem dX10_rightLines_4 : decode cX10_rightLines 4 = .ok (.iload_n 2, 1) := by decide +kernel
theorem dX10_rightLines_5 : decode cX10_rightLines 5 = .ok (.aload_n 0, 1) := by decide +kernel
theorem dX10_rightLines_6 : decode cX10_rightLines 6 = .ok (.getfield 19, 3) := by decide +kernel
theorem dX10_rightLines_9 : decode cX10_rightLines 9 = .ok (.getfield 288, 3) := by decide +kernel
theorem dX10_rightLines_12 : decode cX10_rightLines 12 = .ok (.if_icmp .ge 51, 3) := by decide +kernel
theorem dX10_rightLines_15 : decode cX10_rightLines 15 = .ok (.aload_n 0, 1) := by decide +kernel
theorem dX10_rightLines_16 : decode cX10_rightLines 16 = .ok (.getfield 42, 3) := by decide +kernel
theorem dX10_rightLines_19 : decode cX10_rightLines 19 = .ok (.aload_n 0, 1) := by decide +kernel
theorem dX10_rightLines_20 : decode cX10_rightLines 20 = .ok (.getfield 19, 3) := by decide +kernel
theorem dX10_rightLines_23 : decode cX10_rightLines 23 = .ok (.aload_n 0, 1) := by decide +kernel
theorem dX10_rightLines_24 : decode cX10_rightLines 24 = .ok (.getfield 29, 3) := by decide +kernel
theorem dX10_rightLines_27 : decode cX10_rightLines 27 = .ok (.getfield 109, 3) := by decide +kernel
theorem dX10_rightLines_30 : decode cX10_rightLines 30 = .ok (.iload_n 2, 1) := by decide +kernel
theorem dX10_rightLines_31 : decode cX10_rightLines 31 = .ok (.invokevirtual 206, 3) := by decide +kernel
theorem dX10_rightLines_34 : decode cX10_rightLines 34 = .ok (.aload_n 0, 1) := by decide +kernel
theorem dX10_rightLines_35 : decode cX10_rightLines 35 = .ok (.getfield 42, 3) := by decide +kernel
theorem dX10_rightLines_38 : decode cX10_rightLines 38 = .ok (.getfield 213, 3) := by decide +kernel
theorem dX10_rightLines_41 : decode cX10_rightLines 41 = .ok (.aload_n 0, 1) := by decide +kernel
theorem dX10_rightLines_42 : decode cX10_rightLines 42 = .ok (.getfield 42, 3) := by decide +kernel
theorem dX10_rightLines_45 : decode cX10_rightLines 45 = .ok (.getfield 210, 3) := by decide +kernel
theorem dX10_rightLines_48 : decode cX10_rightLines 48 = .ok (.if_icmp .ne 9, 3) := by decide +kernel
theorem dX10_rightLines_51 : decode cX10_rightLines 51 = .ok (.iload_n 1, 1) := by decide +kernel
theorem dX10_rightLines_52 : decode cX10_rightLines 52 = .ok (.iconst 1, 1) := by decide +kernel
theorem dX10_rightLines_53 : decode cX10_rightLines 53 = .ok (.iload_n 2, 1) := by decide +kernel
theorem dX10_rightLines_54 : decode cX10_rightLines 54 = .ok (.ishl, 1) := by decide +kernel
theorem dX10_rightLines_55 : decode cX10_rightLines 55 = .ok (.ior, 1) := by decide +kernel
theorem dX10_rightLines_56 : decode cX10_rightLines 56 = .ok (.istore_n 1, 1) := by decide +kernel
theorem dX10_rightLines_57 : decode cX10_rightLines 57 = .ok (.iinc 2 1, 3) := by decide +kernel
theorem dX10_rightLines_60 : decode cX10_rightLines 60 = .ok (.goto (-56), 3) := by decide +kernel
theorem dX10_rightLines_63 : decode cX10_rightLines 63 = .ok (.iload_n 1, 1) := by decide +kernel
theorem dX10_rightLines_64 : decode cX10_rightLines 64 = .ok (.ireturn, 1) := by decide +kernel
theorem dX10_rightRuns_0 : decode cX10_rightRuns 0 = .ok (.iconst 0, 1) := by decide +kernel
theorem dX10_rightRuns_1 : decode cX10_rightRuns 1 = .ok (.istore_n 1, 1) := by decide +kernel
theorem dX10_rightRuns_2 : decode cX10_rightRuns 2 = .ok (.iconst 0, 1) := by decide +kernel
theorem dX10_rightRuns_3 : decode cX10_rightRuns 3 = .ok (.istore_n 2, 1) := by decide +kernel
theorem dX10_rightRuns_4 : decode cX10_rightRuns 4 = .ok (.iload_n 2, 1) := by decide +kernel
theorem dX10_rightRuns_5 : decode cX10_rightRuns 5 = .ok (.aload_n 0, 1) := by decide +kernel
theorem dX10_rightRuns_6 : decode cX10_rightRuns 6 = .ok (.getfield 19, 3) := by decide +kernel
theorem dX10_rightRuns_9 : decode cX10_rightRuns 9 = .ok (.getfield 288, 3) := by decide +kernel
theorem dX10_rightRuns_12 : decode cX10_rightRuns 12 = .ok (.if_icmp .ge 38, 3) := by decide +kernel
theorem dX10_rightRuns_15 : decode cX10_rightRuns 15 = .ok (.aload_n 0, 1) := by decide +kernel
theorem dX10_rightRuns_16 : decode cX10_rightRuns 16 = .ok (.getfield 42, 3) := by decide +kernel
theorem dX10_rightRuns_19 : decode cX10_rightRuns 19 = .ok (.aload_n 0, 1) := by decide +kernel
theorem dX10_rightRuns_20 : decode cX10_rightRuns 20 = .ok (.getfield 19, 3) := by decide +kernel
theorem dX10_rightRuns_23 : decode cX10_rightRuns 23 = .ok (.aload_n 0, 1) := by decide +kernel
theorem dX10_rightRuns_24 : decode cX10_rightRuns 24 = .ok (.getfield 29, 3) := by decide +kernel
theorem dX10_rightRuns_27 : decode cX10_rightRuns 27 = .ok (.getfield 109, 3) := by decide +kernel
theorem dX10_rightRuns_30 : decode cX10_rightRuns 30 = .ok (.iload_n 2, 1) := by decide +kernel
theorem dX10_rightRuns_31 : decode cX10_rightRuns 31 = .ok (.invokevirtual 206, 3) := by decide +kernel
theorem dX10_rightRuns_34 : decode cX10_rightRuns 34 = .ok (.iload_n 1, 1) := by decide +kernel
theorem dX10_rightRuns_35 : decode cX10_rightRuns 35 = .ok (.aload_n 0, 1) := by decide +kernel
theorem dX10_rightRuns_36 : decode cX10_rightRuns 36 = .ok (.getfield 42, 3) := by decide +kernel
theorem dX10_rightRuns_39 : decode cX10_rightRuns 39 = .ok (.getfield 213, 3) := by decide +kernel
theorem dX10_rightRuns_42 : decode cX10_rightRuns 42 = .ok (.iadd, 1) := by decide +kernel
theorem dX10_rightRuns_43 : decode cX10_rightRuns 43 = .ok (.istore_n 1, 1) := by decide +kernel
theorem dX10_rightRuns_44 : decode cX10_rightRuns 44 = .ok (.iinc 2 1, 3) := by decide +kernel
theorem dX10_rightRuns_47 : decode cX10_rightRuns 47 = .ok (.goto (-43), 3) := by decide +kernel
theorem dX10_rightRuns_50 : decode cX10_rightRuns 50 = .ok (.iload_n 1, 1) := by decide +kernel
theorem dX10_rightRuns_51 : decode cX10_rightRuns 51 = .ok (.ireturn, 1) := by decide +kernel
theorem dX10_aliens_0 : decode cX10_aliens 0 = .ok (.iconst 0, 1) := by decide +kernel
theorem dX10_aliens_1 : decode cX10_aliens 1 = .ok (.istore_n 1, 1) := by decide +kernel
theorem dX10_aliens_2 : decode cX10_aliens 2 = .ok (.iconst 0, 1) := by decide +kernel
theorem dX10_aliens_3 : decode cX10_aliens 3 = .ok (.istore_n 2, 1) := by decide +kernel
theorem dX10_aliens_4 : decode cX10_aliens 4 = .ok (.iload_n 2, 1) := by decide +kernel
theorem dX10_aliens_5 : decode cX10_aliens 5 = .ok (.aload_n 0, 1) := by decide +kernel
theorem dX10_aliens_6 : decode cX10_aliens 6 = .ok (.getfield 29, 3) := by decide +kernel
theorem dX10_aliens_9 : decode cX10_aliens 9 = .ok (.getfield 109, 3) := by decide +kernel
theorem dX10_aliens_12 : decode cX10_aliens 12 = .ok (.getfield 182, 3) := by decide +kernel
theorem dX10_aliens_15 : decode cX10_aliens 15 = .ok (.if_icmp .ge 75, 3) := by decide +kernel
theorem dX10_aliens_18 : decode cX10_aliens 18 = .ok (.aload_n 0, 1) := by decide +kernel
theorem dX10_aliens_19 : decode cX10_aliens 19 = .ok (.getfield 29, 3) := by decide +kernel
theorem dX10_aliens_22 : decode cX10_aliens 22 = .ok (.getfield 109, 3) := by decide +kernel
theorem dX10_aliens_25 : decode cX10_aliens 25 = .ok (.getfield 143, 3) := by decide +kernel
theorem dX10_aliens_28 : decode cX10_aliens 28 = .ok (.iload_n 2, 1) := by decide +kernel
theorem dX10_aliens_29 : decode cX10_aliens 29 = .ok (.iaload, 1) := by decide +kernel
theorem dX10_aliens_30 : decode cX10_aliens 30 = .ok (.istore_n 3, 1) := by decide +kernel
theorem dX10_aliens_31 : decode cX10_aliens 31 = .ok (.aload_n 0, 1) := by decide +kernel
theorem dX10_aliens_32 : decode cX10_aliens 32 = .ok (.getfield 70, 3) := by decide +kernel
theorem dX10_aliens_35 : decode cX10_aliens 35 = .ok (.aload_n 0, 1) := by decide +kernel
theorem dX10_aliens_36 : decode cX10_aliens 36 = .ok (.getfield 29, 3) := by decide +kernel
theorem dX10_aliens_39 : decode cX10_aliens 39 = .ok (.getfield 109, 3) := by decide +kernel
theorem dX10_aliens_42 : decode cX10_aliens 42 = .ok (.invokevirtual 295, 3) := by decide +kernel
theorem dX10_aliens_45 : decode cX10_aliens 45 = .ok (.aload_n 0, 1) := by decide +kernel
theorem dX10_aliens_46 : decode cX10_aliens 46 = .ok (.getfield 70, 3) := by decide +kernel
theorem dX10_aliens_49 : decode cX10_aliens 49 = .ok (.iload_n 3, 1) := by decide +kernel
theorem dX10_aliens_50 : decode cX10_aliens 50 = .ok (.invokevirtual 179, 3) := by decide +kernel
theorem dX10_aliens_53 : decode cX10_aliens 53 = .ok (.aload_n 0, 1) := by decide +kernel
theorem dX10_aliens_54 : decode cX10_aliens 54 = .ok (.getfield 49, 3) := by decide +kernel
theorem dX10_aliens_57 : decode cX10_aliens 57 = .ok (.aload_n 0, 1) := by decide +kernel
theorem dX10_aliens_58 : decode cX10_aliens 58 = .ok (.getfield 19, 3) := by decide +kernel
theorem dX10_aliens_61 : decode cX10_aliens 61 = .ok (.aload_n 0, 1) := by decide +kernel
theorem dX10_aliens_62 : decode cX10_aliens 62 = .ok (.getfield 70, 3) := by decide +kernel
theorem dX10_aliens_65 : decode cX10_aliens 65 = .ok (.invokevirtual 122, 3) := by decide +kernel
theorem dX10_aliens_68 : decode cX10_aliens 68 = .ok (.aload_n 0, 1) := by decide +kernel
theorem dX10_aliens_69 : decode cX10_aliens 69 = .ok (.getfield 49, 3) := by decide +kernel
theorem dX10_aliens_72 : decode cX10_aliens 72 = .ok (.getfield 217, 3) := by decide +kernel
theorem dX10_aliens_75 : decode cX10_aliens 75 = .ok (.ifCond .le 9, 3) := by decide +kernel
theorem dX10_aliens_78 : decode cX10_aliens 78 = .ok (.iload_n 1, 1) := by decide +kernel
theorem dX10_aliens_79 : decode cX10_aliens 79 = .ok (.iconst 1, 1) := by decide +kernel
theorem dX10_aliens_80 : decode cX10_aliens 80 = .ok (.iload_n 3, 1) := by decide +kernel
theorem dX10_aliens_81 : decode cX10_aliens 81 = .ok (.ishl, 1) := by decide +kernel
theorem dX10_aliens_82 : decode cX10_aliens 82 = .ok (.ior, 1) := by decide +kernel
theorem dX10_aliens_83 : decode cX10_aliens 83 = .ok (.istore_n 1, 1) := by decide +kernel
theorem dX10_aliens_84 : decode cX10_aliens 84 = .ok (.iinc 2 1, 3) := by decide +kernel
theorem dX10_aliens_87 : decode cX10_aliens 87 = .ok (.goto (-83), 3) := by decide +kernel
theorem dX10_aliens_90 : decode cX10_aliens 90 = .ok (.iload_n 1, 1) := by decide +kernel
theorem dX10_aliens_91 : decode cX10_aliens 91 = .ok (.ireturn, 1) := by decide +kernel
theorem dX10_greaterPart_0 : decode cX10_greaterPart 0 = .ok (.iconst 0, 1) := by decide +kernel
theorem dX10_greaterPart_1 : decode cX10_greaterPart 1 = .ok (.istore_n 3, 1) := by decide +kernel
theorem dX10_greaterPart_2 : decode cX10_greaterPart 2 = .ok (.iconst 0, 1) := by decide +kernel
theorem dX10_greaterPart_3 : decode cX10_greaterPart 3 = .ok (.istore 4, 2) := by decide +kernel
theorem dX10_greaterPart_5 : decode cX10_greaterPart 5 = .ok (.iload 4, 2) := by decide +kernel
theorem dX10_greaterPart_7 : decode cX10_greaterPart 7 = .ok (.aload_n 0, 1) := by decide +kernel
theorem dX10_greaterPart_8 : decode cX10_greaterPart 8 = .ok (.getfield 19, 3) := by decide +kernel
theorem dX10_greaterPart_11 : decode cX10_greaterPart 11 = .ok (.getfield 90, 3) := by decide +kernel
theorem dX10_greaterPart_14 : decode cX10_greaterPart 14 = .ok (.if_icmp .ge 30, 3) := by decide +kernel
theorem dX10_greaterPart_17 : decode cX10_greaterPart 17 = .ok (.iload_n 3, 1) := by decide +kernel
theorem dX10_greaterPart_18 : decode cX10_greaterPart 18 = .ok (.iload_n 1, 1) := by decide +kernel
theorem dX10_greaterPart_19 : decode cX10_greaterPart 19 = .ok (.iload 4, 2) := by decide +kernel
theorem dX10_greaterPart_21 : decode cX10_greaterPart 21 = .ok (.ishr, 1) := by decide +kernel
theorem dX10_greaterPart_22 : decode cX10_greaterPart 22 = .ok (.aload_n 0, 1) := by decide +kernel
theorem dX10_greaterPart_23 : decode cX10_greaterPart 23 = .ok (.getfield 19, 3) := by decide +kernel
theorem dX10_greaterPart_26 : decode cX10_greaterPart 26 = .ok (.iload 4, 2) := by decide +kernel
theorem dX10_greaterPart_28 : decode cX10_greaterPart 28 = .ok (.invokevirtual 119, 3) := by decide +kernel
theorem dX10_greaterPart_31 : decode cX10_greaterPart 31 = .ok (.iload_n 2, 1) := by decide +kernel
theorem dX10_greaterPart_32 : decode cX10_greaterPart 32 = .ok (.ishr, 1) := by decide +kernel
theorem dX10_greaterPart_33 : decode cX10_greaterPart 33 = .ok (.iand, 1) := by decide +kernel
theorem dX10_greaterPart_34 : decode cX10_greaterPart 34 = .ok (.iconst 1, 1) := by decide +kernel
theorem dX10_greaterPart_35 : decode cX10_greaterPart 35 = .ok (.iand, 1) := by decide +kernel
theorem dX10_greaterPart_36 : decode cX10_greaterPart 36 = .ok (.iadd, 1) := by decide +kernel
theorem dX10_greaterPart_37 : decode cX10_greaterPart 37 = .ok (.istore_n 3, 1) := by decide +kernel
theorem dX10_greaterPart_38 : decode cX10_greaterPart 38 = .ok (.iinc 4 1, 3) := by decide +kernel
theorem dX10_greaterPart_41 : decode cX10_greaterPart 41 = .ok (.goto (-36), 3) := by decide +kernel
theorem dX10_greaterPart_44 : decode cX10_greaterPart 44 = .ok (.iload_n 3, 1) := by decide +kernel
theorem dX10_greaterPart_45 : decode cX10_greaterPart 45 = .ok (.iload_n 1, 1) := by decide +kernel
theorem dX10_greaterPart_46 : decode cX10_greaterPart 46 = .ok (.invokestatic 164, 3) := by decide +kernel
theorem dX10_greaterPart_49 : decode cX10_greaterPart 49 = .ok (.iload_n 3, 1) := by decide +kernel
theorem dX10_greaterPart_50 : decode cX10_greaterPart 50 = .ok (.isub, 1) := by decide +kernel
theorem dX10_greaterPart_51 : decode cX10_greaterPart 51 = .ok (.invokestatic 298, 3) := by decide +kernel
theorem dX10_greaterPart_54 : decode cX10_greaterPart 54 = .ok (.ireturn, 1) := by decide +kernel
theorem dX10_byteOf_0 : decode cX10_byteOf 0 = .ok (.iload_n 0, 1) := by decide +kernel
theorem dX10_byteOf_1 : decode cX10_byteOf 1 = .ok (.bipush 26, 2) := by decide +kernel
theorem dX10_byteOf_3 : decode cX10_byteOf 3 = .ok (.if_icmp .ne 8, 3) := by decide +kernel
theorem dX10_byteOf_6 : decode cX10_byteOf 6 = .ok (.bipush 46, 2) := by decide +kernel
theorem dX10_byteOf_8 : decode cX10_byteOf 8 = .ok (.goto 7, 3) := by decide +kernel
theorem dX10_byteOf_11 : decode cX10_byteOf 11 = .ok (.bipush 97, 2) := by decide +kernel
theorem dX10_byteOf_13 : decode cX10_byteOf 13 = .ok (.iload_n 0, 1) := by decide +kernel
theorem dX10_byteOf_14 : decode cX10_byteOf 14 = .ok (.iadd, 1) := by decide +kernel
theorem dX10_byteOf_15 : decode cX10_byteOf 15 = .ok (.ireturn, 1) := by decide +kernel
theorem dX10_ordersOf_0 : decode cX10_ordersOf 0 = .ok (.iconst 1, 1) := by decide +kernel
theorem dX10_ordersOf_1 : decode cX10_ordersOf 1 = .ok (.istore_n 1, 1) := by decide +kernel
theorem dX10_ordersOf_2 : decode cX10_ordersOf 2 = .ok (.iconst 2, 1) := by decide +kernel
theorem dX10_ordersOf_3 : decode cX10_ordersOf 3 = .ok (.istore_n 2, 1) := by decide +kernel
theorem dX10_ordersOf_4 : decode cX10_ordersOf 4 = .ok (.iload_n 2, 1) := by decide +kernel
theorem dX10_ordersOf_5 : decode cX10_ordersOf 5 = .ok (.iload_n 0, 1) := by decide +kernel
theorem dX10_ordersOf_6 : decode cX10_ordersOf 6 = .ok (.if_icmp .gt 13, 3) := by decide +kernel
theorem dX10_ordersOf_9 : decode cX10_ordersOf 9 = .ok (.iload_n 1, 1) := by decide +kernel
theorem dX10_ordersOf_10 : decode cX10_ordersOf 10 = .ok (.iload_n 2, 1) := by decide +kernel
theorem dX10_ordersOf_11 : decode cX10_ordersOf 11 = .ok (.imul, 1) := by decide +kernel
theorem dX10_ordersOf_12 : decode cX10_ordersOf 12 = .ok (.istore_n 1, 1) := by decide +kernel
theorem dX10_ordersOf_13 : decode cX10_ordersOf 13 = .ok (.iinc 2 1, 3) := by decide +kernel
theorem dX10_ordersOf_16 : decode cX10_ordersOf 16 = .ok (.goto (-12), 3) := by decide +kernel
theorem dX10_ordersOf_19 : decode cX10_ordersOf 19 = .ok (.iload_n 1, 1) := by decide +kernel
theorem dX10_ordersOf_20 : decode cX10_ordersOf 20 = .ok (.ireturn, 1) := by decide +kernel
theorem dX10_inLeastTerms_0 : decode cX10_inLeastTerms 0 = .ok (.iload_n 2, 1) := by decide +kernel
theorem dX10_inLeastTerms_1 : decode cX10_inLeastTerms 1 = .ok (.istore_n 3, 1) := by decide +kernel
theorem dX10_inLeastTerms_2 : decode cX10_inLeastTerms 2 = .ok (.iload_n 3, 1) := by decide +kernel
theorem dX10_inLeastTerms_3 : decode cX10_inLeastTerms 3 = .ok (.iconst 1, 1) := by decide +kernel
theorem dX10_inLeastTerms_4 : decode cX10_inLeastTerms 4 = .ok (.if_icmp .le 25, 3) := by decide +kernel
theorem dX10_inLeastTerms_7 : decode cX10_inLeastTerms 7 = .ok (.iload_n 1, 1) := by decide +kernel
theorem dX10_inLeastTerms_8 : decode cX10_inLeastTerms 8 = .ok (.iload_n 3, 1) := by decide +kernel
theorem dX10_inLeastTerms_9 : decode cX10_inLeastTerms 9 = .ok (.irem, 1) := by decide +kernel
theorem dX10_inLeastTerms_10 : decode cX10_inLeastTerms 10 = .ok (.ifCond .ne 13, 3) := by decide +kernel
theorem dX10_inLeastTerms_13 : decode cX10_inLeastTerms 13 = .ok (.iload_n 2, 1) := by decide +kernel
theorem dX10_inLeastTerms_14 : decode cX10_inLeastTerms 14 = .ok (.iload_n 3, 1) := by decide +kernel
theorem dX10_inLeastTerms_15 : decode cX10_inLeastTerms 15 = .ok (.irem, 1) := by decide +kernel
theorem dX10_inLeastTerms_16 : decode cX10_inLeastTerms 16 = .ok (.ifCond .ne 7, 3) := by decide +kernel
theorem dX10_inLeastTerms_19 : decode cX10_inLeastTerms 19 = .ok (.iload_n 0, 1) := by decide +kernel
theorem dX10_inLeastTerms_20 : decode cX10_inLeastTerms 20 = .ok (.iload_n 3, 1) := by decide +kernel
theorem dX10_inLeastTerms_21 : decode cX10_inLeastTerms 21 = .ok (.idiv, 1) := by decide +kernel
theorem dX10_inLeastTerms_22 : decode cX10_inLeastTerms 22 = .ok (.ireturn, 1) := by decide +kernel
theorem dX10_inLeastTerms_23 : decode cX10_inLeastTerms 23 = .ok (.iinc 3 (-1), 3) := by decide +kernel
theorem dX10_inLeastTerms_26 : decode cX10_inLeastTerms 26 = .ok (.goto (-24), 3) := by decide +kernel
theorem dX10_inLeastTerms_29 : decode cX10_inLeastTerms 29 = .ok (.iload_n 0, 1) := by decide +kernel
theorem dX10_inLeastTerms_30 : decode cX10_inLeastTerms 30 = .ok (.ireturn, 1) := by decide +kernel
theorem dX10_plainMark_0 : decode cX10_plainMark 0 = .ok (.aload_n 0, 1) := by decide +kernel
theorem dX10_plainMark_1 : decode cX10_plainMark 1 = .ok (.dup, 1) := by decide +kernel
theorem dX10_plainMark_2 : decode cX10_plainMark 2 = .ok (.getfield 291, 3) := by decide +kernel
theorem dX10_plainMark_5 : decode cX10_plainMark 5 = .ok (.lconst 1, 1) := by decide +kernel
theorem dX10_plainMark_6 : decode cX10_plainMark 6 = .ok (.ladd, 1) := by decide +kernel
theorem dX10_plainMark_7 : decode cX10_plainMark 7 = .ok (.putfield 291, 3) := by decide +kernel
theorem dX10_plainMark_10 : decode cX10_plainMark 10 = .ok (.aload_n 0, 1) := by decide +kernel
theorem dX10_plainMark_11 : decode cX10_plainMark 11 = .ok (.getfield 19, 3) := by decide +kernel
theorem dX10_plainMark_14 : decode cX10_plainMark 14 = .ok (.iload_n 1, 1) := by decide +kernel
theorem dX10_plainMark_15 : decode cX10_plainMark 15 = .ok (.invokevirtual 303, 3) := by decide +kernel
theorem dX10_plainMark_18 : decode cX10_plainMark 18 = .ok (.ireturn, 1) := by decide +kernel
theorem dX10_creasedMark_0 : decode cX10_creasedMark 0 = .ok (.aload_n 0, 1) := by decide +kernel
theorem dX10_creasedMark_1 : decode cX10_creasedMark 1 = .ok (.dup, 1) := by decide +kernel
theorem dX10_creasedMark_2 : decode cX10_creasedMark 2 = .ok (.getfield 291, 3) := by decide +kernel
theorem dX10_creasedMark_5 : decode cX10_creasedMark 5 = .ok (.ldc2_w 306, 3) := by decide +kernel
theorem dX10_creasedMark_8 : decode cX10_creasedMark 8 = .ok (.ladd, 1) := by decide +kernel
theorem dX10_creasedMark_9 : decode cX10_creasedMark 9 = .ok (.putfield 291, 3) := by decide +kernel
theorem dX10_creasedMark_12 : decode cX10_creasedMark 12 = .ok (.aload_n 0, 1) := by decide +kernel
theorem dX10_creasedMark_13 : decode cX10_creasedMark 13 = .ok (.iload_n 1, 1) := by decide +kernel
theorem dX10_creasedMark_14 : decode cX10_creasedMark 14 = .ok (.invokevirtual 277, 3) := by decide +kernel
theorem dX10_creasedMark_17 : decode cX10_creasedMark 17 = .ok (.bipush 10, 2) := by decide +kernel
theorem dX10_creasedMark_19 : decode cX10_creasedMark 19 = .ok (.aload_n 0, 1) := by decide +kernel
theorem dX10_creasedMark_20 : decode cX10_creasedMark 20 = .ok (.getfield 29, 3) := by decide +kernel
theorem dX10_creasedMark_23 : decode cX10_creasedMark 23 = .ok (.getfield 109, 3) := by decide +kernel
theorem dX10_creasedMark_26 : decode cX10_creasedMark 26 = .ok (.iload_n 1, 1) := by decide +kernel
theorem dX10_creasedMark_27 : decode cX10_creasedMark 27 = .ok (.invokevirtual 116, 3) := by decide +kernel
theorem dX10_creasedMark_30 : decode cX10_creasedMark 30 = .ok (.imul, 1) := by decide +kernel
theorem dX10_creasedMark_31 : decode cX10_creasedMark 31 = .ok (.iadd, 1) := by decide +kernel
theorem dX10_creasedMark_32 : decode cX10_creasedMark 32 = .ok (.ireturn, 1) := by decide +kernel
theorem dX10_smudgedMark_0 : decode cX10_smudgedMark 0 = .ok (.aload_n 0, 1) := by decide +kernel
theorem dX10_smudgedMark_1 : decode cX10_smudgedMark 1 = .ok (.dup, 1) := by decide +kernel
theorem dX10_smudgedMark_2 : decode cX10_smudgedMark 2 = .ok (.getfield 291, 3) := by decide +kernel
theorem dX10_smudgedMark_5 : decode cX10_smudgedMark 5 = .ok (.ldc2_w 308, 3) := by decide +kernel
theorem dX10_smudgedMark_8 : decode cX10_smudgedMark 8 = .ok (.ladd, 1) := by decide +kernel
theorem dX10_smudgedMark_9 : decode cX10_smudgedMark 9 = .ok (.putfield 291, 3) := by decide +kernel
theorem dX10_smudgedMark_12 : decode cX10_smudgedMark 12 = .ok (.aload_n 0, 1) := by decide +kernel
theorem dX10_smudgedMark_13 : decode cX10_smudgedMark 13 = .ok (.iload_n 1, 1) := by decide +kernel
theorem dX10_smudgedMark_14 : decode cX10_smudgedMark 14 = .ok (.invokevirtual 277, 3) := by decide +kernel
theorem dX10_smudgedMark_17 : decode cX10_smudgedMark 17 = .ok (.aload_n 0, 1) := by decide +kernel
theorem dX10_smudgedMark_18 : decode cX10_smudgedMark 18 = .ok (.getfield 29, 3) := by decide +kernel
theorem dX10_smudgedMark_21 : decode cX10_smudgedMark 21 = .ok (.getfield 109, 3) := by decide +kernel
theorem dX10_smudgedMark_24 : decode cX10_smudgedMark 24 = .ok (.getfield 182, 3) := by decide +kernel
theorem dX10_smudgedMark_27 : decode cX10_smudgedMark 27 = .ok (.isub, 1) := by decide +kernel
theorem dX10_smudgedMark_28 : decode cX10_smudgedMark 28 = .ok (.ireturn, 1) := by decide +kernel
theorem dX10_tornMark_0 : decode cX10_tornMark 0 = .ok (.aload_n 0, 1) := by decide +kernel
theorem dX10_tornMark_1 : decode cX10_tornMark 1 = .ok (.dup, 1) := by decide +kernel
theorem dX10_tornMark_2 : decode cX10_tornMark 2 = .ok (.getfield 291, 3) := by decide +kernel
theorem dX10_tornMark_5 : decode cX10_tornMark 5 = .ok (.ldc2_w 310, 3) := by decide +kernel
theorem dX10_tornMark_8 : decode cX10_tornMark 8 = .ok (.ladd, 1) := by decide +kernel
theorem dX10_tornMark_9 : decode cX10_tornMark 9 = .ok (.putfield 291, 3) := by decide +kernel
theorem dX10_tornMark_12 : decode cX10_tornMark 12 = .ok (.aload_n 0, 1) := by decide +kernel
theorem dX10_tornMark_13 : decode cX10_tornMark 13 = .ok (.iload_n 1, 1) := by decide +kernel
theorem dX10_tornMark_14 : decode cX10_tornMark 14 = .ok (.invokevirtual 262, 3) := by decide +kernel
theorem dX10_tornMark_17 : decode cX10_tornMark 17 = .ok (.iconst 2, 1) := by decide +kernel
theorem dX10_tornMark_18 : decode cX10_tornMark 18 = .ok (.imul, 1) := by decide +kernel
theorem dX10_tornMark_19 : decode cX10_tornMark 19 = .ok (.ireturn, 1) := by decide +kernel
theorem dX10_greasyMark_0 : decode cX10_greasyMark 0 = .ok (.aload_n 0, 1) := by decide +kernel
theorem dX10_greasyMark_1 : decode cX10_greasyMark 1 = .ok (.dup, 1) := by decide +kernel
theorem dX10_greasyMark_2 : decode cX10_greasyMark 2 = .ok (.getfield 291, 3) := by decide +kernel
theorem dX10_greasyMark_5 : decode cX10_greasyMark 5 = .ok (.ldc2_w 312, 3) := by decide +kernel
theorem dX10_greasyMark_8 : decode cX10_greasyMark 8 = .ok (.ladd, 1) := by decide +kernel
theorem dX10_greasyMark_9 : decode cX10_greasyMark 9 = .ok (.putfield 291, 3) := by decide +kernel
theorem dX10_greasyMark_12 : decode cX10_greasyMark 12 = .ok (.aload_n 0, 1) := by decide +kernel
theorem dX10_greasyMark_13 : decode cX10_greasyMark 13 = .ok (.iload_n 1, 1) := by decide +kernel
theorem dX10_greasyMark_14 : decode cX10_greasyMark 14 = .ok (.invokevirtual 265, 3) := by decide +kernel
theorem dX10_greasyMark_17 : decode cX10_greasyMark 17 = .ok (.iload_n 1, 1) := by decide +kernel
theorem dX10_greasyMark_18 : decode cX10_greasyMark 18 = .ok (.iadd, 1) := by decide +kernel
theorem dX10_greasyMark_19 : decode cX10_greasyMark 19 = .ok (.ireturn, 1) := by decide +kernel
theorem dX10_singedMark_0 : decode cX10_singedMark 0 = .ok (.aload_n 0, 1) := by decide +kernel
theorem dX10_singedMark_1 : decode cX10_singedMark 1 = .ok (.dup, 1) := by decide +kernel
theorem dX10_singedMark_2 : decode cX10_singedMark 2 = .ok (.getfield 291, 3) := by decide +kernel
theorem dX10_singedMark_5 : decode cX10_singedMark 5 = .ok (.ldc2_w 314, 3) := by decide +kernel
theorem dX10_singedMark_8 : decode cX10_singedMark 8 = .ok (.ladd, 1) := by decide +kernel
theorem dX10_singedMark_9 : decode cX10_singedMark 9 = .ok (.putfield 291, 3) := by decide +kernel
theorem dX10_singedMark_12 : decode cX10_singedMark 12 = .ok (.aload_n 0, 1) := by decide +kernel
theorem dX10_singedMark_13 : decode cX10_singedMark 13 = .ok (.iload_n 1, 1) := by decide +kernel
theorem dX10_singedMark_14 : decode cX10_singedMark 14 = .ok (.invokevirtual 277, 3) := by decide +kernel
theorem dX10_singedMark_17 : decode cX10_singedMark 17 = .ok (.aload_n 0, 1) := by decide +kernel
theorem dX10_singedMark_18 : decode cX10_singedMark 18 = .ok (.invokevirtual 194, 3) := by decide +kernel
theorem dX10_singedMark_21 : decode cX10_singedMark 21 = .ok (.iadd, 1) := by decide +kernel
theorem dX10_singedMark_22 : decode cX10_singedMark 22 = .ok (.ireturn, 1) := by decide +kernel
theorem dJ6_bitCount_0f7a4_0 : decode cJ6_bitCount_0f7a4 0 = .ok (.iload_n 0, 1) := by decide +kernel
theorem dJ6_bitCount_0f7a4_1 : decode cJ6_bitCount_0f7a4 1 = .ok (.iload_n 0, 1) := by decide +kernel
theorem dJ6_bitCount_0f7a4_2 : decode cJ6_bitCount_0f7a4 2 = .ok (.iconst 1, 1) := by decide +kernel
theorem dJ6_bitCount_0f7a4_3 : decode cJ6_bitCount_0f7a4 3 = .ok (.iushr, 1) := by decide +kernel
theorem dJ6_bitCount_0f7a4_4 : decode cJ6_bitCount_0f7a4 4 = .ok (.ldc_w 265, 3) := by decide +kernel
theorem dJ6_bitCount_0f7a4_7 : decode cJ6_bitCount_0f7a4 7 = .ok (.iand, 1) := by decide +kernel
theorem dJ6_bitCount_0f7a4_8 : decode cJ6_bitCount_0f7a4 8 = .ok (.isub, 1) := by decide +kernel
theorem dJ6_bitCount_0f7a4_9 : decode cJ6_bitCount_0f7a4 9 = .ok (.istore_n 0, 1) := by decide +kernel
theorem dJ6_bitCount_0f7a4_10 : decode cJ6_bitCount_0f7a4 10 = .ok (.iload_n 0, 1) := by decide +kernel
theorem dJ6_bitCount_0f7a4_11 : decode cJ6_bitCount_0f7a4 11 = .ok (.ldc_w 266, 3) := by decide +kernel
theorem dJ6_bitCount_0f7a4_14 : decode cJ6_bitCount_0f7a4 14 = .ok (.iand, 1) := by decide +kernel
theorem dJ6_bitCount_0f7a4_15 : decode cJ6_bitCount_0f7a4 15 = .ok (.iload_n 0, 1) := by decide +kernel
theorem dJ6_bitCount_0f7a4_16 : decode cJ6_bitCount_0f7a4 16 = .ok (.iconst 2, 1) := by decide +kernel
theorem dJ6_bitCount_0f7a4_17 : decode cJ6_bitCount_0f7a4 17 = .ok (.iushr, 1) := by decide +kernel
theorem dJ6_bitCount_0f7a4_18 : decode cJ6_bitCount_0f7a4 18 = .ok (.ldc_w 266, 3) := by decide +kernel
theorem dJ6_bitCount_0f7a4_21 : decode cJ6_bitCount_0f7a4 21 = .ok (.iand, 1) := by decide +kernel
theorem dJ6_bitCount_0f7a4_22 : decode cJ6_bitCount_0f7a4 22 = .ok (.iadd, 1) := by decide +kernel
theorem dJ6_bitCount_0f7a4_23 : decode cJ6_bitCount_0f7a4 23 = .ok (.istore_n 0, 1) := by decide +kernel
theorem dJ6_bitCount_0f7a4_24 : decode cJ6_bitCount_0f7a4 24 = .ok (.iload_n 0, 1) := by decide +kernel
theorem dJ6_bitCount_0f7a4_25 : decode cJ6_bitCount_0f7a4 25 = .ok (.iload_n 0, 1) := by decide +kernel
theorem dJ6_bitCount_0f7a4_26 : decode cJ6_bitCount_0f7a4 26 = .ok (.iconst 4, 1) := by decide +kernel
theorem dJ6_bitCount_0f7a4_27 : decode cJ6_bitCount_0f7a4 27 = .ok (.iushr, 1) := by decide +kernel
theorem dJ6_bitCount_0f7a4_28 : decode cJ6_bitCount_0f7a4 28 = .ok (.iadd, 1) := by decide +kernel
theorem dJ6_bitCount_0f7a4_29 : decode cJ6_bitCount_0f7a4 29 = .ok (.ldc_w 267, 3) := by decide +kernel
theorem dJ6_bitCount_0f7a4_32 : decode cJ6_bitCount_0f7a4 32 = .ok (.iand, 1) := by decide +kernel
theorem dJ6_bitCount_0f7a4_33 : decode cJ6_bitCount_0f7a4 33 = .ok (.istore_n 0, 1) := by decide +kernel
theorem dJ6_bitCount_0f7a4_34 : decode cJ6_bitCount_0f7a4 34 = .ok (.iload_n 0, 1) := by decide +kernel
theorem dJ6_bitCount_0f7a4_35 : decode cJ6_bitCount_0f7a4 35 = .ok (.iload_n 0, 1) := by decide +kernel
theorem dJ6_bitCount_0f7a4_36 : decode cJ6_bitCount_0f7a4 36 = .ok (.bipush 8, 2) := by decide +kernel
theorem dJ6_bitCount_0f7a4_38 : decode cJ6_bitCount_0f7a4 38 = .ok (.iushr, 1) := by decide +kernel
theorem dJ6_bitCount_0f7a4_39 : decode cJ6_bitCount_0f7a4 39 = .ok (.iadd, 1) := by decide +kernel
theorem dJ6_bitCount_0f7a4_40 : decode cJ6_bitCount_0f7a4 40 = .ok (.istore_n 0, 1) := by decide +kernel
theorem dJ6_bitCount_0f7a4_41 : decode cJ6_bitCount_0f7a4 41 = .ok (.iload_n 0, 1) := by decide +kernel
theorem dJ6_bitCount_0f7a4_42 : decode cJ6_bitCount_0f7a4 42 = .ok (.iload_n 0, 1) := by decide +kernel
theorem dJ6_bitCount_0f7a4_43 : decode cJ6_bitCount_0f7a4 43 = .ok (.bipush 16, 2) := by decide +kernel
theorem dJ6_bitCount_0f7a4_45 : decode cJ6_bitCount_0f7a4 45 = .ok (.iushr, 1) := by decide +kernel
theorem dJ6_bitCount_0f7a4_46 : decode cJ6_bitCount_0f7a4 46 = .ok (.iadd, 1) := by decide +kernel
theorem dJ6_bitCount_0f7a4_47 : decode cJ6_bitCount_0f7a4 47 = .ok (.istore_n 0, 1) := by decide +kernel
theorem dJ6_bitCount_0f7a4_48 : decode cJ6_bitCount_0f7a4 48 = .ok (.iload_n 0, 1) := by decide +kernel
theorem dJ6_bitCount_0f7a4_49 : decode cJ6_bitCount_0f7a4 49 = .ok (.bipush 63, 2) := by decide +kernel
theorem dJ6_bitCount_0f7a4_51 : decode cJ6_bitCount_0f7a4 51 = .ok (.iand, 1) := by decide +kernel
theorem dJ6_bitCount_0f7a4_52 : decode cJ6_bitCount_0f7a4 52 = .ok (.ireturn, 1) := by decide +kernel
theorem dJ9_abs_0f7a4_0 : decode cJ9_abs_0f7a4 0 = .ok (.iload_n 0, 1) := by decide +kernel
theorem dJ9_abs_0f7a4_1 : decode cJ9_abs_0f7a4 1 = .ok (.ifCond .ge 8, 3) := by decide +kernel
theorem dJ9_abs_0f7a4_4 : decode cJ9_abs_0f7a4 4 = .ok (.iload_n 0, 1) := by decide +kernel
theorem dJ9_abs_0f7a4_5 : decode cJ9_abs_0f7a4 5 = .ok (.ineg, 1) := by decide +kernel
theorem dJ9_abs_0f7a4_6 : decode cJ9_abs_0f7a4 6 = .ok (.goto 4, 3) := by decide +kernel
theorem dJ9_abs_0f7a4_9 : decode cJ9_abs_0f7a4 9 = .ok (.iload_n 0, 1) := by decide +kernel
theorem dJ9_abs_0f7a4_10 : decode cJ9_abs_0f7a4 10 = .ok (.ireturn, 1) := by decide +kernel
theorem dJ9_max_7cf53_0 : decode cJ9_max_7cf53 0 = .ok (.iload_n 0, 1) := by decide +kernel
theorem dJ9_max_7cf53_1 : decode cJ9_max_7cf53 1 = .ok (.iload_n 1, 1) := by decide +kernel
theorem dJ9_max_7cf53_2 : decode cJ9_max_7cf53 2 = .ok (.if_icmp .lt 7, 3) := by decide +kernel
theorem dJ9_max_7cf53_5 : decode cJ9_max_7cf53 5 = .ok (.iload_n 0, 1) := by decide +kernel
theorem dJ9_max_7cf53_6 : decode cJ9_max_7cf53 6 = .ok (.goto 4, 3) := by decide +kernel
theorem dJ9_max_7cf53_9 : decode cJ9_max_7cf53 9 = .ok (.iload_n 1, 1) := by decide +kernel
theorem dJ9_max_7cf53_10 : decode cJ9_max_7cf53 10 = .ok (.ireturn, 1) := by decide +kernel
theorem dJ7_fill_53178_0 : decode cJ7_fill_53178 0 = .ok (.iconst 0, 1) := by decide +kernel
theorem dJ7_fill_53178_1 : decode cJ7_fill_53178 1 = .ok (.istore_n 2, 1) := by decide +kernel
theorem dJ7_fill_53178_2 : decode cJ7_fill_53178 2 = .ok (.aload_n 0, 1) := by decide +kernel
theorem dJ7_fill_53178_3 : decode cJ7_fill_53178 3 = .ok (.arraylength, 1) := by decide +kernel
theorem dJ7_fill_53178_4 : decode cJ7_fill_53178 4 = .ok (.istore_n 3, 1) := by decide +kernel
theorem dJ7_fill_53178_5 : decode cJ7_fill_53178 5 = .ok (.iload_n 2, 1) := by decide +kernel
theorem dJ7_fill_53178_6 : decode cJ7_fill_53178 6 = .ok (.iload_n 3, 1) := by decide +kernel
theorem dJ7_fill_53178_7 : decode cJ7_fill_53178 7 = .ok (.if_icmp .ge 13, 3) := by decide +kernel
theorem dJ7_fill_53178_10 : decode cJ7_fill_53178 10 = .ok (.aload_n 0, 1) := by decide +kernel
theorem dJ7_fill_53178_11 : decode cJ7_fill_53178 11 = .ok (.iload_n 2, 1) := by decide +kernel
theorem dJ7_fill_53178_12 : decode cJ7_fill_53178 12 = .ok (.iload_n 1, 1) := by decide +kernel
theorem dJ7_fill_53178_13 : decode cJ7_fill_53178 13 = .ok (.iastore, 1) := by decide +kernel
theorem dJ7_fill_53178_14 : decode cJ7_fill_53178 14 = .ok (.iinc 2 1, 3) := by decide +kernel
theorem dJ7_fill_53178_17 : decode cJ7_fill_53178 17 = .ok (.goto (-12), 3) := by decide +kernel
theorem dJ7_fill_53178_20 : decode cJ7_fill_53178 20 = .ok (.return_, 1) := by decide +kernel
end
section
theorem dX11_init_0 : decode cX11_init 0 = .ok (.aload_n 0, 1) := by decide +kernel
theorem dX11_init_1 : decode cX11_init 1 = .ok (.invokespecial 1, 3) := by decide +kernel
theorem dX11_init_4 : decode cX11_init 4 = .ok (.aload_n 0, 1) := by decide +kernel
theorem dX11_init_5 : decode cX11_init 5 = .ok (.iconst 2, 1) := by decide +kernel
theorem dX11_init_6 : decode cX11_init 6 = .ok (.putfield 7, 3) := by decide +kernel
theorem dX11_init_9 : decode cX11_init 9 = .ok (.aload_n 0, 1) := by decide +kernel
theorem dX11_init_10 : decode cX11_init 10 = .ok (.bipush 36, 2) := by decide +kernel
theorem dX11_init_12 : decode cX11_init 12 = .ok (.newarray .int, 2) := by decide +kernel
theorem dX11_init_14 : decode cX11_init 14 = .ok (.putfield 13, 3) := by decide +kernel
theorem dX11_init_17 : decode cX11_init 17 = .ok (.aload_n 0, 1) := by decide +kernel
theorem dX11_init_18 : decode cX11_init 18 = .ok (.bipush 48, 2) := by decide +kernel
theorem dX11_init_20 : decode cX11_init 20 = .ok (.newarray .int, 2) := by decide +kernel
theorem dX11_init_22 : decode cX11_init 22 = .ok (.putfield 17, 3) := by decide +kernel
theorem dX11_init_25 : decode cX11_init 25 = .ok (.aload_n 0, 1) := by decide +kernel
theorem dX11_init_26 : decode cX11_init 26 = .ok (.bipush 8, 2) := by decide +kernel
theorem dX11_init_28 : decode cX11_init 28 = .ok (.newarray .int, 2) := by decide +kernel
theorem dX11_init_30 : decode cX11_init 30 = .ok (.putfield 20, 3) := by decide +kernel
theorem dX11_init_33 : decode cX11_init 33 = .ok (.aload_n 0, 1) := by decide +kernel
theorem dX11_init_34 : decode cX11_init 34 = .ok (.bipush 6, 2) := by decide +kernel
theorem dX11_init_36 : decode cX11_init 36 = .ok (.newarray .int, 2) := by decide +kernel
theorem dX11_init_38 : decode cX11_init 38 = .ok (.putfield 23, 3) := by decide +kernel
theorem dX11_init_41 : decode cX11_init 41 = .ok (.aload_n 0, 1) := by decide +kernel
theorem dX11_init_42 : decode cX11_init 42 = .ok (.bipush 6, 2) := by decide +kernel
theorem dX11_init_44 : decode cX11_init 44 = .ok (.newarray .int, 2) := by decide +kernel
theorem dX11_init_46 : decode cX11_init 46 = .ok (.putfield 26, 3) := by decide +kernel
theorem dX11_init_49 : decode cX11_init 49 = .ok (.aload_n 0, 1) := by decide +kernel
theorem dX11_init_50 : decode cX11_init 50 = .ok (.bipush 6, 2) := by decide +kernel
theorem dX11_init_52 : decode cX11_init 52 = .ok (.newarray .int, 2) := by decide +kernel
theorem dX11_init_54 : decode cX11_init 54 = .ok (.putfield 29, 3) := by decide +kernel
theorem dX11_init_57 : decode cX11_init 57 = .ok (.aload_n 0, 1) := by decide +kernel
theorem dX11_init_58 : decode cX11_init 58 = .ok (.sipush 150, 3) := by decide +kernel
theorem dX11_init_61 : decode cX11_init 61 = .ok (.newarray .int, 2) := by decide +kernel
theorem dX11_init_63 : decode cX11_init 63 = .ok (.putfield 32, 3) := by decide +kernel
theorem dX11_init_66 : decode cX11_init 66 = .ok (.aload_n 0, 1) := by decide +kernel
theorem dX11_init_67 : decode cX11_init 67 = .ok (.bipush 36, 2) := by decide +kernel
theorem dX11_init_69 : decode cX11_init 69 = .ok (.newarray .int, 2) := by decide +kernel
theorem dX11_init_71 : decode cX11_init 71 = .ok (.putfield 35, 3) := by decide +kernel
theorem dX11_init_74 : decode cX11_init 74 = .ok (.aload_n 0, 1) := by decide +kernel
theorem dX11_init_75 : decode cX11_init 75 = .ok (.bipush 48, 2) := by decide +kernel
theorem dX11_init_77 : decode cX11_init 77 = .ok (.newarray .int, 2) := by decide +kernel
theorem dX11_init_79 : decode cX11_init 79 = .ok (.putfield 38, 3) := by decide +kernel
theorem dX11_init_82 : decode cX11_init 82 = .ok (.aload_n 0, 1) := by decide +kernel
theorem dX11_init_83 : decode cX11_init 83 = .ok (.bipush 8, 2) := by decide +kernel
theorem dX11_init_85 : decode cX11_init 85 = .ok (.newarray .int, 2) := by decide +kernel
theorem dX11_init_87 : decode cX11_init 87 = .ok (.putfield 41, 3) := by decide +kernel
theorem dX11_init_90 : decode cX11_init 90 = .ok (.aload_n 0, 1) := by decide +kernel
theorem dX11_init_91 : decode cX11_init 91 = .ok (.iconst 3, 1) := by decide +kernel
theorem dX11_init_92 : decode cX11_init 92 = .ok (.newarray .int, 2) := by decide +kernel
theorem dX11_init_94 : decode cX11_init 94 = .ok (.putfield 44, 3) := by decide +kernel
theorem dX11_init_97 : decode cX11_init 97 = .ok (.aload_n 0, 1) := by decide +kernel
theorem dX11_init_98 : decode cX11_init 98 = .ok (.iconst 3, 1) := by decide +kernel
theorem dX11_init_99 : decode cX11_init 99 = .ok (.newarray .int, 2) := by decide +kernel
theorem dX11_init_101 : decode cX11_init 101 = .ok (.putfield 47, 3) := by decide +kernel
theorem dX11_init_104 : decode cX11_init 104 = .ok (.aload_n 0, 1) := by decide +kernel
theorem dX11_init_105 : decode cX11_init 105 = .ok (.iconst 3, 1) := by decide +kernel
theorem dX11_init_106 : decode cX11_init 106 = .ok (.newarray .int, 2) := by decide +kernel
theorem dX11_init_108 : decode cX11_init 108 = .ok (.putfield 50, 3) := by decide +kernel
theorem dX11_init_111 : decode cX11_init 111 = .ok (.aload_n 0, 1) := by decide +kernel
theorem dX11_init_112 : decode cX11_init 112 = .ok (.bipush 80, 2) := by decide +kernel
theorem dX11_init_114 : decode cX11_init 114 = .ok (.newarray .int, 2) := by decide +kernel
theorem dX11_init_116 : decode cX11_init 116 = .ok (.putfield 53, 3) := by decide +kernel
theorem dX11_init_119 : decode cX11_init 119 = .ok (.aload_n 0, 1) := by decide +kernel
theorem dX11_init_120 : decode cX11_init 120 = .ok (.bipush 6, 2) := by decide +kernel
theorem dX11_init_122 : decode cX11_init 122 = .ok (.newarray .int, 2) := by decide +kernel
theorem dX11_init_124 : decode cX11_init 124 = .ok (.putfield 56, 3) := by decide +kernel
theorem dX11_init_127 : decode cX11_init 127 = .ok (.aload_n 0, 1) := by decide +kernel
theorem dX11_init_128 : decode cX11_init 128 = .ok (.bipush 6, 2) := by decide +kernel
theorem dX11_init_130 : decode cX11_init 130 = .ok (.newarray .int, 2) := by decide +kernel
theorem dX11_init_132 : decode cX11_init 132 = .ok (.putfield 59, 3) := by decide +kernel
theorem dX11_init_135 : decode cX11_init 135 = .ok (.aload_n 0, 1) := by decide +kernel
theorem dX11_init_136 : decode cX11_init 136 = .ok (.bipush 6, 2) := by decide +kernel
theorem dX11_init_138 : decode cX11_init 138 = .ok (.newarray .int, 2) := by decide +kernel
theorem dX11_init_140 : decode cX11_init 140 = .ok (.putfield 62, 3) := by decide +kernel
theorem dX11_init_143 : decode cX11_init 143 = .ok (.aload_n 0, 1) := by decide +kernel
theorem dX11_init_144 : decode cX11_init 144 = .ok (.sipush 180, 3) := by decide +kernel
theorem dX11_init_147 : decode cX11_init 147 = .ok (.newarray .int, 2) := by decide +kernel
theorem dX11_init_149 : decode cX11_init 149 = .ok (.putfield 65, 3) := by decide +kernel
theorem dX11_init_152 : decode cX11_init 152 = .ok (.return_, 1) := by decide +kernel
theorem dX11_in_0 : decode cX11_in 0 = .ok (.iload_n 0, 1) := by decide +kernel
theorem dX11_in_1 : decode cX11_in 1 = .ok (.iload_n 1, 1) := by decide +kernel
theorem dX11_in_2 : decode cX11_in 2 = .ok (.if_icmp .lt 12, 3) := by decide +kernel
theorem dX11_in_5 : decode cX11_in 5 = .ok (.iload_n 0, 1) := by decide +kernel
theorem dX11_in_6 : decode cX11_in 6 = .ok (.iload_n 2, 1) := by decide +kernel
theorem dX11_in_7 : decode cX11_in 7 = .ok (.if_icmp .gt 7, 3) := by decide +kernel
theorem dX11_in_10 : decode cX11_in 10 = .ok (.iconst 1, 1) := by decide +kernel
theorem dX11_in_11 : decode cX11_in 11 = .ok (.goto 4, 3) := by decide +kernel
theorem dX11_in_14 : decode cX11_in 14 = .ok (.iconst 0, 1) := by decide +kernel
theorem dX11_in_15 : decode cX11_in 15 = .ok (.ireturn, 1) := by decide +kernel
theorem dX11_has_0 : decode cX11_has 0 = .ok (.iload_n 0, 1) := by decide +kernel
theorem dX11_has_1 : decode cX11_has 1 = .ok (.iload_n 1, 1) := by decide +kernel
theorem dX11_has_2 : decode cX11_has 2 = .ok (.ishr, 1) := by decide +kernel
theorem dX11_has_3 : decode cX11_has 3 = .ok (.iconst 1, 1) := by decide +kernel
theorem dX11_has_4 : decode cX11_has 4 = .ok (.iand, 1) := by decide +kernel
theorem dX11_has_5 : decode cX11_has 5 = .ok (.iconst 1, 1) := by decide +kernel
theorem dX11_has_6 : decode cX11_has 6 = .ok (.if_icmp .ne 7, 3) := by decide +kernel
theorem dX11_has_9 : decode cX11_has 9 = .ok (.iconst 1, 1) := by decide +kernel
theorem dX11_has_10 : decode cX11_has 10 = .ok (.goto 4, 3) := by decide +kernel
theorem dX11_has_13 : decode cX11_has 13 = .ok (.iconst 0, 1) := by decide +kernel
theorem dX11_has_14 : decode cX11_has 14 = .ok (.ireturn, 1) := by decide +kernel
theorem dX11_common_0 : decode cX11_common 0 = .ok (.iload_n 0, 1) := by decide +kernel
theorem dX11_common_1 : decode cX11_common 1 = .ok (.istore_n 2, 1) := by decide +kernel
theorem dX11_common_2 : decode cX11_common 2 = .ok (.iload_n 1, 1) := by decide +kernel
theorem dX11_common_3 : decode cX11_common 3 = .ok (.istore_n 3, 1) := by decide +kernel
theorem dX11_common_4 : decode cX11_common 4 = .ok (.iload_n 3, 1) := by decide +kernel
theorem dX11_common_5 : decode cX11_common 5 = .ok (.ifCond .eq 16, 3) := by decide +kernel
theorem dX11_common_8 : decode cX11_common 8 = .ok (.iload_n 2, 1) := by decide +kernel
theorem dX11_common_9 : decode cX11_common 9 = .ok (.iload_n 3, 1) := by decide +kernel
theorem dX11_common_10 : decode cX11_common 10 = .ok (.irem, 1) := by decide +kernel
theorem dX11_common_11 : decode cX11_common 11 = .ok (.istore 4, 2) := by decide +kernel
theorem dX11_common_13 : decode cX11_common 13 = .ok (.iload_n 3, 1) := by decide +kernel
theorem dX11_common_14 : decode cX11_common 14 = .ok (.istore_n 2, 1) := by decide +kernel
theorem dX11_common_15 : decode cX11_common 15 = .ok (.iload 4, 2) := by decide +kernel
theorem dX11_common_17 : decode cX11_common 17 = .ok (.istore_n 3, 1) := by decide +kernel
theorem dX11_common_18 : decode cX11_common 18 = .ok (.goto (-14), 3) := by decide +kernel
theorem dX11_common_21 : decode cX11_common 21 = .ok (.iload_n 2, 1) := by decide +kernel
theorem dX11_common_22 : decode cX11_common 22 = .ok (.ireturn, 1) := by decide +kernel
theorem dX11_isStrip_0 : decode cX11_isStrip 0 = .ok (.iload_n 1, 1) := by decide +kernel
theorem dX11_isStrip_1 : decode cX11_isStrip 1 = .ok (.iconst 0, 1) := by decide +kernel
theorem dX11_isStrip_2 : decode cX11_isStrip 2 = .ok (.aload_n 0, 1) := by decide +kernel
theorem dX11_isStrip_3 : decode cX11_isStrip 3 = .ok (.getfield 68, 3) := by decide +kernel
theorem dX11_isStrip_6 : decode cX11_isStrip 6 = .ok (.iconst 1, 1) := by decide +kernel
theorem dX11_isStrip_7 : decode cX11_isStrip 7 = .ok (.isub, 1) := by decide +kernel
theorem dX11_isStrip_8 : decode cX11_isStrip 8 = .ok (.invokestatic 71, 3) := by decide +kernel
theorem dX11_isStrip_11 : decode cX11_isStrip 11 = .ok (.ireturn, 1) := by decide +kernel
theorem dX11_isPlace_0 : decode cX11_isPlace 0 = .ok (.iload_n 1, 1) := by decide +kernel
theorem dX11_isPlace_1 : decode cX11_isPlace 1 = .ok (.iconst 0, 1) := by decide +kernel
theorem dX11_isPlace_2 : decode cX11_isPlace 2 = .ok (.aload_n 0, 1) := by decide +kernel
theorem dX11_isPlace_3 : decode cX11_isPlace 3 = .ok (.getfield 75, 3) := by decide +kernel
theorem dX11_isPlace_6 : decode cX11_isPlace 6 = .ok (.iconst 1, 1) := by decide +kernel
theorem dX11_isPlace_7 : decode cX11_isPlace 7 = .ok (.isub, 1) := by decide +kernel
theorem dX11_isPlace_8 : decode cX11_isPlace 8 = .ok (.invokestatic 71, 3) := by decide +kernel
theorem dX11_isPlace_11 : decode cX11_isPlace 11 = .ok (.ireturn, 1) := by decide +kernel
theorem dX11_isLine_0 : decode cX11_isLine 0 = .ok (.iload_n 1, 1) := by decide +kernel
theorem dX11_isLine_1 : decode cX11_isLine 1 = .ok (.iconst 0, 1) := by decide +kernel
theorem dX11_isLine_2 : decode cX11_isLine 2 = .ok (.aload_n 0, 1) := by decide +kernel
theorem dX11_isLine_3 : decode cX11_isLine 3 = .ok (.getfield 7, 3) := by decide +kernel
theorem dX11_isLine_6 : decode cX11_isLine 6 = .ok (.iconst 1, 1) := by decide +kernel
theorem dX11_isLine_7 : decode cX11_isLine 7 = .ok (.isub, 1) := by decide +kernel
theorem dX11_isLine_8 : decode cX11_isLine 8 = .ok (.invokestatic 71, 3) := by decide +kernel
theorem dX11_isLine_11 : decode cX11_isLine 11 = .ok (.ireturn, 1) := by decide +kernel
theorem dX11_at_0 : decode cX11_at 0 = .ok (.bipush 6, 2) := by decide +kernel
theorem dX11_at_2 : decode cX11_at 2 = .ok (.iload_n 0, 1) := by decide +kernel
theorem dX11_at_3 : decode cX11_at 3 = .ok (.imul, 1) := by decide +kernel
theorem dX11_at_4 : decode cX11_at 4 = .ok (.iconst 2, 1) := by decide +kernel
theorem dX11_at_5 : decode cX11_at 5 = .ok (.iload_n 1, 1) := by decide +kernel
theorem dX11_at_6 : decode cX11_at 6 = .ok (.imul, 1) := by decide +kernel
theorem dX11_at_7 : decode cX11_at 7 = .ok (.iadd, 1) := by decide +kernel
theorem dX11_at_8 : decode cX11_at 8 = .ok (.iload_n 2, 1) := by decide +kernel
theorem dX11_at_9 : decode cX11_at 9 = .ok (.iadd, 1) := by decide +kernel
theorem dX11_at_10 : decode cX11_at 10 = .ok (.ireturn, 1) := by decide +kernel
theorem dX11_type_0 : decode cX11_type 0 = .ok (.iload_n 1, 1) := by decide +kernel
theorem dX11_type_1 : decode cX11_type 1 = .ok (.iconst 0, 1) := by decide +kernel
theorem dX11_type_2 : decode cX11_type 2 = .ok (.sipush 255, 3) := by decide +kernel
theorem dX11_type_5 : decode cX11_type 5 = .ok (.invokestatic 71, 3) := by decide +kernel
theorem dX11_type_8 : decode cX11_type 8 = .ok (.ifCond .ne 5, 3) := by decide +kernel
theorem dX11_type_11 : decode cX11_type 11 = .ok (.iconst (-1), 1) := by decide +kernel
theorem dX11_type_12 : decode cX11_type 12 = .ok (.ireturn, 1) := by decide +kernel
theorem dX11_type_13 : decode cX11_type 13 = .ok (.aload_n 0, 1) := by decide +kernel
theorem dX11_type_14 : decode cX11_type 14 = .ok (.getfield 78, 3) := by decide +kernel
theorem dX11_type_17 : decode cX11_type 17 = .ok (.sipush 150, 3) := by decide +kernel
theorem dX11_type_20 : decode cX11_type 20 = .ok (.if_icmp .ne 6, 3) := by decide +kernel
theorem dX11_type_23 : decode cX11_type 23 = .ok (.bipush (-3), 2) := by decide +kernel
theorem dX11_type_25 : decode cX11_type 25 = .ok (.ireturn, 1) := by decide +kernel
theorem dX11_type_26 : decode cX11_type 26 = .ok (.aload_n 0, 1) := by decide +kernel
theorem dX11_type_27 : decode cX11_type 27 = .ok (.getfield 32, 3) := by decide +kernel
theorem dX11_type_30 : decode cX11_type 30 = .ok (.aload_n 0, 1) := by decide +kernel
theorem dX11_type_31 : decode cX11_type 31 = .ok (.getfield 78, 3) := by decide +kernel
theorem dX11_type_34 : decode cX11_type 34 = .ok (.iload_n 1, 1) := by decide +kernel
theorem dX11_type_35 : decode cX11_type 35 = .ok (.iastore, 1) := by decide +kernel
theorem dX11_type_36 : decode cX11_type 36 = .ok (.aload_n 0, 1) := by decide +kernel
theorem dX11_type_37 : decode cX11_type 37 = .ok (.dup, 1) := by decide +kernel
theorem dX11_type_38 : decode cX11_type 38 = .ok (.getfield 78, 3) := by decide +kernel
theorem dX11_type_41 : decode cX11_type 41 = .ok (.iconst 1, 1) := by decide +kernel
theorem dX11_type_42 : decode cX11_type 42 = .ok (.iadd, 1) := by decide +kernel
theorem dX11_type_43 : decode cX11_type 43 = .ok (.putfield 78, 3) := by decide +kernel
theorem dX11_type_46 : decode cX11_type 46 = .ok (.aload_n 0, 1) := by decide +kernel
theorem dX11_type_47 : decode cX11_type 47 = .ok (.getfield 78, 3) := by decide +kernel
theorem dX11_type_50 : decode cX11_type 50 = .ok (.ireturn, 1) := by decide +kernel
theorem dX11_clear_0 : decode cX11_clear 0 = .ok (.aload_n 0, 1) := by decide +kernel
theorem dX11_clear_1 : decode cX11_clear 1 = .ok (.getfield 78, 3) := by decide +kernel
theorem dX11_clear_4 : decode cX11_clear 4 = .ok (.istore_n 1, 1) := by decide +kernel
theorem dX11_clear_5 : decode cX11_clear 5 = .ok (.aload_n 0, 1) := by decide +kernel
theorem dX11_clear_6 : decode cX11_clear 6 = .ok (.iconst 0, 1) := by decide +kernel
theorem dX11_clear_7 : decode cX11_clear 7 = .ok (.putfield 78, 3) := by decide +kernel
theorem dX11_clear_10 : decode cX11_clear 10 = .ok (.iload_n 1, 1) := by decide +kernel
theorem dX11_clear_11 : decode cX11_clear 11 = .ok (.ireturn, 1) := by decide +kernel
theorem dX11_here_0 : decode cX11_here 0 = .ok (.aload_n 0, 1) := by decide +kernel
theorem dX11_here_1 : decode cX11_here 1 = .ok (.getfield 81, 3) := by decide +kernel
theorem dX11_here_4 : decode cX11_here 4 = .ok (.aload_n 0, 1) := by decide +kernel
theorem dX11_here_5 : decode cX11_here 5 = .ok (.getfield 78, 3) := by decide +kernel
theorem dX11_here_8 : decode cX11_here 8 = .ok (.if_icmp .ge 15, 3) := by decide +kernel
theorem dX11_here_11 : decode cX11_here 11 = .ok (.aload_n 0, 1) := by decide +kernel
theorem dX11_here_12 : decode cX11_here 12 = .ok (.getfield 32, 3) := by decide +kernel
theorem dX11_here_15 : decode cX11_here 15 = .ok (.aload_n 0, 1) := by decide +kernel
theorem dX11_here_16 : decode cX11_here 16 = .ok (.getfield 81, 3) := by decide +kernel
theorem dX11_here_19 : decode cX11_here 19 = .ok (.iaload, 1) := by decide +kernel
theorem dX11_here_20 : decode cX11_here 20 = .ok (.goto 5, 3) := by decide +kernel
theorem dX11_here_23 : decode cX11_here 23 = .ok (.bipush (-9), 2) := by decide +kernel
theorem dX11_here_25 : decode cX11_here 25 = .ok (.ireturn, 1) := by decide +kernel
theorem dX11_skip_0 : decode cX11_skip 0 = .ok (.aload_n 0, 1) := by decide +kernel
theorem dX11_skip_1 : decode cX11_skip 1 = .ok (.invokevirtual 84, 3) := by decide +kernel
theorem dX11_skip_4 : decode cX11_skip 4 = .ok (.bipush 32, 2) := by decide +kernel
theorem dX11_skip_6 : decode cX11_skip 6 = .ok (.if_icmp .ne 16, 3) := by decide +kernel
theorem dX11_skip_9 : decode cX11_skip 9 = .ok (.aload_n 0, 1) := by decide +kernel
theorem dX11_skip_10 : decode cX11_skip 10 = .ok (.dup, 1) := by decide +kernel
theorem dX11_skip_11 : decode cX11_skip 11 = .ok (.getfield 81, 3) := by decide +kernel
theorem dX11_skip_14 : decode cX11_skip 14 = .ok (.iconst 1, 1) := by decide +kernel
theorem dX11_skip_15 : decode cX11_skip 15 = .ok (.iadd, 1) := by decide +kernel
theorem dX11_skip_16 : decode cX11_skip 16 = .ok (.putfield 81, 3) := by decide +kernel
theorem dX11_skip_19 : decode cX11_skip 19 = .ok (.goto (-19), 3) := by decide +kernel
theorem dX11_skip_22 : decode cX11_skip 22 = .ok (.return_, 1) := by decide +kernel
theorem dX11_isLetter_0 : decode cX11_isLetter 0 = .ok (.iload_n 0, 1) := by decide +kernel
theorem dX11_isLetter_1 : decode cX11_isLetter 1 = .ok (.bipush 97, 2) := by decide +kernel
theorem dX11_isLetter_3 : decode cX11_isLetter 3 = .ok (.bipush 122, 2) := by decide +kernel
theorem dX11_isLetter_5 : decode cX11_isLetter 5 = .ok (.invokestatic 71, 3) := by decide +kernel
theorem dX11_isLetter_8 : decode cX11_isLetter 8 = .ok (.ireturn, 1) := by decide +kernel
theorem dX11_rowSize_0 : decode cX11_rowSize 0 = .ok (.iconst 0, 1) := by decide +kernel
theorem dX11_rowSize_1 : decode cX11_rowSize 1 = .ok (.istore_n 1, 1) := by decide +kernel
theorem dX11_rowSize_2 : decode cX11_rowSize 2 = .ok (.aload_n 0, 1) := by decide +kernel
theorem dX11_rowSize_3 : decode cX11_rowSize 3 = .ok (.getfield 81, 3) := by decide +kernel
theorem dX11_rowSize_6 : decode cX11_rowSize 6 = .ok (.iload_n 1, 1) := by decide +kernel
theorem dX11_rowSize_7 : decode cX11_rowSize 7 = .ok (.iadd, 1) := by decide +kernel
theorem dX11_rowSize_8 : decode cX11_rowSize 8 = .ok (.aload_n 0, 1) := by decide +kernel
theorem dX11_rowSize_9 : decode cX11_rowSize 9 = .ok (.getfield 78, 3) := by decide +kernel
theorem dX11_rowSize_12 : decode cX11_rowSize 12 = .ok (.if_icmp .ge 42, 3) := by decide +kernel
theorem dX11_rowSize_15 : decode cX11_rowSize 15 = .ok (.aload_n 0, 1) := by decide +kernel
theorem dX11_rowSize_16 : decode cX11_rowSize 16 = .ok (.getfield 32, 3) := by decide +kernel
theorem dX11_rowSize_19 : decode cX11_rowSize 19 = .ok (.aload_n 0, 1) := by decide +kernel
theorem dX11_rowSize_20 : decode cX11_rowSize 20 = .ok (.getfield 81, 3) := by decide +kernel
theorem dX11_rowSize_23 : decode cX11_rowSize 23 = .ok (.iload_n 1, 1) := by decide +kernel
theorem dX11_rowSize_24 : decode cX11_rowSize 24 = .ok (.iadd, 1) := by decide +kernel
theorem dX11_rowSize_25 : decode cX11_rowSize 25 = .ok (.iaload, 1) := by decide +kernel
theorem dX11_rowSize_26 : decode cX11_rowSize 26 = .ok (.invokestatic 88, 3) := by decide +kernel
theorem dX11_rowSize_29 : decode cX11_rowSize 29 = .ok (.ifCond .ne 19, 3) := by decide +kernel
theorem dX11_rowSize_32 : decode cX11_rowSize 32 = .ok (.aload_n 0, 1) := by decide +kernel
theorem dX11_rowSize_33 : decode cX11_rowSize 33 = .ok (.getfield 32, 3) := by decide +kernel
theorem dX11_rowSize_36 : decode cX11_rowSize 36 = .ok (.aload_n 0, 1) := by decide +kernel
theorem dX11_rowSize_37 : decode cX11_rowSize 37 = .ok (.getfield 81, 3) := by decide +kernel
theorem dX11_rowSize_40 : decode cX11_rowSize 40 = .ok (.iload_n 1, 1) := by decide +kernel
theorem dX11_rowSize_41 : decode cX11_rowSize 41 = .ok (.iadd, 1) := by decide +kernel
theorem dX11_rowSize_42 : decode cX11_rowSize 42 = .ok (.iaload, 1) := by decide +kernel
theorem dX11_rowSize_43 : decode cX11_rowSize 43 = .ok (.bipush 46, 2) := by decide +kernel
theorem dX11_rowSize_45 : decode cX11_rowSize 45 = .ok (.if_icmp .ne 9, 3) := by decide +kernel
theorem dX11_rowSize_48 : decode cX11_rowSize 48 = .ok (.iinc 1 1, 3) := by decide +kernel
theorem dX11_rowSize_51 : decode cX11_rowSize 51 = .ok (.goto (-49), 3) := by decide +kernel
theorem dX11_rowSize_54 : decode cX11_rowSize 54 = .ok (.iload_n 1, 1) := by decide +kernel
theorem dX11_rowSize_55 : decode cX11_rowSize 55 = .ok (.ireturn, 1) := by decide +kernel
theorem dX11_ends_0 : decode cX11_ends 0 = .ok (.aload_n 0, 1) := by decide +kernel
theorem dX11_ends_1 : decode cX11_ends 1 = .ok (.invokevirtual 92, 3) := by decide +kernel
theorem dX11_ends_4 : decode cX11_ends 4 = .ok (.aload_n 0, 1) := by decide +kernel
theorem dX11_ends_5 : decode cX11_ends 5 = .ok (.invokevirtual 84, 3) := by decide +kernel
theorem dX11_ends_8 : decode cX11_ends 8 = .ok (.bipush 59, 2) := by decide +kernel
theorem dX11_ends_10 : decode cX11_ends 10 = .ok (.if_icmp .eq 5, 3) := by decide +kernel
theorem dX11_ends_13 : decode cX11_ends 13 = .ok (.iconst 0, 1) := by decide +kernel
theorem dX11_ends_14 : decode cX11_ends 14 = .ok (.ireturn, 1) := by decide +kernel
theorem dX11_ends_15 : decode cX11_ends 15 = .ok (.aload_n 0, 1) := by decide +kernel
theorem dX11_ends_16 : decode cX11_ends 16 = .ok (.dup, 1) := by decide +kernel
theorem dX11_ends_17 : decode cX11_ends 17 = .ok (.getfield 81, 3) := by decide +kernel
theorem dX11_ends_20 : decode cX11_ends 20 = .ok (.iconst 1, 1) := by decide +kernel
theorem dX11_ends_21 : decode cX11_ends 21 = .ok (.iadd, 1) := by decide +kernel
theorem dX11_ends_22 : decode cX11_ends 22 = .ok (.putfield 81, 3) := by decide +kernel
theorem dX11_ends_25 : decode cX11_ends 25 = .ok (.iconst 1, 1) := by decide +kernel
theorem dX11_ends_26 : decode cX11_ends 26 = .ok (.ireturn, 1) := by decide +kernel
theorem dX11_readsLines_0 : decode cX11_readsLines 0 = .ok (.aload_n 0, 1) := by decide +kernel
theorem dX11_readsLines_1 : decode cX11_readsLines 1 = .ok (.invokevirtual 92, 3) := by decide +kernel
theorem dX11_readsLines_4 : decode cX11_readsLines 4 = .ok (.aload_n 0, 1) := by decide +kernel
theorem dX11_readsLines_5 : decode cX11_readsLines 5 = .ok (.getfield 81, 3) := by decide +kernel
theorem dX11_readsLines_8 : decode cX11_readsLines 8 = .ok (.iconst 1, 1) := by decide +kernel
theorem dX11_readsLines_9 : decode cX11_readsLines 9 = .ok (.iadd, 1) := by decide +kernel
theorem dX11_readsLines_10 : decode cX11_readsLines 10 = .ok (.aload_n 0, 1) := by decide +kernel
theorem dX11_readsLines_11 : decode cX11_readsLines 11 = .ok (.getfield 78, 3) := by decide +kernel
theorem dX11_readsLines_14 : decode cX11_readsLines 14 = .ok (.if_icmp .ge 28, 3) := by decide +kernel
theorem dX11_readsLines_17 : decode cX11_readsLines 17 = .ok (.aload_n 0, 1) := by decide +kernel
theorem dX11_readsLines_18 : decode cX11_readsLines 18 = .ok (.getfield 32, 3) := by decide +kernel
theorem dX11_readsLines_21 : decode cX11_readsLines 21 = .ok (.aload_n 0, 1) := by decide +kernel
theorem dX11_readsLines_22 : decode cX11_readsLines 22 = .ok (.getfield 81, 3) := by decide +kernel
theorem dX11_readsLines_25 : decode cX11_readsLines 25 = .ok (.iconst 1, 1) := by decide +kernel
theorem dX11_readsLines_26 : decode cX11_readsLines 26 = .ok (.iadd, 1) := by decide +kernel
theorem dX11_readsLines_27 : decode cX11_readsLines 27 = .ok (.iaload, 1) := by decide +kernel
theorem dX11_readsLines_28 : decode cX11_readsLines 28 = .ok (.bipush 48, 2) := by decide +kernel
theorem dX11_readsLines_30 : decode cX11_readsLines 30 = .ok (.bipush 57, 2) := by decide +kernel
theorem dX11_readsLines_32 : decode cX11_readsLines 32 = .ok (.invokestatic 71, 3) := by decide +kernel
theorem dX11_readsLines_35 : decode cX11_readsLines 35 = .ok (.ifCond .eq 7, 3) := by decide +kernel
theorem dX11_readsLines_38 : decode cX11_readsLines 38 = .ok (.iconst 1, 1) := by decide +kernel
theorem dX11_readsLines_39 : decode cX11_readsLines 39 = .ok (.goto 4, 3) := by decide +kernel
theorem dX11_readsLines_42 : decode cX11_readsLines 42 = .ok (.iconst 0, 1) := by decide +kernel
theorem dX11_readsLines_43 : decode cX11_readsLines 43 = .ok (.istore_n 1, 1) := by decide +kernel
theorem dX11_readsLines_44 : decode cX11_readsLines 44 = .ok (.iload_n 1, 1) := by decide +kernel
theorem dX11_readsLines_45 : decode cX11_readsLines 45 = .ok (.ifCond .ne 17, 3) := by decide +kernel
theorem dX11_readsLines_48 : decode cX11_readsLines 48 = .ok (.aload_n 0, 1) := by decide +kernel
theorem dX11_readsLines_49 : decode cX11_readsLines 49 = .ok (.invokevirtual 84, 3) := by decide +kernel
theorem dX11_readsLines_52 : decode cX11_readsLines 52 = .ok (.bipush 49, 2) := by decide +kernel
theorem dX11_readsLines_54 : decode cX11_readsLines 54 = .ok (.bipush 51, 2) := by decide +kernel
theorem dX11_readsLines_56 : decode cX11_readsLines 56 = .ok (.invokestatic 71, 3) := by decide +kernel
theorem dX11_readsLines_59 : decode cX11_readsLines 59 = .ok (.ifCond .ne 5, 3) := by decide +kernel
theorem dX11_readsLines_62 : decode cX11_readsLines 62 = .ok (.iconst 0, 1) := by decide +kernel
theorem dX11_readsLines_63 : decode cX11_readsLines 63 = .ok (.ireturn, 1) := by decide +kernel
theorem dX11_readsLines_64 : decode cX11_readsLines 64 = .ok (.aload_n 0, 1) := by decide +kernel
theorem dX11_readsLines_65 : decode cX11_readsLines 65 = .ok (.aload_n 0, 1) := by decide +kernel
theorem dX11_readsLines_66 : decode cX11_readsLines 66 = .ok (.invokevirtual 84, 3) := by decide +kernel
theorem dX11_readsLines_69 : decode cX11_readsLines 69 = .ok (.bipush 48, 2) := by decide +kernel
theorem dX11_readsLines_71 : decode cX11_readsLines 71 = .ok (.isub, 1) := by decide +kernel
theorem dX11_readsLines_72 : decode cX11_readsLines 72 = .ok (.putfield 95, 3) := by decide +kernel
theorem dX11_readsLines_75 : decode cX11_readsLines 75 = .ok (.aload_n 0, 1) := by decide +kernel
theorem dX11_readsLines_76 : decode cX11_readsLines 76 = .ok (.dup, 1) := by decide +kernel
theorem dX11_readsLines_77 : decode cX11_readsLines 77 = .ok (.getfield 81, 3) := by decide +kernel
theorem dX11_readsLines_80 : decode cX11_readsLines 80 = .ok (.iconst 1, 1) := by decide +kernel
theorem dX11_readsLines_81 : decode cX11_readsLines 81 = .ok (.iadd, 1) := by decide +kernel
theorem dX11_readsLines_82 : decode cX11_readsLines 82 = .ok (.putfield 81, 3) := by decide +kernel
theorem dX11_readsLines_85 : decode cX11_readsLines 85 = .ok (.aload_n 0, 1) := by decide +kernel
theorem dX11_readsLines_86 : decode cX11_readsLines 86 = .ok (.invokevirtual 98, 3) := by decide +kernel
theorem dX11_readsLines_89 : decode cX11_readsLines 89 = .ok (.ireturn, 1) := by decide +kernel
theorem dX11_readsStrip_0 : decode cX11_readsStrip 0 = .ok (.iconst 0, 1) := by decide +kernel
theorem dX11_readsStrip_1 : decode cX11_readsStrip 1 = .ok (.istore_n 1, 1) := by decide +kernel
theorem dX11_readsStrip_2 : decode cX11_readsStrip 2 = .ok (.iload_n 1, 1) := by decide +kernel
theorem dX11_readsStrip_3 : decode cX11_readsStrip 3 = .ok (.aload_n 0, 1) := by decide +kernel
theorem dX11_readsStrip_4 : decode cX11_readsStrip 4 = .ok (.getfield 95, 3) := by decide +kernel
theorem dX11_readsStrip_7 : decode cX11_readsStrip 7 = .ok (.if_icmp .ge 81, 3) := by decide +kernel
theorem dX11_readsStrip_10 : decode cX11_readsStrip 10 = .ok (.aload_n 0, 1) := by decide +kernel
theorem dX11_readsStrip_11 : decode cX11_readsStrip 11 = .ok (.invokevirtual 92, 3) := by decide +kernel
theorem dX11_readsStrip_14 : decode cX11_readsStrip 14 = .ok (.aload_n 0, 1) := by decide +kernel
theorem dX11_readsStrip_15 : decode cX11_readsStrip 15 = .ok (.invokevirtual 102, 3) := by decide +kernel
theorem dX11_readsStrip_18 : decode cX11_readsStrip 18 = .ok (.iconst 2, 1) := by decide +kernel
theorem dX11_readsStrip_19 : decode cX11_readsStrip 19 = .ok (.if_icmp .eq 5, 3) := by decide +kernel
theorem dX11_readsStrip_22 : decode cX11_readsStrip 22 = .ok (.iconst 0, 1) := by decide +kernel
theorem dX11_readsStrip_23 : decode cX11_readsStrip 23 = .ok (.ireturn, 1) := by decide +kernel
theorem dX11_readsStrip_24 : decode cX11_readsStrip 24 = .ok (.aload_n 0, 1) := by decide +kernel
theorem dX11_readsStrip_25 : decode cX11_readsStrip 25 = .ok (.getfield 35, 3) := by decide +kernel
theorem dX11_readsStrip_28 : decode cX11_readsStrip 28 = .ok (.aload_n 0, 1) := by decide +kernel
theorem dX11_readsStrip_29 : decode cX11_readsStrip 29 = .ok (.getfield 105, 3) := by decide +kernel
theorem dX11_readsStrip_32 : decode cX11_readsStrip 32 = .ok (.iload_n 1, 1) := by decide +kernel
theorem dX11_readsStrip_33 : decode cX11_readsStrip 33 = .ok (.iconst 0, 1) := by decide +kernel
theorem dX11_readsStrip_34 : decode cX11_readsStrip 34 = .ok (.invokestatic 108, 3) := by decide +kernel
theorem dX11_readsStrip_37 : decode cX11_readsStrip 37 = .ok (.aload_n 0, 1) := by decide +kernel
theorem dX11_readsStrip_38 : decode cX11_readsStrip 38 = .ok (.getfield 32, 3) := by decide +kernel
theorem dX11_readsStrip_41 : decode cX11_readsStrip 41 = .ok (.aload_n 0, 1) := by decide +kernel
theorem dX11_readsStrip_42 : decode cX11_readsStrip 42 = .ok (.getfield 81, 3) := by decide +kernel
theorem dX11_readsStrip_45 : decode cX11_readsStrip 45 = .ok (.iaload, 1) := by decide +kernel
theorem dX11_readsStrip_46 : decode cX11_readsStrip 46 = .ok (.iastore, 1) := by decide +kernel
theorem dX11_readsStrip_47 : decode cX11_readsStrip 47 = .ok (.aload_n 0, 1) := by decide +kernel
theorem dX11_readsStrip_48 : decode cX11_readsStrip 48 = .ok (.getfield 35, 3) := by decide +kernel
theorem dX11_readsStrip_51 : decode cX11_readsStrip 51 = .ok (.aload_n 0, 1) := by decide +kernel
theorem dX11_readsStrip_52 : decode cX11_readsStrip 52 = .ok (.getfield 105, 3) := by decide +kernel
theorem dX11_readsStrip_55 : decode cX11_readsStrip 55 = .ok (.iload_n 1, 1) := by decide +kernel
theorem dX11_readsStrip_56 : decode cX11_readsStrip 56 = .ok (.iconst 1, 1) := by decide +kernel
theorem dX11_readsStrip_57 : decode cX11_readsStrip 57 = .ok (.invokestatic 108, 3) := by decide +kernel
theorem dX11_readsStrip_60 : decode cX11_readsStrip 60 = .ok (.aload_n 0, 1) := by decide +kernel
theorem dX11_readsStrip_61 : decode cX11_readsStrip 61 = .ok (.getfield 32, 3) := by decide +kernel
theorem dX11_readsStrip_64 : decode cX11_readsStrip 64 = .ok (.aload_n 0, 1) := by decide +kernel
theorem dX11_readsStrip_65 : decode cX11_readsStrip 65 = .ok (.getfield 81, 3) := by decide +kernel
theorem dX11_readsStrip_68 : decode cX11_readsStrip 68 = .ok (.iconst 1, 1) := by decide +kernel
theorem dX11_readsStrip_69 : decode cX11_readsStrip 69 = .ok (.iadd, 1) := by decide +kernel
theorem dX11_readsStrip_70 : decode cX11_readsStrip 70 = .ok (.iaload, 1) := by decide +kernel
theorem dX11_readsStrip_71 : decode cX11_readsStrip 71 = .ok (.iastore, 1) := by decide +kernel
theorem dX11_readsStrip_72 : decode cX11_readsStrip 72 = .ok (.aload_n 0, 1) := by decide +kernel
theorem dX11_readsStrip_73 : decode cX11_readsStrip 73 = .ok (.dup, 1) := by decide +kernel
theorem dX11_readsStrip_74 : decode cX11_readsStrip 74 = .ok (.getfield 81, 3) := by decide +kernel
theorem dX11_readsStrip_77 : decode cX11_readsStrip 77 = .ok (.iconst 2, 1) := by decide +kernel
theorem dX11_readsStrip_78 : decode cX11_readsStrip 78 = .ok (.iadd, 1) := by decide +kernel
theorem dX11_readsStrip_79 : decode cX11_readsStrip 79 = .ok (.putfield 81, 3) := by decide +kernel
theorem dX11_readsStrip_82 : decode cX11_readsStrip 82 = .ok (.iinc 1 1, 3) := by decide +kernel
theorem dX11_readsStrip_85 : decode cX11_readsStrip 85 = .ok (.goto (-83), 3) := by decide +kernel
theorem dX11_readsStrip_88 : decode cX11_readsStrip 88 = .ok (.aload_n 0, 1) := by decide +kernel
theorem dX11_readsStrip_89 : decode cX11_readsStrip 89 = .ok (.dup, 1) := by decide +kernel
theorem dX11_readsStrip_90 : decode cX11_readsStrip 90 = .ok (.getfield 105, 3) := by decide +kernel
theorem dX11_readsStrip_93 : decode cX11_readsStrip 93 = .ok (.iconst 1, 1) := by decide +kernel
theorem dX11_readsStrip_94 : decode cX11_readsStrip 94 = .ok (.iadd, 1) := by decide +kernel
theorem dX11_readsStrip_95 : decode cX11_readsStrip 95 = .ok (.putfield 105, 3) := by decide +kernel
theorem dX11_readsStrip_98 : decode cX11_readsStrip 98 = .ok (.aload_n 0, 1) := by decide +kernel
theorem dX11_readsStrip_99 : decode cX11_readsStrip 99 = .ok (.invokevirtual 98, 3) := by decide +kernel
theorem dX11_readsStrip_102 : decode cX11_readsStrip 102 = .ok (.ireturn, 1) := by decide +kernel
theorem dX11_readsWord_0 : decode cX11_readsWord 0 = .ok (.aload_n 0, 1) := by decide +kernel
theorem dX11_readsWord_1 : decode cX11_readsWord 1 = .ok (.invokevirtual 92, 3) := by decide +kernel
theorem dX11_readsWord_4 : decode cX11_readsWord 4 = .ok (.aload_n 0, 1) := by decide +kernel
theorem dX11_readsWord_5 : decode cX11_readsWord 5 = .ok (.invokevirtual 102, 3) := by decide +kernel
theorem dX11_readsWord_8 : decode cX11_readsWord 8 = .ok (.istore_n 1, 1) := by decide +kernel
theorem dX11_readsWord_9 : decode cX11_readsWord 9 = .ok (.iload_n 1, 1) := by decide +kernel
theorem dX11_readsWord_10 : decode cX11_readsWord 10 = .ok (.iconst 1, 1) := by decide +kernel
theorem dX11_readsWord_11 : decode cX11_readsWord 11 = .ok (.bipush 6, 2) := by decide +kernel
theorem dX11_readsWord_13 : decode cX11_readsWord 13 = .ok (.invokestatic 71, 3) := by decide +kernel
theorem dX11_readsWord_16 : decode cX11_readsWord 16 = .ok (.istore_n 2, 1) := by decide +kernel
theorem dX11_readsWord_17 : decode cX11_readsWord 17 = .ok (.iconst 0, 1) := by decide +kernel
theorem dX11_readsWord_18 : decode cX11_readsWord 18 = .ok (.istore_n 3, 1) := by decide +kernel
theorem dX11_readsWord_19 : decode cX11_readsWord 19 = .ok (.iload_n 3, 1) := by decide +kernel
theorem dX11_readsWord_20 : decode cX11_readsWord 20 = .ok (.iload_n 1, 1) := by decide +kernel
theorem dX11_readsWord_21 : decode cX11_readsWord 21 = .ok (.if_icmp .ge 28, 3) := by decide +kernel
theorem dX11_readsWord_24 : decode cX11_readsWord 24 = .ok (.iload_n 2, 1) := by decide +kernel
theorem dX11_readsWord_25 : decode cX11_readsWord 25 = .ok (.ifCond .eq 24, 3) := by decide +kernel
theorem dX11_readsWord_28 : decode cX11_readsWord 28 = .ok (.aload_n 0, 1) := by decide +kernel
theorem dX11_readsWord_29 : decode cX11_readsWord 29 = .ok (.getfield 32, 3) := by decide +kernel
theorem dX11_readsWord_32 : decode cX11_readsWord 32 = .ok (.aload_n 0, 1) := by decide +kernel
theorem dX11_readsWord_33 : decode cX11_readsWord 33 = .ok (.getfield 81, 3) := by decide +kernel
theorem dX11_readsWord_36 : decode cX11_readsWord 36 = .ok (.iload_n 3, 1) := by decide +kernel
theorem dX11_readsWord_37 : decode cX11_readsWord 37 = .ok (.iadd, 1) := by decide +kernel
theorem dX11_readsWord_38 : decode cX11_readsWord 38 = .ok (.iaload, 1) := by decide +kernel
theorem dX11_readsWord_39 : decode cX11_readsWord 39 = .ok (.invokestatic 88, 3) := by decide +kernel
theorem dX11_readsWord_42 : decode cX11_readsWord 42 = .ok (.istore_n 2, 1) := by decide +kernel
theorem dX11_readsWord_43 : decode cX11_readsWord 43 = .ok (.iinc 3 1, 3) := by decide +kernel
theorem dX11_readsWord_46 : decode cX11_readsWord 46 = .ok (.goto (-27), 3) := by decide +kernel
theorem dX11_readsWord_49 : decode cX11_readsWord 49 = .ok (.iload_n 2, 1) := by decide +kernel
theorem dX11_readsWord_50 : decode cX11_readsWord 50 = .ok (.ifCond .ne 5, 3) := by decide +kernel
theorem dX11_readsWord_53 : decode cX11_readsWord 53 = .ok (.iconst 0, 1) := by decide +kernel
theorem dX11_readsWord_54 : decode cX11_readsWord 54 = .ok (.ireturn, 1) := by decide +kernel
theorem dX11_readsWord_55 : decode cX11_readsWord 55 = .ok (.iconst 0, 1) := by decide +kernel
theorem dX11_readsWord_56 : decode cX11_readsWord 56 = .ok (.istore_n 3, 1) := by decide +kernel
theorem dX11_readsWord_57 : decode cX11_readsWord 57 = .ok (.iload_n 3, 1) := by decide +kernel
theorem dX11_readsWord_58 : decode cX11_readsWord 58 = .ok (.iload_n 1, 1) := by decide +kernel
theorem dX11_readsWord_59 : decode cX11_readsWord 59 = .ok (.if_icmp .ge 34, 3) := by decide +kernel
theorem dX11_readsWord_62 : decode cX11_readsWord 62 = .ok (.aload_n 0, 1) := by decide +kernel
theorem dX11_readsWord_63 : decode cX11_readsWord 63 = .ok (.getfield 38, 3) := by decide +kernel
theorem dX11_readsWord_66 : decode cX11_readsWord 66 = .ok (.bipush 6, 2) := by decide +kernel
theorem dX11_readsWord_68 : decode cX11_readsWord 68 = .ok (.aload_n 0, 1) := by decide +kernel
theorem dX11_readsWord_69 : decode cX11_readsWord 69 = .ok (.getfield 112, 3) := by decide +kernel
theorem dX11_readsWord_72 : decode cX11_readsWord 72 = .ok (.imul, 1) := by decide +kernel
theorem dX11_readsWord_73 : decode cX11_readsWord 73 = .ok (.iload_n 3, 1) := by decide +kernel
theorem dX11_readsWord_74 : decode cX11_readsWord 74 = .ok (.iadd, 1) := by decide +kernel
theorem dX11_readsWord_75 : decode cX11_readsWord 75 = .ok (.aload_n 0, 1) := by decide +kernel
theorem dX11_readsWord_76 : decode cX11_readsWord 76 = .ok (.getfield 32, 3) := by decide +kernel
theorem dX11_readsWord_79 : decode cX11_readsWord 79 = .ok (.aload_n 0, 1) := by decide +kernel
theorem dX11_readsWord_80 : decode cX11_readsWord 80 = .ok (.getfield 81, 3) := by decide +kernel
theorem dX11_readsWord_83 : decode cX11_readsWord 83 = .ok (.iload_n 3, 1) := by decide +kernel
theorem dX11_readsWord_84 : decode cX11_readsWord 84 = .ok (.iadd, 1) := by decide +kernel
theorem dX11_readsWord_85 : decode cX11_readsWord 85 = .ok (.iaload, 1) := by decide +kernel
theorem dX11_readsWord_86 : decode cX11_readsWord 86 = .ok (.iastore, 1) := by decide +kernel
theorem dX11_readsWord_87 : decode cX11_readsWord 87 = .ok (.iinc 3 1, 3) := by decide +kernel
theorem dX11_readsWord_90 : decode cX11_readsWord 90 = .ok (.goto (-33), 3) := by decide +kernel
theorem dX11_readsWord_93 : decode cX11_readsWord 93 = .ok (.aload_n 0, 1) := by decide +kernel
theorem dX11_readsWord_94 : decode cX11_readsWord 94 = .ok (.getfield 41, 3) := by decide +kernel
theorem dX11_readsWord_97 : decode cX11_readsWord 97 = .ok (.aload_n 0, 1) := by decide +kernel
theorem dX11_readsWord_98 : decode cX11_readsWord 98 = .ok (.getfield 112, 3) := by decide +kernel
theorem dX11_readsWord_101 : decode cX11_readsWord 101 = .ok (.iload_n 1, 1) := by decide +kernel
theorem dX11_readsWord_102 : decode cX11_readsWord 102 = .ok (.iastore, 1) := by decide +kernel
theorem dX11_readsWord_103 : decode cX11_readsWord 103 = .ok (.aload_n 0, 1) := by decide +kernel
theorem dX11_readsWord_104 : decode cX11_readsWord 104 = .ok (.dup, 1) := by decide +kernel
theorem dX11_readsWord_105 : decode cX11_readsWord 105 = .ok (.getfield 112, 3) := by decide +kernel
theorem dX11_readsWord_108 : decode cX11_readsWord 108 = .ok (.iconst 1, 1) := by decide +kernel
theorem dX11_readsWord_109 : decode cX11_readsWord 109 = .ok (.iadd, 1) := by decide +kernel
theorem dX11_readsWord_110 : decode cX11_readsWord 110 = .ok (.putfield 112, 3) := by decide +kernel
theorem dX11_readsWord_113 : decode cX11_readsWord 113 = .ok (.aload_n 0, 1) := by decide +kernel
theorem dX11_readsWord_114 : decode cX11_readsWord 114 = .ok (.dup, 1) := by decide +kernel
theorem dX11_readsWord_115 : decode cX11_readsWord 115 = .ok (.getfield 81, 3) := by decide +kernel
theorem dX11_readsWord_118 : decode cX11_readsWord 118 = .ok (.iload_n 1, 1) := by decide +kernel
theorem dX11_readsWord_119 : decode cX11_readsWord 119 = .ok (.iadd, 1) := by decide +kernel
theorem dX11_readsWord_120 : decode cX11_readsWord 120 = .ok (.putfield 81, 3) := by decide +kernel
theorem dX11_readsWord_123 : decode cX11_readsWord 123 = .ok (.aload_n 0, 1) := by decide +kernel
theorem dX11_readsWord_124 : decode cX11_readsWord 124 = .ok (.invokevirtual 98, 3) := by decide +kernel
theorem dX11_readsWord_127 : decode cX11_readsWord 127 = .ok (.ireturn, 1) := by decide +kernel
theorem dX11_readsItem_0 : decode cX11_readsItem 0 = .ok (.aload_n 0, 1) := by decide +kernel
theorem dX11_readsItem_1 : decode cX11_readsItem 1 = .ok (.invokevirtual 102, 3) := by decide +kernel
theorem dX11_readsItem_4 : decode cX11_readsItem 4 = .ok (.iconst 1, 1) := by decide +kernel
theorem dX11_readsItem_5 : decode cX11_readsItem 5 = .ok (.if_icmp .ne 10, 3) := by decide +kernel
theorem dX11_readsItem_8 : decode cX11_readsItem 8 = .ok (.aload_n 0, 1) := by decide +kernel
theorem dX11_readsItem_9 : decode cX11_readsItem 9 = .ok (.invokevirtual 84, 3) := by decide +kernel
theorem dX11_readsItem_12 : decode cX11_readsItem 12 = .ok (.goto 5, 3) := by decide +kernel
theorem dX11_readsItem_15 : decode cX11_readsItem 15 = .ok (.bipush (-9), 2) := by decide +kernel
theorem dX11_readsItem_17 : decode cX11_readsItem 17 = .ok (.istore_n 1, 1) := by decide +kernel
theorem dX11_readsItem_18 : decode cX11_readsItem 18 = .ok (.iload_n 1, 1) := by decide +kernel
theorem dX11_readsItem_19 : decode cX11_readsItem 19 = .ok (.bipush 110, 2) := by decide +kernel
theorem dX11_readsItem_21 : decode cX11_readsItem 21 = .ok (.if_icmp .ne 18, 3) := by decide +kernel
theorem dX11_readsItem_24 : decode cX11_readsItem 24 = .ok (.aload_n 0, 1) := by decide +kernel
theorem dX11_readsItem_25 : decode cX11_readsItem 25 = .ok (.getfield 115, 3) := by decide +kernel
theorem dX11_readsItem_28 : decode cX11_readsItem 28 = .ok (.ifCond .ne 7, 3) := by decide +kernel
theorem dX11_readsItem_31 : decode cX11_readsItem 31 = .ok (.iconst 1, 1) := by decide +kernel
theorem dX11_readsItem_32 : decode cX11_readsItem 32 = .ok (.goto 50, 3) := by decide +kernel
theorem dX11_readsItem_35 : decode cX11_readsItem 35 = .ok (.iconst 0, 1) := by decide +kernel
theorem dX11_readsItem_36 : decode cX11_readsItem 36 = .ok (.goto 46, 3) := by decide +kernel
theorem dX11_readsItem_39 : decode cX11_readsItem 39 = .ok (.iload_n 1, 1) := by decide +kernel
theorem dX11_readsItem_40 : decode cX11_readsItem 40 = .ok (.bipush 115, 2) := by decide +kernel
theorem dX11_readsItem_42 : decode cX11_readsItem 42 = .ok (.if_icmp .ne 20, 3) := by decide +kernel
theorem dX11_readsItem_45 : decode cX11_readsItem 45 = .ok (.aload_n 0, 1) := by decide +kernel
theorem dX11_readsItem_46 : decode cX11_readsItem 46 = .ok (.getfield 105, 3) := by decide +kernel
theorem dX11_readsItem_49 : decode cX11_readsItem 49 = .ok (.bipush 6, 2) := by decide +kernel
theorem dX11_readsItem_51 : decode cX11_readsItem 51 = .ok (.if_icmp .ge 7, 3) := by decide +kernel
theorem dX11_readsItem_54 : decode cX11_readsItem 54 = .ok (.iconst 1, 1) := by decide +kernel
theorem dX11_readsItem_55 : decode cX11_readsItem 55 = .ok (.goto 27, 3) := by decide +kernel
theorem dX11_readsItem_58 : decode cX11_readsItem 58 = .ok (.iconst 0, 1) := by decide +kernel
theorem dX11_readsItem_59 : decode cX11_readsItem 59 = .ok (.goto 23, 3) := by decide +kernel
theorem dX11_readsItem_62 : decode cX11_readsItem 62 = .ok (.iload_n 1, 1) := by decide +kernel
theorem dX11_readsItem_63 : decode cX11_readsItem 63 = .ok (.bipush 119, 2) := by decide +kernel
theorem dX11_readsItem_65 : decode cX11_readsItem 65 = .ok (.if_icmp .ne 16, 3) := by decide +kernel
theorem dX11_readsItem_68 : decode cX11_readsItem 68 = .ok (.aload_n 0, 1) := by decide +kernel
theorem dX11_readsItem_69 : decode cX11_readsItem 69 = .ok (.getfield 112, 3) := by decide +kernel
theorem dX11_readsItem_72 : decode cX11_readsItem 72 = .ok (.bipush 8, 2) := by decide +kernel
theorem dX11_readsItem_74 : decode cX11_readsItem 74 = .ok (.if_icmp .ge 7, 3) := by decide +kernel
theorem dX11_readsItem_77 : decode cX11_readsItem 77 = .ok (.iconst 1, 1) := by decide +kernel
theorem dX11_readsItem_78 : decode cX11_readsItem 78 = .ok (.goto 4, 3) := by decide +kernel
theorem dX11_readsItem_81 : decode cX11_readsItem 81 = .ok (.iconst 0, 1) := by decide +kernel
theorem dX11_readsItem_82 : decode cX11_readsItem 82 = .ok (.istore_n 2, 1) := by decide +kernel
theorem dX11_readsItem_83 : decode cX11_readsItem 83 = .ok (.iload_n 2, 1) := by decide +kernel
theorem dX11_readsItem_84 : decode cX11_readsItem 84 = .ok (.ifCond .ne 5, 3) := by decide +kernel
theorem dX11_readsItem_87 : decode cX11_readsItem 87 = .ok (.iconst 0, 1) := by decide +kernel
theorem dX11_readsItem_88 : decode cX11_readsItem 88 = .ok (.ireturn, 1) := by decide +kernel
theorem dX11_readsItem_89 : decode cX11_readsItem 89 = .ok (.aload_n 0, 1) := by decide +kernel
theorem dX11_readsItem_90 : decode cX11_readsItem 90 = .ok (.dup, 1) := by decide +kernel
theorem dX11_readsItem_91 : decode cX11_readsItem 91 = .ok (.getfield 81, 3) := by decide +kernel
theorem dX11_readsItem_94 : decode cX11_readsItem 94 = .ok (.iconst 1, 1) := by decide +kernel
theorem dX11_readsItem_95 : decode cX11_readsItem 95 = .ok (.iadd, 1) := by decide +kernel
theorem dX11_readsItem_96 : decode cX11_readsItem 96 = .ok (.putfield 81, 3) := by decide +kernel
theorem dX11_readsItem_99 : decode cX11_readsItem 99 = .ok (.aload_n 0, 1) := by decide +kernel
theorem dX11_readsItem_100 : decode cX11_readsItem 100 = .ok (.dup, 1) := by decide +kernel
theorem dX11_readsItem_101 : decode cX11_readsItem 101 = .ok (.getfield 115, 3) := by decide +kernel
theorem dX11_readsItem_104 : decode cX11_readsItem 104 = .ok (.iconst 1, 1) := by decide +kernel
theorem dX11_readsItem_105 : decode cX11_readsItem 105 = .ok (.iadd, 1) := by decide +kernel
theorem dX11_readsItem_106 : decode cX11_readsItem 106 = .ok (.putfield 115, 3) := by decide +kernel
theorem dX11_readsItem_109 : decode cX11_readsItem 109 = .ok (.iload_n 1, 1) := by decide +kernel
theorem dX11_readsItem_110 : decode cX11_readsItem 110 = .ok (.bipush 110, 2) := by decide +kernel
theorem dX11_readsItem_112 : decode cX11_readsItem 112 = .ok (.if_icmp .ne 10, 3) := by decide +kernel
theorem dX11_readsItem_115 : decode cX11_readsItem 115 = .ok (.aload_n 0, 1) := by decide +kernel
theorem dX11_readsItem_116 : decode cX11_readsItem 116 = .ok (.invokevirtual 118, 3) := by decide +kernel
theorem dX11_readsItem_119 : decode cX11_readsItem 119 = .ok (.goto 20, 3) := by decide +kernel
theorem dX11_readsItem_122 : decode cX11_readsItem 122 = .ok (.iload_n 1, 1) := by decide +kernel
theorem dX11_readsItem_123 : decode cX11_readsItem 123 = .ok (.bipush 115, 2) := by decide +kernel
theorem dX11_readsItem_125 : decode cX11_readsItem 125 = .ok (.if_icmp .ne 10, 3) := by decide +kernel
theorem dX11_readsItem_128 : decode cX11_readsItem 128 = .ok (.aload_n 0, 1) := by decide +kernel
theorem dX11_readsItem_129 : decode cX11_readsItem 129 = .ok (.invokevirtual 121, 3) := by decide +kernel
theorem dX11_readsItem_132 : decode cX11_readsItem 132 = .ok (.goto 7, 3) := by decide +kernel
theorem dX11_readsItem_135 : decode cX11_readsItem 135 = .ok (.aload_n 0, 1) := by decide +kernel
theorem dX11_readsItem_136 : decode cX11_readsItem 136 = .ok (.invokevirtual 124, 3) := by decide +kernel
theorem dX11_readsItem_139 : decode cX11_readsItem 139 = .ok (.ireturn, 1) := by decide +kernel
theorem dX11_page_0 : decode cX11_page 0 = .ok (.aload_n 0, 1) := by decide +kernel
theorem dX11_page_1 : decode cX11_page 1 = .ok (.iconst 0, 1) := by decide +kernel
theorem dX11_page_2 : decode cX11_page 2 = .ok (.putfield 81, 3) := by decide +kernel
theorem dX11_page_5 : decode cX11_page 5 = .ok (.aload_n 0, 1) := by decide +kernel
theorem dX11_page_6 : decode cX11_page 6 = .ok (.iconst 2, 1) := by decide +kernel
theorem dX11_page_7 : decode cX11_page 7 = .ok (.putfield 95, 3) := by decide +kernel
theorem dX11_page_10 : decode cX11_page 10 = .ok (.aload_n 0, 1) := by decide +kernel
theorem dX11_page_11 : decode cX11_page 11 = .ok (.iconst 0, 1) := by decide +kernel
theorem dX11_page_12 : decode cX11_page 12 = .ok (.putfield 105, 3) := by decide +kernel
theorem dX11_page_15 : decode cX11_page 15 = .ok (.aload_n 0, 1) := by decide +kernel
theorem dX11_page_16 : decode cX11_page 16 = .ok (.iconst 0, 1) := by decide +kernel
theorem dX11_page_17 : decode cX11_page 17 = .ok (.putfield 112, 3) := by decide +kernel
theorem dX11_page_20 : decode cX11_page 20 = .ok (.aload_n 0, 1) := by decide +kernel
theorem dX11_page_21 : decode cX11_page 21 = .ok (.iconst 0, 1) := by decide +kernel
theorem dX11_page_22 : decode cX11_page 22 = .ok (.putfield 115, 3) := by decide +kernel
theorem dX11_page_25 : decode cX11_page 25 = .ok (.aload_n 0, 1) := by decide +kernel
theorem dX11_page_26 : decode cX11_page 26 = .ok (.invokevirtual 92, 3) := by decide +kernel
theorem dX11_page_29 : decode cX11_page 29 = .ok (.aload_n 0, 1) := by decide +kernel
theorem dX11_page_30 : decode cX11_page 30 = .ok (.getfield 81, 3) := by decide +kernel
theorem dX11_page_33 : decode cX11_page 33 = .ok (.aload_n 0, 1) := by decide +kernel
theorem dX11_page_34 : decode cX11_page 34 = .ok (.getfield 78, 3) := by decide +kernel
theorem dX11_page_37 : decode cX11_page 37 = .ok (.if_icmp .ge 25, 3) := by decide +kernel
theorem dX11_page_40 : decode cX11_page 40 = .ok (.aload_n 0, 1) := by decide +kernel
theorem dX11_page_41 : decode cX11_page 41 = .ok (.invokevirtual 127, 3) := by decide +kernel
theorem dX11_page_44 : decode cX11_page 44 = .ok (.ifCond .ne 11, 3) := by decide +kernel
theorem dX11_page_47 : decode cX11_page 47 = .ok (.bipush (-10), 2) := by decide +kernel
theorem dX11_page_49 : decode cX11_page 49 = .ok (.aload_n 0, 1) := by decide +kernel
theorem dX11_page_50 : decode cX11_page 50 = .ok (.getfield 81, 3) := by decide +kernel
theorem dX11_page_53 : decode cX11_page 53 = .ok (.isub, 1) := by decide +kernel
theorem dX11_page_54 : decode cX11_page 54 = .ok (.ireturn, 1) := by decide +kernel
theorem dX11_page_55 : decode cX11_page 55 = .ok (.aload_n 0, 1) := by decide +kernel
theorem dX11_page_56 : decode cX11_page 56 = .ok (.invokevirtual 92, 3) := by decide +kernel
theorem dX11_page_59 : decode cX11_page 59 = .ok (.goto (-30), 3) := by decide +kernel
theorem dX11_page_62 : decode cX11_page 62 = .ok (.aload_n 0, 1) := by decide +kernel
theorem dX11_page_63 : decode cX11_page 63 = .ok (.iconst 0, 1) := by decide +kernel
theorem dX11_page_64 : decode cX11_page 64 = .ok (.putfield 78, 3) := by decide +kernel
theorem dX11_page_67 : decode cX11_page 67 = .ok (.aload_n 0, 1) := by decide +kernel
theorem dX11_page_68 : decode cX11_page 68 = .ok (.aload_n 0, 1) := by decide +kernel
theorem dX11_page_69 : decode cX11_page 69 = .ok (.getfield 95, 3) := by decide +kernel
theorem dX11_page_72 : decode cX11_page 72 = .ok (.putfield 7, 3) := by decide +kernel
theorem dX11_page_75 : decode cX11_page 75 = .ok (.aload_n 0, 1) := by decide +kernel
theorem dX11_page_76 : decode cX11_page 76 = .ok (.aload_n 0, 1) := by decide +kernel
theorem dX11_page_77 : decode cX11_page 77 = .ok (.getfield 105, 3) := by decide +kernel
theorem dX11_page_80 : decode cX11_page 80 = .ok (.putfield 68, 3) := by decide +kernel
theorem dX11_page_83 : decode cX11_page 83 = .ok (.aload_n 0, 1) := by decide +kernel
theorem dX11_page_84 : decode cX11_page 84 = .ok (.aload_n 0, 1) := by decide +kernel
theorem dX11_page_85 : decode cX11_page 85 = .ok (.getfield 112, 3) := by decide +kernel
theorem dX11_page_88 : decode cX11_page 88 = .ok (.putfield 130, 3) := by decide +kernel
theorem dX11_page_91 : decode cX11_page 91 = .ok (.iconst 0, 1) := by decide +kernel
theorem dX11_page_92 : decode cX11_page 92 = .ok (.istore_n 1, 1) := by decide +kernel
theorem dX11_page_93 : decode cX11_page 93 = .ok (.iload_n 1, 1) := by decide +kernel
theorem dX11_page_94 : decode cX11_page 94 = .ok (.bipush 36, 2) := by decide +kernel
theorem dX11_page_96 : decode cX11_page 96 = .ok (.if_icmp .ge 21, 3) := by decide +kernel
theorem dX11_page_99 : decode cX11_page 99 = .ok (.aload_n 0, 1) := by decide +kernel
theorem dX11_page_100 : decode cX11_page 100 = .ok (.getfield 13, 3) := by decide +kernel
theorem dX11_page_103 : decode cX11_page 103 = .ok (.iload_n 1, 1) := by decide +kernel
theorem dX11_page_104 : decode cX11_page 104 = .ok (.aload_n 0, 1) := by decide +kernel
theorem dX11_page_105 : decode cX11_page 105 = .ok (.getfield 35, 3) := by decide +kernel
theorem dX11_page_108 : decode cX11_page 108 = .ok (.iload_n 1, 1) := by decide +kernel
theorem dX11_page_109 : decode cX11_page 109 = .ok (.iaload, 1) := by decide +kernel
theorem dX11_page_110 : decode cX11_page 110 = .ok (.iastore, 1) := by decide +kernel
theorem dX11_page_111 : decode cX11_page 111 = .ok (.iinc 1 1, 3) := by decide +kernel
theorem dX11_page_114 : decode cX11_page 114 = .ok (.goto (-21), 3) := by decide +kernel
theorem dX11_page_117 : decode cX11_page 117 = .ok (.iconst 0, 1) := by decide +kernel
theorem dX11_page_118 : decode cX11_page 118 = .ok (.istore_n 1, 1) := by decide +kernel
theorem dX11_page_119 : decode cX11_page 119 = .ok (.iload_n 1, 1) := by decide +kernel
theorem dX11_page_120 : decode cX11_page 120 = .ok (.bipush 48, 2) := by decide +kernel
theorem dX11_page_122 : decode cX11_page 122 = .ok (.if_icmp .ge 21, 3) := by decide +kernel
theorem dX11_page_125 : decode cX11_page 125 = .ok (.aload_n 0, 1) := by decide +kernel
theorem dX11_page_126 : decode cX11_page 126 = .ok (.getfield 17, 3) := by decide +kernel
theorem dX11_page_129 : decode cX11_page 129 = .ok (.iload_n 1, 1) := by decide +kernel
theorem dX11_page_130 : decode cX11_page 130 = .ok (.aload_n 0, 1) := by decide +kernel
theorem dX11_page_131 : decode cX11_page 131 = .ok (.getfield 38, 3) := by decide +kernel
theorem dX11_page_134 : decode cX11_page 134 = .ok (.iload_n 1, 1) := by decide +kernel
theorem dX11_page_135 : decode cX11_page 135 = .ok (.iaload, 1) := by decide +kernel
theorem dX11_page_136 : decode cX11_page 136 = .ok (.iastore, 1) := by decide +kernel
theorem dX11_page_137 : decode cX11_page 137 = .ok (.iinc 1 1, 3) := by decide +kernel
theorem dX11_page_140 : decode cX11_page 140 = .ok (.goto (-21), 3) := by decide +kernel
theorem dX11_page_143 : decode cX11_page 143 = .ok (.iconst 0, 1) := by decide +kernel
theorem dX11_page_144 : decode cX11_page 144 = .ok (.istore_n 1, 1) := by decide +kernel
theorem dX11_page_145 : decode cX11_page 145 = .ok (.iload_n 1, 1) := by decide +kernel
theorem dX11_page_146 : decode cX11_page 146 = .ok (.aload_n 0, 1) := by decide +kernel
theorem dX11_page_147 : decode cX11_page 147 = .ok (.getfield 130, 3) := by decide +kernel
theorem dX11_page_150 : decode cX11_page 150 = .ok (.if_icmp .ge 21, 3) := by decide +kernel
theorem dX11_page_153 : decode cX11_page 153 = .ok (.aload_n 0, 1) := by decide +kernel
theorem dX11_page_154 : decode cX11_page 154 = .ok (.getfield 20, 3) := by decide +kernel
theorem dX11_page_157 : decode cX11_page 157 = .ok (.iload_n 1, 1) := by decide +kernel
theorem dX11_page_158 : decode cX11_page 158 = .ok (.aload_n 0, 1) := by decide +kernel
theorem dX11_page_159 : decode cX11_page 159 = .ok (.getfield 41, 3) := by decide +kernel
theorem dX11_page_162 : decode cX11_page 162 = .ok (.iload_n 1, 1) := by decide +kernel
theorem dX11_page_163 : decode cX11_page 163 = .ok (.iaload, 1) := by decide +kernel
theorem dX11_page_164 : decode cX11_page 164 = .ok (.iastore, 1) := by decide +kernel
theorem dX11_page_165 : decode cX11_page 165 = .ok (.iinc 1 1, 3) := by decide +kernel
theorem dX11_page_168 : decode cX11_page 168 = .ok (.goto (-23), 3) := by decide +kernel
theorem dX11_page_171 : decode cX11_page 171 = .ok (.aload_n 0, 1) := by decide +kernel
theorem dX11_page_172 : decode cX11_page 172 = .ok (.aload_n 0, 1) := by decide +kernel
theorem dX11_page_173 : decode cX11_page 173 = .ok (.getfield 68, 3) := by decide +kernel
theorem dX11_page_176 : decode cX11_page 176 = .ok (.putfield 75, 3) := by decide +kernel
theorem dX11_page_179 : decode cX11_page 179 = .ok (.iconst 0, 1) := by decide +kernel
theorem dX11_page_180 : decode cX11_page 180 = .ok (.istore_n 1, 1) := by decide +kernel
theorem dX11_page_181 : decode cX11_page 181 = .ok (.iload_n 1, 1) := by decide +kernel
theorem dX11_page_182 : decode cX11_page 182 = .ok (.bipush 6, 2) := by decide +kernel
theorem dX11_page_184 : decode cX11_page 184 = .ok (.if_icmp .ge 16, 3) := by decide +kernel
theorem dX11_page_187 : decode cX11_page 187 = .ok (.aload_n 0, 1) := by decide +kernel
theorem dX11_page_188 : decode cX11_page 188 = .ok (.getfield 23, 3) := by decide +kernel
theorem dX11_page_191 : decode cX11_page 191 = .ok (.iload_n 1, 1) := by decide +kernel
theorem dX11_page_192 : decode cX11_page 192 = .ok (.iload_n 1, 1) := by decide +kernel
theorem dX11_page_193 : decode cX11_page 193 = .ok (.iastore, 1) := by decide +kernel
theorem dX11_page_194 : decode cX11_page 194 = .ok (.iinc 1 1, 3) := by decide +kernel
theorem dX11_page_197 : decode cX11_page 197 = .ok (.goto (-16), 3) := by decide +kernel
theorem dX11_page_200 : decode cX11_page 200 = .ok (.aload_n 0, 1) := by decide +kernel
theorem dX11_page_201 : decode cX11_page 201 = .ok (.iconst 0, 1) := by decide +kernel
theorem dX11_page_202 : decode cX11_page 202 = .ok (.putfield 133, 3) := by decide +kernel
theorem dX11_page_205 : decode cX11_page 205 = .ok (.aload_n 0, 1) := by decide +kernel
theorem dX11_page_206 : decode cX11_page 206 = .ok (.iconst 0, 1) := by decide +kernel
theorem dX11_page_207 : decode cX11_page 207 = .ok (.putfield 136, 3) := by decide +kernel
theorem dX11_page_210 : decode cX11_page 210 = .ok (.aload_n 0, 1) := by decide +kernel
theorem dX11_page_211 : decode cX11_page 211 = .ok (.iconst 0, 1) := by decide +kernel
theorem dX11_page_212 : decode cX11_page 212 = .ok (.putfield 139, 3) := by decide +kernel
theorem dX11_page_215 : decode cX11_page 215 = .ok (.aload_n 0, 1) := by decide +kernel
theorem dX11_page_216 : decode cX11_page 216 = .ok (.getfield 65, 3) := by decide +kernel
theorem dX11_page_219 : decode cX11_page 219 = .ok (.iconst 0, 1) := by decide +kernel
theorem dX11_page_220 : decode cX11_page 220 = .ok (.iconst 0, 1) := by decide +kernel
theorem dX11_page_221 : decode cX11_page 221 = .ok (.iastore, 1) := by decide +kernel
theorem dX11_page_222 : decode cX11_page 222 = .ok (.aload_n 0, 1) := by decide +kernel
theorem dX11_page_223 : decode cX11_page 223 = .ok (.getfield 65, 3) := by decide +kernel
theorem dX11_page_226 : decode cX11_page 226 = .ok (.bipush 90, 2) := by decide +kernel
theorem dX11_page_228 : decode cX11_page 228 = .ok (.iconst 0, 1) := by decide +kernel
theorem dX11_page_229 : decode cX11_page 229 = .ok (.iastore, 1) := by decide +kernel
theorem dX11_page_230 : decode cX11_page 230 = .ok (.aload_n 0, 1) := by decide +kernel
theorem dX11_page_231 : decode cX11_page 231 = .ok (.getfield 115, 3) := by decide +kernel
theorem dX11_page_234 : decode cX11_page 234 = .ok (.ireturn, 1) := by decide +kernel
theorem dX11_signBy_0 : decode cX11_signBy 0 = .ok (.iload 4, 2) := by decide +kernel
theorem dX11_signBy_2 : decode cX11_signBy 2 = .ok (.iload_n 1, 1) := by decide +kernel
theorem dX11_signBy_3 : decode cX11_signBy 3 = .ok (.invokestatic 142, 3) := by decide +kernel
theorem dX11_signBy_6 : decode cX11_signBy 6 = .ok (.ifCond .eq 26, 3) := by decide +kernel
theorem dX11_signBy_9 : decode cX11_signBy 9 = .ok (.aload_n 0, 1) := by decide +kernel
theorem dX11_signBy_10 : decode cX11_signBy 10 = .ok (.getfield 13, 3) := by decide +kernel
theorem dX11_signBy_13 : decode cX11_signBy 13 = .ok (.iload_n 1, 1) := by decide +kernel
theorem dX11_signBy_14 : decode cX11_signBy 14 = .ok (.aload_n 0, 1) := by decide +kernel
theorem dX11_signBy_15 : decode cX11_signBy 15 = .ok (.getfield 7, 3) := by decide +kernel
theorem dX11_signBy_18 : decode cX11_signBy 18 = .ok (.iconst 1, 1) := by decide +kernel
theorem dX11_signBy_19 : decode cX11_signBy 19 = .ok (.isub, 1) := by decide +kernel
theorem dX11_signBy_20 : decode cX11_signBy 20 = .ok (.iload_n 2, 1) := by decide +kernel
theorem dX11_signBy_21 : decode cX11_signBy 21 = .ok (.isub, 1) := by decide +kernel
theorem dX11_signBy_22 : decode cX11_signBy 22 = .ok (.iconst 1, 1) := by decide +kernel
theorem dX11_signBy_23 : decode cX11_signBy 23 = .ok (.iload_n 3, 1) := by decide +kernel
theorem dX11_signBy_24 : decode cX11_signBy 24 = .ok (.isub, 1) := by decide +kernel
theorem dX11_signBy_25 : decode cX11_signBy 25 = .ok (.invokestatic 108, 3) := by decide +kernel
theorem dX11_signBy_28 : decode cX11_signBy 28 = .ok (.iaload, 1) := by decide +kernel
theorem dX11_signBy_29 : decode cX11_signBy 29 = .ok (.goto 14, 3) := by decide +kernel
theorem dX11_signBy_32 : decode cX11_signBy 32 = .ok (.aload_n 0, 1) := by decide +kernel
theorem dX11_signBy_33 : decode cX11_signBy 33 = .ok (.getfield 13, 3) := by decide +kernel
theorem dX11_signBy_36 : decode cX11_signBy 36 = .ok (.iload_n 1, 1) := by decide +kernel
theorem dX11_signBy_37 : decode cX11_signBy 37 = .ok (.iload_n 2, 1) := by decide +kernel
theorem dX11_signBy_38 : decode cX11_signBy 38 = .ok (.iload_n 3, 1) := by decide +kernel
theorem dX11_signBy_39 : decode cX11_signBy 39 = .ok (.invokestatic 108, 3) := by decide +kernel
theorem dX11_signBy_42 : decode cX11_signBy 42 = .ok (.iaload, 1) := by decide +kernel
theorem dX11_signBy_43 : decode cX11_signBy 43 = .ok (.ireturn, 1) := by decide +kernel
theorem dX11_readBy_0 : decode cX11_readBy 0 = .ok (.aload_n 0, 1) := by decide +kernel
theorem dX11_readBy_1 : decode cX11_readBy 1 = .ok (.aload_n 1, 1) := by decide +kernel
theorem dX11_readBy_2 : decode cX11_readBy 2 = .ok (.iload_n 3, 1) := by decide +kernel
theorem dX11_readBy_3 : decode cX11_readBy 3 = .ok (.iconst 2, 1) := by decide +kernel
theorem dX11_readBy_4 : decode cX11_readBy 4 = .ok (.idiv, 1) := by decide +kernel
theorem dX11_readBy_5 : decode cX11_readBy 5 = .ok (.iaload, 1) := by decide +kernel
theorem dX11_readBy_6 : decode cX11_readBy 6 = .ok (.iload_n 2, 1) := by decide +kernel
theorem dX11_readBy_7 : decode cX11_readBy 7 = .ok (.iload_n 3, 1) := by decide +kernel
theorem dX11_readBy_8 : decode cX11_readBy 8 = .ok (.iconst 2, 1) := by decide +kernel
theorem dX11_readBy_9 : decode cX11_readBy 9 = .ok (.irem, 1) := by decide +kernel
theorem dX11_readBy_10 : decode cX11_readBy 10 = .ok (.iload 4, 2) := by decide +kernel
theorem dX11_readBy_12 : decode cX11_readBy 12 = .ok (.invokevirtual 146, 3) := by decide +kernel
theorem dX11_readBy_15 : decode cX11_readBy 15 = .ok (.ireturn, 1) := by decide +kernel
theorem dX11_isSpelled_0 : decode cX11_isSpelled 0 = .ok (.iconst 1, 1) := by decide +kernel
theorem dX11_isSpelled_1 : decode cX11_isSpelled 1 = .ok (.istore 6, 2) := by decide +kernel
theorem dX11_isSpelled_3 : decode cX11_isSpelled 3 = .ok (.iconst 0, 1) := by decide +kernel
theorem dX11_isSpelled_4 : decode cX11_isSpelled 4 = .ok (.istore 7, 2) := by decide +kernel
theorem dX11_isSpelled_6 : decode cX11_isSpelled 6 = .ok (.iload 7, 2) := by decide +kernel
theorem dX11_isSpelled_8 : decode cX11_isSpelled 8 = .ok (.aload_n 0, 1) := by decide +kernel
theorem dX11_isSpelled_9 : decode cX11_isSpelled 9 = .ok (.getfield 20, 3) := by decide +kernel
theorem dX11_isSpelled_12 : decode cX11_isSpelled 12 = .ok (.iload_n 1, 1) := by decide +kernel
theorem dX11_isSpelled_13 : decode cX11_isSpelled 13 = .ok (.iaload, 1) := by decide +kernel
theorem dX11_isSpelled_14 : decode cX11_isSpelled 14 = .ok (.if_icmp .ge 49, 3) := by decide +kernel
theorem dX11_isSpelled_17 : decode cX11_isSpelled 17 = .ok (.iload 6, 2) := by decide +kernel
theorem dX11_isSpelled_19 : decode cX11_isSpelled 19 = .ok (.ifCond .eq 35, 3) := by decide +kernel
theorem dX11_isSpelled_22 : decode cX11_isSpelled 22 = .ok (.aload_n 0, 1) := by decide +kernel
theorem dX11_isSpelled_23 : decode cX11_isSpelled 23 = .ok (.aload_n 2, 1) := by decide +kernel
theorem dX11_isSpelled_24 : decode cX11_isSpelled 24 = .ok (.iload_n 3, 1) := by decide +kernel
theorem dX11_isSpelled_25 : decode cX11_isSpelled 25 = .ok (.iload 4, 2) := by decide +kernel
theorem dX11_isSpelled_27 : decode cX11_isSpelled 27 = .ok (.iload 7, 2) := by decide +kernel
theorem dX11_isSpelled_29 : decode cX11_isSpelled 29 = .ok (.iadd, 1) := by decide +kernel
theorem dX11_isSpelled_30 : decode cX11_isSpelled 30 = .ok (.iload 5, 2) := by decide +kernel
theorem dX11_isSpelled_32 : decode cX11_isSpelled 32 = .ok (.invokevirtual 150, 3) := by decide +kernel
theorem dX11_isSpelled_35 : decode cX11_isSpelled 35 = .ok (.aload_n 0, 1) := by decide +kernel
theorem dX11_isSpelled_36 : decode cX11_isSpelled 36 = .ok (.getfield 17, 3) := by decide +kernel
theorem dX11_isSpelled_39 : decode cX11_isSpelled 39 = .ok (.bipush 6, 2) := by decide +kernel
theorem dX11_isSpelled_41 : decode cX11_isSpelled 41 = .ok (.iload_n 1, 1) := by decide +kernel
theorem dX11_isSpelled_42 : decode cX11_isSpelled 42 = .ok (.imul, 1) := by decide +kernel
theorem dX11_isSpelled_43 : decode cX11_isSpelled 43 = .ok (.iload 7, 2) := by decide +kernel
theorem dX11_isSpelled_45 : decode cX11_isSpelled 45 = .ok (.iadd, 1) := by decide +kernel
theorem dX11_isSpelled_46 : decode cX11_isSpelled 46 = .ok (.iaload, 1) := by decide +kernel
theorem dX11_isSpelled_47 : decode cX11_isSpelled 47 = .ok (.if_icmp .ne 7, 3) := by decide +kernel
theorem dX11_isSpelled_50 : decode cX11_isSpelled 50 = .ok (.iconst 1, 1) := by decide +kernel
theorem dX11_isSpelled_51 : decode cX11_isSpelled 51 = .ok (.goto 4, 3) := by decide +kernel
theorem dX11_isSpelled_54 : decode cX11_isSpelled 54 = .ok (.iconst 0, 1) := by decide +kernel
theorem dX11_isSpelled_55 : decode cX11_isSpelled 55 = .ok (.istore 6, 2) := by decide +kernel
theorem dX11_isSpelled_57 : decode cX11_isSpelled 57 = .ok (.iinc 7 1, 3) := by decide +kernel
theorem dX11_isSpelled_60 : decode cX11_isSpelled 60 = .ok (.goto (-54), 3) := by decide +kernel
theorem dX11_isSpelled_63 : decode cX11_isSpelled 63 = .ok (.iload 6, 2) := by decide +kernel
theorem dX11_isSpelled_65 : decode cX11_isSpelled 65 = .ok (.ireturn, 1) := by decide +kernel
theorem dX11_isWord_0 : decode cX11_isWord 0 = .ok (.iconst 0, 1) := by decide +kernel
theorem dX11_isWord_1 : decode cX11_isWord 1 = .ok (.istore 6, 2) := by decide +kernel
theorem dX11_isWord_3 : decode cX11_isWord 3 = .ok (.iconst 0, 1) := by decide +kernel
theorem dX11_isWord_4 : decode cX11_isWord 4 = .ok (.istore 7, 2) := by decide +kernel
theorem dX11_isWord_6 : decode cX11_isWord 6 = .ok (.iload 7, 2) := by decide +kernel
theorem dX11_isWord_8 : decode cX11_isWord 8 = .ok (.aload_n 0, 1) := by decide +kernel
theorem dX11_isWord_9 : decode cX11_isWord 9 = .ok (.getfield 130, 3) := by decide +kernel
theorem dX11_isWord_12 : decode cX11_isWord 12 = .ok (.if_icmp .ge 47, 3) := by decide +kernel
theorem dX11_isWord_15 : decode cX11_isWord 15 = .ok (.iload 6, 2) := by decide +kernel
theorem dX11_isWord_17 : decode cX11_isWord 17 = .ok (.ifCond .ne 29, 3) := by decide +kernel
theorem dX11_isWord_20 : decode cX11_isWord 20 = .ok (.aload_n 0, 1) := by decide +kernel
theorem dX11_isWord_21 : decode cX11_isWord 21 = .ok (.getfield 20, 3) := by decide +kernel
theorem dX11_isWord_24 : decode cX11_isWord 24 = .ok (.iload 7, 2) := by decide +kernel
theorem dX11_isWord_26 : decode cX11_isWord 26 = .ok (.iaload, 1) := by decide +kernel
theorem dX11_isWord_27 : decode cX11_isWord 27 = .ok (.iload 4, 2) := by decide +kernel
theorem dX11_isWord_29 : decode cX11_isWord 29 = .ok (.if_icmp .ne 21, 3) := by decide +kernel
theorem dX11_isWord_32 : decode cX11_isWord 32 = .ok (.aload_n 0, 1) := by decide +kernel
theorem dX11_isWord_33 : decode cX11_isWord 33 = .ok (.iload 7, 2) := by decide +kernel
theorem dX11_isWord_35 : decode cX11_isWord 35 = .ok (.aload_n 1, 1) := by decide +kernel
theorem dX11_isWord_36 : decode cX11_isWord 36 = .ok (.iload_n 2, 1) := by decide +kernel
theorem dX11_isWord_37 : decode cX11_isWord 37 = .ok (.iload_n 3, 1) := by decide +kernel
theorem dX11_isWord_38 : decode cX11_isWord 38 = .ok (.iload 5, 2) := by decide +kernel
theorem dX11_isWord_40 : decode cX11_isWord 40 = .ok (.invokevirtual 154, 3) := by decide +kernel
theorem dX11_isWord_43 : decode cX11_isWord 43 = .ok (.ifCond .eq 7, 3) := by decide +kernel
theorem dX11_isWord_46 : decode cX11_isWord 46 = .ok (.iconst 1, 1) := by decide +kernel
theorem dX11_isWord_47 : decode cX11_isWord 47 = .ok (.goto 4, 3) := by decide +kernel
theorem dX11_isWord_50 : decode cX11_isWord 50 = .ok (.iconst 0, 1) := by decide +kernel
theorem dX11_isWord_51 : decode cX11_isWord 51 = .ok (.istore 6, 2) := by decide +kernel
theorem dX11_isWord_53 : decode cX11_isWord 53 = .ok (.iinc 7 1, 3) := by decide +kernel
theorem dX11_isWord_56 : decode cX11_isWord 56 = .ok (.goto (-50), 3) := by decide +kernel
theorem dX11_isWord_59 : decode cX11_isWord 59 = .ok (.iload 6, 2) := by decide +kernel
theorem dX11_isWord_61 : decode cX11_isWord 61 = .ok (.ireturn, 1) := by decide +kernel
theorem dX11_comesRun_0 : decode cX11_comesRun 0 = .ok (.iload 4, 2) := by decide +kernel
theorem dX11_comesRun_2 : decode cX11_comesRun 2 = .ok (.ifCond .le 76, 3) := by decide +kernel
theorem dX11_comesRun_5 : decode cX11_comesRun 5 = .ok (.aload_n 0, 1) := by decide +kernel
theorem dX11_comesRun_6 : decode cX11_comesRun 6 = .ok (.aload_n 1, 1) := by decide +kernel
theorem dX11_comesRun_7 : decode cX11_comesRun 7 = .ok (.iload_n 2, 1) := by decide +kernel
theorem dX11_comesRun_8 : decode cX11_comesRun 8 = .ok (.iload_n 3, 1) := by decide +kernel
theorem dX11_comesRun_9 : decode cX11_comesRun 9 = .ok (.iload 4, 2) := by decide +kernel
theorem dX11_comesRun_11 : decode cX11_comesRun 11 = .ok (.iload 5, 2) := by decide +kernel
theorem dX11_comesRun_13 : decode cX11_comesRun 13 = .ok (.invokevirtual 158, 3) := by decide +kernel
theorem dX11_comesRun_16 : decode cX11_comesRun 16 = .ok (.istore 6, 2) := by decide +kernel
theorem dX11_comesRun_18 : decode cX11_comesRun 18 = .ok (.aload_n 0, 1) := by decide +kernel
theorem dX11_comesRun_19 : decode cX11_comesRun 19 = .ok (.getfield 44, 3) := by decide +kernel
theorem dX11_comesRun_22 : decode cX11_comesRun 22 = .ok (.iload_n 2, 1) := by decide +kernel
theorem dX11_comesRun_23 : decode cX11_comesRun 23 = .ok (.dup2, 1) := by decide +kernel
theorem dX11_comesRun_24 : decode cX11_comesRun 24 = .ok (.iaload, 1) := by decide +kernel
theorem dX11_comesRun_25 : decode cX11_comesRun 25 = .ok (.iconst 1, 1) := by decide +kernel
theorem dX11_comesRun_26 : decode cX11_comesRun 26 = .ok (.iadd, 1) := by decide +kernel
theorem dX11_comesRun_27 : decode cX11_comesRun 27 = .ok (.iastore, 1) := by decide +kernel
theorem dX11_comesRun_28 : decode cX11_comesRun 28 = .ok (.aload_n 0, 1) := by decide +kernel
theorem dX11_comesRun_29 : decode cX11_comesRun 29 = .ok (.getfield 47, 3) := by decide +kernel
theorem dX11_comesRun_32 : decode cX11_comesRun 32 = .ok (.iload_n 2, 1) := by decide +kernel
theorem dX11_comesRun_33 : decode cX11_comesRun 33 = .ok (.dup2, 1) := by decide +kernel
theorem dX11_comesRun_34 : decode cX11_comesRun 34 = .ok (.iaload, 1) := by decide +kernel
theorem dX11_comesRun_35 : decode cX11_comesRun 35 = .ok (.iload 6, 2) := by decide +kernel
theorem dX11_comesRun_37 : decode cX11_comesRun 37 = .ok (.ifCond .eq 7, 3) := by decide +kernel
theorem dX11_comesRun_40 : decode cX11_comesRun 40 = .ok (.iconst 1, 1) := by decide +kernel
theorem dX11_comesRun_41 : decode cX11_comesRun 41 = .ok (.goto 4, 3) := by decide +kernel
theorem dX11_comesRun_44 : decode cX11_comesRun 44 = .ok (.iconst 0, 1) := by decide +kernel
theorem dX11_comesRun_45 : decode cX11_comesRun 45 = .ok (.iadd, 1) := by decide +kernel
theorem dX11_comesRun_46 : decode cX11_comesRun 46 = .ok (.iastore, 1) := by decide +kernel
theorem dX11_comesRun_47 : decode cX11_comesRun 47 = .ok (.aload_n 0, 1) := by decide +kernel
theorem dX11_comesRun_48 : decode cX11_comesRun 48 = .ok (.getfield 50, 3) := by decide +kernel
theorem dX11_comesRun_51 : decode cX11_comesRun 51 = .ok (.iload_n 2, 1) := by decide +kernel
theorem dX11_comesRun_52 : decode cX11_comesRun 52 = .ok (.dup2, 1) := by decide +kernel
theorem dX11_comesRun_53 : decode cX11_comesRun 53 = .ok (.iaload, 1) := by decide +kernel
theorem dX11_comesRun_54 : decode cX11_comesRun 54 = .ok (.iload 4, 2) := by decide +kernel
theorem dX11_comesRun_56 : decode cX11_comesRun 56 = .ok (.iadd, 1) := by decide +kernel
theorem dX11_comesRun_57 : decode cX11_comesRun 57 = .ok (.iastore, 1) := by decide +kernel
theorem dX11_comesRun_58 : decode cX11_comesRun 58 = .ok (.aload_n 0, 1) := by decide +kernel
theorem dX11_comesRun_59 : decode cX11_comesRun 59 = .ok (.dup, 1) := by decide +kernel
theorem dX11_comesRun_60 : decode cX11_comesRun 60 = .ok (.getfield 162, 3) := by decide +kernel
theorem dX11_comesRun_63 : decode cX11_comesRun 63 = .ok (.iload 6, 2) := by decide +kernel
theorem dX11_comesRun_65 : decode cX11_comesRun 65 = .ok (.ifCond .eq 8, 3) := by decide +kernel
theorem dX11_comesRun_68 : decode cX11_comesRun 68 = .ok (.iload 4, 2) := by decide +kernel
theorem dX11_comesRun_70 : decode cX11_comesRun 70 = .ok (.goto 4, 3) := by decide +kernel
theorem dX11_comesRun_73 : decode cX11_comesRun 73 = .ok (.iconst 0, 1) := by decide +kernel
theorem dX11_comesRun_74 : decode cX11_comesRun 74 = .ok (.iadd, 1) := by decide +kernel
theorem dX11_comesRun_75 : decode cX11_comesRun 75 = .ok (.putfield 162, 3) := by decide +kernel
theorem dX11_comesRun_78 : decode cX11_comesRun 78 = .ok (.return_, 1) := by decide +kernel
theorem dX11_readsAll_0 : decode cX11_readsAll 0 = .ok (.aload_n 0, 1) := by decide +kernel
theorem dX11_readsAll_1 : decode cX11_readsAll 1 = .ok (.iconst 0, 1) := by decide +kernel
theorem dX11_readsAll_2 : decode cX11_readsAll 2 = .ok (.putfield 162, 3) := by decide +kernel
theorem dX11_readsAll_5 : decode cX11_readsAll 5 = .ok (.iconst 0, 1) := by decide +kernel
theorem dX11_readsAll_6 : decode cX11_readsAll 6 = .ok (.istore 4, 2) := by decide +kernel
theorem dX11_readsAll_8 : decode cX11_readsAll 8 = .ok (.iload 4, 2) := by decide +kernel
theorem dX11_readsAll_10 : decode cX11_readsAll 10 = .ok (.aload_n 0, 1) := by decide +kernel
theorem dX11_readsAll_11 : decode cX11_readsAll 11 = .ok (.getfield 7, 3) := by decide +kernel
theorem dX11_readsAll_14 : decode cX11_readsAll 14 = .ok (.if_icmp .ge 105, 3) := by decide +kernel
theorem dX11_readsAll_17 : decode cX11_readsAll 17 = .ok (.aload_n 0, 1) := by decide +kernel
theorem dX11_readsAll_18 : decode cX11_readsAll 18 = .ok (.getfield 44, 3) := by decide +kernel
theorem dX11_readsAll_21 : decode cX11_readsAll 21 = .ok (.iload 4, 2) := by decide +kernel
theorem dX11_readsAll_23 : decode cX11_readsAll 23 = .ok (.iconst 0, 1) := by decide +kernel
theorem dX11_readsAll_24 : decode cX11_readsAll 24 = .ok (.iastore, 1) := by decide +kernel
theorem dX11_readsAll_25 : decode cX11_readsAll 25 = .ok (.aload_n 0, 1) := by decide +kernel
theorem dX11_readsAll_26 : decode cX11_readsAll 26 = .ok (.getfield 47, 3) := by decide +kernel
theorem dX11_readsAll_29 : decode cX11_readsAll 29 = .ok (.iload 4, 2) := by decide +kernel
theorem dX11_readsAll_31 : decode cX11_readsAll 31 = .ok (.iconst 0, 1) := by decide +kernel
theorem dX11_readsAll_32 : decode cX11_readsAll 32 = .ok (.iastore, 1) := by decide +kernel
theorem dX11_readsAll_33 : decode cX11_readsAll 33 = .ok (.aload_n 0, 1) := by decide +kernel
theorem dX11_readsAll_34 : decode cX11_readsAll 34 = .ok (.getfield 50, 3) := by decide +kernel
theorem dX11_readsAll_37 : decode cX11_readsAll 37 = .ok (.iload 4, 2) := by decide +kernel
theorem dX11_readsAll_39 : decode cX11_readsAll 39 = .ok (.iconst 0, 1) := by decide +kernel
theorem dX11_readsAll_40 : decode cX11_readsAll 40 = .ok (.iastore, 1) := by decide +kernel
theorem dX11_readsAll_41 : decode cX11_readsAll 41 = .ok (.iconst 0, 1) := by decide +kernel
theorem dX11_readsAll_42 : decode cX11_readsAll 42 = .ok (.istore 5, 2) := by decide +kernel
theorem dX11_readsAll_44 : decode cX11_readsAll 44 = .ok (.iconst 0, 1) := by decide +kernel
theorem dX11_readsAll_45 : decode cX11_readsAll 45 = .ok (.istore 6, 2) := by decide +kernel
theorem dX11_readsAll_47 : decode cX11_readsAll 47 = .ok (.iload 6, 2) := by decide +kernel
theorem dX11_readsAll_49 : decode cX11_readsAll 49 = .ok (.iconst 2, 1) := by decide +kernel
theorem dX11_readsAll_50 : decode cX11_readsAll 50 = .ok (.iload_n 2, 1) := by decide +kernel
theorem dX11_readsAll_51 : decode cX11_readsAll 51 = .ok (.imul, 1) := by decide +kernel
theorem dX11_readsAll_52 : decode cX11_readsAll 52 = .ok (.if_icmp .ge 45, 3) := by decide +kernel
theorem dX11_readsAll_55 : decode cX11_readsAll 55 = .ok (.aload_n 0, 1) := by decide +kernel
theorem dX11_readsAll_56 : decode cX11_readsAll 56 = .ok (.aload_n 1, 1) := by decide +kernel
theorem dX11_readsAll_57 : decode cX11_readsAll 57 = .ok (.iload 4, 2) := by decide +kernel
theorem dX11_readsAll_59 : decode cX11_readsAll 59 = .ok (.iload 6, 2) := by decide +kernel
theorem dX11_readsAll_61 : decode cX11_readsAll 61 = .ok (.iload_n 3, 1) := by decide +kernel
theorem dX11_readsAll_62 : decode cX11_readsAll 62 = .ok (.invokevirtual 150, 3) := by decide +kernel
theorem dX11_readsAll_65 : decode cX11_readsAll 65 = .ok (.bipush 46, 2) := by decide +kernel
theorem dX11_readsAll_67 : decode cX11_readsAll 67 = .ok (.if_icmp .ne 24, 3) := by decide +kernel
theorem dX11_readsAll_70 : decode cX11_readsAll 70 = .ok (.aload_n 0, 1) := by decide +kernel
theorem dX11_readsAll_71 : decode cX11_readsAll 71 = .ok (.aload_n 1, 1) := by decide +kernel
theorem dX11_readsAll_72 : decode cX11_readsAll 72 = .ok (.iload 4, 2) := by decide +kernel
theorem dX11_readsAll_74 : decode cX11_readsAll 74 = .ok (.iload 5, 2) := by decide +kernel
theorem dX11_readsAll_76 : decode cX11_readsAll 76 = .ok (.iload 6, 2) := by decide +kernel
theorem dX11_readsAll_78 : decode cX11_readsAll 78 = .ok (.iload 5, 2) := by decide +kernel
theorem dX11_readsAll_80 : decode cX11_readsAll 80 = .ok (.isub, 1) := by decide +kernel
theorem dX11_readsAll_81 : decode cX11_readsAll 81 = .ok (.iload_n 3, 1) := by decide +kernel
theorem dX11_readsAll_82 : decode cX11_readsAll 82 = .ok (.invokevirtual 165, 3) := by decide +kernel
theorem dX11_readsAll_85 : decode cX11_readsAll 85 = .ok (.iload 6, 2) := by decide +kernel
theorem dX11_readsAll_87 : decode cX11_readsAll 87 = .ok (.iconst 1, 1) := by decide +kernel
theorem dX11_readsAll_88 : decode cX11_readsAll 88 = .ok (.iadd, 1) := by decide +kernel
theorem dX11_readsAll_89 : decode cX11_readsAll 89 = .ok (.istore 5, 2) := by decide +kernel
theorem dX11_readsAll_91 : decode cX11_readsAll 91 = .ok (.iinc 6 1, 3) := by decide +kernel
theorem dX11_readsAll_94 : decode cX11_readsAll 94 = .ok (.goto (-47), 3) := by decide +kernel
theorem dX11_readsAll_97 : decode cX11_readsAll 97 = .ok (.aload_n 0, 1) := by decide +kernel
theorem dX11_readsAll_98 : decode cX11_readsAll 98 = .ok (.aload_n 1, 1) := by decide +kernel
theorem dX11_readsAll_99 : decode cX11_readsAll 99 = .ok (.iload 4, 2) := by decide +kernel
theorem dX11_readsAll_101 : decode cX11_readsAll 101 = .ok (.iload 5, 2) := by decide +kernel
theorem dX11_readsAll_103 : decode cX11_readsAll 103 = .ok (.iconst 2, 1) := by decide +kernel
theorem dX11_readsAll_104 : decode cX11_readsAll 104 = .ok (.iload_n 2, 1) := by decide +kernel
theorem dX11_readsAll_105 : decode cX11_readsAll 105 = .ok (.imul, 1) := by decide +kernel
theorem dX11_readsAll_106 : decode cX11_readsAll 106 = .ok (.iload 5, 2) := by decide +kernel
theorem dX11_readsAll_108 : decode cX11_readsAll 108 = .ok (.isub, 1) := by decide +kernel
theorem dX11_readsAll_109 : decode cX11_readsAll 109 = .ok (.iload_n 3, 1) := by decide +kernel
theorem dX11_readsAll_110 : decode cX11_readsAll 110 = .ok (.invokevirtual 165, 3) := by decide +kernel
theorem dX11_readsAll_113 : decode cX11_readsAll 113 = .ok (.iinc 4 1, 3) := by decide +kernel
theorem dX11_readsAll_116 : decode cX11_readsAll 116 = .ok (.goto (-108), 3) := by decide +kernel
theorem dX11_readsAll_119 : decode cX11_readsAll 119 = .ok (.return_, 1) := by decide +kernel
theorem dX11_rightLines_0 : decode cX11_rightLines 0 = .ok (.iconst 0, 1) := by decide +kernel
theorem dX11_rightLines_1 : decode cX11_rightLines 1 = .ok (.istore_n 1, 1) := by decide +kernel
theorem dX11_rightLines_2 : decode cX11_rightLines 2 = .ok (.iconst 0, 1) := by decide +kernel
theorem dX11_rightLines_3 : decode cX11_rightLines 3 = .ok (.istore_n 2, 1) := by decide +kernel
theorem dX11_rightLines_4 : decode cX11_rightLines 4 = .ok (.iload_n 2, 1) := by decide +kernel
theorem dX11_rightLines_5 : decode cX11_rightLines 5 = .ok (.aload_n 0, 1) := by decide +kernel
theorem dX11_rightLines_6 : decode cX11_rightLines 6 = .ok (.getfield 7, 3) := by decide +kernel
theorem dX11_rightLines_9 : decode cX11_rightLines 9 = .ok (.if_icmp .ge 34, 3) := by decide +kernel
theorem dX11_rightLines_12 : decode cX11_rightLines 12 = .ok (.iload_n 1, 1) := by decide +kernel
theorem dX11_rightLines_13 : decode cX11_rightLines 13 = .ok (.aload_n 0, 1) := by decide +kernel
theorem dX11_rightLines_14 : decode cX11_rightLines 14 = .ok (.getfield 44, 3) := by decide +kernel
theorem dX11_rightLines_17 : decode cX11_rightLines 17 = .ok (.iload_n 2, 1) := by decide +kernel
theorem dX11_rightLines_18 : decode cX11_rightLines 18 = .ok (.iaload, 1) := by decide +kernel
theorem dX11_rightLines_19 : decode cX11_rightLines 19 = .ok (.aload_n 0, 1) := by decide +kernel
theorem dX11_rightLines_20 : decode cX11_rightLines 20 = .ok (.getfield 47, 3) := by decide +kernel
theorem dX11_rightLines_23 : decode cX11_rightLines 23 = .ok (.iload_n 2, 1) := by decide +kernel
theorem dX11_rightLines_24 : decode cX11_rightLines 24 = .ok (.iaload, 1) := by decide +kernel
theorem dX11_rightLines_25 : decode cX11_rightLines 25 = .ok (.if_icmp .ne 9, 3) := by decide +kernel
theorem dX11_rightLines_28 : decode cX11_rightLines 28 = .ok (.iconst 1, 1) := by decide +kernel
theorem dX11_rightLines_29 : decode cX11_rightLines 29 = .ok (.iload_n 2, 1) := by decide +kernel
theorem dX11_rightLines_30 : decode cX11_rightLines 30 = .ok (.ishl, 1) := by decide +kernel
theorem dX11_rightLines_31 : decode cX11_rightLines 31 = .ok (.goto 4, 3) := by decide +kernel
theorem dX11_rightLines_34 : decode cX11_rightLines 34 = .ok (.iconst 0, 1) := by decide +kernel
theorem dX11_rightLines_35 : decode cX11_rightLines 35 = .ok (.ior, 1) := by decide +kernel
theorem dX11_rightLines_36 : decode cX11_rightLines 36 = .ok (.istore_n 1, 1) := by decide +kernel
theorem dX11_rightLines_37 : decode cX11_rightLines 37 = .ok (.iinc 2 1, 3) := by decide +kernel
theorem dX11_rightLines_40 : decode cX11_rightLines 40 = .ok (.goto (-36), 3) := by decide +kernel
theorem dX11_rightLines_43 : decode cX11_rightLines 43 = .ok (.iload_n 1, 1) := by decide +kernel
theorem dX11_rightLines_44 : decode cX11_rightLines 44 = .ok (.ireturn, 1) := by decide +kernel
theorem dX11_isRight_0 : decode cX11_isRight 0 = .ok (.aload_n 0, 1) := by decide +kernel
theorem dX11_isRight_1 : decode cX11_isRight 1 = .ok (.aload_n 1, 1) := by decide +kernel
theorem dX11_isRight_2 : decode cX11_isRight 2 = .ok (.iload_n 2, 1) := by decide +kernel
theorem dX11_isRight_3 : decode cX11_isRight 3 = .ok (.iload_n 3, 1) := by decide +kernel
theorem dX11_isRight_4 : decode cX11_isRight 4 = .ok (.invokevirtual 169, 3) := by decide +kernel
theorem dX11_isRight_7 : decode cX11_isRight 7 = .ok (.aload_n 0, 1) := by decide +kernel
theorem dX11_isRight_8 : decode cX11_isRight 8 = .ok (.invokevirtual 173, 3) := by decide +kernel
theorem dX11_isRight_11 : decode cX11_isRight 11 = .ok (.iconst 1, 1) := by decide +kernel
theorem dX11_isRight_12 : decode cX11_isRight 12 = .ok (.aload_n 0, 1) := by decide +kernel
theorem dX11_isRight_13 : decode cX11_isRight 13 = .ok (.getfield 7, 3) := by decide +kernel
theorem dX11_isRight_16 : decode cX11_isRight 16 = .ok (.ishl, 1) := by decide +kernel
theorem dX11_isRight_17 : decode cX11_isRight 17 = .ok (.iconst 1, 1) := by decide +kernel
theorem dX11_isRight_18 : decode cX11_isRight 18 = .ok (.isub, 1) := by decide +kernel
theorem dX11_isRight_19 : decode cX11_isRight 19 = .ok (.if_icmp .ne 7, 3) := by decide +kernel
theorem dX11_isRight_22 : decode cX11_isRight 22 = .ok (.iconst 1, 1) := by decide +kernel
theorem dX11_isRight_23 : decode cX11_isRight 23 = .ok (.goto 4, 3) := by decide +kernel
theorem dX11_isRight_26 : decode cX11_isRight 26 = .ok (.iconst 0, 1) := by decide +kernel
theorem dX11_isRight_27 : decode cX11_isRight 27 = .ok (.ireturn, 1) := by decide +kernel
theorem dX11_rightMany_0 : decode cX11_rightMany 0 = .ok (.aload_n 0, 1) := by decide +kernel
theorem dX11_rightMany_1 : decode cX11_rightMany 1 = .ok (.aload_n 0, 1) := by decide +kernel
theorem dX11_rightMany_2 : decode cX11_rightMany 2 = .ok (.getfield 23, 3) := by decide +kernel
theorem dX11_rightMany_5 : decode cX11_rightMany 5 = .ok (.aload_n 0, 1) := by decide +kernel
theorem dX11_rightMany_6 : decode cX11_rightMany 6 = .ok (.getfield 75, 3) := by decide +kernel
theorem dX11_rightMany_9 : decode cX11_rightMany 9 = .ok (.aload_n 0, 1) := by decide +kernel
theorem dX11_rightMany_10 : decode cX11_rightMany 10 = .ok (.getfield 133, 3) := by decide +kernel
theorem dX11_rightMany_13 : decode cX11_rightMany 13 = .ok (.invokevirtual 169, 3) := by decide +kernel
theorem dX11_rightMany_16 : decode cX11_rightMany 16 = .ok (.aload_n 0, 1) := by decide +kernel
theorem dX11_rightMany_17 : decode cX11_rightMany 17 = .ok (.invokevirtual 173, 3) := by decide +kernel
theorem dX11_rightMany_20 : decode cX11_rightMany 20 = .ok (.istore_n 1, 1) := by decide +kernel
theorem dX11_rightMany_21 : decode cX11_rightMany 21 = .ok (.iconst 0, 1) := by decide +kernel
theorem dX11_rightMany_22 : decode cX11_rightMany 22 = .ok (.istore_n 2, 1) := by decide +kernel
theorem dX11_rightMany_23 : decode cX11_rightMany 23 = .ok (.iconst 0, 1) := by decide +kernel
theorem dX11_rightMany_24 : decode cX11_rightMany 24 = .ok (.istore_n 3, 1) := by decide +kernel
theorem dX11_rightMany_25 : decode cX11_rightMany 25 = .ok (.iload_n 3, 1) := by decide +kernel
theorem dX11_rightMany_26 : decode cX11_rightMany 26 = .ok (.aload_n 0, 1) := by decide +kernel
theorem dX11_rightMany_27 : decode cX11_rightMany 27 = .ok (.getfield 7, 3) := by decide +kernel
theorem dX11_rightMany_30 : decode cX11_rightMany 30 = .ok (.if_icmp .ge 17, 3) := by decide +kernel
theorem dX11_rightMany_33 : decode cX11_rightMany 33 = .ok (.iload_n 2, 1) := by decide +kernel
theorem dX11_rightMany_34 : decode cX11_rightMany 34 = .ok (.iload_n 1, 1) := by decide +kernel
theorem dX11_rightMany_35 : decode cX11_rightMany 35 = .ok (.iload_n 3, 1) := by decide +kernel
theorem dX11_rightMany_36 : decode cX11_rightMany 36 = .ok (.ishr, 1) := by decide +kernel
theorem dX11_rightMany_37 : decode cX11_rightMany 37 = .ok (.iconst 1, 1) := by decide +kernel
theorem dX11_rightMany_38 : decode cX11_rightMany 38 = .ok (.iand, 1) := by decide +kernel
theorem dX11_rightMany_39 : decode cX11_rightMany 39 = .ok (.iadd, 1) := by decide +kernel
theorem dX11_rightMany_40 : decode cX11_rightMany 40 = .ok (.istore_n 2, 1) := by decide +kernel
theorem dX11_rightMany_41 : decode cX11_rightMany 41 = .ok (.iinc 3 1, 3) := by decide +kernel
theorem dX11_rightMany_44 : decode cX11_rightMany 44 = .ok (.goto (-19), 3) := by decide +kernel
theorem dX11_rightMany_47 : decode cX11_rightMany 47 = .ok (.iload_n 2, 1) := by decide +kernel
theorem dX11_rightMany_48 : decode cX11_rightMany 48 = .ok (.ireturn, 1) := by decide +kernel
theorem dX11_rightRunsNow_0 : decode cX11_rightRunsNow 0 = .ok (.aload_n 0, 1) := by decide +kernel
theorem dX11_rightRunsNow_1 : decode cX11_rightRunsNow 1 = .ok (.aload_n 0, 1) := by decide +kernel
theorem dX11_rightRunsNow_2 : decode cX11_rightRunsNow 2 = .ok (.getfield 23, 3) := by decide +kernel
theorem dX11_rightRunsNow_5 : decode cX11_rightRunsNow 5 = .ok (.aload_n 0, 1) := by decide +kernel
theorem dX11_rightRunsNow_6 : decode cX11_rightRunsNow 6 = .ok (.getfield 75, 3) := by decide +kernel
theorem dX11_rightRunsNow_9 : decode cX11_rightRunsNow 9 = .ok (.aload_n 0, 1) := by decide +kernel
theorem dX11_rightRunsNow_10 : decode cX11_rightRunsNow 10 = .ok (.getfield 133, 3) := by decide +kernel
theorem dX11_rightRunsNow_13 : decode cX11_rightRunsNow 13 = .ok (.invokevirtual 169, 3) := by decide +kernel
theorem dX11_rightRunsNow_16 : decode cX11_rightRunsNow 16 = .ok (.iconst 0, 1) := by decide +kernel
theorem dX11_rightRunsNow_17 : decode cX11_rightRunsNow 17 = .ok (.istore_n 1, 1) := by decide +kernel
theorem dX11_rightRunsNow_18 : decode cX11_rightRunsNow 18 = .ok (.iconst 0, 1) := by decide +kernel
theorem dX11_rightRunsNow_19 : decode cX11_rightRunsNow 19 = .ok (.istore_n 2, 1) := by decide +kernel
theorem dX11_rightRunsNow_20 : decode cX11_rightRunsNow 20 = .ok (.iload_n 2, 1) := by decide +kernel
theorem dX11_rightRunsNow_21 : decode cX11_rightRunsNow 21 = .ok (.aload_n 0, 1) := by decide +kernel
theorem dX11_rightRunsNow_22 : decode cX11_rightRunsNow 22 = .ok (.getfield 7, 3) := by decide +kernel
theorem dX11_rightRunsNow_25 : decode cX11_rightRunsNow 25 = .ok (.if_icmp .ge 18, 3) := by decide +kernel
theorem dX11_rightRunsNow_28 : decode cX11_rightRunsNow 28 = .ok (.iload_n 1, 1) := by decide +kernel
theorem dX11_rightRunsNow_29 : decode cX11_rightRunsNow 29 = .ok (.aload_n 0, 1) := by decide +kernel
theorem dX11_rightRunsNow_30 : decode cX11_rightRunsNow 30 = .ok (.getfield 47, 3) := by decide +kernel
theorem dX11_rightRunsNow_33 : decode cX11_rightRunsNow 33 = .ok (.iload_n 2, 1) := by decide +kernel
theorem dX11_rightRunsNow_34 : decode cX11_rightRunsNow 34 = .ok (.iaload, 1) := by decide +kernel
theorem dX11_rightRunsNow_35 : decode cX11_rightRunsNow 35 = .ok (.iadd, 1) := by decide +kernel
theorem dX11_rightRunsNow_36 : decode cX11_rightRunsNow 36 = .ok (.istore_n 1, 1) := by decide +kernel
theorem dX11_rightRunsNow_37 : decode cX11_rightRunsNow 37 = .ok (.iinc 2 1, 3) := by decide +kernel
theorem dX11_rightRunsNow_40 : decode cX11_rightRunsNow 40 = .ok (.goto (-20), 3) := by decide +kernel
theorem dX11_rightRunsNow_43 : decode cX11_rightRunsNow 43 = .ok (.iload_n 1, 1) := by decide +kernel
theorem dX11_rightRunsNow_44 : decode cX11_rightRunsNow 44 = .ok (.ireturn, 1) := by decide +kernel
theorem dX11_placeOf_0 : decode cX11_placeOf 0 = .ok (.bipush (-9), 2) := by decide +kernel
theorem dX11_placeOf_2 : decode cX11_placeOf 2 = .ok (.istore_n 2, 1) := by decide +kernel
theorem dX11_placeOf_3 : decode cX11_placeOf 3 = .ok (.iconst 0, 1) := by decide +kernel
theorem dX11_placeOf_4 : decode cX11_placeOf 4 = .ok (.istore_n 3, 1) := by decide +kernel
theorem dX11_placeOf_5 : decode cX11_placeOf 5 = .ok (.iload_n 3, 1) := by decide +kernel
theorem dX11_placeOf_6 : decode cX11_placeOf 6 = .ok (.aload_n 0, 1) := by decide +kernel
theorem dX11_placeOf_7 : decode cX11_placeOf 7 = .ok (.getfield 75, 3) := by decide +kernel
theorem dX11_placeOf_10 : decode cX11_placeOf 10 = .ok (.if_icmp .ge 25, 3) := by decide +kernel
theorem dX11_placeOf_13 : decode cX11_placeOf 13 = .ok (.aload_n 0, 1) := by decide +kernel
theorem dX11_placeOf_14 : decode cX11_placeOf 14 = .ok (.getfield 23, 3) := by decide +kernel
theorem dX11_placeOf_17 : decode cX11_placeOf 17 = .ok (.iload_n 3, 1) := by decide +kernel
theorem dX11_placeOf_18 : decode cX11_placeOf 18 = .ok (.iaload, 1) := by decide +kernel
theorem dX11_placeOf_19 : decode cX11_placeOf 19 = .ok (.iload_n 1, 1) := by decide +kernel
theorem dX11_placeOf_20 : decode cX11_placeOf 20 = .ok (.if_icmp .ne 7, 3) := by decide +kernel
theorem dX11_placeOf_23 : decode cX11_placeOf 23 = .ok (.iload_n 3, 1) := by decide +kernel
theorem dX11_placeOf_24 : decode cX11_placeOf 24 = .ok (.goto 4, 3) := by decide +kernel
theorem dX11_placeOf_27 : decode cX11_placeOf 27 = .ok (.iload_n 2, 1) := by decide +kernel
theorem dX11_placeOf_28 : decode cX11_placeOf 28 = .ok (.istore_n 2, 1) := by decide +kernel
theorem dX11_placeOf_29 : decode cX11_placeOf 29 = .ok (.iinc 3 1, 3) := by decide +kernel
theorem dX11_placeOf_32 : decode cX11_placeOf 32 = .ok (.goto (-27), 3) := by decide +kernel
theorem dX11_placeOf_35 : decode cX11_placeOf 35 = .ok (.iload_n 2, 1) := by decide +kernel
theorem dX11_placeOf_36 : decode cX11_placeOf 36 = .ok (.ireturn, 1) := by decide +kernel
theorem dX11_lettersOn_0 : decode cX11_lettersOn 0 = .ok (.iconst 0, 1) := by decide +kernel
theorem dX11_lettersOn_1 : decode cX11_lettersOn 1 = .ok (.istore_n 2, 1) := by decide +kernel
theorem dX11_lettersOn_2 : decode cX11_lettersOn 2 = .ok (.iconst 0, 1) := by decide +kernel
theorem dX11_lettersOn_3 : decode cX11_lettersOn 3 = .ok (.istore_n 3, 1) := by decide +kernel
theorem dX11_lettersOn_4 : decode cX11_lettersOn 4 = .ok (.iload_n 3, 1) := by decide +kernel
theorem dX11_lettersOn_5 : decode cX11_lettersOn 5 = .ok (.iconst 2, 1) := by decide +kernel
theorem dX11_lettersOn_6 : decode cX11_lettersOn 6 = .ok (.aload_n 0, 1) := by decide +kernel
theorem dX11_lettersOn_7 : decode cX11_lettersOn 7 = .ok (.getfield 7, 3) := by decide +kernel
theorem dX11_lettersOn_10 : decode cX11_lettersOn 10 = .ok (.imul, 1) := by decide +kernel
theorem dX11_lettersOn_11 : decode cX11_lettersOn 11 = .ok (.if_icmp .ge 43, 3) := by decide +kernel
theorem dX11_lettersOn_14 : decode cX11_lettersOn 14 = .ok (.aload_n 0, 1) := by decide +kernel
theorem dX11_lettersOn_15 : decode cX11_lettersOn 15 = .ok (.getfield 13, 3) := by decide +kernel
theorem dX11_lettersOn_18 : decode cX11_lettersOn 18 = .ok (.bipush 6, 2) := by decide +kernel
theorem dX11_lettersOn_20 : decode cX11_lettersOn 20 = .ok (.iload_n 1, 1) := by decide +kernel
theorem dX11_lettersOn_21 : decode cX11_lettersOn 21 = .ok (.imul, 1) := by decide +kernel
theorem dX11_lettersOn_22 : decode cX11_lettersOn 22 = .ok (.iload_n 3, 1) := by decide +kernel
theorem dX11_lettersOn_23 : decode cX11_lettersOn 23 = .ok (.iadd, 1) := by decide +kernel
theorem dX11_lettersOn_24 : decode cX11_lettersOn 24 = .ok (.iaload, 1) := by decide +kernel
theorem dX11_lettersOn_25 : decode cX11_lettersOn 25 = .ok (.istore 4, 2) := by decide +kernel
theorem dX11_lettersOn_27 : decode cX11_lettersOn 27 = .ok (.iload_n 2, 1) := by decide +kernel
theorem dX11_lettersOn_28 : decode cX11_lettersOn 28 = .ok (.iload 4, 2) := by decide +kernel
theorem dX11_lettersOn_30 : decode cX11_lettersOn 30 = .ok (.bipush 46, 2) := by decide +kernel
theorem dX11_lettersOn_32 : decode cX11_lettersOn 32 = .ok (.if_icmp .ne 7, 3) := by decide +kernel
theorem dX11_lettersOn_35 : decode cX11_lettersOn 35 = .ok (.iconst 0, 1) := by decide +kernel
theorem dX11_lettersOn_36 : decode cX11_lettersOn 36 = .ok (.goto 10, 3) := by decide +kernel
theorem dX11_lettersOn_39 : decode cX11_lettersOn 39 = .ok (.iconst 1, 1) := by decide +kernel
theorem dX11_lettersOn_40 : decode cX11_lettersOn 40 = .ok (.iload 4, 2) := by decide +kernel
theorem dX11_lettersOn_42 : decode cX11_lettersOn 42 = .ok (.bipush 97, 2) := by decide +kernel
theorem dX11_lettersOn_44 : decode cX11_lettersOn 44 = .ok (.isub, 1) := by decide +kernel
theorem dX11_lettersOn_45 : decode cX11_lettersOn 45 = .ok (.ishl, 1) := by decide +kernel
theorem dX11_lettersOn_46 : decode cX11_lettersOn 46 = .ok (.ior, 1) := by decide +kernel
theorem dX11_lettersOn_47 : decode cX11_lettersOn 47 = .ok (.istore_n 2, 1) := by decide +kernel
theorem dX11_lettersOn_48 : decode cX11_lettersOn 48 = .ok (.iinc 3 1, 3) := by decide +kernel
theorem dX11_lettersOn_51 : decode cX11_lettersOn 51 = .ok (.goto (-47), 3) := by decide +kernel
theorem dX11_lettersOn_54 : decode cX11_lettersOn 54 = .ok (.iload_n 2, 1) := by decide +kernel
theorem dX11_lettersOn_55 : decode cX11_lettersOn 55 = .ok (.ireturn, 1) := by decide +kernel
theorem dX11_blanksOn_0 : decode cX11_blanksOn 0 = .ok (.iconst 0, 1) := by decide +kernel
theorem dX11_blanksOn_1 : decode cX11_blanksOn 1 = .ok (.istore_n 2, 1) := by decide +kernel
theorem dX11_blanksOn_2 : decode cX11_blanksOn 2 = .ok (.iconst 0, 1) := by decide +kernel
theorem dX11_blanksOn_3 : decode cX11_blanksOn 3 = .ok (.istore_n 3, 1) := by decide +kernel
theorem dX11_blanksOn_4 : decode cX11_blanksOn 4 = .ok (.iload_n 3, 1) := by decide +kernel
theorem dX11_blanksOn_5 : decode cX11_blanksOn 5 = .ok (.iconst 2, 1) := by decide +kernel
theorem dX11_blanksOn_6 : decode cX11_blanksOn 6 = .ok (.aload_n 0, 1) := by decide +kernel
theorem dX11_blanksOn_7 : decode cX11_blanksOn 7 = .ok (.getfield 7, 3) := by decide +kernel
theorem dX11_blanksOn_10 : decode cX11_blanksOn 10 = .ok (.imul, 1) := by decide +kernel
theorem dX11_blanksOn_11 : decode cX11_blanksOn 11 = .ok (.if_icmp .ge 33, 3) := by decide +kernel
theorem dX11_blanksOn_14 : decode cX11_blanksOn 14 = .ok (.iload_n 2, 1) := by decide +kernel
theorem dX11_blanksOn_15 : decode cX11_blanksOn 15 = .ok (.aload_n 0, 1) := by decide +kernel
theorem dX11_blanksOn_16 : decode cX11_blanksOn 16 = .ok (.getfield 13, 3) := by decide +kernel
theorem dX11_blanksOn_19 : decode cX11_blanksOn 19 = .ok (.bipush 6, 2) := by decide +kernel
theorem dX11_blanksOn_21 : decode cX11_blanksOn 21 = .ok (.iload_n 1, 1) := by decide +kernel
theorem dX11_blanksOn_22 : decode cX11_blanksOn 22 = .ok (.imul, 1) := by decide +kernel
theorem dX11_blanksOn_23 : decode cX11_blanksOn 23 = .ok (.iload_n 3, 1) := by decide +kernel
theorem dX11_blanksOn_24 : decode cX11_blanksOn 24 = .ok (.iadd, 1) := by decide +kernel
theorem dX11_blanksOn_25 : decode cX11_blanksOn 25 = .ok (.iaload, 1) := by decide +kernel
theorem dX11_blanksOn_26 : decode cX11_blanksOn 26 = .ok (.bipush 46, 2) := by decide +kernel
theorem dX11_blanksOn_28 : decode cX11_blanksOn 28 = .ok (.if_icmp .ne 7, 3) := by decide +kernel
theorem dX11_blanksOn_31 : decode cX11_blanksOn 31 = .ok (.iconst 1, 1) := by decide +kernel
theorem dX11_blanksOn_32 : decode cX11_blanksOn 32 = .ok (.goto 4, 3) := by decide +kernel
theorem dX11_blanksOn_35 : decode cX11_blanksOn 35 = .ok (.iconst 0, 1) := by decide +kernel
theorem dX11_blanksOn_36 : decode cX11_blanksOn 36 = .ok (.iadd, 1) := by decide +kernel
theorem dX11_blanksOn_37 : decode cX11_blanksOn 37 = .ok (.istore_n 2, 1) := by decide +kernel
theorem dX11_blanksOn_38 : decode cX11_blanksOn 38 = .ok (.iinc 3 1, 3) := by decide +kernel
theorem dX11_blanksOn_41 : decode cX11_blanksOn 41 = .ok (.goto (-37), 3) := by decide +kernel
theorem dX11_blanksOn_44 : decode cX11_blanksOn 44 = .ok (.iload_n 2, 1) := by decide +kernel
theorem dX11_blanksOn_45 : decode cX11_blanksOn 45 = .ok (.ireturn, 1) := by decide +kernel
theorem dX11_strip_0 : decode cX11_strip 0 = .ok (.aload_n 0, 1) := by decide +kernel
theorem dX11_strip_1 : decode cX11_strip 1 = .ok (.iload_n 1, 1) := by decide +kernel
theorem dX11_strip_2 : decode cX11_strip 2 = .ok (.invokevirtual 176, 3) := by decide +kernel
theorem dX11_strip_5 : decode cX11_strip 5 = .ok (.ifCond .eq 12, 3) := by decide +kernel
theorem dX11_strip_8 : decode cX11_strip 8 = .ok (.iload_n 2, 1) := by decide +kernel
theorem dX11_strip_9 : decode cX11_strip 9 = .ok (.iconst 0, 1) := by decide +kernel
theorem dX11_strip_10 : decode cX11_strip 10 = .ok (.iconst 3, 1) := by decide +kernel
theorem dX11_strip_11 : decode cX11_strip 11 = .ok (.invokestatic 71, 3) := by decide +kernel
theorem dX11_strip_14 : decode cX11_strip 14 = .ok (.ifCond .ne 5, 3) := by decide +kernel
theorem dX11_strip_17 : decode cX11_strip 17 = .ok (.iconst (-1), 1) := by decide +kernel
theorem dX11_strip_18 : decode cX11_strip 18 = .ok (.ireturn, 1) := by decide +kernel
theorem dX11_strip_19 : decode cX11_strip 19 = .ok (.iload_n 2, 1) := by decide +kernel
theorem dX11_strip_20 : decode cX11_strip 20 = .ok (.ifCond .ne 11, 3) := by decide +kernel
theorem dX11_strip_23 : decode cX11_strip 23 = .ok (.aload_n 0, 1) := by decide +kernel
theorem dX11_strip_24 : decode cX11_strip 24 = .ok (.iload_n 1, 1) := by decide +kernel
theorem dX11_strip_25 : decode cX11_strip 25 = .ok (.invokevirtual 179, 3) := by decide +kernel
theorem dX11_strip_28 : decode cX11_strip 28 = .ok (.goto 37, 3) := by decide +kernel
theorem dX11_strip_31 : decode cX11_strip 31 = .ok (.iload_n 2, 1) := by decide +kernel
theorem dX11_strip_32 : decode cX11_strip 32 = .ok (.iconst 1, 1) := by decide +kernel
theorem dX11_strip_33 : decode cX11_strip 33 = .ok (.if_icmp .ne 14, 3) := by decide +kernel
theorem dX11_strip_36 : decode cX11_strip 36 = .ok (.aload_n 0, 1) := by decide +kernel
theorem dX11_strip_37 : decode cX11_strip 37 = .ok (.getfield 133, 3) := by decide +kernel
theorem dX11_strip_40 : decode cX11_strip 40 = .ok (.iload_n 1, 1) := by decide +kernel
theorem dX11_strip_41 : decode cX11_strip 41 = .ok (.ishr, 1) := by decide +kernel
theorem dX11_strip_42 : decode cX11_strip 42 = .ok (.iconst 1, 1) := by decide +kernel
theorem dX11_strip_43 : decode cX11_strip 43 = .ok (.iand, 1) := by decide +kernel
theorem dX11_strip_44 : decode cX11_strip 44 = .ok (.goto 21, 3) := by decide +kernel
theorem dX11_strip_47 : decode cX11_strip 47 = .ok (.iload_n 2, 1) := by decide +kernel
theorem dX11_strip_48 : decode cX11_strip 48 = .ok (.iconst 2, 1) := by decide +kernel
theorem dX11_strip_49 : decode cX11_strip 49 = .ok (.if_icmp .ne 11, 3) := by decide +kernel
theorem dX11_strip_52 : decode cX11_strip 52 = .ok (.aload_n 0, 1) := by decide +kernel
theorem dX11_strip_53 : decode cX11_strip 53 = .ok (.iload_n 1, 1) := by decide +kernel
theorem dX11_strip_54 : decode cX11_strip 54 = .ok (.invokevirtual 183, 3) := by decide +kernel
theorem dX11_strip_57 : decode cX11_strip 57 = .ok (.goto 8, 3) := by decide +kernel
theorem dX11_strip_60 : decode cX11_strip 60 = .ok (.aload_n 0, 1) := by decide +kernel
theorem dX11_strip_61 : decode cX11_strip 61 = .ok (.iload_n 1, 1) := by decide +kernel
theorem dX11_strip_62 : decode cX11_strip 62 = .ok (.invokevirtual 186, 3) := by decide +kernel
theorem dX11_strip_65 : decode cX11_strip 65 = .ok (.ireturn, 1) := by decide +kernel
theorem dX11_sign_0 : decode cX11_sign 0 = .ok (.aload_n 0, 1) := by decide +kernel
theorem dX11_sign_1 : decode cX11_sign 1 = .ok (.iload_n 1, 1) := by decide +kernel
theorem dX11_sign_2 : decode cX11_sign 2 = .ok (.invokevirtual 176, 3) := by decide +kernel
theorem dX11_sign_5 : decode cX11_sign 5 = .ok (.ifCond .eq 34, 3) := by decide +kernel
theorem dX11_sign_8 : decode cX11_sign 8 = .ok (.aload_n 0, 1) := by decide +kernel
theorem dX11_sign_9 : decode cX11_sign 9 = .ok (.iload_n 2, 1) := by decide +kernel
theorem dX11_sign_10 : decode cX11_sign 10 = .ok (.invokevirtual 189, 3) := by decide +kernel
theorem dX11_sign_13 : decode cX11_sign 13 = .ok (.ifCond .eq 26, 3) := by decide +kernel
theorem dX11_sign_16 : decode cX11_sign 16 = .ok (.iload_n 3, 1) := by decide +kernel
theorem dX11_sign_17 : decode cX11_sign 17 = .ok (.iconst 0, 1) := by decide +kernel
theorem dX11_sign_18 : decode cX11_sign 18 = .ok (.iconst 1, 1) := by decide +kernel
theorem dX11_sign_19 : decode cX11_sign 19 = .ok (.invokestatic 71, 3) := by decide +kernel
theorem dX11_sign_22 : decode cX11_sign 22 = .ok (.ifCond .eq 17, 3) := by decide +kernel
theorem dX11_sign_25 : decode cX11_sign 25 = .ok (.aload_n 0, 1) := by decide +kernel
theorem dX11_sign_26 : decode cX11_sign 26 = .ok (.getfield 13, 3) := by decide +kernel
theorem dX11_sign_29 : decode cX11_sign 29 = .ok (.iload_n 1, 1) := by decide +kernel
theorem dX11_sign_30 : decode cX11_sign 30 = .ok (.iload_n 2, 1) := by decide +kernel
theorem dX11_sign_31 : decode cX11_sign 31 = .ok (.iload_n 3, 1) := by decide +kernel
theorem dX11_sign_32 : decode cX11_sign 32 = .ok (.invokestatic 108, 3) := by decide +kernel
theorem dX11_sign_35 : decode cX11_sign 35 = .ok (.iaload, 1) := by decide +kernel
theorem dX11_sign_36 : decode cX11_sign 36 = .ok (.goto 4, 3) := by decide +kernel
theorem dX11_sign_39 : decode cX11_sign 39 = .ok (.iconst (-1), 1) := by decide +kernel
theorem dX11_sign_40 : decode cX11_sign 40 = .ok (.ireturn, 1) := by decide +kernel
theorem dX11_place_0 : decode cX11_place 0 = .ok (.aload_n 0, 1) := by decide +kernel
theorem dX11_place_1 : decode cX11_place 1 = .ok (.iload_n 1, 1) := by decide +kernel
theorem dX11_place_2 : decode cX11_place 2 = .ok (.invokevirtual 192, 3) := by decide +kernel
theorem dX11_place_5 : decode cX11_place 5 = .ok (.ifCond .eq 12, 3) := by decide +kernel
theorem dX11_place_8 : decode cX11_place 8 = .ok (.aload_n 0, 1) := by decide +kernel
theorem dX11_place_9 : decode cX11_place 9 = .ok (.getfield 23, 3) := by decide +kernel
theorem dX11_place_12 : decode cX11_place 12 = .ok (.iload_n 1, 1) := by decide +kernel
theorem dX11_place_13 : decode cX11_place 13 = .ok (.iaload, 1) := by decide +kernel
theorem dX11_place_14 : decode cX11_place 14 = .ok (.goto 4, 3) := by decide +kernel
theorem dX11_place_17 : decode cX11_place 17 = .ok (.iconst (-1), 1) := by decide +kernel
theorem dX11_place_18 : decode cX11_place 18 = .ok (.ireturn, 1) := by decide +kernel
theorem dX11_word_0 : decode cX11_word 0 = .ok (.iload_n 1, 1) := by decide +kernel
theorem dX11_word_1 : decode cX11_word 1 = .ok (.iconst 0, 1) := by decide +kernel
theorem dX11_word_2 : decode cX11_word 2 = .ok (.aload_n 0, 1) := by decide +kernel
theorem dX11_word_3 : decode cX11_word 3 = .ok (.getfield 130, 3) := by decide +kernel
theorem dX11_word_6 : decode cX11_word 6 = .ok (.iconst 1, 1) := by decide +kernel
theorem dX11_word_7 : decode cX11_word 7 = .ok (.isub, 1) := by decide +kernel
theorem dX11_word_8 : decode cX11_word 8 = .ok (.invokestatic 71, 3) := by decide +kernel
theorem dX11_word_11 : decode cX11_word 11 = .ok (.ifCond .eq 12, 3) := by decide +kernel
theorem dX11_word_14 : decode cX11_word 14 = .ok (.iload_n 2, 1) := by decide +kernel
theorem dX11_word_15 : decode cX11_word 15 = .ok (.iconst 0, 1) := by decide +kernel
theorem dX11_word_16 : decode cX11_word 16 = .ok (.iconst 5, 1) := by decide +kernel
theorem dX11_word_17 : decode cX11_word 17 = .ok (.invokestatic 71, 3) := by decide +kernel
theorem dX11_word_20 : decode cX11_word 20 = .ok (.ifCond .ne 5, 3) := by decide +kernel
theorem dX11_word_23 : decode cX11_word 23 = .ok (.iconst (-1), 1) := by decide +kernel
theorem dX11_word_24 : decode cX11_word 24 = .ok (.ireturn, 1) := by decide +kernel
theorem dX11_word_25 : decode cX11_word 25 = .ok (.iload_n 2, 1) := by decide +kernel
theorem dX11_word_26 : decode cX11_word 26 = .ok (.aload_n 0, 1) := by decide +kernel
theorem dX11_word_27 : decode cX11_word 27 = .ok (.getfield 20, 3) := by decide +kernel
theorem dX11_word_30 : decode cX11_word 30 = .ok (.iload_n 1, 1) := by decide +kernel
theorem dX11_word_31 : decode cX11_word 31 = .ok (.iaload, 1) := by decide +kernel
theorem dX11_word_32 : decode cX11_word 32 = .ok (.if_icmp .ge 17, 3) := by decide +kernel
theorem dX11_word_35 : decode cX11_word 35 = .ok (.aload_n 0, 1) := by decide +kernel
theorem dX11_word_36 : decode cX11_word 36 = .ok (.getfield 17, 3) := by decide +kernel
theorem dX11_word_39 : decode cX11_word 39 = .ok (.bipush 6, 2) := by decide +kernel
theorem dX11_word_41 : decode cX11_word 41 = .ok (.iload_n 1, 1) := by decide +kernel
theorem dX11_word_42 : decode cX11_word 42 = .ok (.imul, 1) := by decide +kernel
theorem dX11_word_43 : decode cX11_word 43 = .ok (.iload_n 2, 1) := by decide +kernel
theorem dX11_word_44 : decode cX11_word 44 = .ok (.iadd, 1) := by decide +kernel
theorem dX11_word_45 : decode cX11_word 45 = .ok (.iaload, 1) := by decide +kernel
theorem dX11_word_46 : decode cX11_word 46 = .ok (.goto 5, 3) := by decide +kernel
theorem dX11_word_49 : decode cX11_word 49 = .ok (.bipush (-9), 2) := by decide +kernel
theorem dX11_word_51 : decode cX11_word 51 = .ok (.ireturn, 1) := by decide +kernel
theorem dX11_writes_0 : decode cX11_writes 0 = .ok (.aload_n 1, 1) := by decide +kernel
theorem dX11_writes_1 : decode cX11_writes 1 = .ok (.iload_n 2, 1) := by decide +kernel
theorem dX11_writes_2 : decode cX11_writes 2 = .ok (.aload_n 0, 1) := by decide +kernel
theorem dX11_writes_3 : decode cX11_writes 3 = .ok (.getfield 75, 3) := by decide +kernel
theorem dX11_writes_6 : decode cX11_writes 6 = .ok (.iastore, 1) := by decide +kernel
theorem dX11_writes_7 : decode cX11_writes 7 = .ok (.aload_n 1, 1) := by decide +kernel
theorem dX11_writes_8 : decode cX11_writes 8 = .ok (.iload_n 2, 1) := by decide +kernel
theorem dX11_writes_9 : decode cX11_writes 9 = .ok (.iconst 1, 1) := by decide +kernel
theorem dX11_writes_10 : decode cX11_writes 10 = .ok (.iadd, 1) := by decide +kernel
theorem dX11_writes_11 : decode cX11_writes 11 = .ok (.aload_n 0, 1) := by decide +kernel
theorem dX11_writes_12 : decode cX11_writes 12 = .ok (.getfield 133, 3) := by decide +kernel
theorem dX11_writes_15 : decode cX11_writes 15 = .ok (.iastore, 1) := by decide +kernel
theorem dX11_writes_16 : decode cX11_writes 16 = .ok (.iconst 0, 1) := by decide +kernel
theorem dX11_writes_17 : decode cX11_writes 17 = .ok (.istore_n 3, 1) := by decide +kernel
theorem dX11_writes_18 : decode cX11_writes 18 = .ok (.iload_n 3, 1) := by decide +kernel
theorem dX11_writes_19 : decode cX11_writes 19 = .ok (.bipush 6, 2) := by decide +kernel
theorem dX11_writes_21 : decode cX11_writes 21 = .ok (.if_icmp .ge 22, 3) := by decide +kernel
theorem dX11_writes_24 : decode cX11_writes 24 = .ok (.aload_n 1, 1) := by decide +kernel
theorem dX11_writes_25 : decode cX11_writes 25 = .ok (.iload_n 2, 1) := by decide +kernel
theorem dX11_writes_26 : decode cX11_writes 26 = .ok (.iconst 2, 1) := by decide +kernel
theorem dX11_writes_27 : decode cX11_writes 27 = .ok (.iadd, 1) := by decide +kernel
theorem dX11_writes_28 : decode cX11_writes 28 = .ok (.iload_n 3, 1) := by decide +kernel
theorem dX11_writes_29 : decode cX11_writes 29 = .ok (.iadd, 1) := by decide +kernel
theorem dX11_writes_30 : decode cX11_writes 30 = .ok (.aload_n 0, 1) := by decide +kernel
theorem dX11_writes_31 : decode cX11_writes 31 = .ok (.getfield 23, 3) := by decide +kernel
theorem dX11_writes_34 : decode cX11_writes 34 = .ok (.iload_n 3, 1) := by decide +kernel
theorem dX11_writes_35 : decode cX11_writes 35 = .ok (.iaload, 1) := by decide +kernel
theorem dX11_writes_36 : decode cX11_writes 36 = .ok (.iastore, 1) := by decide +kernel
theorem dX11_writes_37 : decode cX11_writes 37 = .ok (.iinc 3 1, 3) := by decide +kernel
theorem dX11_writes_40 : decode cX11_writes 40 = .ok (.goto (-22), 3) := by decide +kernel
theorem dX11_writes_43 : decode cX11_writes 43 = .ok (.return_, 1) := by decide +kernel
theorem dX11_readsBack_0 : decode cX11_readsBack 0 = .ok (.aload_n 0, 1) := by decide +kernel
theorem dX11_readsBack_1 : decode cX11_readsBack 1 = .ok (.aload_n 1, 1) := by decide +kernel
theorem dX11_readsBack_2 : decode cX11_readsBack 2 = .ok (.iload_n 2, 1) := by decide +kernel
theorem dX11_readsBack_3 : decode cX11_readsBack 3 = .ok (.iaload, 1) := by decide +kernel
theorem dX11_readsBack_4 : decode cX11_readsBack 4 = .ok (.putfield 75, 3) := by decide +kernel
theorem dX11_readsBack_7 : decode cX11_readsBack 7 = .ok (.aload_n 0, 1) := by decide +kernel
theorem dX11_readsBack_8 : decode cX11_readsBack 8 = .ok (.aload_n 1, 1) := by decide +kernel
theorem dX11_readsBack_9 : decode cX11_readsBack 9 = .ok (.iload_n 2, 1) := by decide +kernel
theorem dX11_readsBack_10 : decode cX11_readsBack 10 = .ok (.iconst 1, 1) := by decide +kernel
theorem dX11_readsBack_11 : decode cX11_readsBack 11 = .ok (.iadd, 1) := by decide +kernel
theorem dX11_readsBack_12 : decode cX11_readsBack 12 = .ok (.iaload, 1) := by decide +kernel
theorem dX11_readsBack_13 : decode cX11_readsBack 13 = .ok (.putfield 133, 3) := by decide +kernel
theorem dX11_readsBack_16 : decode cX11_readsBack 16 = .ok (.iconst 0, 1) := by decide +kernel
theorem dX11_readsBack_17 : decode cX11_readsBack 17 = .ok (.istore_n 3, 1) := by decide +kernel
theorem dX11_readsBack_18 : decode cX11_readsBack 18 = .ok (.iload_n 3, 1) := by decide +kernel
theorem dX11_readsBack_19 : decode cX11_readsBack 19 = .ok (.bipush 6, 2) := by decide +kernel
theorem dX11_readsBack_21 : decode cX11_readsBack 21 = .ok (.if_icmp .ge 22, 3) := by decide +kernel
theorem dX11_readsBack_24 : decode cX11_readsBack 24 = .ok (.aload_n 0, 1) := by decide +kernel
theorem dX11_readsBack_25 : decode cX11_readsBack 25 = .ok (.getfield 23, 3) := by decide +kernel
theorem dX11_readsBack_28 : decode cX11_readsBack 28 = .ok (.iload_n 3, 1) := by decide +kernel
theorem dX11_readsBack_29 : decode cX11_readsBack 29 = .ok (.aload_n 1, 1) := by decide +kernel
theorem dX11_readsBack_30 : decode cX11_readsBack 30 = .ok (.iload_n 2, 1) := by decide +kernel
theorem dX11_readsBack_31 : decode cX11_readsBack 31 = .ok (.iconst 2, 1) := by decide +kernel
theorem dX11_readsBack_32 : decode cX11_readsBack 32 = .ok (.iadd, 1) := by decide +kernel
theorem dX11_readsBack_33 : decode cX11_readsBack 33 = .ok (.iload_n 3, 1) := by decide +kernel
theorem dX11_readsBack_34 : decode cX11_readsBack 34 = .ok (.iadd, 1) := by decide +kernel
theorem dX11_readsBack_35 : decode cX11_readsBack 35 = .ok (.iaload, 1) := by decide +kernel
theorem dX11_readsBack_36 : decode cX11_readsBack 36 = .ok (.iastore, 1) := by decide +kernel
theorem dX11_readsBack_37 : decode cX11_readsBack 37 = .ok (.iinc 3 1, 3) := by decide +kernel
theorem dX11_readsBack_40 : decode cX11_readsBack 40 = .ok (.goto (-22), 3) := by decide +kernel
theorem dX11_readsBack_43 : decode cX11_readsBack 43 = .ok (.return_, 1) := by decide +kernel
theorem dX11_notes_0 : decode cX11_notes 0 = .ok (.aload_n 0, 1) := by decide +kernel
theorem dX11_notes_1 : decode cX11_notes 1 = .ok (.getfield 139, 3) := by decide +kernel
theorem dX11_notes_4 : decode cX11_notes 4 = .ok (.bipush 10, 2) := by decide +kernel
theorem dX11_notes_6 : decode cX11_notes 6 = .ok (.if_icmp .ne 42, 3) := by decide +kernel
theorem dX11_notes_9 : decode cX11_notes 9 = .ok (.iconst 0, 1) := by decide +kernel
theorem dX11_notes_10 : decode cX11_notes 10 = .ok (.istore_n 1, 1) := by decide +kernel
theorem dX11_notes_11 : decode cX11_notes 11 = .ok (.iload_n 1, 1) := by decide +kernel
theorem dX11_notes_12 : decode cX11_notes 12 = .ok (.bipush 72, 2) := by decide +kernel
theorem dX11_notes_14 : decode cX11_notes 14 = .ok (.if_icmp .ge 24, 3) := by decide +kernel
theorem dX11_notes_17 : decode cX11_notes 17 = .ok (.aload_n 0, 1) := by decide +kernel
theorem dX11_notes_18 : decode cX11_notes 18 = .ok (.getfield 53, 3) := by decide +kernel
theorem dX11_notes_21 : decode cX11_notes 21 = .ok (.iload_n 1, 1) := by decide +kernel
theorem dX11_notes_22 : decode cX11_notes 22 = .ok (.aload_n 0, 1) := by decide +kernel
theorem dX11_notes_23 : decode cX11_notes 23 = .ok (.getfield 53, 3) := by decide +kernel
theorem dX11_notes_26 : decode cX11_notes 26 = .ok (.iload_n 1, 1) := by decide +kernel
theorem dX11_notes_27 : decode cX11_notes 27 = .ok (.bipush 8, 2) := by decide +kernel
theorem dX11_notes_29 : decode cX11_notes 29 = .ok (.iadd, 1) := by decide +kernel
theorem dX11_notes_30 : decode cX11_notes 30 = .ok (.iaload, 1) := by decide +kernel
theorem dX11_notes_31 : decode cX11_notes 31 = .ok (.iastore, 1) := by decide +kernel
theorem dX11_notes_32 : decode cX11_notes 32 = .ok (.iinc 1 1, 3) := by decide +kernel
theorem dX11_notes_35 : decode cX11_notes 35 = .ok (.goto (-24), 3) := by decide +kernel
theorem dX11_notes_38 : decode cX11_notes 38 = .ok (.aload_n 0, 1) := by decide +kernel
theorem dX11_notes_39 : decode cX11_notes 39 = .ok (.dup, 1) := by decide +kernel
theorem dX11_notes_40 : decode cX11_notes 40 = .ok (.getfield 139, 3) := by decide +kernel
theorem dX11_notes_43 : decode cX11_notes 43 = .ok (.iconst 1, 1) := by decide +kernel
theorem dX11_notes_44 : decode cX11_notes 44 = .ok (.isub, 1) := by decide +kernel
theorem dX11_notes_45 : decode cX11_notes 45 = .ok (.putfield 139, 3) := by decide +kernel
theorem dX11_notes_48 : decode cX11_notes 48 = .ok (.aload_n 0, 1) := by decide +kernel
theorem dX11_notes_49 : decode cX11_notes 49 = .ok (.aload_n 0, 1) := by decide +kernel
theorem dX11_notes_50 : decode cX11_notes 50 = .ok (.getfield 53, 3) := by decide +kernel
theorem dX11_notes_53 : decode cX11_notes 53 = .ok (.bipush 8, 2) := by decide +kernel
theorem dX11_notes_55 : decode cX11_notes 55 = .ok (.aload_n 0, 1) := by decide +kernel
theorem dX11_notes_56 : decode cX11_notes 56 = .ok (.getfield 139, 3) := by decide +kernel
theorem dX11_notes_59 : decode cX11_notes 59 = .ok (.imul, 1) := by decide +kernel
theorem dX11_notes_60 : decode cX11_notes 60 = .ok (.invokevirtual 195, 3) := by decide +kernel
theorem dX11_notes_63 : decode cX11_notes 63 = .ok (.aload_n 0, 1) := by decide +kernel
theorem dX11_notes_64 : decode cX11_notes 64 = .ok (.dup, 1) := by decide +kernel
theorem dX11_notes_65 : decode cX11_notes 65 = .ok (.getfield 139, 3) := by decide +kernel
theorem dX11_notes_68 : decode cX11_notes 68 = .ok (.iconst 1, 1) := by decide +kernel
theorem dX11_notes_69 : decode cX11_notes 69 = .ok (.iadd, 1) := by decide +kernel
theorem dX11_notes_70 : decode cX11_notes 70 = .ok (.putfield 139, 3) := by decide +kernel
theorem dX11_notes_73 : decode cX11_notes 73 = .ok (.return_, 1) := by decide +kernel
theorem dX11_comesTo_0 : decode cX11_comesTo 0 = .ok (.aload_n 0, 1) := by decide +kernel
theorem dX11_comesTo_1 : decode cX11_comesTo 1 = .ok (.getfield 23, 3) := by decide +kernel
theorem dX11_comesTo_4 : decode cX11_comesTo 4 = .ok (.iload_n 1, 1) := by decide +kernel
theorem dX11_comesTo_5 : decode cX11_comesTo 5 = .ok (.iaload, 1) := by decide +kernel
theorem dX11_comesTo_6 : decode cX11_comesTo 6 = .ok (.istore_n 3, 1) := by decide +kernel
theorem dX11_comesTo_7 : decode cX11_comesTo 7 = .ok (.iload_n 1, 1) := by decide +kernel
theorem dX11_comesTo_8 : decode cX11_comesTo 8 = .ok (.iload_n 2, 1) := by decide +kernel
theorem dX11_comesTo_9 : decode cX11_comesTo 9 = .ok (.if_icmp .ge 7, 3) := by decide +kernel
theorem dX11_comesTo_12 : decode cX11_comesTo 12 = .ok (.iconst 1, 1) := by decide +kernel
theorem dX11_comesTo_13 : decode cX11_comesTo 13 = .ok (.goto 4, 3) := by decide +kernel
theorem dX11_comesTo_16 : decode cX11_comesTo 16 = .ok (.iconst (-1), 1) := by decide +kernel
theorem dX11_comesTo_17 : decode cX11_comesTo 17 = .ok (.istore 4, 2) := by decide +kernel
theorem dX11_comesTo_19 : decode cX11_comesTo 19 = .ok (.iload_n 1, 1) := by decide +kernel
theorem dX11_comesTo_20 : decode cX11_comesTo 20 = .ok (.istore 5, 2) := by decide +kernel
theorem dX11_comesTo_22 : decode cX11_comesTo 22 = .ok (.iload 5, 2) := by decide +kernel
theorem dX11_comesTo_24 : decode cX11_comesTo 24 = .ok (.iload_n 2, 1) := by decide +kernel
theorem dX11_comesTo_25 : decode cX11_comesTo 25 = .ok (.if_icmp .eq 30, 3) := by decide +kernel
theorem dX11_comesTo_28 : decode cX11_comesTo 28 = .ok (.aload_n 0, 1) := by decide +kernel
theorem dX11_comesTo_29 : decode cX11_comesTo 29 = .ok (.getfield 23, 3) := by decide +kernel
theorem dX11_comesTo_32 : decode cX11_comesTo 32 = .ok (.iload 5, 2) := by decide +kernel
theorem dX11_comesTo_34 : decode cX11_comesTo 34 = .ok (.aload_n 0, 1) := by decide +kernel
theorem dX11_comesTo_35 : decode cX11_comesTo 35 = .ok (.getfield 23, 3) := by decide +kernel
theorem dX11_comesTo_38 : decode cX11_comesTo 38 = .ok (.iload 5, 2) := by decide +kernel
theorem dX11_comesTo_40 : decode cX11_comesTo 40 = .ok (.iload 4, 2) := by decide +kernel
theorem dX11_comesTo_42 : decode cX11_comesTo 42 = .ok (.iadd, 1) := by decide +kernel
theorem dX11_comesTo_43 : decode cX11_comesTo 43 = .ok (.iaload, 1) := by decide +kernel
theorem dX11_comesTo_44 : decode cX11_comesTo 44 = .ok (.iastore, 1) := by decide +kernel
theorem dX11_comesTo_45 : decode cX11_comesTo 45 = .ok (.iload 5, 2) := by decide +kernel
theorem dX11_comesTo_47 : decode cX11_comesTo 47 = .ok (.iload 4, 2) := by decide +kernel
theorem dX11_comesTo_49 : decode cX11_comesTo 49 = .ok (.iadd, 1) := by decide +kernel
theorem dX11_comesTo_50 : decode cX11_comesTo 50 = .ok (.istore 5, 2) := by decide +kernel
theorem dX11_comesTo_52 : decode cX11_comesTo 52 = .ok (.goto (-30), 3) := by decide +kernel
theorem dX11_comesTo_55 : decode cX11_comesTo 55 = .ok (.aload_n 0, 1) := by decide +kernel
theorem dX11_comesTo_56 : decode cX11_comesTo 56 = .ok (.getfield 23, 3) := by decide +kernel
theorem dX11_comesTo_59 : decode cX11_comesTo 59 = .ok (.iload_n 2, 1) := by decide +kernel
theorem dX11_comesTo_60 : decode cX11_comesTo 60 = .ok (.iload_n 3, 1) := by decide +kernel
theorem dX11_comesTo_61 : decode cX11_comesTo 61 = .ok (.iastore, 1) := by decide +kernel
theorem dX11_comesTo_62 : decode cX11_comesTo 62 = .ok (.return_, 1) := by decide +kernel
theorem dX11_swaps_0 : decode cX11_swaps 0 = .ok (.aload_n 0, 1) := by decide +kernel
theorem dX11_swaps_1 : decode cX11_swaps 1 = .ok (.iload_n 1, 1) := by decide +kernel
theorem dX11_swaps_2 : decode cX11_swaps 2 = .ok (.invokevirtual 192, 3) := by decide +kernel
theorem dX11_swaps_5 : decode cX11_swaps 5 = .ok (.ifCond .eq 16, 3) := by decide +kernel
theorem dX11_swaps_8 : decode cX11_swaps 8 = .ok (.aload_n 0, 1) := by decide +kernel
theorem dX11_swaps_9 : decode cX11_swaps 9 = .ok (.iload_n 2, 1) := by decide +kernel
theorem dX11_swaps_10 : decode cX11_swaps 10 = .ok (.invokevirtual 192, 3) := by decide +kernel
theorem dX11_swaps_13 : decode cX11_swaps 13 = .ok (.ifCond .eq 8, 3) := by decide +kernel
theorem dX11_swaps_16 : decode cX11_swaps 16 = .ok (.iload_n 1, 1) := by decide +kernel
theorem dX11_swaps_17 : decode cX11_swaps 17 = .ok (.iload_n 2, 1) := by decide +kernel
theorem dX11_swaps_18 : decode cX11_swaps 18 = .ok (.if_icmp .ne 5, 3) := by decide +kernel
theorem dX11_swaps_21 : decode cX11_swaps 21 = .ok (.iconst (-1), 1) := by decide +kernel
theorem dX11_swaps_22 : decode cX11_swaps 22 = .ok (.ireturn, 1) := by decide +kernel
theorem dX11_swaps_23 : decode cX11_swaps 23 = .ok (.aload_n 0, 1) := by decide +kernel
theorem dX11_swaps_24 : decode cX11_swaps 24 = .ok (.invokevirtual 199, 3) := by decide +kernel
theorem dX11_swaps_27 : decode cX11_swaps 27 = .ok (.aload_n 0, 1) := by decide +kernel
theorem dX11_swaps_28 : decode cX11_swaps 28 = .ok (.getfield 23, 3) := by decide +kernel
theorem dX11_swaps_31 : decode cX11_swaps 31 = .ok (.iload_n 1, 1) := by decide +kernel
theorem dX11_swaps_32 : decode cX11_swaps 32 = .ok (.iaload, 1) := by decide +kernel
theorem dX11_swaps_33 : decode cX11_swaps 33 = .ok (.istore_n 3, 1) := by decide +kernel
theorem dX11_swaps_34 : decode cX11_swaps 34 = .ok (.aload_n 0, 1) := by decide +kernel
theorem dX11_swaps_35 : decode cX11_swaps 35 = .ok (.getfield 23, 3) := by decide +kernel
theorem dX11_swaps_38 : decode cX11_swaps 38 = .ok (.iload_n 1, 1) := by decide +kernel
theorem dX11_swaps_39 : decode cX11_swaps 39 = .ok (.aload_n 0, 1) := by decide +kernel
theorem dX11_swaps_40 : decode cX11_swaps 40 = .ok (.getfield 23, 3) := by decide +kernel
theorem dX11_swaps_43 : decode cX11_swaps 43 = .ok (.iload_n 2, 1) := by decide +kernel
theorem dX11_swaps_44 : decode cX11_swaps 44 = .ok (.iaload, 1) := by decide +kernel
theorem dX11_swaps_45 : decode cX11_swaps 45 = .ok (.iastore, 1) := by decide +kernel
theorem dX11_swaps_46 : decode cX11_swaps 46 = .ok (.aload_n 0, 1) := by decide +kernel
theorem dX11_swaps_47 : decode cX11_swaps 47 = .ok (.getfield 23, 3) := by decide +kernel
theorem dX11_swaps_50 : decode cX11_swaps 50 = .ok (.iload_n 2, 1) := by decide +kernel
theorem dX11_swaps_51 : decode cX11_swaps 51 = .ok (.iload_n 3, 1) := by decide +kernel
theorem dX11_swaps_52 : decode cX11_swaps 52 = .ok (.iastore, 1) := by decide +kernel
theorem dX11_swaps_53 : decode cX11_swaps 53 = .ok (.aload_n 0, 1) := by decide +kernel
theorem dX11_swaps_54 : decode cX11_swaps 54 = .ok (.invokevirtual 202, 3) := by decide +kernel
theorem dX11_swaps_57 : decode cX11_swaps 57 = .ok (.ireturn, 1) := by decide +kernel
theorem dX11_moves_0 : decode cX11_moves 0 = .ok (.aload_n 0, 1) := by decide +kernel
theorem dX11_moves_1 : decode cX11_moves 1 = .ok (.iload_n 1, 1) := by decide +kernel
theorem dX11_moves_2 : decode cX11_moves 2 = .ok (.invokevirtual 192, 3) := by decide +kernel
theorem dX11_moves_5 : decode cX11_moves 5 = .ok (.ifCond .eq 16, 3) := by decide +kernel
theorem dX11_moves_8 : decode cX11_moves 8 = .ok (.aload_n 0, 1) := by decide +kernel
theorem dX11_moves_9 : decode cX11_moves 9 = .ok (.iload_n 2, 1) := by decide +kernel
theorem dX11_moves_10 : decode cX11_moves 10 = .ok (.invokevirtual 192, 3) := by decide +kernel
theorem dX11_moves_13 : decode cX11_moves 13 = .ok (.ifCond .eq 8, 3) := by decide +kernel
theorem dX11_moves_16 : decode cX11_moves 16 = .ok (.iload_n 1, 1) := by decide +kernel
theorem dX11_moves_17 : decode cX11_moves 17 = .ok (.iload_n 2, 1) := by decide +kernel
theorem dX11_moves_18 : decode cX11_moves 18 = .ok (.if_icmp .ne 5, 3) := by decide +kernel
theorem dX11_moves_21 : decode cX11_moves 21 = .ok (.iconst (-1), 1) := by decide +kernel
theorem dX11_moves_22 : decode cX11_moves 22 = .ok (.ireturn, 1) := by decide +kernel
theorem dX11_moves_23 : decode cX11_moves 23 = .ok (.aload_n 0, 1) := by decide +kernel
theorem dX11_moves_24 : decode cX11_moves 24 = .ok (.invokevirtual 199, 3) := by decide +kernel
theorem dX11_moves_27 : decode cX11_moves 27 = .ok (.aload_n 0, 1) := by decide +kernel
theorem dX11_moves_28 : decode cX11_moves 28 = .ok (.iload_n 1, 1) := by decide +kernel
theorem dX11_moves_29 : decode cX11_moves 29 = .ok (.iload_n 2, 1) := by decide +kernel
theorem dX11_moves_30 : decode cX11_moves 30 = .ok (.invokevirtual 205, 3) := by decide +kernel
theorem dX11_moves_33 : decode cX11_moves 33 = .ok (.aload_n 0, 1) := by decide +kernel
theorem dX11_moves_34 : decode cX11_moves 34 = .ok (.invokevirtual 202, 3) := by decide +kernel
theorem dX11_moves_37 : decode cX11_moves 37 = .ok (.ireturn, 1) := by decide +kernel
theorem dX11_turn_0 : decode cX11_turn 0 = .ok (.aload_n 0, 1) := by decide +kernel
theorem dX11_turn_1 : decode cX11_turn 1 = .ok (.iload_n 1, 1) := by decide +kernel
theorem dX11_turn_2 : decode cX11_turn 2 = .ok (.invokevirtual 176, 3) := by decide +kernel
theorem dX11_turn_5 : decode cX11_turn 5 = .ok (.ifCond .ne 5, 3) := by decide +kernel
theorem dX11_turn_8 : decode cX11_turn 8 = .ok (.iconst (-1), 1) := by decide +kernel
theorem dX11_turn_9 : decode cX11_turn 9 = .ok (.ireturn, 1) := by decide +kernel
theorem dX11_turn_10 : decode cX11_turn 10 = .ok (.aload_n 0, 1) := by decide +kernel
theorem dX11_turn_11 : decode cX11_turn 11 = .ok (.iload_n 1, 1) := by decide +kernel
theorem dX11_turn_12 : decode cX11_turn 12 = .ok (.invokevirtual 179, 3) := by decide +kernel
theorem dX11_turn_15 : decode cX11_turn 15 = .ok (.bipush (-9), 2) := by decide +kernel
theorem dX11_turn_17 : decode cX11_turn 17 = .ok (.if_icmp .ne 6, 3) := by decide +kernel
theorem dX11_turn_20 : decode cX11_turn 20 = .ok (.bipush (-2), 2) := by decide +kernel
theorem dX11_turn_22 : decode cX11_turn 22 = .ok (.ireturn, 1) := by decide +kernel
theorem dX11_turn_23 : decode cX11_turn 23 = .ok (.aload_n 0, 1) := by decide +kernel
theorem dX11_turn_24 : decode cX11_turn 24 = .ok (.invokevirtual 199, 3) := by decide +kernel
theorem dX11_turn_27 : decode cX11_turn 27 = .ok (.aload_n 0, 1) := by decide +kernel
theorem dX11_turn_28 : decode cX11_turn 28 = .ok (.dup, 1) := by decide +kernel
theorem dX11_turn_29 : decode cX11_turn 29 = .ok (.getfield 133, 3) := by decide +kernel
theorem dX11_turn_32 : decode cX11_turn 32 = .ok (.iconst 1, 1) := by decide +kernel
theorem dX11_turn_33 : decode cX11_turn 33 = .ok (.iload_n 1, 1) := by decide +kernel
theorem dX11_turn_34 : decode cX11_turn 34 = .ok (.ishl, 1) := by decide +kernel
theorem dX11_turn_35 : decode cX11_turn 35 = .ok (.ixor, 1) := by decide +kernel
theorem dX11_turn_36 : decode cX11_turn 36 = .ok (.putfield 133, 3) := by decide +kernel
theorem dX11_turn_39 : decode cX11_turn 39 = .ok (.aload_n 0, 1) := by decide +kernel
theorem dX11_turn_40 : decode cX11_turn 40 = .ok (.getfield 133, 3) := by decide +kernel
theorem dX11_turn_43 : decode cX11_turn 43 = .ok (.iload_n 1, 1) := by decide +kernel
theorem dX11_turn_44 : decode cX11_turn 44 = .ok (.ishr, 1) := by decide +kernel
theorem dX11_turn_45 : decode cX11_turn 45 = .ok (.iconst 1, 1) := by decide +kernel
theorem dX11_turn_46 : decode cX11_turn 46 = .ok (.iand, 1) := by decide +kernel
theorem dX11_turn_47 : decode cX11_turn 47 = .ok (.ireturn, 1) := by decide +kernel
theorem dX11_takes_0 : decode cX11_takes 0 = .ok (.aload_n 0, 1) := by decide +kernel
theorem dX11_takes_1 : decode cX11_takes 1 = .ok (.iload_n 1, 1) := by decide +kernel
theorem dX11_takes_2 : decode cX11_takes 2 = .ok (.invokevirtual 176, 3) := by decide +kernel
theorem dX11_takes_5 : decode cX11_takes 5 = .ok (.ifCond .ne 5, 3) := by decide +kernel
theorem dX11_takes_8 : decode cX11_takes 8 = .ok (.iconst (-1), 1) := by decide +kernel
theorem dX11_takes_9 : decode cX11_takes 9 = .ok (.ireturn, 1) := by decide +kernel
theorem dX11_takes_10 : decode cX11_takes 10 = .ok (.aload_n 0, 1) := by decide +kernel
theorem dX11_takes_11 : decode cX11_takes 11 = .ok (.iload_n 1, 1) := by decide +kernel
theorem dX11_takes_12 : decode cX11_takes 12 = .ok (.invokevirtual 179, 3) := by decide +kernel
theorem dX11_takes_15 : decode cX11_takes 15 = .ok (.istore_n 2, 1) := by decide +kernel
theorem dX11_takes_16 : decode cX11_takes 16 = .ok (.iload_n 2, 1) := by decide +kernel
theorem dX11_takes_17 : decode cX11_takes 17 = .ok (.bipush (-9), 2) := by decide +kernel
theorem dX11_takes_19 : decode cX11_takes 19 = .ok (.if_icmp .ne 6, 3) := by decide +kernel
theorem dX11_takes_22 : decode cX11_takes 22 = .ok (.bipush (-2), 2) := by decide +kernel
theorem dX11_takes_24 : decode cX11_takes 24 = .ok (.ireturn, 1) := by decide +kernel
theorem dX11_takes_25 : decode cX11_takes 25 = .ok (.aload_n 0, 1) := by decide +kernel
theorem dX11_takes_26 : decode cX11_takes 26 = .ok (.invokevirtual 199, 3) := by decide +kernel
theorem dX11_takes_29 : decode cX11_takes 29 = .ok (.aload_n 0, 1) := by decide +kernel
theorem dX11_takes_30 : decode cX11_takes 30 = .ok (.iload_n 2, 1) := by decide +kernel
theorem dX11_takes_31 : decode cX11_takes 31 = .ok (.aload_n 0, 1) := by decide +kernel
theorem dX11_takes_32 : decode cX11_takes 32 = .ok (.getfield 75, 3) := by decide +kernel
theorem dX11_takes_35 : decode cX11_takes 35 = .ok (.iconst 1, 1) := by decide +kernel
theorem dX11_takes_36 : decode cX11_takes 36 = .ok (.isub, 1) := by decide +kernel
theorem dX11_takes_37 : decode cX11_takes 37 = .ok (.invokevirtual 205, 3) := by decide +kernel
theorem dX11_takes_40 : decode cX11_takes 40 = .ok (.aload_n 0, 1) := by decide +kernel
theorem dX11_takes_41 : decode cX11_takes 41 = .ok (.dup, 1) := by decide +kernel
theorem dX11_takes_42 : decode cX11_takes 42 = .ok (.getfield 75, 3) := by decide +kernel
theorem dX11_takes_45 : decode cX11_takes 45 = .ok (.iconst 1, 1) := by decide +kernel
theorem dX11_takes_46 : decode cX11_takes 46 = .ok (.isub, 1) := by decide +kernel
theorem dX11_takes_47 : decode cX11_takes 47 = .ok (.putfield 75, 3) := by decide +kernel
theorem dX11_takes_50 : decode cX11_takes 50 = .ok (.aload_n 0, 1) := by decide +kernel
theorem dX11_takes_51 : decode cX11_takes 51 = .ok (.getfield 75, 3) := by decide +kernel
theorem dX11_takes_54 : decode cX11_takes 54 = .ok (.ireturn, 1) := by decide +kernel
theorem dX11_lays_0 : decode cX11_lays 0 = .ok (.aload_n 0, 1) := by decide +kernel
theorem dX11_lays_1 : decode cX11_lays 1 = .ok (.iload_n 1, 1) := by decide +kernel
theorem dX11_lays_2 : decode cX11_lays 2 = .ok (.invokevirtual 176, 3) := by decide +kernel
theorem dX11_lays_5 : decode cX11_lays 5 = .ok (.ifCond .ne 5, 3) := by decide +kernel
theorem dX11_lays_8 : decode cX11_lays 8 = .ok (.iconst (-1), 1) := by decide +kernel
theorem dX11_lays_9 : decode cX11_lays 9 = .ok (.ireturn, 1) := by decide +kernel
theorem dX11_lays_10 : decode cX11_lays 10 = .ok (.aload_n 0, 1) := by decide +kernel
theorem dX11_lays_11 : decode cX11_lays 11 = .ok (.iload_n 1, 1) := by decide +kernel
theorem dX11_lays_12 : decode cX11_lays 12 = .ok (.invokevirtual 179, 3) := by decide +kernel
theorem dX11_lays_15 : decode cX11_lays 15 = .ok (.bipush (-9), 2) := by decide +kernel
theorem dX11_lays_17 : decode cX11_lays 17 = .ok (.if_icmp .eq 6, 3) := by decide +kernel
theorem dX11_lays_20 : decode cX11_lays 20 = .ok (.bipush (-2), 2) := by decide +kernel
theorem dX11_lays_22 : decode cX11_lays 22 = .ok (.ireturn, 1) := by decide +kernel
theorem dX11_lays_23 : decode cX11_lays 23 = .ok (.aload_n 0, 1) := by decide +kernel
theorem dX11_lays_24 : decode cX11_lays 24 = .ok (.invokevirtual 199, 3) := by decide +kernel
theorem dX11_lays_27 : decode cX11_lays 27 = .ok (.aload_n 0, 1) := by decide +kernel
theorem dX11_lays_28 : decode cX11_lays 28 = .ok (.getfield 23, 3) := by decide +kernel
theorem dX11_lays_31 : decode cX11_lays 31 = .ok (.aload_n 0, 1) := by decide +kernel
theorem dX11_lays_32 : decode cX11_lays 32 = .ok (.getfield 75, 3) := by decide +kernel
theorem dX11_lays_35 : decode cX11_lays 35 = .ok (.iload_n 1, 1) := by decide +kernel
theorem dX11_lays_36 : decode cX11_lays 36 = .ok (.iastore, 1) := by decide +kernel
theorem dX11_lays_37 : decode cX11_lays 37 = .ok (.aload_n 0, 1) := by decide +kernel
theorem dX11_lays_38 : decode cX11_lays 38 = .ok (.dup, 1) := by decide +kernel
theorem dX11_lays_39 : decode cX11_lays 39 = .ok (.getfield 75, 3) := by decide +kernel
theorem dX11_lays_42 : decode cX11_lays 42 = .ok (.iconst 1, 1) := by decide +kernel
theorem dX11_lays_43 : decode cX11_lays 43 = .ok (.iadd, 1) := by decide +kernel
theorem dX11_lays_44 : decode cX11_lays 44 = .ok (.putfield 75, 3) := by decide +kernel
theorem dX11_lays_47 : decode cX11_lays 47 = .ok (.aload_n 0, 1) := by decide +kernel
theorem dX11_lays_48 : decode cX11_lays 48 = .ok (.getfield 75, 3) := by decide +kernel
theorem dX11_lays_51 : decode cX11_lays 51 = .ok (.ireturn, 1) := by decide +kernel
theorem dX11_undo_0 : decode cX11_undo 0 = .ok (.aload_n 0, 1) := by decide +kernel
theorem dX11_undo_1 : decode cX11_undo 1 = .ok (.getfield 139, 3) := by decide +kernel
theorem dX11_undo_4 : decode cX11_undo 4 = .ok (.ifCond .ne 6, 3) := by decide +kernel
theorem dX11_undo_7 : decode cX11_undo 7 = .ok (.bipush (-2), 2) := by decide +kernel
theorem dX11_undo_9 : decode cX11_undo 9 = .ok (.ireturn, 1) := by decide +kernel
theorem dX11_undo_10 : decode cX11_undo 10 = .ok (.aload_n 0, 1) := by decide +kernel
theorem dX11_undo_11 : decode cX11_undo 11 = .ok (.dup, 1) := by decide +kernel
theorem dX11_undo_12 : decode cX11_undo 12 = .ok (.getfield 139, 3) := by decide +kernel
theorem dX11_undo_15 : decode cX11_undo 15 = .ok (.iconst 1, 1) := by decide +kernel
theorem dX11_undo_16 : decode cX11_undo 16 = .ok (.isub, 1) := by decide +kernel
theorem dX11_undo_17 : decode cX11_undo 17 = .ok (.putfield 139, 3) := by decide +kernel
theorem dX11_undo_20 : decode cX11_undo 20 = .ok (.aload_n 0, 1) := by decide +kernel
theorem dX11_undo_21 : decode cX11_undo 21 = .ok (.aload_n 0, 1) := by decide +kernel
theorem dX11_undo_22 : decode cX11_undo 22 = .ok (.getfield 53, 3) := by decide +kernel
theorem dX11_undo_25 : decode cX11_undo 25 = .ok (.bipush 8, 2) := by decide +kernel
theorem dX11_undo_27 : decode cX11_undo 27 = .ok (.aload_n 0, 1) := by decide +kernel
theorem dX11_undo_28 : decode cX11_undo 28 = .ok (.getfield 139, 3) := by decide +kernel
theorem dX11_undo_31 : decode cX11_undo 31 = .ok (.imul, 1) := by decide +kernel
theorem dX11_undo_32 : decode cX11_undo 32 = .ok (.invokevirtual 209, 3) := by decide +kernel
theorem dX11_undo_35 : decode cX11_undo 35 = .ok (.aload_n 0, 1) := by decide +kernel
theorem dX11_undo_36 : decode cX11_undo 36 = .ok (.getfield 139, 3) := by decide +kernel
theorem dX11_undo_39 : decode cX11_undo 39 = .ok (.ireturn, 1) := by decide +kernel
theorem dX11_firstRow_0 : decode cX11_firstRow 0 = .ok (.aload_n 0, 1) := by decide +kernel
theorem dX11_firstRow_1 : decode cX11_firstRow 1 = .ok (.iconst 0, 1) := by decide +kernel
theorem dX11_firstRow_2 : decode cX11_firstRow 2 = .ok (.putfield 212, 3) := by decide +kernel
theorem dX11_firstRow_5 : decode cX11_firstRow 5 = .ok (.iconst 0, 1) := by decide +kernel
theorem dX11_firstRow_6 : decode cX11_firstRow 6 = .ok (.istore_n 2, 1) := by decide +kernel
theorem dX11_firstRow_7 : decode cX11_firstRow 7 = .ok (.iload_n 2, 1) := by decide +kernel
theorem dX11_firstRow_8 : decode cX11_firstRow 8 = .ok (.aload_n 0, 1) := by decide +kernel
theorem dX11_firstRow_9 : decode cX11_firstRow 9 = .ok (.getfield 68, 3) := by decide +kernel
theorem dX11_firstRow_12 : decode cX11_firstRow 12 = .ok (.if_icmp .ge 44, 3) := by decide +kernel
theorem dX11_firstRow_15 : decode cX11_firstRow 15 = .ok (.iload_n 2, 1) := by decide +kernel
theorem dX11_firstRow_16 : decode cX11_firstRow 16 = .ok (.iload_n 1, 1) := by decide +kernel
theorem dX11_firstRow_17 : decode cX11_firstRow 17 = .ok (.if_icmp .eq 33, 3) := by decide +kernel
theorem dX11_firstRow_20 : decode cX11_firstRow 20 = .ok (.aload_n 0, 1) := by decide +kernel
theorem dX11_firstRow_21 : decode cX11_firstRow 21 = .ok (.iload_n 2, 1) := by decide +kernel
theorem dX11_firstRow_22 : decode cX11_firstRow 22 = .ok (.invokevirtual 179, 3) := by decide +kernel
theorem dX11_firstRow_25 : decode cX11_firstRow 25 = .ok (.bipush (-9), 2) := by decide +kernel
theorem dX11_firstRow_27 : decode cX11_firstRow 27 = .ok (.if_icmp .eq 23, 3) := by decide +kernel
theorem dX11_firstRow_30 : decode cX11_firstRow 30 = .ok (.aload_n 0, 1) := by decide +kernel
theorem dX11_firstRow_31 : decode cX11_firstRow 31 = .ok (.getfield 56, 3) := by decide +kernel
theorem dX11_firstRow_34 : decode cX11_firstRow 34 = .ok (.aload_n 0, 1) := by decide +kernel
theorem dX11_firstRow_35 : decode cX11_firstRow 35 = .ok (.getfield 212, 3) := by decide +kernel
theorem dX11_firstRow_38 : decode cX11_firstRow 38 = .ok (.iload_n 2, 1) := by decide +kernel
theorem dX11_firstRow_39 : decode cX11_firstRow 39 = .ok (.iastore, 1) := by decide +kernel
theorem dX11_firstRow_40 : decode cX11_firstRow 40 = .ok (.aload_n 0, 1) := by decide +kernel
theorem dX11_firstRow_41 : decode cX11_firstRow 41 = .ok (.dup, 1) := by decide +kernel
theorem dX11_firstRow_42 : decode cX11_firstRow 42 = .ok (.getfield 212, 3) := by decide +kernel
theorem dX11_firstRow_45 : decode cX11_firstRow 45 = .ok (.iconst 1, 1) := by decide +kernel
theorem dX11_firstRow_46 : decode cX11_firstRow 46 = .ok (.iadd, 1) := by decide +kernel
theorem dX11_firstRow_47 : decode cX11_firstRow 47 = .ok (.putfield 212, 3) := by decide +kernel
theorem dX11_firstRow_50 : decode cX11_firstRow 50 = .ok (.iinc 2 1, 3) := by decide +kernel
theorem dX11_firstRow_53 : decode cX11_firstRow 53 = .ok (.goto (-46), 3) := by decide +kernel
theorem dX11_firstRow_56 : decode cX11_firstRow 56 = .ok (.return_, 1) := by decide +kernel
theorem dX11_nextRow_0 : decode cX11_nextRow 0 = .ok (.aload_n 0, 1) := by decide +kernel
theorem dX11_nextRow_1 : decode cX11_nextRow 1 = .ok (.getfield 212, 3) := by decide +kernel
theorem dX11_nextRow_4 : decode cX11_nextRow 4 = .ok (.iconst 2, 1) := by decide +kernel
theorem dX11_nextRow_5 : decode cX11_nextRow 5 = .ok (.isub, 1) := by decide +kernel
theorem dX11_nextRow_6 : decode cX11_nextRow 6 = .ok (.istore_n 1, 1) := by decide +kernel
theorem dX11_nextRow_7 : decode cX11_nextRow 7 = .ok (.iload_n 1, 1) := by decide +kernel
theorem dX11_nextRow_8 : decode cX11_nextRow 8 = .ok (.ifCond .lt 26, 3) := by decide +kernel
theorem dX11_nextRow_11 : decode cX11_nextRow 11 = .ok (.aload_n 0, 1) := by decide +kernel
theorem dX11_nextRow_12 : decode cX11_nextRow 12 = .ok (.getfield 56, 3) := by decide +kernel
theorem dX11_nextRow_15 : decode cX11_nextRow 15 = .ok (.iload_n 1, 1) := by decide +kernel
theorem dX11_nextRow_16 : decode cX11_nextRow 16 = .ok (.iaload, 1) := by decide +kernel
theorem dX11_nextRow_17 : decode cX11_nextRow 17 = .ok (.aload_n 0, 1) := by decide +kernel
theorem dX11_nextRow_18 : decode cX11_nextRow 18 = .ok (.getfield 56, 3) := by decide +kernel
theorem dX11_nextRow_21 : decode cX11_nextRow 21 = .ok (.iload_n 1, 1) := by decide +kernel
theorem dX11_nextRow_22 : decode cX11_nextRow 22 = .ok (.iconst 1, 1) := by decide +kernel
theorem dX11_nextRow_23 : decode cX11_nextRow 23 = .ok (.iadd, 1) := by decide +kernel
theorem dX11_nextRow_24 : decode cX11_nextRow 24 = .ok (.iaload, 1) := by decide +kernel
theorem dX11_nextRow_25 : decode cX11_nextRow 25 = .ok (.if_icmp .le 9, 3) := by decide +kernel
theorem dX11_nextRow_28 : decode cX11_nextRow 28 = .ok (.iinc 1 (-1), 3) := by decide +kernel
theorem dX11_nextRow_31 : decode cX11_nextRow 31 = .ok (.goto (-24), 3) := by decide +kernel
theorem dX11_nextRow_34 : decode cX11_nextRow 34 = .ok (.iload_n 1, 1) := by decide +kernel
theorem dX11_nextRow_35 : decode cX11_nextRow 35 = .ok (.ifCond .ge 5, 3) := by decide +kernel
theorem dX11_nextRow_38 : decode cX11_nextRow 38 = .ok (.iconst 0, 1) := by decide +kernel
theorem dX11_nextRow_39 : decode cX11_nextRow 39 = .ok (.ireturn, 1) := by decide +kernel
theorem dX11_nextRow_40 : decode cX11_nextRow 40 = .ok (.aload_n 0, 1) := by decide +kernel
theorem dX11_nextRow_41 : decode cX11_nextRow 41 = .ok (.getfield 212, 3) := by decide +kernel
theorem dX11_nextRow_44 : decode cX11_nextRow 44 = .ok (.iconst 1, 1) := by decide +kernel
theorem dX11_nextRow_45 : decode cX11_nextRow 45 = .ok (.isub, 1) := by decide +kernel
theorem dX11_nextRow_46 : decode cX11_nextRow 46 = .ok (.istore_n 2, 1) := by decide +kernel
theorem dX11_nextRow_47 : decode cX11_nextRow 47 = .ok (.aload_n 0, 1) := by decide +kernel
theorem dX11_nextRow_48 : decode cX11_nextRow 48 = .ok (.getfield 56, 3) := by decide +kernel
theorem dX11_nextRow_51 : decode cX11_nextRow 51 = .ok (.iload_n 2, 1) := by decide +kernel
theorem dX11_nextRow_52 : decode cX11_nextRow 52 = .ok (.iaload, 1) := by decide +kernel
theorem dX11_nextRow_53 : decode cX11_nextRow 53 = .ok (.aload_n 0, 1) := by decide +kernel
theorem dX11_nextRow_54 : decode cX11_nextRow 54 = .ok (.getfield 56, 3) := by decide +kernel
theorem dX11_nextRow_57 : decode cX11_nextRow 57 = .ok (.iload_n 1, 1) := by decide +kernel
theorem dX11_nextRow_58 : decode cX11_nextRow 58 = .ok (.iaload, 1) := by decide +kernel
theorem dX11_nextRow_59 : decode cX11_nextRow 59 = .ok (.if_icmp .ge 9, 3) := by decide +kernel
theorem dX11_nextRow_62 : decode cX11_nextRow 62 = .ok (.iinc 2 (-1), 3) := by decide +kernel
theorem dX11_nextRow_65 : decode cX11_nextRow 65 = .ok (.goto (-18), 3) := by decide +kernel
theorem dX11_nextRow_68 : decode cX11_nextRow 68 = .ok (.aload_n 0, 1) := by decide +kernel
theorem dX11_nextRow_69 : decode cX11_nextRow 69 = .ok (.getfield 56, 3) := by decide +kernel
theorem dX11_nextRow_72 : decode cX11_nextRow 72 = .ok (.iload_n 1, 1) := by decide +kernel
theorem dX11_nextRow_73 : decode cX11_nextRow 73 = .ok (.iaload, 1) := by decide +kernel
theorem dX11_nextRow_74 : decode cX11_nextRow 74 = .ok (.istore_n 3, 1) := by decide +kernel
theorem dX11_nextRow_75 : decode cX11_nextRow 75 = .ok (.aload_n 0, 1) := by decide +kernel
theorem dX11_nextRow_76 : decode cX11_nextRow 76 = .ok (.getfield 56, 3) := by decide +kernel
theorem dX11_nextRow_79 : decode cX11_nextRow 79 = .ok (.iload_n 1, 1) := by decide +kernel
theorem dX11_nextRow_80 : decode cX11_nextRow 80 = .ok (.aload_n 0, 1) := by decide +kernel
theorem dX11_nextRow_81 : decode cX11_nextRow 81 = .ok (.getfield 56, 3) := by decide +kernel
theorem dX11_nextRow_84 : decode cX11_nextRow 84 = .ok (.iload_n 2, 1) := by decide +kernel
theorem dX11_nextRow_85 : decode cX11_nextRow 85 = .ok (.iaload, 1) := by decide +kernel
theorem dX11_nextRow_86 : decode cX11_nextRow 86 = .ok (.iastore, 1) := by decide +kernel
theorem dX11_nextRow_87 : decode cX11_nextRow 87 = .ok (.aload_n 0, 1) := by decide +kernel
theorem dX11_nextRow_88 : decode cX11_nextRow 88 = .ok (.getfield 56, 3) := by decide +kernel
theorem dX11_nextRow_91 : decode cX11_nextRow 91 = .ok (.iload_n 2, 1) := by decide +kernel
theorem dX11_nextRow_92 : decode cX11_nextRow 92 = .ok (.iload_n 3, 1) := by decide +kernel
theorem dX11_nextRow_93 : decode cX11_nextRow 93 = .ok (.iastore, 1) := by decide +kernel
theorem dX11_nextRow_94 : decode cX11_nextRow 94 = .ok (.aload_n 0, 1) := by decide +kernel
theorem dX11_nextRow_95 : decode cX11_nextRow 95 = .ok (.getfield 212, 3) := by decide +kernel
theorem dX11_nextRow_98 : decode cX11_nextRow 98 = .ok (.iconst 1, 1) := by decide +kernel
theorem dX11_nextRow_99 : decode cX11_nextRow 99 = .ok (.isub, 1) := by decide +kernel
theorem dX11_nextRow_100 : decode cX11_nextRow 100 = .ok (.istore 4, 2) := by decide +kernel
theorem dX11_nextRow_102 : decode cX11_nextRow 102 = .ok (.iload_n 1, 1) := by decide +kernel
theorem dX11_nextRow_103 : decode cX11_nextRow 103 = .ok (.iconst 1, 1) := by decide +kernel
theorem dX11_nextRow_104 : decode cX11_nextRow 104 = .ok (.iadd, 1) := by decide +kernel
theorem dX11_nextRow_105 : decode cX11_nextRow 105 = .ok (.istore 5, 2) := by decide +kernel
theorem dX11_nextRow_107 : decode cX11_nextRow 107 = .ok (.iload 5, 2) := by decide +kernel
theorem dX11_nextRow_109 : decode cX11_nextRow 109 = .ok (.iload 4, 2) := by decide +kernel
theorem dX11_nextRow_111 : decode cX11_nextRow 111 = .ok (.if_icmp .ge 44, 3) := by decide +kernel
theorem dX11_nextRow_114 : decode cX11_nextRow 114 = .ok (.aload_n 0, 1) := by decide +kernel
theorem dX11_nextRow_115 : decode cX11_nextRow 115 = .ok (.getfield 56, 3) := by decide +kernel
theorem dX11_nextRow_118 : decode cX11_nextRow 118 = .ok (.iload 5, 2) := by decide +kernel
theorem dX11_nextRow_120 : decode cX11_nextRow 120 = .ok (.iaload, 1) := by decide +kernel
theorem dX11_nextRow_121 : decode cX11_nextRow 121 = .ok (.istore 6, 2) := by decide +kernel
theorem dX11_nextRow_123 : decode cX11_nextRow 123 = .ok (.aload_n 0, 1) := by decide +kernel
theorem dX11_nextRow_124 : decode cX11_nextRow 124 = .ok (.getfield 56, 3) := by decide +kernel
theorem dX11_nextRow_127 : decode cX11_nextRow 127 = .ok (.iload 5, 2) := by decide +kernel
theorem dX11_nextRow_129 : decode cX11_nextRow 129 = .ok (.aload_n 0, 1) := by decide +kernel
theorem dX11_nextRow_130 : decode cX11_nextRow 130 = .ok (.getfield 56, 3) := by decide +kernel
theorem dX11_nextRow_133 : decode cX11_nextRow 133 = .ok (.iload 4, 2) := by decide +kernel
theorem dX11_nextRow_135 : decode cX11_nextRow 135 = .ok (.iaload, 1) := by decide +kernel
theorem dX11_nextRow_136 : decode cX11_nextRow 136 = .ok (.iastore, 1) := by decide +kernel
theorem dX11_nextRow_137 : decode cX11_nextRow 137 = .ok (.aload_n 0, 1) := by decide +kernel
theorem dX11_nextRow_138 : decode cX11_nextRow 138 = .ok (.getfield 56, 3) := by decide +kernel
theorem dX11_nextRow_141 : decode cX11_nextRow 141 = .ok (.iload 4, 2) := by decide +kernel
theorem dX11_nextRow_143 : decode cX11_nextRow 143 = .ok (.iload 6, 2) := by decide +kernel
theorem dX11_nextRow_145 : decode cX11_nextRow 145 = .ok (.iastore, 1) := by decide +kernel
theorem dX11_nextRow_146 : decode cX11_nextRow 146 = .ok (.iinc 4 (-1), 3) := by decide +kernel
theorem dX11_nextRow_149 : decode cX11_nextRow 149 = .ok (.iinc 5 1, 3) := by decide +kernel
theorem dX11_nextRow_152 : decode cX11_nextRow 152 = .ok (.goto (-45), 3) := by decide +kernel
theorem dX11_nextRow_155 : decode cX11_nextRow 155 = .ok (.iconst 1, 1) := by decide +kernel
theorem dX11_nextRow_156 : decode cX11_nextRow 156 = .ok (.ireturn, 1) := by decide +kernel
theorem dX11_numberOf_0 : decode cX11_numberOf 0 = .ok (.iconst 0, 1) := by decide +kernel
theorem dX11_numberOf_1 : decode cX11_numberOf 1 = .ok (.istore_n 2, 1) := by decide +kernel
theorem dX11_numberOf_2 : decode cX11_numberOf 2 = .ok (.iconst 0, 1) := by decide +kernel
theorem dX11_numberOf_3 : decode cX11_numberOf 3 = .ok (.istore_n 3, 1) := by decide +kernel
theorem dX11_numberOf_4 : decode cX11_numberOf 4 = .ok (.iload_n 3, 1) := by decide +kernel
theorem dX11_numberOf_5 : decode cX11_numberOf 5 = .ok (.iload_n 1, 1) := by decide +kernel
theorem dX11_numberOf_6 : decode cX11_numberOf 6 = .ok (.if_icmp .ge 20, 3) := by decide +kernel
theorem dX11_numberOf_9 : decode cX11_numberOf 9 = .ok (.bipush 10, 2) := by decide +kernel
theorem dX11_numberOf_11 : decode cX11_numberOf 11 = .ok (.iload_n 2, 1) := by decide +kernel
theorem dX11_numberOf_12 : decode cX11_numberOf 12 = .ok (.imul, 1) := by decide +kernel
theorem dX11_numberOf_13 : decode cX11_numberOf 13 = .ok (.aload_n 0, 1) := by decide +kernel
theorem dX11_numberOf_14 : decode cX11_numberOf 14 = .ok (.iload_n 3, 1) := by decide +kernel
theorem dX11_numberOf_15 : decode cX11_numberOf 15 = .ok (.iaload, 1) := by decide +kernel
theorem dX11_numberOf_16 : decode cX11_numberOf 16 = .ok (.iadd, 1) := by decide +kernel
theorem dX11_numberOf_17 : decode cX11_numberOf 17 = .ok (.iconst 1, 1) := by decide +kernel
theorem dX11_numberOf_18 : decode cX11_numberOf 18 = .ok (.iadd, 1) := by decide +kernel
theorem dX11_numberOf_19 : decode cX11_numberOf 19 = .ok (.istore_n 2, 1) := by decide +kernel
theorem dX11_numberOf_20 : decode cX11_numberOf 20 = .ok (.iinc 3 1, 3) := by decide +kernel
theorem dX11_numberOf_23 : decode cX11_numberOf 23 = .ok (.goto (-19), 3) := by decide +kernel
theorem dX11_numberOf_26 : decode cX11_numberOf 26 = .ok (.iload_n 2, 1) := by decide +kernel
theorem dX11_numberOf_27 : decode cX11_numberOf 27 = .ok (.ireturn, 1) := by decide +kernel
theorem dX11_longestStay_0 : decode cX11_longestStay 0 = .ok (.iconst 0, 1) := by decide +kernel
theorem dX11_longestStay_1 : decode cX11_longestStay 1 = .ok (.istore_n 1, 1) := by decide +kernel
theorem dX11_longestStay_2 : decode cX11_longestStay 2 = .ok (.iconst 0, 1) := by decide +kernel
theorem dX11_longestStay_3 : decode cX11_longestStay 3 = .ok (.istore_n 2, 1) := by decide +kernel
theorem dX11_longestStay_4 : decode cX11_longestStay 4 = .ok (.iload_n 2, 1) := by decide +kernel
theorem dX11_longestStay_5 : decode cX11_longestStay 5 = .ok (.aload_n 0, 1) := by decide +kernel
theorem dX11_longestStay_6 : decode cX11_longestStay 6 = .ok (.getfield 212, 3) := by decide +kernel
theorem dX11_longestStay_9 : decode cX11_longestStay 9 = .ok (.if_icmp .ge 102, 3) := by decide +kernel
theorem dX11_longestStay_12 : decode cX11_longestStay 12 = .ok (.aload_n 0, 1) := by decide +kernel
theorem dX11_longestStay_13 : decode cX11_longestStay 13 = .ok (.getfield 62, 3) := by decide +kernel
theorem dX11_longestStay_16 : decode cX11_longestStay 16 = .ok (.iload_n 2, 1) := by decide +kernel
theorem dX11_longestStay_17 : decode cX11_longestStay 17 = .ok (.iconst 1, 1) := by decide +kernel
theorem dX11_longestStay_18 : decode cX11_longestStay 18 = .ok (.iastore, 1) := by decide +kernel
theorem dX11_longestStay_19 : decode cX11_longestStay 19 = .ok (.iconst 0, 1) := by decide +kernel
theorem dX11_longestStay_20 : decode cX11_longestStay 20 = .ok (.istore_n 3, 1) := by decide +kernel
theorem dX11_longestStay_21 : decode cX11_longestStay 21 = .ok (.iload_n 3, 1) := by decide +kernel
theorem dX11_longestStay_22 : decode cX11_longestStay 22 = .ok (.iload_n 2, 1) := by decide +kernel
theorem dX11_longestStay_23 : decode cX11_longestStay 23 = .ok (.if_icmp .ge 61, 3) := by decide +kernel
theorem dX11_longestStay_26 : decode cX11_longestStay 26 = .ok (.aload_n 0, 1) := by decide +kernel
theorem dX11_longestStay_27 : decode cX11_longestStay 27 = .ok (.aload_n 0, 1) := by decide +kernel
theorem dX11_longestStay_28 : decode cX11_longestStay 28 = .ok (.getfield 56, 3) := by decide +kernel
theorem dX11_longestStay_31 : decode cX11_longestStay 31 = .ok (.iload_n 3, 1) := by decide +kernel
theorem dX11_longestStay_32 : decode cX11_longestStay 32 = .ok (.iaload, 1) := by decide +kernel
theorem dX11_longestStay_33 : decode cX11_longestStay 33 = .ok (.invokevirtual 179, 3) := by decide +kernel
theorem dX11_longestStay_36 : decode cX11_longestStay 36 = .ok (.aload_n 0, 1) := by decide +kernel
theorem dX11_longestStay_37 : decode cX11_longestStay 37 = .ok (.aload_n 0, 1) := by decide +kernel
theorem dX11_longestStay_38 : decode cX11_longestStay 38 = .ok (.getfield 56, 3) := by decide +kernel
theorem dX11_longestStay_41 : decode cX11_longestStay 41 = .ok (.iload_n 2, 1) := by decide +kernel
theorem dX11_longestStay_42 : decode cX11_longestStay 42 = .ok (.iaload, 1) := by decide +kernel
theorem dX11_longestStay_43 : decode cX11_longestStay 43 = .ok (.invokevirtual 179, 3) := by decide +kernel
theorem dX11_longestStay_46 : decode cX11_longestStay 46 = .ok (.if_icmp .ge 32, 3) := by decide +kernel
theorem dX11_longestStay_49 : decode cX11_longestStay 49 = .ok (.aload_n 0, 1) := by decide +kernel
theorem dX11_longestStay_50 : decode cX11_longestStay 50 = .ok (.getfield 62, 3) := by decide +kernel
theorem dX11_longestStay_53 : decode cX11_longestStay 53 = .ok (.iload_n 3, 1) := by decide +kernel
theorem dX11_longestStay_54 : decode cX11_longestStay 54 = .ok (.iaload, 1) := by decide +kernel
theorem dX11_longestStay_55 : decode cX11_longestStay 55 = .ok (.aload_n 0, 1) := by decide +kernel
theorem dX11_longestStay_56 : decode cX11_longestStay 56 = .ok (.getfield 62, 3) := by decide +kernel
theorem dX11_longestStay_59 : decode cX11_longestStay 59 = .ok (.iload_n 2, 1) := by decide +kernel
theorem dX11_longestStay_60 : decode cX11_longestStay 60 = .ok (.iaload, 1) := by decide +kernel
theorem dX11_longestStay_61 : decode cX11_longestStay 61 = .ok (.if_icmp .lt 17, 3) := by decide +kernel
theorem dX11_longestStay_64 : decode cX11_longestStay 64 = .ok (.aload_n 0, 1) := by decide +kernel
theorem dX11_longestStay_65 : decode cX11_longestStay 65 = .ok (.getfield 62, 3) := by decide +kernel
theorem dX11_longestStay_68 : decode cX11_longestStay 68 = .ok (.iload_n 2, 1) := by decide +kernel
theorem dX11_longestStay_69 : decode cX11_longestStay 69 = .ok (.aload_n 0, 1) := by decide +kernel
theorem dX11_longestStay_70 : decode cX11_longestStay 70 = .ok (.getfield 62, 3) := by decide +kernel
theorem dX11_longestStay_73 : decode cX11_longestStay 73 = .ok (.iload_n 3, 1) := by decide +kernel
theorem dX11_longestStay_74 : decode cX11_longestStay 74 = .ok (.iaload, 1) := by decide +kernel
theorem dX11_longestStay_75 : decode cX11_longestStay 75 = .ok (.iconst 1, 1) := by decide +kernel
theorem dX11_longestStay_76 : decode cX11_longestStay 76 = .ok (.iadd, 1) := by decide +kernel
theorem dX11_longestStay_77 : decode cX11_longestStay 77 = .ok (.iastore, 1) := by decide +kernel
theorem dX11_longestStay_78 : decode cX11_longestStay 78 = .ok (.iinc 3 1, 3) := by decide +kernel
theorem dX11_longestStay_81 : decode cX11_longestStay 81 = .ok (.goto (-60), 3) := by decide +kernel
theorem dX11_longestStay_84 : decode cX11_longestStay 84 = .ok (.aload_n 0, 1) := by decide +kernel
theorem dX11_longestStay_85 : decode cX11_longestStay 85 = .ok (.getfield 62, 3) := by decide +kernel
theorem dX11_longestStay_88 : decode cX11_longestStay 88 = .ok (.iload_n 2, 1) := by decide +kernel
theorem dX11_longestStay_89 : decode cX11_longestStay 89 = .ok (.iaload, 1) := by decide +kernel
theorem dX11_longestStay_90 : decode cX11_longestStay 90 = .ok (.iload_n 1, 1) := by decide +kernel
theorem dX11_longestStay_91 : decode cX11_longestStay 91 = .ok (.if_icmp .le 12, 3) := by decide +kernel
theorem dX11_longestStay_94 : decode cX11_longestStay 94 = .ok (.aload_n 0, 1) := by decide +kernel
theorem dX11_longestStay_95 : decode cX11_longestStay 95 = .ok (.getfield 62, 3) := by decide +kernel
theorem dX11_longestStay_98 : decode cX11_longestStay 98 = .ok (.iload_n 2, 1) := by decide +kernel
theorem dX11_longestStay_99 : decode cX11_longestStay 99 = .ok (.iaload, 1) := by decide +kernel
theorem dX11_longestStay_100 : decode cX11_longestStay 100 = .ok (.goto 4, 3) := by decide +kernel
theorem dX11_longestStay_103 : decode cX11_longestStay 103 = .ok (.iload_n 1, 1) := by decide +kernel
theorem dX11_longestStay_104 : decode cX11_longestStay 104 = .ok (.istore_n 1, 1) := by decide +kernel
theorem dX11_longestStay_105 : decode cX11_longestStay 105 = .ok (.iinc 2 1, 3) := by decide +kernel
theorem dX11_longestStay_108 : decode cX11_longestStay 108 = .ok (.goto (-104), 3) := by decide +kernel
theorem dX11_longestStay_111 : decode cX11_longestStay 111 = .ok (.iload_n 1, 1) := by decide +kernel
theorem dX11_longestStay_112 : decode cX11_longestStay 112 = .ok (.ireturn, 1) := by decide +kernel
theorem dX11_comesRight_0 : decode cX11_comesRight 0 = .ok (.aload_n 0, 1) := by decide +kernel
theorem dX11_comesRight_1 : decode cX11_comesRight 1 = .ok (.aload_n 0, 1) := by decide +kernel
theorem dX11_comesRight_2 : decode cX11_comesRight 2 = .ok (.getfield 215, 3) := by decide +kernel
theorem dX11_comesRight_5 : decode cX11_comesRight 5 = .ok (.ifCond .ne 17, 3) := by decide +kernel
theorem dX11_comesRight_8 : decode cX11_comesRight 8 = .ok (.aload_n 0, 1) := by decide +kernel
theorem dX11_comesRight_9 : decode cX11_comesRight 9 = .ok (.getfield 56, 3) := by decide +kernel
theorem dX11_comesRight_12 : decode cX11_comesRight 12 = .ok (.aload_n 0, 1) := by decide +kernel
theorem dX11_comesRight_13 : decode cX11_comesRight 13 = .ok (.getfield 212, 3) := by decide +kernel
theorem dX11_comesRight_16 : decode cX11_comesRight 16 = .ok (.invokestatic 218, 3) := by decide +kernel
theorem dX11_comesRight_19 : decode cX11_comesRight 19 = .ok (.goto 7, 3) := by decide +kernel
theorem dX11_comesRight_22 : decode cX11_comesRight 22 = .ok (.aload_n 0, 1) := by decide +kernel
theorem dX11_comesRight_23 : decode cX11_comesRight 23 = .ok (.getfield 222, 3) := by decide +kernel
theorem dX11_comesRight_26 : decode cX11_comesRight 26 = .ok (.putfield 222, 3) := by decide +kernel
theorem dX11_comesRight_29 : decode cX11_comesRight 29 = .ok (.aload_n 0, 1) := by decide +kernel
theorem dX11_comesRight_30 : decode cX11_comesRight 30 = .ok (.dup, 1) := by decide +kernel
theorem dX11_comesRight_31 : decode cX11_comesRight 31 = .ok (.getfield 215, 3) := by decide +kernel
theorem dX11_comesRight_34 : decode cX11_comesRight 34 = .ok (.iconst 1, 1) := by decide +kernel
theorem dX11_comesRight_35 : decode cX11_comesRight 35 = .ok (.iadd, 1) := by decide +kernel
theorem dX11_comesRight_36 : decode cX11_comesRight 36 = .ok (.putfield 215, 3) := by decide +kernel
theorem dX11_comesRight_39 : decode cX11_comesRight 39 = .ok (.aload_n 0, 1) := by decide +kernel
theorem dX11_comesRight_40 : decode cX11_comesRight 40 = .ok (.getfield 212, 3) := by decide +kernel
theorem dX11_comesRight_43 : decode cX11_comesRight 43 = .ok (.aload_n 0, 1) := by decide +kernel
theorem dX11_comesRight_44 : decode cX11_comesRight 44 = .ok (.invokevirtual 225, 3) := by decide +kernel
theorem dX11_comesRight_47 : decode cX11_comesRight 47 = .ok (.isub, 1) := by decide +kernel
theorem dX11_comesRight_48 : decode cX11_comesRight 48 = .ok (.istore_n 1, 1) := by decide +kernel
theorem dX11_comesRight_49 : decode cX11_comesRight 49 = .ok (.aload_n 0, 1) := by decide +kernel
theorem dX11_comesRight_50 : decode cX11_comesRight 50 = .ok (.iload_n 1, 1) := by decide +kernel
theorem dX11_comesRight_51 : decode cX11_comesRight 51 = .ok (.aload_n 0, 1) := by decide +kernel
theorem dX11_comesRight_52 : decode cX11_comesRight 52 = .ok (.getfield 228, 3) := by decide +kernel
theorem dX11_comesRight_55 : decode cX11_comesRight 55 = .ok (.if_icmp .ge 7, 3) := by decide +kernel
theorem dX11_comesRight_58 : decode cX11_comesRight 58 = .ok (.iload_n 1, 1) := by decide +kernel
theorem dX11_comesRight_59 : decode cX11_comesRight 59 = .ok (.goto 7, 3) := by decide +kernel
theorem dX11_comesRight_62 : decode cX11_comesRight 62 = .ok (.aload_n 0, 1) := by decide +kernel
theorem dX11_comesRight_63 : decode cX11_comesRight 63 = .ok (.getfield 228, 3) := by decide +kernel
theorem dX11_comesRight_66 : decode cX11_comesRight 66 = .ok (.putfield 228, 3) := by decide +kernel
theorem dX11_comesRight_69 : decode cX11_comesRight 69 = .ok (.iconst 0, 1) := by decide +kernel
theorem dX11_comesRight_70 : decode cX11_comesRight 70 = .ok (.istore_n 2, 1) := by decide +kernel
theorem dX11_comesRight_71 : decode cX11_comesRight 71 = .ok (.iload_n 2, 1) := by decide +kernel
theorem dX11_comesRight_72 : decode cX11_comesRight 72 = .ok (.aload_n 0, 1) := by decide +kernel
theorem dX11_comesRight_73 : decode cX11_comesRight 73 = .ok (.getfield 212, 3) := by decide +kernel
theorem dX11_comesRight_76 : decode cX11_comesRight 76 = .ok (.if_icmp .ge 76, 3) := by decide +kernel
theorem dX11_comesRight_79 : decode cX11_comesRight 79 = .ok (.iload_n 2, 1) := by decide +kernel
theorem dX11_comesRight_80 : decode cX11_comesRight 80 = .ok (.iconst 1, 1) := by decide +kernel
theorem dX11_comesRight_81 : decode cX11_comesRight 81 = .ok (.iadd, 1) := by decide +kernel
theorem dX11_comesRight_82 : decode cX11_comesRight 82 = .ok (.aload_n 0, 1) := by decide +kernel
theorem dX11_comesRight_83 : decode cX11_comesRight 83 = .ok (.getfield 212, 3) := by decide +kernel
theorem dX11_comesRight_86 : decode cX11_comesRight 86 = .ok (.if_icmp .ge 14, 3) := by decide +kernel
theorem dX11_comesRight_89 : decode cX11_comesRight 89 = .ok (.aload_n 0, 1) := by decide +kernel
theorem dX11_comesRight_90 : decode cX11_comesRight 90 = .ok (.getfield 56, 3) := by decide +kernel
theorem dX11_comesRight_93 : decode cX11_comesRight 93 = .ok (.iload_n 2, 1) := by decide +kernel
theorem dX11_comesRight_94 : decode cX11_comesRight 94 = .ok (.iconst 1, 1) := by decide +kernel
theorem dX11_comesRight_95 : decode cX11_comesRight 95 = .ok (.iadd, 1) := by decide +kernel
theorem dX11_comesRight_96 : decode cX11_comesRight 96 = .ok (.iaload, 1) := by decide +kernel
theorem dX11_comesRight_97 : decode cX11_comesRight 97 = .ok (.goto 5, 3) := by decide +kernel
theorem dX11_comesRight_100 : decode cX11_comesRight 100 = .ok (.bipush (-9), 2) := by decide +kernel
theorem dX11_comesRight_102 : decode cX11_comesRight 102 = .ok (.istore_n 3, 1) := by decide +kernel
theorem dX11_comesRight_103 : decode cX11_comesRight 103 = .ok (.aload_n 0, 1) := by decide +kernel
theorem dX11_comesRight_104 : decode cX11_comesRight 104 = .ok (.getfield 56, 3) := by decide +kernel
theorem dX11_comesRight_107 : decode cX11_comesRight 107 = .ok (.iload_n 2, 1) := by decide +kernel
theorem dX11_comesRight_108 : decode cX11_comesRight 108 = .ok (.iaload, 1) := by decide +kernel
theorem dX11_comesRight_109 : decode cX11_comesRight 109 = .ok (.istore 4, 2) := by decide +kernel
theorem dX11_comesRight_111 : decode cX11_comesRight 111 = .ok (.aload_n 0, 1) := by decide +kernel
theorem dX11_comesRight_112 : decode cX11_comesRight 112 = .ok (.getfield 59, 3) := by decide +kernel
theorem dX11_comesRight_115 : decode cX11_comesRight 115 = .ok (.iload 4, 2) := by decide +kernel
theorem dX11_comesRight_117 : decode cX11_comesRight 117 = .ok (.aload_n 0, 1) := by decide +kernel
theorem dX11_comesRight_118 : decode cX11_comesRight 118 = .ok (.getfield 59, 3) := by decide +kernel
theorem dX11_comesRight_121 : decode cX11_comesRight 121 = .ok (.iload 4, 2) := by decide +kernel
theorem dX11_comesRight_123 : decode cX11_comesRight 123 = .ok (.iaload, 1) := by decide +kernel
theorem dX11_comesRight_124 : decode cX11_comesRight 124 = .ok (.iconst (-1), 1) := by decide +kernel
theorem dX11_comesRight_125 : decode cX11_comesRight 125 = .ok (.if_icmp .eq 14, 3) := by decide +kernel
theorem dX11_comesRight_128 : decode cX11_comesRight 128 = .ok (.aload_n 0, 1) := by decide +kernel
theorem dX11_comesRight_129 : decode cX11_comesRight 129 = .ok (.getfield 59, 3) := by decide +kernel
theorem dX11_comesRight_132 : decode cX11_comesRight 132 = .ok (.iload 4, 2) := by decide +kernel
theorem dX11_comesRight_134 : decode cX11_comesRight 134 = .ok (.iaload, 1) := by decide +kernel
theorem dX11_comesRight_135 : decode cX11_comesRight 135 = .ok (.iload_n 3, 1) := by decide +kernel
theorem dX11_comesRight_136 : decode cX11_comesRight 136 = .ok (.if_icmp .ne 7, 3) := by decide +kernel
theorem dX11_comesRight_139 : decode cX11_comesRight 139 = .ok (.iload_n 3, 1) := by decide +kernel
theorem dX11_comesRight_140 : decode cX11_comesRight 140 = .ok (.goto 5, 3) := by decide +kernel
theorem dX11_comesRight_143 : decode cX11_comesRight 143 = .ok (.bipush (-9), 2) := by decide +kernel
theorem dX11_comesRight_145 : decode cX11_comesRight 145 = .ok (.iastore, 1) := by decide +kernel
theorem dX11_comesRight_146 : decode cX11_comesRight 146 = .ok (.iinc 2 1, 3) := by decide +kernel
theorem dX11_comesRight_149 : decode cX11_comesRight 149 = .ok (.goto (-78), 3) := by decide +kernel
theorem dX11_comesRight_152 : decode cX11_comesRight 152 = .ok (.return_, 1) := by decide +kernel
theorem dX11_setOrders_0 : decode cX11_setOrders 0 = .ok (.aload_n 0, 1) := by decide +kernel
theorem dX11_setOrders_1 : decode cX11_setOrders 1 = .ok (.iconst 0, 1) := by decide +kernel
theorem dX11_setOrders_2 : decode cX11_setOrders 2 = .ok (.putfield 215, 3) := by decide +kernel
theorem dX11_setOrders_5 : decode cX11_setOrders 5 = .ok (.aload_n 0, 1) := by decide +kernel
theorem dX11_setOrders_6 : decode cX11_setOrders 6 = .ok (.bipush (-9), 2) := by decide +kernel
theorem dX11_setOrders_8 : decode cX11_setOrders 8 = .ok (.putfield 222, 3) := by decide +kernel
theorem dX11_setOrders_11 : decode cX11_setOrders 11 = .ok (.aload_n 0, 1) := by decide +kernel
theorem dX11_setOrders_12 : decode cX11_setOrders 12 = .ok (.ldc 231, 2) := by decide +kernel
theorem dX11_setOrders_14 : decode cX11_setOrders 14 = .ok (.putfield 228, 3) := by decide +kernel
theorem dX11_setOrders_17 : decode cX11_setOrders 17 = .ok (.iconst 0, 1) := by decide +kernel
theorem dX11_setOrders_18 : decode cX11_setOrders 18 = .ok (.istore_n 2, 1) := by decide +kernel
theorem dX11_setOrders_19 : decode cX11_setOrders 19 = .ok (.iload_n 2, 1) := by decide +kernel
theorem dX11_setOrders_20 : decode cX11_setOrders 20 = .ok (.bipush 6, 2) := by decide +kernel
theorem dX11_setOrders_22 : decode cX11_setOrders 22 = .ok (.if_icmp .ge 16, 3) := by decide +kernel
theorem dX11_setOrders_25 : decode cX11_setOrders 25 = .ok (.aload_n 0, 1) := by decide +kernel
theorem dX11_setOrders_26 : decode cX11_setOrders 26 = .ok (.getfield 59, 3) := by decide +kernel
theorem dX11_setOrders_29 : decode cX11_setOrders 29 = .ok (.iload_n 2, 1) := by decide +kernel
theorem dX11_setOrders_30 : decode cX11_setOrders 30 = .ok (.iconst (-1), 1) := by decide +kernel
theorem dX11_setOrders_31 : decode cX11_setOrders 31 = .ok (.iastore, 1) := by decide +kernel
theorem dX11_setOrders_32 : decode cX11_setOrders 32 = .ok (.iinc 2 1, 3) := by decide +kernel
theorem dX11_setOrders_35 : decode cX11_setOrders 35 = .ok (.goto (-16), 3) := by decide +kernel
theorem dX11_setOrders_38 : decode cX11_setOrders 38 = .ok (.aload_n 0, 1) := by decide +kernel
theorem dX11_setOrders_39 : decode cX11_setOrders 39 = .ok (.iload_n 1, 1) := by decide +kernel
theorem dX11_setOrders_40 : decode cX11_setOrders 40 = .ok (.invokevirtual 232, 3) := by decide +kernel
theorem dX11_setOrders_43 : decode cX11_setOrders 43 = .ok (.iconst 1, 1) := by decide +kernel
theorem dX11_setOrders_44 : decode cX11_setOrders 44 = .ok (.istore_n 2, 1) := by decide +kernel
theorem dX11_setOrders_45 : decode cX11_setOrders 45 = .ok (.iload_n 2, 1) := by decide +kernel
theorem dX11_setOrders_46 : decode cX11_setOrders 46 = .ok (.ifCond .eq 34, 3) := by decide +kernel
theorem dX11_setOrders_49 : decode cX11_setOrders 49 = .ok (.aload_n 0, 1) := by decide +kernel
theorem dX11_setOrders_50 : decode cX11_setOrders 50 = .ok (.aload_n 0, 1) := by decide +kernel
theorem dX11_setOrders_51 : decode cX11_setOrders 51 = .ok (.getfield 56, 3) := by decide +kernel
theorem dX11_setOrders_54 : decode cX11_setOrders 54 = .ok (.aload_n 0, 1) := by decide +kernel
theorem dX11_setOrders_55 : decode cX11_setOrders 55 = .ok (.getfield 212, 3) := by decide +kernel
theorem dX11_setOrders_58 : decode cX11_setOrders 58 = .ok (.aload_n 0, 1) := by decide +kernel
theorem dX11_setOrders_59 : decode cX11_setOrders 59 = .ok (.getfield 133, 3) := by decide +kernel
theorem dX11_setOrders_62 : decode cX11_setOrders 62 = .ok (.invokevirtual 236, 3) := by decide +kernel
theorem dX11_setOrders_65 : decode cX11_setOrders 65 = .ok (.ifCond .eq 7, 3) := by decide +kernel
theorem dX11_setOrders_68 : decode cX11_setOrders 68 = .ok (.aload_n 0, 1) := by decide +kernel
theorem dX11_setOrders_69 : decode cX11_setOrders 69 = .ok (.invokevirtual 240, 3) := by decide +kernel
theorem dX11_setOrders_72 : decode cX11_setOrders 72 = .ok (.aload_n 0, 1) := by decide +kernel
theorem dX11_setOrders_73 : decode cX11_setOrders 73 = .ok (.invokevirtual 243, 3) := by decide +kernel
theorem dX11_setOrders_76 : decode cX11_setOrders 76 = .ok (.istore_n 2, 1) := by decide +kernel
theorem dX11_setOrders_77 : decode cX11_setOrders 77 = .ok (.goto (-32), 3) := by decide +kernel
theorem dX11_setOrders_80 : decode cX11_setOrders 80 = .ok (.return_, 1) := by decide +kernel
theorem dX11_nextOf_0 : decode cX11_nextOf 0 = .ok (.aload_n 0, 1) := by decide +kernel
theorem dX11_nextOf_1 : decode cX11_nextOf 1 = .ok (.bipush (-9), 2) := by decide +kernel
theorem dX11_nextOf_3 : decode cX11_nextOf 3 = .ok (.invokevirtual 246, 3) := by decide +kernel
theorem dX11_nextOf_6 : decode cX11_nextOf 6 = .ok (.aload_n 0, 1) := by decide +kernel
theorem dX11_nextOf_7 : decode cX11_nextOf 7 = .ok (.getfield 59, 3) := by decide +kernel
theorem dX11_nextOf_10 : decode cX11_nextOf 10 = .ok (.iload_n 1, 1) := by decide +kernel
theorem dX11_nextOf_11 : decode cX11_nextOf 11 = .ok (.iaload, 1) := by decide +kernel
theorem dX11_nextOf_12 : decode cX11_nextOf 12 = .ok (.iconst (-1), 1) := by decide +kernel
theorem dX11_nextOf_13 : decode cX11_nextOf 13 = .ok (.if_icmp .ne 8, 3) := by decide +kernel
theorem dX11_nextOf_16 : decode cX11_nextOf 16 = .ok (.bipush (-9), 2) := by decide +kernel
theorem dX11_nextOf_18 : decode cX11_nextOf 18 = .ok (.goto 9, 3) := by decide +kernel
theorem dX11_nextOf_21 : decode cX11_nextOf 21 = .ok (.aload_n 0, 1) := by decide +kernel
theorem dX11_nextOf_22 : decode cX11_nextOf 22 = .ok (.getfield 59, 3) := by decide +kernel
theorem dX11_nextOf_25 : decode cX11_nextOf 25 = .ok (.iload_n 1, 1) := by decide +kernel
theorem dX11_nextOf_26 : decode cX11_nextOf 26 = .ok (.iaload, 1) := by decide +kernel
theorem dX11_nextOf_27 : decode cX11_nextOf 27 = .ok (.ireturn, 1) := by decide +kernel
theorem dX11_alienSet_0 : decode cX11_alienSet 0 = .ok (.iconst 0, 1) := by decide +kernel
theorem dX11_alienSet_1 : decode cX11_alienSet 1 = .ok (.istore_n 1, 1) := by decide +kernel
theorem dX11_alienSet_2 : decode cX11_alienSet 2 = .ok (.iconst 0, 1) := by decide +kernel
theorem dX11_alienSet_3 : decode cX11_alienSet 3 = .ok (.istore_n 2, 1) := by decide +kernel
theorem dX11_alienSet_4 : decode cX11_alienSet 4 = .ok (.iload_n 2, 1) := by decide +kernel
theorem dX11_alienSet_5 : decode cX11_alienSet 5 = .ok (.aload_n 0, 1) := by decide +kernel
theorem dX11_alienSet_6 : decode cX11_alienSet 6 = .ok (.getfield 68, 3) := by decide +kernel
theorem dX11_alienSet_9 : decode cX11_alienSet 9 = .ok (.if_icmp .ge 41, 3) := by decide +kernel
theorem dX11_alienSet_12 : decode cX11_alienSet 12 = .ok (.aload_n 0, 1) := by decide +kernel
theorem dX11_alienSet_13 : decode cX11_alienSet 13 = .ok (.iload_n 2, 1) := by decide +kernel
theorem dX11_alienSet_14 : decode cX11_alienSet 14 = .ok (.invokevirtual 179, 3) := by decide +kernel
theorem dX11_alienSet_17 : decode cX11_alienSet 17 = .ok (.bipush (-9), 2) := by decide +kernel
theorem dX11_alienSet_19 : decode cX11_alienSet 19 = .ok (.if_icmp .eq 25, 3) := by decide +kernel
theorem dX11_alienSet_22 : decode cX11_alienSet 22 = .ok (.aload_n 0, 1) := by decide +kernel
theorem dX11_alienSet_23 : decode cX11_alienSet 23 = .ok (.iload_n 2, 1) := by decide +kernel
theorem dX11_alienSet_24 : decode cX11_alienSet 24 = .ok (.invokevirtual 246, 3) := by decide +kernel
theorem dX11_alienSet_27 : decode cX11_alienSet 27 = .ok (.iload_n 1, 1) := by decide +kernel
theorem dX11_alienSet_28 : decode cX11_alienSet 28 = .ok (.aload_n 0, 1) := by decide +kernel
theorem dX11_alienSet_29 : decode cX11_alienSet 29 = .ok (.getfield 215, 3) := by decide +kernel
theorem dX11_alienSet_32 : decode cX11_alienSet 32 = .ok (.ifCond .le 9, 3) := by decide +kernel
theorem dX11_alienSet_35 : decode cX11_alienSet 35 = .ok (.iconst 1, 1) := by decide +kernel
theorem dX11_alienSet_36 : decode cX11_alienSet 36 = .ok (.iload_n 2, 1) := by decide +kernel
theorem dX11_alienSet_37 : decode cX11_alienSet 37 = .ok (.ishl, 1) := by decide +kernel
theorem dX11_alienSet_38 : decode cX11_alienSet 38 = .ok (.goto 4, 3) := by decide +kernel
theorem dX11_alienSet_41 : decode cX11_alienSet 41 = .ok (.iconst 0, 1) := by decide +kernel
theorem dX11_alienSet_42 : decode cX11_alienSet 42 = .ok (.ior, 1) := by decide +kernel
theorem dX11_alienSet_43 : decode cX11_alienSet 43 = .ok (.istore_n 1, 1) := by decide +kernel
theorem dX11_alienSet_44 : decode cX11_alienSet 44 = .ok (.iinc 2 1, 3) := by decide +kernel
theorem dX11_alienSet_47 : decode cX11_alienSet 47 = .ok (.goto (-43), 3) := by decide +kernel
theorem dX11_alienSet_50 : decode cX11_alienSet 50 = .ok (.iload_n 1, 1) := by decide +kernel
theorem dX11_alienSet_51 : decode cX11_alienSet 51 = .ok (.ireturn, 1) := by decide +kernel
theorem dX11_fewest_0 : decode cX11_fewest 0 = .ok (.aload_n 0, 1) := by decide +kernel
theorem dX11_fewest_1 : decode cX11_fewest 1 = .ok (.bipush (-9), 2) := by decide +kernel
theorem dX11_fewest_3 : decode cX11_fewest 3 = .ok (.invokevirtual 246, 3) := by decide +kernel
theorem dX11_fewest_6 : decode cX11_fewest 6 = .ok (.aload_n 0, 1) := by decide +kernel
theorem dX11_fewest_7 : decode cX11_fewest 7 = .ok (.getfield 215, 3) := by decide +kernel
theorem dX11_fewest_10 : decode cX11_fewest 10 = .ok (.ifCond .ne 8, 3) := by decide +kernel
theorem dX11_fewest_13 : decode cX11_fewest 13 = .ok (.bipush (-9), 2) := by decide +kernel
theorem dX11_fewest_15 : decode cX11_fewest 15 = .ok (.goto 7, 3) := by decide +kernel
theorem dX11_fewest_18 : decode cX11_fewest 18 = .ok (.aload_n 0, 1) := by decide +kernel
theorem dX11_fewest_19 : decode cX11_fewest 19 = .ok (.getfield 228, 3) := by decide +kernel
theorem dX11_fewest_22 : decode cX11_fewest 22 = .ok (.ireturn, 1) := by decide +kernel
theorem dX11_rightSetNow_0 : decode cX11_rightSetNow 0 = .ok (.aload_n 0, 1) := by decide +kernel
theorem dX11_rightSetNow_1 : decode cX11_rightSetNow 1 = .ok (.aload_n 0, 1) := by decide +kernel
theorem dX11_rightSetNow_2 : decode cX11_rightSetNow 2 = .ok (.getfield 23, 3) := by decide +kernel
theorem dX11_rightSetNow_5 : decode cX11_rightSetNow 5 = .ok (.aload_n 0, 1) := by decide +kernel
theorem dX11_rightSetNow_6 : decode cX11_rightSetNow 6 = .ok (.getfield 75, 3) := by decide +kernel
theorem dX11_rightSetNow_9 : decode cX11_rightSetNow 9 = .ok (.aload_n 0, 1) := by decide +kernel
theorem dX11_rightSetNow_10 : decode cX11_rightSetNow 10 = .ok (.getfield 133, 3) := by decide +kernel
theorem dX11_rightSetNow_13 : decode cX11_rightSetNow 13 = .ok (.invokevirtual 169, 3) := by decide +kernel
theorem dX11_rightSetNow_16 : decode cX11_rightSetNow 16 = .ok (.aload_n 0, 1) := by decide +kernel
theorem dX11_rightSetNow_17 : decode cX11_rightSetNow 17 = .ok (.invokevirtual 173, 3) := by decide +kernel
theorem dX11_rightSetNow_20 : decode cX11_rightSetNow 20 = .ok (.ireturn, 1) := by decide +kernel
theorem dX11_now_0 : decode cX11_now 0 = .ok (.iload_n 1, 1) := by decide +kernel
theorem dX11_now_1 : decode cX11_now 1 = .ok (.iconst 0, 1) := by decide +kernel
theorem dX11_now_2 : decode cX11_now 2 = .ok (.iconst 5, 1) := by decide +kernel
theorem dX11_now_3 : decode cX11_now 3 = .ok (.invokestatic 71, 3) := by decide +kernel
theorem dX11_now_6 : decode cX11_now 6 = .ok (.ifCond .ne 5, 3) := by decide +kernel
theorem dX11_now_9 : decode cX11_now 9 = .ok (.iconst (-1), 1) := by decide +kernel
theorem dX11_now_10 : decode cX11_now 10 = .ok (.ireturn, 1) := by decide +kernel
theorem dX11_now_11 : decode cX11_now 11 = .ok (.iload_n 1, 1) := by decide +kernel
theorem dX11_now_12 : decode cX11_now 12 = .ok (.tableswitch 68 0 4 #[36, 41, 46, 51, 63], 36) := by decide +kernel
theorem dX11_now_48 : decode cX11_now 48 = .ok (.aload_n 0, 1) := by decide +kernel
theorem dX11_now_49 : decode cX11_now 49 = .ok (.getfield 75, 3) := by decide +kernel
theorem dX11_now_52 : decode cX11_now 52 = .ok (.ireturn, 1) := by decide +kernel
theorem dX11_now_53 : decode cX11_now 53 = .ok (.aload_n 0, 1) := by decide +kernel
theorem dX11_now_54 : decode cX11_now 54 = .ok (.invokevirtual 249, 3) := by decide +kernel
theorem dX11_now_57 : decode cX11_now 57 = .ok (.ireturn, 1) := by decide +kernel
theorem dX11_now_58 : decode cX11_now 58 = .ok (.aload_n 0, 1) := by decide +kernel
theorem dX11_now_59 : decode cX11_now 59 = .ok (.invokevirtual 252, 3) := by decide +kernel
theorem dX11_now_62 : decode cX11_now 62 = .ok (.ireturn, 1) := by decide +kernel
theorem dX11_now_63 : decode cX11_now 63 = .ok (.aload_n 0, 1) := by decide +kernel
theorem dX11_now_64 : decode cX11_now 64 = .ok (.getfield 23, 3) := by decide +kernel
theorem dX11_now_67 : decode cX11_now 67 = .ok (.aload_n 0, 1) := by decide +kernel
theorem dX11_now_68 : decode cX11_now 68 = .ok (.getfield 75, 3) := by decide +kernel
theorem dX11_now_71 : decode cX11_now 71 = .ok (.invokestatic 218, 3) := by decide +kernel
theorem dX11_now_74 : decode cX11_now 74 = .ok (.ireturn, 1) := by decide +kernel
theorem dX11_now_75 : decode cX11_now 75 = .ok (.aload_n 0, 1) := by decide +kernel
theorem dX11_now_76 : decode cX11_now 76 = .ok (.invokevirtual 255, 3) := by decide +kernel
theorem dX11_now_79 : decode cX11_now 79 = .ok (.ireturn, 1) := by decide +kernel
theorem dX11_now_80 : decode cX11_now 80 = .ok (.aload_n 0, 1) := by decide +kernel
theorem dX11_now_81 : decode cX11_now 81 = .ok (.invokevirtual 258, 3) := by decide +kernel
theorem dX11_now_84 : decode cX11_now 84 = .ok (.ireturn, 1) := by decide +kernel
theorem dX11_line_0 : decode cX11_line 0 = .ok (.aload_n 0, 1) := by decide +kernel
theorem dX11_line_1 : decode cX11_line 1 = .ok (.iload_n 1, 1) := by decide +kernel
theorem dX11_line_2 : decode cX11_line 2 = .ok (.invokevirtual 189, 3) := by decide +kernel
theorem dX11_line_5 : decode cX11_line 5 = .ok (.ifCond .eq 12, 3) := by decide +kernel
theorem dX11_line_8 : decode cX11_line 8 = .ok (.iload_n 2, 1) := by decide +kernel
theorem dX11_line_9 : decode cX11_line 9 = .ok (.iconst 0, 1) := by decide +kernel
theorem dX11_line_10 : decode cX11_line 10 = .ok (.iconst 2, 1) := by decide +kernel
theorem dX11_line_11 : decode cX11_line 11 = .ok (.invokestatic 71, 3) := by decide +kernel
theorem dX11_line_14 : decode cX11_line 14 = .ok (.ifCond .ne 5, 3) := by decide +kernel
theorem dX11_line_17 : decode cX11_line 17 = .ok (.iconst (-1), 1) := by decide +kernel
theorem dX11_line_18 : decode cX11_line 18 = .ok (.ireturn, 1) := by decide +kernel
theorem dX11_line_19 : decode cX11_line 19 = .ok (.aload_n 0, 1) := by decide +kernel
theorem dX11_line_20 : decode cX11_line 20 = .ok (.aload_n 0, 1) := by decide +kernel
theorem dX11_line_21 : decode cX11_line 21 = .ok (.getfield 23, 3) := by decide +kernel
theorem dX11_line_24 : decode cX11_line 24 = .ok (.aload_n 0, 1) := by decide +kernel
theorem dX11_line_25 : decode cX11_line 25 = .ok (.getfield 75, 3) := by decide +kernel
theorem dX11_line_28 : decode cX11_line 28 = .ok (.aload_n 0, 1) := by decide +kernel
theorem dX11_line_29 : decode cX11_line 29 = .ok (.getfield 133, 3) := by decide +kernel
theorem dX11_line_32 : decode cX11_line 32 = .ok (.invokevirtual 169, 3) := by decide +kernel
theorem dX11_line_35 : decode cX11_line 35 = .ok (.iload_n 2, 1) := by decide +kernel
theorem dX11_line_36 : decode cX11_line 36 = .ok (.ifCond .ne 12, 3) := by decide +kernel
theorem dX11_line_39 : decode cX11_line 39 = .ok (.aload_n 0, 1) := by decide +kernel
theorem dX11_line_40 : decode cX11_line 40 = .ok (.getfield 44, 3) := by decide +kernel
theorem dX11_line_43 : decode cX11_line 43 = .ok (.iload_n 1, 1) := by decide +kernel
theorem dX11_line_44 : decode cX11_line 44 = .ok (.iaload, 1) := by decide +kernel
theorem dX11_line_45 : decode cX11_line 45 = .ok (.goto 23, 3) := by decide +kernel
theorem dX11_line_48 : decode cX11_line 48 = .ok (.iload_n 2, 1) := by decide +kernel
theorem dX11_line_49 : decode cX11_line 49 = .ok (.iconst 1, 1) := by decide +kernel
theorem dX11_line_50 : decode cX11_line 50 = .ok (.if_icmp .ne 12, 3) := by decide +kernel
theorem dX11_line_53 : decode cX11_line 53 = .ok (.aload_n 0, 1) := by decide +kernel
theorem dX11_line_54 : decode cX11_line 54 = .ok (.getfield 47, 3) := by decide +kernel
theorem dX11_line_57 : decode cX11_line 57 = .ok (.iload_n 1, 1) := by decide +kernel
theorem dX11_line_58 : decode cX11_line 58 = .ok (.iaload, 1) := by decide +kernel
theorem dX11_line_59 : decode cX11_line 59 = .ok (.goto 9, 3) := by decide +kernel
theorem dX11_line_62 : decode cX11_line 62 = .ok (.aload_n 0, 1) := by decide +kernel
theorem dX11_line_63 : decode cX11_line 63 = .ok (.getfield 50, 3) := by decide +kernel
theorem dX11_line_66 : decode cX11_line 66 = .ok (.iload_n 1, 1) := by decide +kernel
theorem dX11_line_67 : decode cX11_line 67 = .ok (.iaload, 1) := by decide +kernel
theorem dX11_line_68 : decode cX11_line 68 = .ok (.ireturn, 1) := by decide +kernel
theorem dX11_reads_0 : decode cX11_reads 0 = .ok (.aload_n 0, 1) := by decide +kernel
theorem dX11_reads_1 : decode cX11_reads 1 = .ok (.iload_n 1, 1) := by decide +kernel
theorem dX11_reads_2 : decode cX11_reads 2 = .ok (.invokevirtual 189, 3) := by decide +kernel
theorem dX11_reads_5 : decode cX11_reads 5 = .ok (.ifCond .eq 36, 3) := by decide +kernel
theorem dX11_reads_8 : decode cX11_reads 8 = .ok (.iload_n 2, 1) := by decide +kernel
theorem dX11_reads_9 : decode cX11_reads 9 = .ok (.iconst 0, 1) := by decide +kernel
theorem dX11_reads_10 : decode cX11_reads 10 = .ok (.iconst 2, 1) := by decide +kernel
theorem dX11_reads_11 : decode cX11_reads 11 = .ok (.aload_n 0, 1) := by decide +kernel
theorem dX11_reads_12 : decode cX11_reads 12 = .ok (.getfield 75, 3) := by decide +kernel
theorem dX11_reads_15 : decode cX11_reads 15 = .ok (.imul, 1) := by decide +kernel
theorem dX11_reads_16 : decode cX11_reads 16 = .ok (.iconst 1, 1) := by decide +kernel
theorem dX11_reads_17 : decode cX11_reads 17 = .ok (.isub, 1) := by decide +kernel
theorem dX11_reads_18 : decode cX11_reads 18 = .ok (.invokestatic 71, 3) := by decide +kernel
theorem dX11_reads_21 : decode cX11_reads 21 = .ok (.ifCond .eq 20, 3) := by decide +kernel
theorem dX11_reads_24 : decode cX11_reads 24 = .ok (.aload_n 0, 1) := by decide +kernel
theorem dX11_reads_25 : decode cX11_reads 25 = .ok (.aload_n 0, 1) := by decide +kernel
theorem dX11_reads_26 : decode cX11_reads 26 = .ok (.getfield 23, 3) := by decide +kernel
theorem dX11_reads_29 : decode cX11_reads 29 = .ok (.iload_n 1, 1) := by decide +kernel
theorem dX11_reads_30 : decode cX11_reads 30 = .ok (.iload_n 2, 1) := by decide +kernel
theorem dX11_reads_31 : decode cX11_reads 31 = .ok (.aload_n 0, 1) := by decide +kernel
theorem dX11_reads_32 : decode cX11_reads 32 = .ok (.getfield 133, 3) := by decide +kernel
theorem dX11_reads_35 : decode cX11_reads 35 = .ok (.invokevirtual 150, 3) := by decide +kernel
theorem dX11_reads_38 : decode cX11_reads 38 = .ok (.goto 4, 3) := by decide +kernel
theorem dX11_reads_41 : decode cX11_reads 41 = .ok (.iconst (-1), 1) := by decide +kernel
theorem dX11_reads_42 : decode cX11_reads 42 = .ok (.ireturn, 1) := by decide +kernel
theorem dX11_orders_0 : decode cX11_orders 0 = .ok (.iload_n 1, 1) := by decide +kernel
theorem dX11_orders_1 : decode cX11_orders 1 = .ok (.iconst 0, 1) := by decide +kernel
theorem dX11_orders_2 : decode cX11_orders 2 = .ok (.iconst 1, 1) := by decide +kernel
theorem dX11_orders_3 : decode cX11_orders 3 = .ok (.invokestatic 71, 3) := by decide +kernel
theorem dX11_orders_6 : decode cX11_orders 6 = .ok (.ifCond .ne 5, 3) := by decide +kernel
theorem dX11_orders_9 : decode cX11_orders 9 = .ok (.iconst (-1), 1) := by decide +kernel
theorem dX11_orders_10 : decode cX11_orders 10 = .ok (.ireturn, 1) := by decide +kernel
theorem dX11_orders_11 : decode cX11_orders 11 = .ok (.aload_n 0, 1) := by decide +kernel
theorem dX11_orders_12 : decode cX11_orders 12 = .ok (.bipush (-9), 2) := by decide +kernel
theorem dX11_orders_14 : decode cX11_orders 14 = .ok (.invokevirtual 246, 3) := by decide +kernel
theorem dX11_orders_17 : decode cX11_orders 17 = .ok (.iload_n 1, 1) := by decide +kernel
theorem dX11_orders_18 : decode cX11_orders 18 = .ok (.ifCond .ne 10, 3) := by decide +kernel
theorem dX11_orders_21 : decode cX11_orders 21 = .ok (.aload_n 0, 1) := by decide +kernel
theorem dX11_orders_22 : decode cX11_orders 22 = .ok (.getfield 215, 3) := by decide +kernel
theorem dX11_orders_25 : decode cX11_orders 25 = .ok (.goto 7, 3) := by decide +kernel
theorem dX11_orders_28 : decode cX11_orders 28 = .ok (.aload_n 0, 1) := by decide +kernel
theorem dX11_orders_29 : decode cX11_orders 29 = .ok (.getfield 222, 3) := by decide +kernel
theorem dX11_orders_32 : decode cX11_orders 32 = .ok (.ireturn, 1) := by decide +kernel
theorem dX11_lieSet_0 : decode cX11_lieSet 0 = .ok (.iconst 0, 1) := by decide +kernel
theorem dX11_lieSet_1 : decode cX11_lieSet 1 = .ok (.istore_n 1, 1) := by decide +kernel
theorem dX11_lieSet_2 : decode cX11_lieSet 2 = .ok (.iconst 0, 1) := by decide +kernel
theorem dX11_lieSet_3 : decode cX11_lieSet 3 = .ok (.istore_n 2, 1) := by decide +kernel
theorem dX11_lieSet_4 : decode cX11_lieSet 4 = .ok (.iload_n 2, 1) := by decide +kernel
theorem dX11_lieSet_5 : decode cX11_lieSet 5 = .ok (.aload_n 0, 1) := by decide +kernel
theorem dX11_lieSet_6 : decode cX11_lieSet 6 = .ok (.getfield 75, 3) := by decide +kernel
theorem dX11_lieSet_9 : decode cX11_lieSet 9 = .ok (.if_icmp .ge 20, 3) := by decide +kernel
theorem dX11_lieSet_12 : decode cX11_lieSet 12 = .ok (.iload_n 1, 1) := by decide +kernel
theorem dX11_lieSet_13 : decode cX11_lieSet 13 = .ok (.iconst 1, 1) := by decide +kernel
theorem dX11_lieSet_14 : decode cX11_lieSet 14 = .ok (.aload_n 0, 1) := by decide +kernel
theorem dX11_lieSet_15 : decode cX11_lieSet 15 = .ok (.getfield 23, 3) := by decide +kernel
theorem dX11_lieSet_18 : decode cX11_lieSet 18 = .ok (.iload_n 2, 1) := by decide +kernel
theorem dX11_lieSet_19 : decode cX11_lieSet 19 = .ok (.iaload, 1) := by decide +kernel
theorem dX11_lieSet_20 : decode cX11_lieSet 20 = .ok (.ishl, 1) := by decide +kernel
theorem dX11_lieSet_21 : decode cX11_lieSet 21 = .ok (.ior, 1) := by decide +kernel
theorem dX11_lieSet_22 : decode cX11_lieSet 22 = .ok (.istore_n 1, 1) := by decide +kernel
theorem dX11_lieSet_23 : decode cX11_lieSet 23 = .ok (.iinc 2 1, 3) := by decide +kernel
theorem dX11_lieSet_26 : decode cX11_lieSet 26 = .ok (.goto (-22), 3) := by decide +kernel
theorem dX11_lieSet_29 : decode cX11_lieSet 29 = .ok (.iload_n 1, 1) := by decide +kernel
theorem dX11_lieSet_30 : decode cX11_lieSet 30 = .ok (.ireturn, 1) := by decide +kernel
theorem dX11_either_0 : decode cX11_either 0 = .ok (.iload_n 1, 1) := by decide +kernel
theorem dX11_either_1 : decode cX11_either 1 = .ok (.iconst 0, 1) := by decide +kernel
theorem dX11_either_2 : decode cX11_either 2 = .ok (.iconst 2, 1) := by decide +kernel
theorem dX11_either_3 : decode cX11_either 3 = .ok (.invokestatic 71, 3) := by decide +kernel
theorem dX11_either_6 : decode cX11_either 6 = .ok (.ifCond .ne 5, 3) := by decide +kernel
theorem dX11_either_9 : decode cX11_either 9 = .ok (.iconst (-1), 1) := by decide +kernel
theorem dX11_either_10 : decode cX11_either 10 = .ok (.ireturn, 1) := by decide +kernel
theorem dX11_either_11 : decode cX11_either 11 = .ok (.aload_n 0, 1) := by decide +kernel
theorem dX11_either_12 : decode cX11_either 12 = .ok (.invokevirtual 261, 3) := by decide +kernel
theorem dX11_either_15 : decode cX11_either 15 = .ok (.istore_n 2, 1) := by decide +kernel
theorem dX11_either_16 : decode cX11_either 16 = .ok (.iconst 0, 1) := by decide +kernel
theorem dX11_either_17 : decode cX11_either 17 = .ok (.istore_n 3, 1) := by decide +kernel
theorem dX11_either_18 : decode cX11_either 18 = .ok (.bipush (-9), 2) := by decide +kernel
theorem dX11_either_20 : decode cX11_either 20 = .ok (.istore 4, 2) := by decide +kernel
theorem dX11_either_22 : decode cX11_either 22 = .ok (.bipush (-9), 2) := by decide +kernel
theorem dX11_either_24 : decode cX11_either 24 = .ok (.istore 5, 2) := by decide +kernel
theorem dX11_either_26 : decode cX11_either 26 = .ok (.aload_n 0, 1) := by decide +kernel
theorem dX11_either_27 : decode cX11_either 27 = .ok (.bipush (-9), 2) := by decide +kernel
theorem dX11_either_29 : decode cX11_either 29 = .ok (.invokevirtual 232, 3) := by decide +kernel
theorem dX11_either_32 : decode cX11_either 32 = .ok (.iconst 1, 1) := by decide +kernel
theorem dX11_either_33 : decode cX11_either 33 = .ok (.istore 6, 2) := by decide +kernel
theorem dX11_either_35 : decode cX11_either 35 = .ok (.iload 6, 2) := by decide +kernel
theorem dX11_either_37 : decode cX11_either 37 = .ok (.ifCond .eq 96, 3) := by decide +kernel
theorem dX11_either_40 : decode cX11_either 40 = .ok (.iconst 0, 1) := by decide +kernel
theorem dX11_either_41 : decode cX11_either 41 = .ok (.istore 7, 2) := by decide +kernel
theorem dX11_either_43 : decode cX11_either 43 = .ok (.iload 7, 2) := by decide +kernel
theorem dX11_either_45 : decode cX11_either 45 = .ok (.iconst 1, 1) := by decide +kernel
theorem dX11_either_46 : decode cX11_either 46 = .ok (.aload_n 0, 1) := by decide +kernel
theorem dX11_either_47 : decode cX11_either 47 = .ok (.getfield 68, 3) := by decide +kernel
theorem dX11_either_50 : decode cX11_either 50 = .ok (.ishl, 1) := by decide +kernel
theorem dX11_either_51 : decode cX11_either 51 = .ok (.if_icmp .ge 73, 3) := by decide +kernel
theorem dX11_either_54 : decode cX11_either 54 = .ok (.iload 7, 2) := by decide +kernel
theorem dX11_either_56 : decode cX11_either 56 = .ok (.iload_n 2, 1) := by decide +kernel
theorem dX11_either_57 : decode cX11_either 57 = .ok (.iconst (-1), 1) := by decide +kernel
theorem dX11_either_58 : decode cX11_either 58 = .ok (.ixor, 1) := by decide +kernel
theorem dX11_either_59 : decode cX11_either 59 = .ok (.iand, 1) := by decide +kernel
theorem dX11_either_60 : decode cX11_either 60 = .ok (.ifCond .ne 58, 3) := by decide +kernel
theorem dX11_either_63 : decode cX11_either 63 = .ok (.aload_n 0, 1) := by decide +kernel
theorem dX11_either_64 : decode cX11_either 64 = .ok (.aload_n 0, 1) := by decide +kernel
theorem dX11_either_65 : decode cX11_either 65 = .ok (.getfield 56, 3) := by decide +kernel
theorem dX11_either_68 : decode cX11_either 68 = .ok (.aload_n 0, 1) := by decide +kernel
theorem dX11_either_69 : decode cX11_either 69 = .ok (.getfield 212, 3) := by decide +kernel
theorem dX11_either_72 : decode cX11_either 72 = .ok (.iload 7, 2) := by decide +kernel
theorem dX11_either_74 : decode cX11_either 74 = .ok (.invokevirtual 236, 3) := by decide +kernel
theorem dX11_either_77 : decode cX11_either 77 = .ok (.ifCond .eq 41, 3) := by decide +kernel
theorem dX11_either_80 : decode cX11_either 80 = .ok (.iload_n 3, 1) := by decide +kernel
theorem dX11_either_81 : decode cX11_either 81 = .ok (.ifCond .ne 8, 3) := by decide +kernel
theorem dX11_either_84 : decode cX11_either 84 = .ok (.iload 7, 2) := by decide +kernel
theorem dX11_either_86 : decode cX11_either 86 = .ok (.goto 5, 3) := by decide +kernel
theorem dX11_either_89 : decode cX11_either 89 = .ok (.iload 5, 2) := by decide +kernel
theorem dX11_either_91 : decode cX11_either 91 = .ok (.istore 5, 2) := by decide +kernel
theorem dX11_either_93 : decode cX11_either 93 = .ok (.iload_n 3, 1) := by decide +kernel
theorem dX11_either_94 : decode cX11_either 94 = .ok (.ifCond .ne 17, 3) := by decide +kernel
theorem dX11_either_97 : decode cX11_either 97 = .ok (.aload_n 0, 1) := by decide +kernel
theorem dX11_either_98 : decode cX11_either 98 = .ok (.getfield 56, 3) := by decide +kernel
theorem dX11_either_101 : decode cX11_either 101 = .ok (.aload_n 0, 1) := by decide +kernel
theorem dX11_either_102 : decode cX11_either 102 = .ok (.getfield 212, 3) := by decide +kernel
theorem dX11_either_105 : decode cX11_either 105 = .ok (.invokestatic 218, 3) := by decide +kernel
theorem dX11_either_108 : decode cX11_either 108 = .ok (.goto 5, 3) := by decide +kernel
theorem dX11_either_111 : decode cX11_either 111 = .ok (.iload 4, 2) := by decide +kernel
theorem dX11_either_113 : decode cX11_either 113 = .ok (.istore 4, 2) := by decide +kernel
theorem dX11_either_115 : decode cX11_either 115 = .ok (.iinc 3 1, 3) := by decide +kernel
theorem dX11_either_118 : decode cX11_either 118 = .ok (.iinc 7 1, 3) := by decide +kernel
theorem dX11_either_121 : decode cX11_either 121 = .ok (.goto (-78), 3) := by decide +kernel
theorem dX11_either_124 : decode cX11_either 124 = .ok (.aload_n 0, 1) := by decide +kernel
theorem dX11_either_125 : decode cX11_either 125 = .ok (.invokevirtual 243, 3) := by decide +kernel
theorem dX11_either_128 : decode cX11_either 128 = .ok (.istore 6, 2) := by decide +kernel
theorem dX11_either_130 : decode cX11_either 130 = .ok (.goto (-95), 3) := by decide +kernel
theorem dX11_either_133 : decode cX11_either 133 = .ok (.iload_n 1, 1) := by decide +kernel
theorem dX11_either_134 : decode cX11_either 134 = .ok (.ifCond .ne 7, 3) := by decide +kernel
theorem dX11_either_137 : decode cX11_either 137 = .ok (.iload_n 3, 1) := by decide +kernel
theorem dX11_either_138 : decode cX11_either 138 = .ok (.goto 15, 3) := by decide +kernel
theorem dX11_either_141 : decode cX11_either 141 = .ok (.iload_n 1, 1) := by decide +kernel
theorem dX11_either_142 : decode cX11_either 142 = .ok (.iconst 1, 1) := by decide +kernel
theorem dX11_either_143 : decode cX11_either 143 = .ok (.if_icmp .ne 8, 3) := by decide +kernel
theorem dX11_either_146 : decode cX11_either 146 = .ok (.iload 4, 2) := by decide +kernel
theorem dX11_either_148 : decode cX11_either 148 = .ok (.goto 5, 3) := by decide +kernel
theorem dX11_either_151 : decode cX11_either 151 = .ok (.iload 5, 2) := by decide +kernel
theorem dX11_either_153 : decode cX11_either 153 = .ok (.ireturn, 1) := by decide +kernel
theorem dX11_best_0 : decode cX11_best 0 = .ok (.iload_n 1, 1) := by decide +kernel
theorem dX11_best_1 : decode cX11_best 1 = .ok (.iconst 0, 1) := by decide +kernel
theorem dX11_best_2 : decode cX11_best 2 = .ok (.iconst 1, 1) := by decide +kernel
theorem dX11_best_3 : decode cX11_best 3 = .ok (.invokestatic 71, 3) := by decide +kernel
theorem dX11_best_6 : decode cX11_best 6 = .ok (.ifCond .ne 5, 3) := by decide +kernel
theorem dX11_best_9 : decode cX11_best 9 = .ok (.iconst (-1), 1) := by decide +kernel
theorem dX11_best_10 : decode cX11_best 10 = .ok (.ireturn, 1) := by decide +kernel
theorem dX11_best_11 : decode cX11_best 11 = .ok (.iconst (-1), 1) := by decide +kernel
theorem dX11_best_12 : decode cX11_best 12 = .ok (.istore_n 2, 1) := by decide +kernel
theorem dX11_best_13 : decode cX11_best 13 = .ok (.iconst 0, 1) := by decide +kernel
theorem dX11_best_14 : decode cX11_best 14 = .ok (.istore_n 3, 1) := by decide +kernel
theorem dX11_best_15 : decode cX11_best 15 = .ok (.aload_n 0, 1) := by decide +kernel
theorem dX11_best_16 : decode cX11_best 16 = .ok (.bipush (-9), 2) := by decide +kernel
theorem dX11_best_18 : decode cX11_best 18 = .ok (.invokevirtual 232, 3) := by decide +kernel
theorem dX11_best_21 : decode cX11_best 21 = .ok (.iconst 1, 1) := by decide +kernel
theorem dX11_best_22 : decode cX11_best 22 = .ok (.istore 4, 2) := by decide +kernel
theorem dX11_best_24 : decode cX11_best 24 = .ok (.iload 4, 2) := by decide +kernel
theorem dX11_best_26 : decode cX11_best 26 = .ok (.ifCond .eq 53, 3) := by decide +kernel
theorem dX11_best_29 : decode cX11_best 29 = .ok (.aload_n 0, 1) := by decide +kernel
theorem dX11_best_30 : decode cX11_best 30 = .ok (.aload_n 0, 1) := by decide +kernel
theorem dX11_best_31 : decode cX11_best 31 = .ok (.getfield 56, 3) := by decide +kernel
theorem dX11_best_34 : decode cX11_best 34 = .ok (.aload_n 0, 1) := by decide +kernel
theorem dX11_best_35 : decode cX11_best 35 = .ok (.getfield 212, 3) := by decide +kernel
theorem dX11_best_38 : decode cX11_best 38 = .ok (.aload_n 0, 1) := by decide +kernel
theorem dX11_best_39 : decode cX11_best 39 = .ok (.getfield 133, 3) := by decide +kernel
theorem dX11_best_42 : decode cX11_best 42 = .ok (.invokevirtual 169, 3) := by decide +kernel
theorem dX11_best_45 : decode cX11_best 45 = .ok (.aload_n 0, 1) := by decide +kernel
theorem dX11_best_46 : decode cX11_best 46 = .ok (.getfield 162, 3) := by decide +kernel
theorem dX11_best_49 : decode cX11_best 49 = .ok (.iload_n 2, 1) := by decide +kernel
theorem dX11_best_50 : decode cX11_best 50 = .ok (.if_icmp .le 20, 3) := by decide +kernel
theorem dX11_best_53 : decode cX11_best 53 = .ok (.aload_n 0, 1) := by decide +kernel
theorem dX11_best_54 : decode cX11_best 54 = .ok (.getfield 162, 3) := by decide +kernel
theorem dX11_best_57 : decode cX11_best 57 = .ok (.istore_n 2, 1) := by decide +kernel
theorem dX11_best_58 : decode cX11_best 58 = .ok (.aload_n 0, 1) := by decide +kernel
theorem dX11_best_59 : decode cX11_best 59 = .ok (.getfield 56, 3) := by decide +kernel
theorem dX11_best_62 : decode cX11_best 62 = .ok (.aload_n 0, 1) := by decide +kernel
theorem dX11_best_63 : decode cX11_best 63 = .ok (.getfield 212, 3) := by decide +kernel
theorem dX11_best_66 : decode cX11_best 66 = .ok (.invokestatic 218, 3) := by decide +kernel
theorem dX11_best_69 : decode cX11_best 69 = .ok (.istore_n 3, 1) := by decide +kernel
theorem dX11_best_70 : decode cX11_best 70 = .ok (.aload_n 0, 1) := by decide +kernel
theorem dX11_best_71 : decode cX11_best 71 = .ok (.invokevirtual 243, 3) := by decide +kernel
theorem dX11_best_74 : decode cX11_best 74 = .ok (.istore 4, 2) := by decide +kernel
theorem dX11_best_76 : decode cX11_best 76 = .ok (.goto (-52), 3) := by decide +kernel
theorem dX11_best_79 : decode cX11_best 79 = .ok (.iload_n 1, 1) := by decide +kernel
theorem dX11_best_80 : decode cX11_best 80 = .ok (.ifCond .ne 7, 3) := by decide +kernel
theorem dX11_best_83 : decode cX11_best 83 = .ok (.iload_n 2, 1) := by decide +kernel
theorem dX11_best_84 : decode cX11_best 84 = .ok (.goto 4, 3) := by decide +kernel
theorem dX11_best_87 : decode cX11_best 87 = .ok (.iload_n 3, 1) := by decide +kernel
theorem dX11_best_88 : decode cX11_best 88 = .ok (.ireturn, 1) := by decide +kernel
theorem dX11_odds_0 : decode cX11_odds 0 = .ok (.iload_n 1, 1) := by decide +kernel
theorem dX11_odds_1 : decode cX11_odds 1 = .ok (.iconst 0, 1) := by decide +kernel
theorem dX11_odds_2 : decode cX11_odds 2 = .ok (.iconst 1, 1) := by decide +kernel
theorem dX11_odds_3 : decode cX11_odds 3 = .ok (.invokestatic 71, 3) := by decide +kernel
theorem dX11_odds_6 : decode cX11_odds 6 = .ok (.ifCond .ne 5, 3) := by decide +kernel
theorem dX11_odds_9 : decode cX11_odds 9 = .ok (.iconst (-1), 1) := by decide +kernel
theorem dX11_odds_10 : decode cX11_odds 10 = .ok (.ireturn, 1) := by decide +kernel
theorem dX11_odds_11 : decode cX11_odds 11 = .ok (.aload_n 0, 1) := by decide +kernel
theorem dX11_odds_12 : decode cX11_odds 12 = .ok (.bipush (-9), 2) := by decide +kernel
theorem dX11_odds_14 : decode cX11_odds 14 = .ok (.invokevirtual 246, 3) := by decide +kernel
theorem dX11_odds_17 : decode cX11_odds 17 = .ok (.iconst 1, 1) := by decide +kernel
theorem dX11_odds_18 : decode cX11_odds 18 = .ok (.istore_n 2, 1) := by decide +kernel
theorem dX11_odds_19 : decode cX11_odds 19 = .ok (.iconst 2, 1) := by decide +kernel
theorem dX11_odds_20 : decode cX11_odds 20 = .ok (.istore_n 3, 1) := by decide +kernel
theorem dX11_odds_21 : decode cX11_odds 21 = .ok (.iload_n 3, 1) := by decide +kernel
theorem dX11_odds_22 : decode cX11_odds 22 = .ok (.aload_n 0, 1) := by decide +kernel
theorem dX11_odds_23 : decode cX11_odds 23 = .ok (.getfield 75, 3) := by decide +kernel
theorem dX11_odds_26 : decode cX11_odds 26 = .ok (.if_icmp .gt 13, 3) := by decide +kernel
theorem dX11_odds_29 : decode cX11_odds 29 = .ok (.iload_n 2, 1) := by decide +kernel
theorem dX11_odds_30 : decode cX11_odds 30 = .ok (.iload_n 3, 1) := by decide +kernel
theorem dX11_odds_31 : decode cX11_odds 31 = .ok (.imul, 1) := by decide +kernel
theorem dX11_odds_32 : decode cX11_odds 32 = .ok (.istore_n 2, 1) := by decide +kernel
theorem dX11_odds_33 : decode cX11_odds 33 = .ok (.iinc 3 1, 3) := by decide +kernel
theorem dX11_odds_36 : decode cX11_odds 36 = .ok (.goto (-15), 3) := by decide +kernel
theorem dX11_odds_39 : decode cX11_odds 39 = .ok (.aload_n 0, 1) := by decide +kernel
theorem dX11_odds_40 : decode cX11_odds 40 = .ok (.getfield 215, 3) := by decide +kernel
theorem dX11_odds_43 : decode cX11_odds 43 = .ok (.iload_n 2, 1) := by decide +kernel
theorem dX11_odds_44 : decode cX11_odds 44 = .ok (.invokestatic 264, 3) := by decide +kernel
theorem dX11_odds_47 : decode cX11_odds 47 = .ok (.istore_n 3, 1) := by decide +kernel
theorem dX11_odds_48 : decode cX11_odds 48 = .ok (.iload_n 1, 1) := by decide +kernel
theorem dX11_odds_49 : decode cX11_odds 49 = .ok (.ifCond .ne 12, 3) := by decide +kernel
theorem dX11_odds_52 : decode cX11_odds 52 = .ok (.aload_n 0, 1) := by decide +kernel
theorem dX11_odds_53 : decode cX11_odds 53 = .ok (.getfield 215, 3) := by decide +kernel
theorem dX11_odds_56 : decode cX11_odds 56 = .ok (.iload_n 3, 1) := by decide +kernel
theorem dX11_odds_57 : decode cX11_odds 57 = .ok (.idiv, 1) := by decide +kernel
theorem dX11_odds_58 : decode cX11_odds 58 = .ok (.goto 6, 3) := by decide +kernel
theorem dX11_odds_61 : decode cX11_odds 61 = .ok (.iload_n 2, 1) := by decide +kernel
theorem dX11_odds_62 : decode cX11_odds 62 = .ok (.iload_n 3, 1) := by decide +kernel
theorem dX11_odds_63 : decode cX11_odds 63 = .ok (.idiv, 1) := by decide +kernel
theorem dX11_odds_64 : decode cX11_odds 64 = .ok (.ireturn, 1) := by decide +kernel
theorem dX11_sees_0 : decode cX11_sees 0 = .ok (.iload_n 1, 1) := by decide +kernel
theorem dX11_sees_1 : decode cX11_sees 1 = .ok (.iconst 0, 1) := by decide +kernel
theorem dX11_sees_2 : decode cX11_sees 2 = .ok (.bipush 25, 2) := by decide +kernel
theorem dX11_sees_4 : decode cX11_sees 4 = .ok (.invokestatic 71, 3) := by decide +kernel
theorem dX11_sees_7 : decode cX11_sees 7 = .ok (.ifCond .eq 12, 3) := by decide +kernel
theorem dX11_sees_10 : decode cX11_sees 10 = .ok (.iload_n 2, 1) := by decide +kernel
theorem dX11_sees_11 : decode cX11_sees 11 = .ok (.iconst 0, 1) := by decide +kernel
theorem dX11_sees_12 : decode cX11_sees 12 = .ok (.iconst 1, 1) := by decide +kernel
theorem dX11_sees_13 : decode cX11_sees 13 = .ok (.invokestatic 71, 3) := by decide +kernel
theorem dX11_sees_16 : decode cX11_sees 16 = .ok (.ifCond .ne 5, 3) := by decide +kernel
theorem dX11_sees_19 : decode cX11_sees 19 = .ok (.iconst (-1), 1) := by decide +kernel
theorem dX11_sees_20 : decode cX11_sees 20 = .ok (.ireturn, 1) := by decide +kernel
theorem dX11_sees_21 : decode cX11_sees 21 = .ok (.aload_n 0, 1) := by decide +kernel
theorem dX11_sees_22 : decode cX11_sees 22 = .ok (.getfield 136, 3) := by decide +kernel
theorem dX11_sees_25 : decode cX11_sees 25 = .ok (.bipush 6, 2) := by decide +kernel
theorem dX11_sees_27 : decode cX11_sees 27 = .ok (.if_icmp .ne 6, 3) := by decide +kernel
theorem dX11_sees_30 : decode cX11_sees 30 = .ok (.bipush (-3), 2) := by decide +kernel
theorem dX11_sees_32 : decode cX11_sees 32 = .ok (.ireturn, 1) := by decide +kernel
theorem dX11_sees_33 : decode cX11_sees 33 = .ok (.aload_n 0, 1) := by decide +kernel
theorem dX11_sees_34 : decode cX11_sees 34 = .ok (.getfield 26, 3) := by decide +kernel
theorem dX11_sees_37 : decode cX11_sees 37 = .ok (.aload_n 0, 1) := by decide +kernel
theorem dX11_sees_38 : decode cX11_sees 38 = .ok (.getfield 136, 3) := by decide +kernel
theorem dX11_sees_41 : decode cX11_sees 41 = .ok (.iload_n 1, 1) := by decide +kernel
theorem dX11_sees_42 : decode cX11_sees 42 = .ok (.iastore, 1) := by decide +kernel
theorem dX11_sees_43 : decode cX11_sees 43 = .ok (.aload_n 0, 1) := by decide +kernel
theorem dX11_sees_44 : decode cX11_sees 44 = .ok (.getfield 29, 3) := by decide +kernel
theorem dX11_sees_47 : decode cX11_sees 47 = .ok (.aload_n 0, 1) := by decide +kernel
theorem dX11_sees_48 : decode cX11_sees 48 = .ok (.getfield 136, 3) := by decide +kernel
theorem dX11_sees_51 : decode cX11_sees 51 = .ok (.iload_n 2, 1) := by decide +kernel
theorem dX11_sees_52 : decode cX11_sees 52 = .ok (.iastore, 1) := by decide +kernel
theorem dX11_sees_53 : decode cX11_sees 53 = .ok (.aload_n 0, 1) := by decide +kernel
theorem dX11_sees_54 : decode cX11_sees 54 = .ok (.dup, 1) := by decide +kernel
theorem dX11_sees_55 : decode cX11_sees 55 = .ok (.getfield 136, 3) := by decide +kernel
theorem dX11_sees_58 : decode cX11_sees 58 = .ok (.iconst 1, 1) := by decide +kernel
theorem dX11_sees_59 : decode cX11_sees 59 = .ok (.iadd, 1) := by decide +kernel
theorem dX11_sees_60 : decode cX11_sees 60 = .ok (.putfield 136, 3) := by decide +kernel
theorem dX11_sees_63 : decode cX11_sees 63 = .ok (.aload_n 0, 1) := by decide +kernel
theorem dX11_sees_64 : decode cX11_sees 64 = .ok (.getfield 136, 3) := by decide +kernel
theorem dX11_sees_67 : decode cX11_sees 67 = .ok (.ireturn, 1) := by decide +kernel
theorem dX11_forget_0 : decode cX11_forget 0 = .ok (.aload_n 0, 1) := by decide +kernel
theorem dX11_forget_1 : decode cX11_forget 1 = .ok (.getfield 136, 3) := by decide +kernel
theorem dX11_forget_4 : decode cX11_forget 4 = .ok (.istore_n 1, 1) := by decide +kernel
theorem dX11_forget_5 : decode cX11_forget 5 = .ok (.aload_n 0, 1) := by decide +kernel
theorem dX11_forget_6 : decode cX11_forget 6 = .ok (.iconst 0, 1) := by decide +kernel
theorem dX11_forget_7 : decode cX11_forget 7 = .ok (.putfield 136, 3) := by decide +kernel
theorem dX11_forget_10 : decode cX11_forget 10 = .ok (.iload_n 1, 1) := by decide +kernel
theorem dX11_forget_11 : decode cX11_forget 11 = .ok (.ireturn, 1) := by decide +kernel
theorem dX11_which_0 : decode cX11_which 0 = .ok (.iconst 0, 1) := by decide +kernel
theorem dX11_which_1 : decode cX11_which 1 = .ok (.istore_n 1, 1) := by decide +kernel
theorem dX11_which_2 : decode cX11_which 2 = .ok (.iconst 0, 1) := by decide +kernel
theorem dX11_which_3 : decode cX11_which 3 = .ok (.istore_n 2, 1) := by decide +kernel
theorem dX11_which_4 : decode cX11_which 4 = .ok (.iload_n 2, 1) := by decide +kernel
theorem dX11_which_5 : decode cX11_which 5 = .ok (.aload_n 0, 1) := by decide +kernel
theorem dX11_which_6 : decode cX11_which 6 = .ok (.getfield 68, 3) := by decide +kernel
theorem dX11_which_9 : decode cX11_which 9 = .ok (.if_icmp .ge 87, 3) := by decide +kernel
theorem dX11_which_12 : decode cX11_which 12 = .ok (.iconst 1, 1) := by decide +kernel
theorem dX11_which_13 : decode cX11_which 13 = .ok (.istore_n 3, 1) := by decide +kernel
theorem dX11_which_14 : decode cX11_which 14 = .ok (.iconst 0, 1) := by decide +kernel
theorem dX11_which_15 : decode cX11_which 15 = .ok (.istore 4, 2) := by decide +kernel
theorem dX11_which_17 : decode cX11_which 17 = .ok (.iload 4, 2) := by decide +kernel
theorem dX11_which_19 : decode cX11_which 19 = .ok (.aload_n 0, 1) := by decide +kernel
theorem dX11_which_20 : decode cX11_which 20 = .ok (.getfield 136, 3) := by decide +kernel
theorem dX11_which_23 : decode cX11_which 23 = .ok (.if_icmp .ge 53, 3) := by decide +kernel
theorem dX11_which_26 : decode cX11_which 26 = .ok (.iload_n 3, 1) := by decide +kernel
theorem dX11_which_27 : decode cX11_which 27 = .ok (.ifCond .eq 41, 3) := by decide +kernel
theorem dX11_which_30 : decode cX11_which 30 = .ok (.aload_n 0, 1) := by decide +kernel
theorem dX11_which_31 : decode cX11_which 31 = .ok (.iload_n 2, 1) := by decide +kernel
theorem dX11_which_32 : decode cX11_which 32 = .ok (.invokevirtual 183, 3) := by decide +kernel
theorem dX11_which_35 : decode cX11_which 35 = .ok (.aload_n 0, 1) := by decide +kernel
theorem dX11_which_36 : decode cX11_which 36 = .ok (.getfield 26, 3) := by decide +kernel
theorem dX11_which_39 : decode cX11_which 39 = .ok (.iload 4, 2) := by decide +kernel
theorem dX11_which_41 : decode cX11_which 41 = .ok (.iaload, 1) := by decide +kernel
theorem dX11_which_42 : decode cX11_which 42 = .ok (.invokestatic 142, 3) := by decide +kernel
theorem dX11_which_45 : decode cX11_which 45 = .ok (.aload_n 0, 1) := by decide +kernel
theorem dX11_which_46 : decode cX11_which 46 = .ok (.getfield 29, 3) := by decide +kernel
theorem dX11_which_49 : decode cX11_which 49 = .ok (.iload 4, 2) := by decide +kernel
theorem dX11_which_51 : decode cX11_which 51 = .ok (.iaload, 1) := by decide +kernel
theorem dX11_which_52 : decode cX11_which 52 = .ok (.iconst 1, 1) := by decide +kernel
theorem dX11_which_53 : decode cX11_which 53 = .ok (.if_icmp .ne 7, 3) := by decide +kernel
theorem dX11_which_56 : decode cX11_which 56 = .ok (.iconst 1, 1) := by decide +kernel
theorem dX11_which_57 : decode cX11_which 57 = .ok (.goto 4, 3) := by decide +kernel
theorem dX11_which_60 : decode cX11_which 60 = .ok (.iconst 0, 1) := by decide +kernel
theorem dX11_which_61 : decode cX11_which 61 = .ok (.if_icmp .ne 7, 3) := by decide +kernel
theorem dX11_which_64 : decode cX11_which 64 = .ok (.iconst 1, 1) := by decide +kernel
theorem dX11_which_65 : decode cX11_which 65 = .ok (.goto 4, 3) := by decide +kernel
theorem dX11_which_68 : decode cX11_which 68 = .ok (.iconst 0, 1) := by decide +kernel
theorem dX11_which_69 : decode cX11_which 69 = .ok (.istore_n 3, 1) := by decide +kernel
theorem dX11_which_70 : decode cX11_which 70 = .ok (.iinc 4 1, 3) := by decide +kernel
theorem dX11_which_73 : decode cX11_which 73 = .ok (.goto (-56), 3) := by decide +kernel
theorem dX11_which_76 : decode cX11_which 76 = .ok (.iload_n 1, 1) := by decide +kernel
theorem dX11_which_77 : decode cX11_which 77 = .ok (.iload_n 3, 1) := by decide +kernel
theorem dX11_which_78 : decode cX11_which 78 = .ok (.ifCond .eq 9, 3) := by decide +kernel
theorem dX11_which_81 : decode cX11_which 81 = .ok (.iconst 1, 1) := by decide +kernel
theorem dX11_which_82 : decode cX11_which 82 = .ok (.iload_n 2, 1) := by decide +kernel
theorem dX11_which_83 : decode cX11_which 83 = .ok (.ishl, 1) := by decide +kernel
theorem dX11_which_84 : decode cX11_which 84 = .ok (.goto 4, 3) := by decide +kernel
theorem dX11_which_87 : decode cX11_which 87 = .ok (.iconst 0, 1) := by decide +kernel
theorem dX11_which_88 : decode cX11_which 88 = .ok (.ior, 1) := by decide +kernel
theorem dX11_which_89 : decode cX11_which 89 = .ok (.istore_n 1, 1) := by decide +kernel
theorem dX11_which_90 : decode cX11_which 90 = .ok (.iinc 2 1, 3) := by decide +kernel
theorem dX11_which_93 : decode cX11_which 93 = .ok (.goto (-89), 3) := by decide +kernel
theorem dX11_which_96 : decode cX11_which 96 = .ok (.iload_n 1, 1) := by decide +kernel
theorem dX11_which_97 : decode cX11_which 97 = .ok (.ireturn, 1) := by decide +kernel
theorem dX11_look_0 : decode cX11_look 0 = .ok (.aload_n 0, 1) := by decide +kernel
theorem dX11_look_1 : decode cX11_look 1 = .ok (.invokevirtual 268, 3) := by decide +kernel
theorem dX11_look_4 : decode cX11_look 4 = .ok (.istore_n 1, 1) := by decide +kernel
theorem dX11_look_5 : decode cX11_look 5 = .ok (.iconst 0, 1) := by decide +kernel
theorem dX11_look_6 : decode cX11_look 6 = .ok (.istore_n 2, 1) := by decide +kernel
theorem dX11_look_7 : decode cX11_look 7 = .ok (.iconst 0, 1) := by decide +kernel
theorem dX11_look_8 : decode cX11_look 8 = .ok (.istore_n 3, 1) := by decide +kernel
theorem dX11_look_9 : decode cX11_look 9 = .ok (.iload_n 3, 1) := by decide +kernel
theorem dX11_look_10 : decode cX11_look 10 = .ok (.aload_n 0, 1) := by decide +kernel
theorem dX11_look_11 : decode cX11_look 11 = .ok (.getfield 68, 3) := by decide +kernel
theorem dX11_look_14 : decode cX11_look 14 = .ok (.if_icmp .ge 17, 3) := by decide +kernel
theorem dX11_look_17 : decode cX11_look 17 = .ok (.iload_n 2, 1) := by decide +kernel
theorem dX11_look_18 : decode cX11_look 18 = .ok (.iload_n 1, 1) := by decide +kernel
theorem dX11_look_19 : decode cX11_look 19 = .ok (.iload_n 3, 1) := by decide +kernel
theorem dX11_look_20 : decode cX11_look 20 = .ok (.ishr, 1) := by decide +kernel
theorem dX11_look_21 : decode cX11_look 21 = .ok (.iconst 1, 1) := by decide +kernel
theorem dX11_look_22 : decode cX11_look 22 = .ok (.iand, 1) := by decide +kernel
theorem dX11_look_23 : decode cX11_look 23 = .ok (.iadd, 1) := by decide +kernel
theorem dX11_look_24 : decode cX11_look 24 = .ok (.istore_n 2, 1) := by decide +kernel
theorem dX11_look_25 : decode cX11_look 25 = .ok (.iinc 3 1, 3) := by decide +kernel
theorem dX11_look_28 : decode cX11_look 28 = .ok (.goto (-19), 3) := by decide +kernel
theorem dX11_look_31 : decode cX11_look 31 = .ok (.bipush (-9), 2) := by decide +kernel
theorem dX11_look_33 : decode cX11_look 33 = .ok (.istore_n 3, 1) := by decide +kernel
theorem dX11_look_34 : decode cX11_look 34 = .ok (.iload_n 2, 1) := by decide +kernel
theorem dX11_look_35 : decode cX11_look 35 = .ok (.istore 4, 2) := by decide +kernel
theorem dX11_look_37 : decode cX11_look 37 = .ok (.iconst 0, 1) := by decide +kernel
theorem dX11_look_38 : decode cX11_look 38 = .ok (.istore 5, 2) := by decide +kernel
theorem dX11_look_40 : decode cX11_look 40 = .ok (.iload 5, 2) := by decide +kernel
theorem dX11_look_42 : decode cX11_look 42 = .ok (.bipush 26, 2) := by decide +kernel
theorem dX11_look_44 : decode cX11_look 44 = .ok (.if_icmp .ge 113, 3) := by decide +kernel
theorem dX11_look_47 : decode cX11_look 47 = .ok (.iconst 0, 1) := by decide +kernel
theorem dX11_look_48 : decode cX11_look 48 = .ok (.istore 6, 2) := by decide +kernel
theorem dX11_look_50 : decode cX11_look 50 = .ok (.iconst 0, 1) := by decide +kernel
theorem dX11_look_51 : decode cX11_look 51 = .ok (.istore 7, 2) := by decide +kernel
theorem dX11_look_53 : decode cX11_look 53 = .ok (.iload 7, 2) := by decide +kernel
theorem dX11_look_55 : decode cX11_look 55 = .ok (.aload_n 0, 1) := by decide +kernel
theorem dX11_look_56 : decode cX11_look 56 = .ok (.getfield 68, 3) := by decide +kernel
theorem dX11_look_59 : decode cX11_look 59 = .ok (.if_icmp .ge 42, 3) := by decide +kernel
theorem dX11_look_62 : decode cX11_look 62 = .ok (.iload 6, 2) := by decide +kernel
theorem dX11_look_64 : decode cX11_look 64 = .ok (.iload_n 1, 1) := by decide +kernel
theorem dX11_look_65 : decode cX11_look 65 = .ok (.iload 7, 2) := by decide +kernel
theorem dX11_look_67 : decode cX11_look 67 = .ok (.invokestatic 142, 3) := by decide +kernel
theorem dX11_look_70 : decode cX11_look 70 = .ok (.ifCond .eq 21, 3) := by decide +kernel
theorem dX11_look_73 : decode cX11_look 73 = .ok (.aload_n 0, 1) := by decide +kernel
theorem dX11_look_74 : decode cX11_look 74 = .ok (.iload 7, 2) := by decide +kernel
theorem dX11_look_76 : decode cX11_look 76 = .ok (.invokevirtual 183, 3) := by decide +kernel
theorem dX11_look_79 : decode cX11_look 79 = .ok (.iload 5, 2) := by decide +kernel
theorem dX11_look_81 : decode cX11_look 81 = .ok (.invokestatic 142, 3) := by decide +kernel
theorem dX11_look_84 : decode cX11_look 84 = .ok (.ifCond .eq 7, 3) := by decide +kernel
theorem dX11_look_87 : decode cX11_look 87 = .ok (.iconst 1, 1) := by decide +kernel
theorem dX11_look_88 : decode cX11_look 88 = .ok (.goto 4, 3) := by decide +kernel
theorem dX11_look_91 : decode cX11_look 91 = .ok (.iconst 0, 1) := by decide +kernel
theorem dX11_look_92 : decode cX11_look 92 = .ok (.iadd, 1) := by decide +kernel
theorem dX11_look_93 : decode cX11_look 93 = .ok (.istore 6, 2) := by decide +kernel
theorem dX11_look_95 : decode cX11_look 95 = .ok (.iinc 7 1, 3) := by decide +kernel
theorem dX11_look_98 : decode cX11_look 98 = .ok (.goto (-45), 3) := by decide +kernel
theorem dX11_look_101 : decode cX11_look 101 = .ok (.iload 6, 2) := by decide +kernel
theorem dX11_look_103 : decode cX11_look 103 = .ok (.iload_n 2, 1) := by decide +kernel
theorem dX11_look_104 : decode cX11_look 104 = .ok (.iload 6, 2) := by decide +kernel
theorem dX11_look_106 : decode cX11_look 106 = .ok (.isub, 1) := by decide +kernel
theorem dX11_look_107 : decode cX11_look 107 = .ok (.if_icmp .le 8, 3) := by decide +kernel
theorem dX11_look_110 : decode cX11_look 110 = .ok (.iload 6, 2) := by decide +kernel
theorem dX11_look_112 : decode cX11_look 112 = .ok (.goto 7, 3) := by decide +kernel
theorem dX11_look_115 : decode cX11_look 115 = .ok (.iload_n 2, 1) := by decide +kernel
theorem dX11_look_116 : decode cX11_look 116 = .ok (.iload 6, 2) := by decide +kernel
theorem dX11_look_118 : decode cX11_look 118 = .ok (.isub, 1) := by decide +kernel
theorem dX11_look_119 : decode cX11_look 119 = .ok (.istore 7, 2) := by decide +kernel
theorem dX11_look_121 : decode cX11_look 121 = .ok (.iload 7, 2) := by decide +kernel
theorem dX11_look_123 : decode cX11_look 123 = .ok (.iload 4, 2) := by decide +kernel
theorem dX11_look_125 : decode cX11_look 125 = .ok (.if_icmp .ge 8, 3) := by decide +kernel
theorem dX11_look_128 : decode cX11_look 128 = .ok (.iload 5, 2) := by decide +kernel
theorem dX11_look_130 : decode cX11_look 130 = .ok (.goto 4, 3) := by decide +kernel
theorem dX11_look_133 : decode cX11_look 133 = .ok (.iload_n 3, 1) := by decide +kernel
theorem dX11_look_134 : decode cX11_look 134 = .ok (.istore_n 3, 1) := by decide +kernel
theorem dX11_look_135 : decode cX11_look 135 = .ok (.iload 7, 2) := by decide +kernel
theorem dX11_look_137 : decode cX11_look 137 = .ok (.iload 4, 2) := by decide +kernel
theorem dX11_look_139 : decode cX11_look 139 = .ok (.if_icmp .ge 8, 3) := by decide +kernel
theorem dX11_look_142 : decode cX11_look 142 = .ok (.iload 7, 2) := by decide +kernel
theorem dX11_look_144 : decode cX11_look 144 = .ok (.goto 5, 3) := by decide +kernel
theorem dX11_look_147 : decode cX11_look 147 = .ok (.iload 4, 2) := by decide +kernel
theorem dX11_look_149 : decode cX11_look 149 = .ok (.istore 4, 2) := by decide +kernel
theorem dX11_look_151 : decode cX11_look 151 = .ok (.iinc 5 1, 3) := by decide +kernel
theorem dX11_look_154 : decode cX11_look 154 = .ok (.goto (-114), 3) := by decide +kernel
theorem dX11_look_157 : decode cX11_look 157 = .ok (.iload_n 3, 1) := by decide +kernel
theorem dX11_look_158 : decode cX11_look 158 = .ok (.ireturn, 1) := by decide +kernel
theorem dX11_marked_0 : decode cX11_marked 0 = .ok (.aload_n 0, 1) := by decide +kernel
theorem dX11_marked_1 : decode cX11_marked 1 = .ok (.iload_n 2, 1) := by decide +kernel
theorem dX11_marked_2 : decode cX11_marked 2 = .ok (.invokevirtual 271, 3) := by decide +kernel
theorem dX11_marked_5 : decode cX11_marked 5 = .ok (.istore_n 3, 1) := by decide +kernel
theorem dX11_marked_6 : decode cX11_marked 6 = .ok (.aload_n 0, 1) := by decide +kernel
theorem dX11_marked_7 : decode cX11_marked 7 = .ok (.dup, 1) := by decide +kernel
theorem dX11_marked_8 : decode cX11_marked 8 = .ok (.getfield 274, 3) := by decide +kernel
theorem dX11_marked_11 : decode cX11_marked 11 = .ok (.lconst 1, 1) := by decide +kernel
theorem dX11_marked_12 : decode cX11_marked 12 = .ok (.ladd, 1) := by decide +kernel
theorem dX11_marked_13 : decode cX11_marked 13 = .ok (.putfield 274, 3) := by decide +kernel
theorem dX11_marked_16 : decode cX11_marked 16 = .ok (.iload_n 1, 1) := by decide +kernel
theorem dX11_marked_17 : decode cX11_marked 17 = .ok (.iconst 1, 1) := by decide +kernel
theorem dX11_marked_18 : decode cX11_marked 18 = .ok (.if_icmp .eq 8, 3) := by decide +kernel
theorem dX11_marked_21 : decode cX11_marked 21 = .ok (.iload_n 1, 1) := by decide +kernel
theorem dX11_marked_22 : decode cX11_marked 22 = .ok (.iconst 3, 1) := by decide +kernel
theorem dX11_marked_23 : decode cX11_marked 23 = .ok (.if_icmp .ne 35, 3) := by decide +kernel
theorem dX11_marked_26 : decode cX11_marked 26 = .ok (.iload_n 3, 1) := by decide +kernel
theorem dX11_marked_27 : decode cX11_marked 27 = .ok (.aload_n 0, 1) := by decide +kernel
theorem dX11_marked_28 : decode cX11_marked 28 = .ok (.getfield 133, 3) := by decide +kernel
theorem dX11_marked_31 : decode cX11_marked 31 = .ok (.iload_n 2, 1) := by decide +kernel
theorem dX11_marked_32 : decode cX11_marked 32 = .ok (.invokestatic 142, 3) := by decide +kernel
theorem dX11_marked_35 : decode cX11_marked 35 = .ok (.ifCond .eq 8, 3) := by decide +kernel
theorem dX11_marked_38 : decode cX11_marked 38 = .ok (.bipush 10, 2) := by decide +kernel
theorem dX11_marked_40 : decode cX11_marked 40 = .ok (.goto 4, 3) := by decide +kernel
theorem dX11_marked_43 : decode cX11_marked 43 = .ok (.iconst 0, 1) := by decide +kernel
theorem dX11_marked_44 : decode cX11_marked 44 = .ok (.iadd, 1) := by decide +kernel
theorem dX11_marked_45 : decode cX11_marked 45 = .ok (.istore_n 3, 1) := by decide +kernel
theorem dX11_marked_46 : decode cX11_marked 46 = .ok (.aload_n 0, 1) := by decide +kernel
theorem dX11_marked_47 : decode cX11_marked 47 = .ok (.dup, 1) := by decide +kernel
theorem dX11_marked_48 : decode cX11_marked 48 = .ok (.getfield 274, 3) := by decide +kernel
theorem dX11_marked_51 : decode cX11_marked 51 = .ok (.ldc2_w 278, 3) := by decide +kernel
theorem dX11_marked_54 : decode cX11_marked 54 = .ok (.ladd, 1) := by decide +kernel
theorem dX11_marked_55 : decode cX11_marked 55 = .ok (.putfield 274, 3) := by decide +kernel
theorem dX11_marked_58 : decode cX11_marked 58 = .ok (.iload_n 1, 1) := by decide +kernel
theorem dX11_marked_59 : decode cX11_marked 59 = .ok (.iconst 2, 1) := by decide +kernel
theorem dX11_marked_60 : decode cX11_marked 60 = .ok (.if_icmp .eq 8, 3) := by decide +kernel
theorem dX11_marked_63 : decode cX11_marked 63 = .ok (.iload_n 1, 1) := by decide +kernel
theorem dX11_marked_64 : decode cX11_marked 64 = .ok (.iconst 4, 1) := by decide +kernel
theorem dX11_marked_65 : decode cX11_marked 65 = .ok (.if_icmp .ne 22, 3) := by decide +kernel
theorem dX11_marked_68 : decode cX11_marked 68 = .ok (.iload_n 3, 1) := by decide +kernel
theorem dX11_marked_69 : decode cX11_marked 69 = .ok (.aload_n 0, 1) := by decide +kernel
theorem dX11_marked_70 : decode cX11_marked 70 = .ok (.getfield 75, 3) := by decide +kernel
theorem dX11_marked_73 : decode cX11_marked 73 = .ok (.isub, 1) := by decide +kernel
theorem dX11_marked_74 : decode cX11_marked 74 = .ok (.istore_n 3, 1) := by decide +kernel
theorem dX11_marked_75 : decode cX11_marked 75 = .ok (.aload_n 0, 1) := by decide +kernel
theorem dX11_marked_76 : decode cX11_marked 76 = .ok (.dup, 1) := by decide +kernel
theorem dX11_marked_77 : decode cX11_marked 77 = .ok (.getfield 274, 3) := by decide +kernel
theorem dX11_marked_80 : decode cX11_marked 80 = .ok (.ldc2_w 280, 3) := by decide +kernel
theorem dX11_marked_83 : decode cX11_marked 83 = .ok (.ladd, 1) := by decide +kernel
theorem dX11_marked_84 : decode cX11_marked 84 = .ok (.putfield 274, 3) := by decide +kernel
theorem dX11_marked_87 : decode cX11_marked 87 = .ok (.iload_n 1, 1) := by decide +kernel
theorem dX11_marked_88 : decode cX11_marked 88 = .ok (.iconst 3, 1) := by decide +kernel
theorem dX11_marked_89 : decode cX11_marked 89 = .ok (.if_icmp .ne 19, 3) := by decide +kernel
theorem dX11_marked_92 : decode cX11_marked 92 = .ok (.iload_n 3, 1) := by decide +kernel
theorem dX11_marked_93 : decode cX11_marked 93 = .ok (.iconst 2, 1) := by decide +kernel
theorem dX11_marked_94 : decode cX11_marked 94 = .ok (.imul, 1) := by decide +kernel
theorem dX11_marked_95 : decode cX11_marked 95 = .ok (.istore_n 3, 1) := by decide +kernel
theorem dX11_marked_96 : decode cX11_marked 96 = .ok (.aload_n 0, 1) := by decide +kernel
theorem dX11_marked_97 : decode cX11_marked 97 = .ok (.dup, 1) := by decide +kernel
theorem dX11_marked_98 : decode cX11_marked 98 = .ok (.getfield 274, 3) := by decide +kernel
theorem dX11_marked_101 : decode cX11_marked 101 = .ok (.ldc2_w 282, 3) := by decide +kernel
theorem dX11_marked_104 : decode cX11_marked 104 = .ok (.ladd, 1) := by decide +kernel
theorem dX11_marked_105 : decode cX11_marked 105 = .ok (.putfield 274, 3) := by decide +kernel
theorem dX11_marked_108 : decode cX11_marked 108 = .ok (.iload_n 1, 1) := by decide +kernel
theorem dX11_marked_109 : decode cX11_marked 109 = .ok (.iconst 4, 1) := by decide +kernel
theorem dX11_marked_110 : decode cX11_marked 110 = .ok (.if_icmp .ne 19, 3) := by decide +kernel
theorem dX11_marked_113 : decode cX11_marked 113 = .ok (.iload_n 3, 1) := by decide +kernel
theorem dX11_marked_114 : decode cX11_marked 114 = .ok (.iload_n 2, 1) := by decide +kernel
theorem dX11_marked_115 : decode cX11_marked 115 = .ok (.iadd, 1) := by decide +kernel
theorem dX11_marked_116 : decode cX11_marked 116 = .ok (.istore_n 3, 1) := by decide +kernel
theorem dX11_marked_117 : decode cX11_marked 117 = .ok (.aload_n 0, 1) := by decide +kernel
theorem dX11_marked_118 : decode cX11_marked 118 = .ok (.dup, 1) := by decide +kernel
theorem dX11_marked_119 : decode cX11_marked 119 = .ok (.getfield 274, 3) := by decide +kernel
theorem dX11_marked_122 : decode cX11_marked 122 = .ok (.ldc2_w 284, 3) := by decide +kernel
theorem dX11_marked_125 : decode cX11_marked 125 = .ok (.ladd, 1) := by decide +kernel
theorem dX11_marked_126 : decode cX11_marked 126 = .ok (.putfield 274, 3) := by decide +kernel
theorem dX11_marked_129 : decode cX11_marked 129 = .ok (.iload_n 1, 1) := by decide +kernel
theorem dX11_marked_130 : decode cX11_marked 130 = .ok (.iconst 5, 1) := by decide +kernel
theorem dX11_marked_131 : decode cX11_marked 131 = .ok (.if_icmp .ne 22, 3) := by decide +kernel
theorem dX11_marked_134 : decode cX11_marked 134 = .ok (.iload_n 3, 1) := by decide +kernel
theorem dX11_marked_135 : decode cX11_marked 135 = .ok (.aload_n 0, 1) := by decide +kernel
theorem dX11_marked_136 : decode cX11_marked 136 = .ok (.invokevirtual 252, 3) := by decide +kernel
theorem dX11_marked_139 : decode cX11_marked 139 = .ok (.iadd, 1) := by decide +kernel
theorem dX11_marked_140 : decode cX11_marked 140 = .ok (.istore_n 3, 1) := by decide +kernel
theorem dX11_marked_141 : decode cX11_marked 141 = .ok (.aload_n 0, 1) := by decide +kernel
theorem dX11_marked_142 : decode cX11_marked 142 = .ok (.dup, 1) := by decide +kernel
theorem dX11_marked_143 : decode cX11_marked 143 = .ok (.getfield 274, 3) := by decide +kernel
theorem dX11_marked_146 : decode cX11_marked 146 = .ok (.ldc2_w 286, 3) := by decide +kernel
theorem dX11_marked_149 : decode cX11_marked 149 = .ok (.ladd, 1) := by decide +kernel
theorem dX11_marked_150 : decode cX11_marked 150 = .ok (.putfield 274, 3) := by decide +kernel
theorem dX11_marked_153 : decode cX11_marked 153 = .ok (.iload_n 3, 1) := by decide +kernel
theorem dX11_marked_154 : decode cX11_marked 154 = .ok (.ireturn, 1) := by decide +kernel
theorem dX11_mark_0 : decode cX11_mark 0 = .ok (.iload_n 1, 1) := by decide +kernel
theorem dX11_mark_1 : decode cX11_mark 1 = .ok (.iconst 0, 1) := by decide +kernel
theorem dX11_mark_2 : decode cX11_mark 2 = .ok (.iconst 5, 1) := by decide +kernel
theorem dX11_mark_3 : decode cX11_mark 3 = .ok (.invokestatic 71, 3) := by decide +kernel
theorem dX11_mark_6 : decode cX11_mark 6 = .ok (.ifCond .eq 20, 3) := by decide +kernel
theorem dX11_mark_9 : decode cX11_mark 9 = .ok (.aload_n 0, 1) := by decide +kernel
theorem dX11_mark_10 : decode cX11_mark 10 = .ok (.iload_n 2, 1) := by decide +kernel
theorem dX11_mark_11 : decode cX11_mark 11 = .ok (.invokevirtual 176, 3) := by decide +kernel
theorem dX11_mark_14 : decode cX11_mark 14 = .ok (.ifCond .eq 12, 3) := by decide +kernel
theorem dX11_mark_17 : decode cX11_mark 17 = .ok (.aload_n 0, 1) := by decide +kernel
theorem dX11_mark_18 : decode cX11_mark 18 = .ok (.iload_n 1, 1) := by decide +kernel
theorem dX11_mark_19 : decode cX11_mark 19 = .ok (.iload_n 2, 1) := by decide +kernel
theorem dX11_mark_20 : decode cX11_mark 20 = .ok (.invokevirtual 288, 3) := by decide +kernel
theorem dX11_mark_23 : decode cX11_mark 23 = .ok (.goto 6, 3) := by decide +kernel
theorem dX11_mark_26 : decode cX11_mark 26 = .ok (.ldc_w 291, 3) := by decide +kernel
theorem dX11_mark_29 : decode cX11_mark 29 = .ok (.ireturn, 1) := by decide +kernel
theorem dX11_keep_0 : decode cX11_keep 0 = .ok (.iload_n 1, 1) := by decide +kernel
theorem dX11_keep_1 : decode cX11_keep 1 = .ok (.iconst 0, 1) := by decide +kernel
theorem dX11_keep_2 : decode cX11_keep 2 = .ok (.iconst 1, 1) := by decide +kernel
theorem dX11_keep_3 : decode cX11_keep 3 = .ok (.invokestatic 71, 3) := by decide +kernel
theorem dX11_keep_6 : decode cX11_keep 6 = .ok (.ifCond .ne 5, 3) := by decide +kernel
theorem dX11_keep_9 : decode cX11_keep 9 = .ok (.iconst (-1), 1) := by decide +kernel
theorem dX11_keep_10 : decode cX11_keep 10 = .ok (.ireturn, 1) := by decide +kernel
theorem dX11_keep_11 : decode cX11_keep 11 = .ok (.bipush 90, 2) := by decide +kernel
theorem dX11_keep_13 : decode cX11_keep 13 = .ok (.iload_n 1, 1) := by decide +kernel
theorem dX11_keep_14 : decode cX11_keep 14 = .ok (.imul, 1) := by decide +kernel
theorem dX11_keep_15 : decode cX11_keep 15 = .ok (.istore_n 2, 1) := by decide +kernel
theorem dX11_keep_16 : decode cX11_keep 16 = .ok (.aload_n 0, 1) := by decide +kernel
theorem dX11_keep_17 : decode cX11_keep 17 = .ok (.getfield 65, 3) := by decide +kernel
theorem dX11_keep_20 : decode cX11_keep 20 = .ok (.iload_n 2, 1) := by decide +kernel
theorem dX11_keep_21 : decode cX11_keep 21 = .ok (.iconst 1, 1) := by decide +kernel
theorem dX11_keep_22 : decode cX11_keep 22 = .ok (.iastore, 1) := by decide +kernel
theorem dX11_keep_23 : decode cX11_keep 23 = .ok (.aload_n 0, 1) := by decide +kernel
theorem dX11_keep_24 : decode cX11_keep 24 = .ok (.getfield 65, 3) := by decide +kernel
theorem dX11_keep_27 : decode cX11_keep 27 = .ok (.iload_n 2, 1) := by decide +kernel
theorem dX11_keep_28 : decode cX11_keep 28 = .ok (.iconst 1, 1) := by decide +kernel
theorem dX11_keep_29 : decode cX11_keep 29 = .ok (.iadd, 1) := by decide +kernel
theorem dX11_keep_30 : decode cX11_keep 30 = .ok (.aload_n 0, 1) := by decide +kernel
theorem dX11_keep_31 : decode cX11_keep 31 = .ok (.getfield 139, 3) := by decide +kernel
theorem dX11_keep_34 : decode cX11_keep 34 = .ok (.iastore, 1) := by decide +kernel
theorem dX11_keep_35 : decode cX11_keep 35 = .ok (.aload_n 0, 1) := by decide +kernel
theorem dX11_keep_36 : decode cX11_keep 36 = .ok (.aload_n 0, 1) := by decide +kernel
theorem dX11_keep_37 : decode cX11_keep 37 = .ok (.getfield 65, 3) := by decide +kernel
theorem dX11_keep_40 : decode cX11_keep 40 = .ok (.iload_n 2, 1) := by decide +kernel
theorem dX11_keep_41 : decode cX11_keep 41 = .ok (.iconst 2, 1) := by decide +kernel
theorem dX11_keep_42 : decode cX11_keep 42 = .ok (.iadd, 1) := by decide +kernel
theorem dX11_keep_43 : decode cX11_keep 43 = .ok (.invokevirtual 195, 3) := by decide +kernel
theorem dX11_keep_46 : decode cX11_keep 46 = .ok (.iconst 0, 1) := by decide +kernel
theorem dX11_keep_47 : decode cX11_keep 47 = .ok (.istore_n 3, 1) := by decide +kernel
theorem dX11_keep_48 : decode cX11_keep 48 = .ok (.iload_n 3, 1) := by decide +kernel
theorem dX11_keep_49 : decode cX11_keep 49 = .ok (.bipush 80, 2) := by decide +kernel
theorem dX11_keep_51 : decode cX11_keep 51 = .ok (.if_icmp .ge 26, 3) := by decide +kernel
theorem dX11_keep_54 : decode cX11_keep 54 = .ok (.aload_n 0, 1) := by decide +kernel
theorem dX11_keep_55 : decode cX11_keep 55 = .ok (.getfield 65, 3) := by decide +kernel
theorem dX11_keep_58 : decode cX11_keep 58 = .ok (.iload_n 2, 1) := by decide +kernel
theorem dX11_keep_59 : decode cX11_keep 59 = .ok (.bipush 10, 2) := by decide +kernel
theorem dX11_keep_61 : decode cX11_keep 61 = .ok (.iadd, 1) := by decide +kernel
theorem dX11_keep_62 : decode cX11_keep 62 = .ok (.iload_n 3, 1) := by decide +kernel
theorem dX11_keep_63 : decode cX11_keep 63 = .ok (.iadd, 1) := by decide +kernel
theorem dX11_keep_64 : decode cX11_keep 64 = .ok (.aload_n 0, 1) := by decide +kernel
theorem dX11_keep_65 : decode cX11_keep 65 = .ok (.getfield 53, 3) := by decide +kernel
theorem dX11_keep_68 : decode cX11_keep 68 = .ok (.iload_n 3, 1) := by decide +kernel
theorem dX11_keep_69 : decode cX11_keep 69 = .ok (.iaload, 1) := by decide +kernel
theorem dX11_keep_70 : decode cX11_keep 70 = .ok (.iastore, 1) := by decide +kernel
theorem dX11_keep_71 : decode cX11_keep 71 = .ok (.iinc 3 1, 3) := by decide +kernel
theorem dX11_keep_74 : decode cX11_keep 74 = .ok (.goto (-26), 3) := by decide +kernel
theorem dX11_keep_77 : decode cX11_keep 77 = .ok (.aload_n 0, 1) := by decide +kernel
theorem dX11_keep_78 : decode cX11_keep 78 = .ok (.getfield 75, 3) := by decide +kernel
theorem dX11_keep_81 : decode cX11_keep 81 = .ok (.ireturn, 1) := by decide +kernel
theorem dX11_back_0 : decode cX11_back 0 = .ok (.iload_n 1, 1) := by decide +kernel
theorem dX11_back_1 : decode cX11_back 1 = .ok (.iconst 0, 1) := by decide +kernel
theorem dX11_back_2 : decode cX11_back 2 = .ok (.iconst 1, 1) := by decide +kernel
theorem dX11_back_3 : decode cX11_back 3 = .ok (.invokestatic 71, 3) := by decide +kernel
theorem dX11_back_6 : decode cX11_back 6 = .ok (.ifCond .ne 5, 3) := by decide +kernel
theorem dX11_back_9 : decode cX11_back 9 = .ok (.iconst (-1), 1) := by decide +kernel
theorem dX11_back_10 : decode cX11_back 10 = .ok (.ireturn, 1) := by decide +kernel
theorem dX11_back_11 : decode cX11_back 11 = .ok (.bipush 90, 2) := by decide +kernel
theorem dX11_back_13 : decode cX11_back 13 = .ok (.iload_n 1, 1) := by decide +kernel
theorem dX11_back_14 : decode cX11_back 14 = .ok (.imul, 1) := by decide +kernel
theorem dX11_back_15 : decode cX11_back 15 = .ok (.istore_n 2, 1) := by decide +kernel
theorem dX11_back_16 : decode cX11_back 16 = .ok (.aload_n 0, 1) := by decide +kernel
theorem dX11_back_17 : decode cX11_back 17 = .ok (.getfield 65, 3) := by decide +kernel
theorem dX11_back_20 : decode cX11_back 20 = .ok (.iload_n 2, 1) := by decide +kernel
theorem dX11_back_21 : decode cX11_back 21 = .ok (.iaload, 1) := by decide +kernel
theorem dX11_back_22 : decode cX11_back 22 = .ok (.ifCond .ne 6, 3) := by decide +kernel
theorem dX11_back_25 : decode cX11_back 25 = .ok (.bipush (-2), 2) := by decide +kernel
theorem dX11_back_27 : decode cX11_back 27 = .ok (.ireturn, 1) := by decide +kernel
theorem dX11_back_28 : decode cX11_back 28 = .ok (.aload_n 0, 1) := by decide +kernel
theorem dX11_back_29 : decode cX11_back 29 = .ok (.aload_n 0, 1) := by decide +kernel
theorem dX11_back_30 : decode cX11_back 30 = .ok (.getfield 65, 3) := by decide +kernel
theorem dX11_back_33 : decode cX11_back 33 = .ok (.iload_n 2, 1) := by decide +kernel
theorem dX11_back_34 : decode cX11_back 34 = .ok (.iconst 1, 1) := by decide +kernel
theorem dX11_back_35 : decode cX11_back 35 = .ok (.iadd, 1) := by decide +kernel
theorem dX11_back_36 : decode cX11_back 36 = .ok (.iaload, 1) := by decide +kernel
theorem dX11_back_37 : decode cX11_back 37 = .ok (.putfield 139, 3) := by decide +kernel
theorem dX11_back_40 : decode cX11_back 40 = .ok (.aload_n 0, 1) := by decide +kernel
theorem dX11_back_41 : decode cX11_back 41 = .ok (.aload_n 0, 1) := by decide +kernel
theorem dX11_back_42 : decode cX11_back 42 = .ok (.getfield 65, 3) := by decide +kernel
theorem dX11_back_45 : decode cX11_back 45 = .ok (.iload_n 2, 1) := by decide +kernel
theorem dX11_back_46 : decode cX11_back 46 = .ok (.iconst 2, 1) := by decide +kernel
theorem dX11_back_47 : decode cX11_back 47 = .ok (.iadd, 1) := by decide +kernel
theorem dX11_back_48 : decode cX11_back 48 = .ok (.invokevirtual 209, 3) := by decide +kernel
theorem dX11_back_51 : decode cX11_back 51 = .ok (.iconst 0, 1) := by decide +kernel
theorem dX11_back_52 : decode cX11_back 52 = .ok (.istore_n 3, 1) := by decide +kernel
theorem dX11_back_53 : decode cX11_back 53 = .ok (.iload_n 3, 1) := by decide +kernel
theorem dX11_back_54 : decode cX11_back 54 = .ok (.bipush 80, 2) := by decide +kernel
theorem dX11_back_56 : decode cX11_back 56 = .ok (.if_icmp .ge 26, 3) := by decide +kernel
theorem dX11_back_59 : decode cX11_back 59 = .ok (.aload_n 0, 1) := by decide +kernel
theorem dX11_back_60 : decode cX11_back 60 = .ok (.getfield 53, 3) := by decide +kernel
theorem dX11_back_63 : decode cX11_back 63 = .ok (.iload_n 3, 1) := by decide +kernel
theorem dX11_back_64 : decode cX11_back 64 = .ok (.aload_n 0, 1) := by decide +kernel
theorem dX11_back_65 : decode cX11_back 65 = .ok (.getfield 65, 3) := by decide +kernel
theorem dX11_back_68 : decode cX11_back 68 = .ok (.iload_n 2, 1) := by decide +kernel
theorem dX11_back_69 : decode cX11_back 69 = .ok (.bipush 10, 2) := by decide +kernel
theorem dX11_back_71 : decode cX11_back 71 = .ok (.iadd, 1) := by decide +kernel
theorem dX11_back_72 : decode cX11_back 72 = .ok (.iload_n 3, 1) := by decide +kernel
theorem dX11_back_73 : decode cX11_back 73 = .ok (.iadd, 1) := by decide +kernel
theorem dX11_back_74 : decode cX11_back 74 = .ok (.iaload, 1) := by decide +kernel
theorem dX11_back_75 : decode cX11_back 75 = .ok (.iastore, 1) := by decide +kernel
theorem dX11_back_76 : decode cX11_back 76 = .ok (.iinc 3 1, 3) := by decide +kernel
theorem dX11_back_79 : decode cX11_back 79 = .ok (.goto (-26), 3) := by decide +kernel
theorem dX11_back_82 : decode cX11_back 82 = .ok (.aload_n 0, 1) := by decide +kernel
theorem dX11_back_83 : decode cX11_back 83 = .ok (.getfield 75, 3) := by decide +kernel
theorem dX11_back_86 : decode cX11_back 86 = .ok (.ireturn, 1) := by decide +kernel
theorem dX11_count_0 : decode cX11_count 0 = .ok (.iload_n 1, 1) := by decide +kernel
theorem dX11_count_1 : decode cX11_count 1 = .ok (.iconst 0, 1) := by decide +kernel
theorem dX11_count_2 : decode cX11_count 2 = .ok (.iconst 5, 1) := by decide +kernel
theorem dX11_count_3 : decode cX11_count 3 = .ok (.invokestatic 71, 3) := by decide +kernel
theorem dX11_count_6 : decode cX11_count 6 = .ok (.ifCond .ne 5, 3) := by decide +kernel
theorem dX11_count_9 : decode cX11_count 9 = .ok (.iconst (-1), 1) := by decide +kernel
theorem dX11_count_10 : decode cX11_count 10 = .ok (.ireturn, 1) := by decide +kernel
theorem dX11_count_11 : decode cX11_count 11 = .ok (.iload_n 1, 1) := by decide +kernel
theorem dX11_count_12 : decode cX11_count 12 = .ok (.ifCond .ne 10, 3) := by decide +kernel
theorem dX11_count_15 : decode cX11_count 15 = .ok (.aload_n 0, 1) := by decide +kernel
theorem dX11_count_16 : decode cX11_count 16 = .ok (.getfield 7, 3) := by decide +kernel
theorem dX11_count_19 : decode cX11_count 19 = .ok (.goto 55, 3) := by decide +kernel
theorem dX11_count_22 : decode cX11_count 22 = .ok (.iload_n 1, 1) := by decide +kernel
theorem dX11_count_23 : decode cX11_count 23 = .ok (.iconst 1, 1) := by decide +kernel
theorem dX11_count_24 : decode cX11_count 24 = .ok (.if_icmp .ne 10, 3) := by decide +kernel
theorem dX11_count_27 : decode cX11_count 27 = .ok (.aload_n 0, 1) := by decide +kernel
theorem dX11_count_28 : decode cX11_count 28 = .ok (.getfield 68, 3) := by decide +kernel
theorem dX11_count_31 : decode cX11_count 31 = .ok (.goto 43, 3) := by decide +kernel
theorem dX11_count_34 : decode cX11_count 34 = .ok (.iload_n 1, 1) := by decide +kernel
theorem dX11_count_35 : decode cX11_count 35 = .ok (.iconst 2, 1) := by decide +kernel
theorem dX11_count_36 : decode cX11_count 36 = .ok (.if_icmp .ne 10, 3) := by decide +kernel
theorem dX11_count_39 : decode cX11_count 39 = .ok (.aload_n 0, 1) := by decide +kernel
theorem dX11_count_40 : decode cX11_count 40 = .ok (.getfield 130, 3) := by decide +kernel
theorem dX11_count_43 : decode cX11_count 43 = .ok (.goto 31, 3) := by decide +kernel
theorem dX11_count_46 : decode cX11_count 46 = .ok (.iload_n 1, 1) := by decide +kernel
theorem dX11_count_47 : decode cX11_count 47 = .ok (.iconst 3, 1) := by decide +kernel
theorem dX11_count_48 : decode cX11_count 48 = .ok (.if_icmp .ne 10, 3) := by decide +kernel
theorem dX11_count_51 : decode cX11_count 51 = .ok (.aload_n 0, 1) := by decide +kernel
theorem dX11_count_52 : decode cX11_count 52 = .ok (.getfield 136, 3) := by decide +kernel
theorem dX11_count_55 : decode cX11_count 55 = .ok (.goto 19, 3) := by decide +kernel
theorem dX11_count_58 : decode cX11_count 58 = .ok (.iload_n 1, 1) := by decide +kernel
theorem dX11_count_59 : decode cX11_count 59 = .ok (.iconst 4, 1) := by decide +kernel
theorem dX11_count_60 : decode cX11_count 60 = .ok (.if_icmp .ne 10, 3) := by decide +kernel
theorem dX11_count_63 : decode cX11_count 63 = .ok (.aload_n 0, 1) := by decide +kernel
theorem dX11_count_64 : decode cX11_count 64 = .ok (.getfield 139, 3) := by decide +kernel
theorem dX11_count_67 : decode cX11_count 67 = .ok (.goto 7, 3) := by decide +kernel
theorem dX11_count_70 : decode cX11_count 70 = .ok (.aload_n 0, 1) := by decide +kernel
theorem dX11_count_71 : decode cX11_count 71 = .ok (.getfield 78, 3) := by decide +kernel
theorem dX11_count_74 : decode cX11_count 74 = .ok (.ireturn, 1) := by decide +kernel
theorem dX11_trace_0 : decode cX11_trace 0 = .ok (.aload_n 0, 1) := by decide +kernel
theorem dX11_trace_1 : decode cX11_trace 1 = .ok (.getfield 274, 3) := by decide +kernel
theorem dX11_trace_4 : decode cX11_trace 4 = .ok (.lreturn, 1) := by decide +kernel
end
section
theorem dL_law_0 : decode cL_law 0 = .ok (.new 7, 3) := by decide +kernel
theorem dL_law_3 : decode cL_law 3 = .ok (.dup, 1) := by decide +kernel
theorem dL_law_4 : decode cL_law 4 = .ok (.invokespecial 9, 3) := by decide +kernel
theorem dL_law_7 : decode cL_law 7 = .ok (.astore_n 1, 1) := by decide +kernel
theorem dL_law_8 : decode cL_law 8 = .ok (.new 10, 3) := by decide +kernel
theorem dL_law_11 : decode cL_law 11 = .ok (.dup, 1) := by decide +kernel
theorem dL_law_12 : decode cL_law 12 = .ok (.invokespecial 12, 3) := by decide +kernel
theorem dL_law_15 : decode cL_law 15 = .ok (.astore_n 2, 1) := by decide +kernel
theorem dL_law_16 : decode cL_law 16 = .ok (.iconst 0, 1) := by decide +kernel
theorem dL_law_17 : decode cL_law 17 = .ok (.istore_n 3, 1) := by decide +kernel
theorem dL_law_18 : decode cL_law 18 = .ok (.iload_n 3, 1) := by decide +kernel
theorem dL_law_19 : decode cL_law 19 = .ok (.aload_n 0, 1) := by decide +kernel
theorem dL_law_20 : decode cL_law 20 = .ok (.arraylength, 1) := by decide +kernel
theorem dL_law_21 : decode cL_law 21 = .ok (.iconst 4, 1) := by decide +kernel
theorem dL_law_22 : decode cL_law 22 = .ok (.isub, 1) := by decide +kernel
theorem dL_law_23 : decode cL_law 23 = .ok (.if_icmp .gt 845, 3) := by decide +kernel
theorem dL_law_26 : decode cL_law 26 = .ok (.aload_n 0, 1) := by decide +kernel
theorem dL_law_27 : decode cL_law 27 = .ok (.iload_n 3, 1) := by decide +kernel
theorem dL_law_28 : decode cL_law 28 = .ok (.iaload, 1) := by decide +kernel
theorem dL_law_29 : decode cL_law 29 = .ok (.bipush 31, 2) := by decide +kernel
theorem dL_law_31 : decode cL_law 31 = .ok (.iand, 1) := by decide +kernel
theorem dL_law_32 : decode cL_law 32 = .ok (.tableswitch 830 0 28 #[132, 155, 168, 181, 214, 257, 280, 313, 346, 379, 402, 425, 448, 461, 484, 517, 550, 573, 596, 619, 642, 675, 688, 701, 714, 747, 770, 793, 816], 132) := by decide +kernel
theorem dL_law_164 : decode cL_law 164 = .ok (.aload_n 1, 1) := by decide +kernel
theorem dL_law_165 : decode cL_law 165 = .ok (.aload_n 0, 1) := by decide +kernel
theorem dL_law_166 : decode cL_law 166 = .ok (.iload_n 3, 1) := by decide +kernel
theorem dL_law_167 : decode cL_law 167 = .ok (.iconst 1, 1) := by decide +kernel
theorem dL_law_168 : decode cL_law 168 = .ok (.iadd, 1) := by decide +kernel
theorem dL_law_169 : decode cL_law 169 = .ok (.iaload, 1) := by decide +kernel
theorem dL_law_170 : decode cL_law 170 = .ok (.invokevirtual 13, 3) := by decide +kernel
theorem dL_law_173 : decode cL_law 173 = .ok (.aload_n 2, 1) := by decide +kernel
theorem dL_law_174 : decode cL_law 174 = .ok (.aload_n 0, 1) := by decide +kernel
theorem dL_law_175 : decode cL_law 175 = .ok (.iload_n 3, 1) := by decide +kernel
theorem dL_law_176 : decode cL_law 176 = .ok (.iconst 1, 1) := by decide +kernel
theorem dL_law_177 : decode cL_law 177 = .ok (.iadd, 1) := by decide +kernel
theorem dL_law_178 : decode cL_law 178 = .ok (.iaload, 1) := by decide +kernel
theorem dL_law_179 : decode cL_law 179 = .ok (.invokevirtual 17, 3) := by decide +kernel
theorem dL_law_182 : decode cL_law 182 = .ok (.if_icmp .eq 680, 3) := by decide +kernel
theorem dL_law_185 : decode cL_law 185 = .ok (.iconst 0, 1) := by decide +kernel
theorem dL_law_186 : decode cL_law 186 = .ok (.ireturn, 1) := by decide +kernel
theorem dL_law_187 : decode cL_law 187 = .ok (.aload_n 1, 1) := by decide +kernel
theorem dL_law_188 : decode cL_law 188 = .ok (.invokevirtual 18, 3) := by decide +kernel
theorem dL_law_191 : decode cL_law 191 = .ok (.aload_n 2, 1) := by decide +kernel
theorem dL_law_192 : decode cL_law 192 = .ok (.invokevirtual 22, 3) := by decide +kernel
theorem dL_law_195 : decode cL_law 195 = .ok (.if_icmp .eq 667, 3) := by decide +kernel
theorem dL_law_198 : decode cL_law 198 = .ok (.iconst 0, 1) := by decide +kernel
theorem dL_law_199 : decode cL_law 199 = .ok (.ireturn, 1) := by decide +kernel
theorem dL_law_200 : decode cL_law 200 = .ok (.aload_n 1, 1) := by decide +kernel
theorem dL_law_201 : decode cL_law 201 = .ok (.invokevirtual 23, 3) := by decide +kernel
theorem dL_law_204 : decode cL_law 204 = .ok (.aload_n 2, 1) := by decide +kernel
theorem dL_law_205 : decode cL_law 205 = .ok (.invokevirtual 26, 3) := by decide +kernel
theorem dL_law_208 : decode cL_law 208 = .ok (.if_icmp .eq 654, 3) := by decide +kernel
theorem dL_law_211 : decode cL_law 211 = .ok (.iconst 0, 1) := by decide +kernel
theorem dL_law_212 : decode cL_law 212 = .ok (.ireturn, 1) := by decide +kernel
theorem dL_law_213 : decode cL_law 213 = .ok (.aload_n 1, 1) := by decide +kernel
theorem dL_law_214 : decode cL_law 214 = .ok (.aload_n 0, 1) := by decide +kernel
theorem dL_law_215 : decode cL_law 215 = .ok (.iload_n 3, 1) := by decide +kernel
theorem dL_law_216 : decode cL_law 216 = .ok (.iconst 1, 1) := by decide +kernel
theorem dL_law_217 : decode cL_law 217 = .ok (.iadd, 1) := by decide +kernel
theorem dL_law_218 : decode cL_law 218 = .ok (.iaload, 1) := by decide +kernel
theorem dL_law_219 : decode cL_law 219 = .ok (.aload_n 0, 1) := by decide +kernel
theorem dL_law_220 : decode cL_law 220 = .ok (.iload_n 3, 1) := by decide +kernel
theorem dL_law_221 : decode cL_law 221 = .ok (.iconst 2, 1) := by decide +kernel
theorem dL_law_222 : decode cL_law 222 = .ok (.iadd, 1) := by decide +kernel
theorem dL_law_223 : decode cL_law 223 = .ok (.iaload, 1) := by decide +kernel
theorem dL_law_224 : decode cL_law 224 = .ok (.invokevirtual 27, 3) := by decide +kernel
theorem dL_law_227 : decode cL_law 227 = .ok (.aload_n 2, 1) := by decide +kernel
theorem dL_law_228 : decode cL_law 228 = .ok (.aload_n 0, 1) := by decide +kernel
theorem dL_law_229 : decode cL_law 229 = .ok (.iload_n 3, 1) := by decide +kernel
theorem dL_law_230 : decode cL_law 230 = .ok (.iconst 1, 1) := by decide +kernel
theorem dL_law_231 : decode cL_law 231 = .ok (.iadd, 1) := by decide +kernel
theorem dL_law_232 : decode cL_law 232 = .ok (.iaload, 1) := by decide +kernel
theorem dL_law_233 : decode cL_law 233 = .ok (.aload_n 0, 1) := by decide +kernel
theorem dL_law_234 : decode cL_law 234 = .ok (.iload_n 3, 1) := by decide +kernel
theorem dL_law_235 : decode cL_law 235 = .ok (.iconst 2, 1) := by decide +kernel
theorem dL_law_236 : decode cL_law 236 = .ok (.iadd, 1) := by decide +kernel
theorem dL_law_237 : decode cL_law 237 = .ok (.iaload, 1) := by decide +kernel
theorem dL_law_238 : decode cL_law 238 = .ok (.invokevirtual 31, 3) := by decide +kernel
theorem dL_law_241 : decode cL_law 241 = .ok (.if_icmp .eq 621, 3) := by decide +kernel
theorem dL_law_244 : decode cL_law 244 = .ok (.iconst 0, 1) := by decide +kernel
theorem dL_law_245 : decode cL_law 245 = .ok (.ireturn, 1) := by decide +kernel
theorem dL_law_246 : decode cL_law 246 = .ok (.aload_n 1, 1) := by decide +kernel
theorem dL_law_247 : decode cL_law 247 = .ok (.aload_n 0, 1) := by decide +kernel
theorem dL_law_248 : decode cL_law 248 = .ok (.iload_n 3, 1) := by decide +kernel
theorem dL_law_249 : decode cL_law 249 = .ok (.iconst 1, 1) := by decide +kernel
theorem dL_law_250 : decode cL_law 250 = .ok (.iadd, 1) := by decide +kernel
theorem dL_law_251 : decode cL_law 251 = .ok (.iaload, 1) := by decide +kernel
theorem dL_law_252 : decode cL_law 252 = .ok (.aload_n 0, 1) := by decide +kernel
theorem dL_law_253 : decode cL_law 253 = .ok (.iload_n 3, 1) := by decide +kernel
theorem dL_law_254 : decode cL_law 254 = .ok (.iconst 2, 1) := by decide +kernel
theorem dL_law_255 : decode cL_law 255 = .ok (.iadd, 1) := by decide +kernel
theorem dL_law_256 : decode cL_law 256 = .ok (.iaload, 1) := by decide +kernel
theorem dL_law_257 : decode cL_law 257 = .ok (.aload_n 0, 1) := by decide +kernel
theorem dL_law_258 : decode cL_law 258 = .ok (.iload_n 3, 1) := by decide +kernel
theorem dL_law_259 : decode cL_law 259 = .ok (.iconst 3, 1) := by decide +kernel
theorem dL_law_260 : decode cL_law 260 = .ok (.iadd, 1) := by decide +kernel
theorem dL_law_261 : decode cL_law 261 = .ok (.iaload, 1) := by decide +kernel
theorem dL_law_262 : decode cL_law 262 = .ok (.invokevirtual 32, 3) := by decide +kernel
theorem dL_law_265 : decode cL_law 265 = .ok (.aload_n 2, 1) := by decide +kernel
theorem dL_law_266 : decode cL_law 266 = .ok (.aload_n 0, 1) := by decide +kernel
theorem dL_law_267 : decode cL_law 267 = .ok (.iload_n 3, 1) := by decide +kernel
theorem dL_law_268 : decode cL_law 268 = .ok (.iconst 1, 1) := by decide +kernel
theorem dL_law_269 : decode cL_law 269 = .ok (.iadd, 1) := by decide +kernel
theorem dL_law_270 : decode cL_law 270 = .ok (.iaload, 1) := by decide +kernel
theorem dL_law_271 : decode cL_law 271 = .ok (.aload_n 0, 1) := by decide +kernel
theorem dL_law_272 : decode cL_law 272 = .ok (.iload_n 3, 1) := by decide +kernel
theorem dL_law_273 : decode cL_law 273 = .ok (.iconst 2, 1) := by decide +kernel
theorem dL_law_274 : decode cL_law 274 = .ok (.iadd, 1) := by decide +kernel
theorem dL_law_275 : decode cL_law 275 = .ok (.iaload, 1) := by decide +kernel
theorem dL_law_276 : decode cL_law 276 = .ok (.aload_n 0, 1) := by decide +kernel
theorem dL_law_277 : decode cL_law 277 = .ok (.iload_n 3, 1) := by decide +kernel
theorem dL_law_278 : decode cL_law 278 = .ok (.iconst 3, 1) := by decide +kernel
theorem dL_law_279 : decode cL_law 279 = .ok (.iadd, 1) := by decide +kernel
theorem dL_law_280 : decode cL_law 280 = .ok (.iaload, 1) := by decide +kernel
theorem dL_law_281 : decode cL_law 281 = .ok (.invokevirtual 36, 3) := by decide +kernel
theorem dL_law_284 : decode cL_law 284 = .ok (.if_icmp .eq 578, 3) := by decide +kernel
theorem dL_law_287 : decode cL_law 287 = .ok (.iconst 0, 1) := by decide +kernel
theorem dL_law_288 : decode cL_law 288 = .ok (.ireturn, 1) := by decide +kernel
theorem dL_law_289 : decode cL_law 289 = .ok (.aload_n 1, 1) := by decide +kernel
theorem dL_law_290 : decode cL_law 290 = .ok (.aload_n 0, 1) := by decide +kernel
theorem dL_law_291 : decode cL_law 291 = .ok (.iload_n 3, 1) := by decide +kernel
theorem dL_law_292 : decode cL_law 292 = .ok (.iconst 1, 1) := by decide +kernel
theorem dL_law_293 : decode cL_law 293 = .ok (.iadd, 1) := by decide +kernel
theorem dL_law_294 : decode cL_law 294 = .ok (.iaload, 1) := by decide +kernel
theorem dL_law_295 : decode cL_law 295 = .ok (.invokevirtual 37, 3) := by decide +kernel
theorem dL_law_298 : decode cL_law 298 = .ok (.aload_n 2, 1) := by decide +kernel
theorem dL_law_299 : decode cL_law 299 = .ok (.aload_n 0, 1) := by decide +kernel
theorem dL_law_300 : decode cL_law 300 = .ok (.iload_n 3, 1) := by decide +kernel
theorem dL_law_301 : decode cL_law 301 = .ok (.iconst 1, 1) := by decide +kernel
theorem dL_law_302 : decode cL_law 302 = .ok (.iadd, 1) := by decide +kernel
theorem dL_law_303 : decode cL_law 303 = .ok (.iaload, 1) := by decide +kernel
theorem dL_law_304 : decode cL_law 304 = .ok (.invokevirtual 40, 3) := by decide +kernel
theorem dL_law_307 : decode cL_law 307 = .ok (.if_icmp .eq 555, 3) := by decide +kernel
theorem dL_law_310 : decode cL_law 310 = .ok (.iconst 0, 1) := by decide +kernel
theorem dL_law_311 : decode cL_law 311 = .ok (.ireturn, 1) := by decide +kernel
theorem dL_law_312 : decode cL_law 312 = .ok (.aload_n 1, 1) := by decide +kernel
theorem dL_law_313 : decode cL_law 313 = .ok (.aload_n 0, 1) := by decide +kernel
theorem dL_law_314 : decode cL_law 314 = .ok (.iload_n 3, 1) := by decide +kernel
theorem dL_law_315 : decode cL_law 315 = .ok (.iconst 1, 1) := by decide +kernel
theorem dL_law_316 : decode cL_law 316 = .ok (.iadd, 1) := by decide +kernel
theorem dL_law_317 : decode cL_law 317 = .ok (.iaload, 1) := by decide +kernel
theorem dL_law_318 : decode cL_law 318 = .ok (.aload_n 0, 1) := by decide +kernel
theorem dL_law_319 : decode cL_law 319 = .ok (.iload_n 3, 1) := by decide +kernel
theorem dL_law_320 : decode cL_law 320 = .ok (.iconst 2, 1) := by decide +kernel
theorem dL_law_321 : decode cL_law 321 = .ok (.iadd, 1) := by decide +kernel
theorem dL_law_322 : decode cL_law 322 = .ok (.iaload, 1) := by decide +kernel
theorem dL_law_323 : decode cL_law 323 = .ok (.invokevirtual 41, 3) := by decide +kernel
theorem dL_law_326 : decode cL_law 326 = .ok (.aload_n 2, 1) := by decide +kernel
theorem dL_law_327 : decode cL_law 327 = .ok (.aload_n 0, 1) := by decide +kernel
theorem dL_law_328 : decode cL_law 328 = .ok (.iload_n 3, 1) := by decide +kernel
theorem dL_law_329 : decode cL_law 329 = .ok (.iconst 1, 1) := by decide +kernel
theorem dL_law_330 : decode cL_law 330 = .ok (.iadd, 1) := by decide +kernel
theorem dL_law_331 : decode cL_law 331 = .ok (.iaload, 1) := by decide +kernel
theorem dL_law_332 : decode cL_law 332 = .ok (.aload_n 0, 1) := by decide +kernel
theorem dL_law_333 : decode cL_law 333 = .ok (.iload_n 3, 1) := by decide +kernel
theorem dL_law_334 : decode cL_law 334 = .ok (.iconst 2, 1) := by decide +kernel
theorem dL_law_335 : decode cL_law 335 = .ok (.iadd, 1) := by decide +kernel
theorem dL_law_336 : decode cL_law 336 = .ok (.iaload, 1) := by decide +kernel
theorem dL_law_337 : decode cL_law 337 = .ok (.invokevirtual 44, 3) := by decide +kernel
theorem dL_law_340 : decode cL_law 340 = .ok (.if_icmp .eq 522, 3) := by decide +kernel
theorem dL_law_343 : decode cL_law 343 = .ok (.iconst 0, 1) := by decide +kernel
theorem dL_law_344 : decode cL_law 344 = .ok (.ireturn, 1) := by decide +kernel
theorem dL_law_345 : decode cL_law 345 = .ok (.aload_n 1, 1) := by decide +kernel
theorem dL_law_346 : decode cL_law 346 = .ok (.aload_n 0, 1) := by decide +kernel
theorem dL_law_347 : decode cL_law 347 = .ok (.iload_n 3, 1) := by decide +kernel
theorem dL_law_348 : decode cL_law 348 = .ok (.iconst 1, 1) := by decide +kernel
theorem dL_law_349 : decode cL_law 349 = .ok (.iadd, 1) := by decide +kernel
theorem dL_law_350 : decode cL_law 350 = .ok (.iaload, 1) := by decide +kernel
theorem dL_law_351 : decode cL_law 351 = .ok (.aload_n 0, 1) := by decide +kernel
theorem dL_law_352 : decode cL_law 352 = .ok (.iload_n 3, 1) := by decide +kernel
theorem dL_law_353 : decode cL_law 353 = .ok (.iconst 2, 1) := by decide +kernel
theorem dL_law_354 : decode cL_law 354 = .ok (.iadd, 1) := by decide +kernel
theorem dL_law_355 : decode cL_law 355 = .ok (.iaload, 1) := by decide +kernel
theorem dL_law_356 : decode cL_law 356 = .ok (.invokevirtual 45, 3) := by decide +kernel
theorem dL_law_359 : decode cL_law 359 = .ok (.aload_n 2, 1) := by decide +kernel
theorem dL_law_360 : decode cL_law 360 = .ok (.aload_n 0, 1) := by decide +kernel
theorem dL_law_361 : decode cL_law 361 = .ok (.iload_n 3, 1) := by decide +kernel
theorem dL_law_362 : decode cL_law 362 = .ok (.iconst 1, 1) := by decide +kernel
theorem dL_law_363 : decode cL_law 363 = .ok (.iadd, 1) := by decide +kernel
theorem dL_law_364 : decode cL_law 364 = .ok (.iaload, 1) := by decide +kernel
theorem dL_law_365 : decode cL_law 365 = .ok (.aload_n 0, 1) := by decide +kernel
theorem dL_law_366 : decode cL_law 366 = .ok (.iload_n 3, 1) := by decide +kernel
theorem dL_law_367 : decode cL_law 367 = .ok (.iconst 2, 1) := by decide +kernel
theorem dL_law_368 : decode cL_law 368 = .ok (.iadd, 1) := by decide +kernel
theorem dL_law_369 : decode cL_law 369 = .ok (.iaload, 1) := by decide +kernel
theorem dL_law_370 : decode cL_law 370 = .ok (.invokevirtual 48, 3) := by decide +kernel
theorem dL_law_373 : decode cL_law 373 = .ok (.if_icmp .eq 489, 3) := by decide +kernel
theorem dL_law_376 : decode cL_law 376 = .ok (.iconst 0, 1) := by decide +kernel
theorem dL_law_377 : decode cL_law 377 = .ok (.ireturn, 1) := by decide +kernel
theorem dL_law_378 : decode cL_law 378 = .ok (.aload_n 1, 1) := by decide +kernel
theorem dL_law_379 : decode cL_law 379 = .ok (.aload_n 0, 1) := by decide +kernel
theorem dL_law_380 : decode cL_law 380 = .ok (.iload_n 3, 1) := by decide +kernel
theorem dL_law_381 : decode cL_law 381 = .ok (.iconst 1, 1) := by decide +kernel
theorem dL_law_382 : decode cL_law 382 = .ok (.iadd, 1) := by decide +kernel
theorem dL_law_383 : decode cL_law 383 = .ok (.iaload, 1) := by decide +kernel
theorem dL_law_384 : decode cL_law 384 = .ok (.aload_n 0, 1) := by decide +kernel
theorem dL_law_385 : decode cL_law 385 = .ok (.iload_n 3, 1) := by decide +kernel
theorem dL_law_386 : decode cL_law 386 = .ok (.iconst 2, 1) := by decide +kernel
theorem dL_law_387 : decode cL_law 387 = .ok (.iadd, 1) := by decide +kernel
theorem dL_law_388 : decode cL_law 388 = .ok (.iaload, 1) := by decide +kernel
theorem dL_law_389 : decode cL_law 389 = .ok (.invokevirtual 49, 3) := by decide +kernel
theorem dL_law_392 : decode cL_law 392 = .ok (.aload_n 2, 1) := by decide +kernel
theorem dL_law_393 : decode cL_law 393 = .ok (.aload_n 0, 1) := by decide +kernel
theorem dL_law_394 : decode cL_law 394 = .ok (.iload_n 3, 1) := by decide +kernel
theorem dL_law_395 : decode cL_law 395 = .ok (.iconst 1, 1) := by decide +kernel
theorem dL_law_396 : decode cL_law 396 = .ok (.iadd, 1) := by decide +kernel
theorem dL_law_397 : decode cL_law 397 = .ok (.iaload, 1) := by decide +kernel
theorem dL_law_398 : decode cL_law 398 = .ok (.aload_n 0, 1) := by decide +kernel
theorem dL_law_399 : decode cL_law 399 = .ok (.iload_n 3, 1) := by decide +kernel
theorem dL_law_400 : decode cL_law 400 = .ok (.iconst 2, 1) := by decide +kernel
theorem dL_law_401 : decode cL_law 401 = .ok (.iadd, 1) := by decide +kernel
theorem dL_law_402 : decode cL_law 402 = .ok (.iaload, 1) := by decide +kernel
theorem dL_law_403 : decode cL_law 403 = .ok (.invokevirtual 52, 3) := by decide +kernel
theorem dL_law_406 : decode cL_law 406 = .ok (.if_icmp .eq 456, 3) := by decide +kernel
theorem dL_law_409 : decode cL_law 409 = .ok (.iconst 0, 1) := by decide +kernel
theorem dL_law_410 : decode cL_law 410 = .ok (.ireturn, 1) := by decide +kernel
theorem dL_law_411 : decode cL_law 411 = .ok (.aload_n 1, 1) := by decide +kernel
theorem dL_law_412 : decode cL_law 412 = .ok (.aload_n 0, 1) := by decide +kernel
theorem dL_law_413 : decode cL_law 413 = .ok (.iload_n 3, 1) := by decide +kernel
theorem dL_law_414 : decode cL_law 414 = .ok (.iconst 1, 1) := by decide +kernel
theorem dL_law_415 : decode cL_law 415 = .ok (.iadd, 1) := by decide +kernel
theorem dL_law_416 : decode cL_law 416 = .ok (.iaload, 1) := by decide +kernel
theorem dL_law_417 : decode cL_law 417 = .ok (.invokevirtual 53, 3) := by decide +kernel
theorem dL_law_420 : decode cL_law 420 = .ok (.aload_n 2, 1) := by decide +kernel
theorem dL_law_421 : decode cL_law 421 = .ok (.aload_n 0, 1) := by decide +kernel
theorem dL_law_422 : decode cL_law 422 = .ok (.iload_n 3, 1) := by decide +kernel
theorem dL_law_423 : decode cL_law 423 = .ok (.iconst 1, 1) := by decide +kernel
theorem dL_law_424 : decode cL_law 424 = .ok (.iadd, 1) := by decide +kernel
theorem dL_law_425 : decode cL_law 425 = .ok (.iaload, 1) := by decide +kernel
theorem dL_law_426 : decode cL_law 426 = .ok (.invokevirtual 56, 3) := by decide +kernel
theorem dL_law_429 : decode cL_law 429 = .ok (.if_icmp .eq 433, 3) := by decide +kernel
theorem dL_law_432 : decode cL_law 432 = .ok (.iconst 0, 1) := by decide +kernel
theorem dL_law_433 : decode cL_law 433 = .ok (.ireturn, 1) := by decide +kernel
theorem dL_law_434 : decode cL_law 434 = .ok (.aload_n 1, 1) := by decide +kernel
theorem dL_law_435 : decode cL_law 435 = .ok (.aload_n 0, 1) := by decide +kernel
theorem dL_law_436 : decode cL_law 436 = .ok (.iload_n 3, 1) := by decide +kernel
theorem dL_law_437 : decode cL_law 437 = .ok (.iconst 1, 1) := by decide +kernel
theorem dL_law_438 : decode cL_law 438 = .ok (.iadd, 1) := by decide +kernel
theorem dL_law_439 : decode cL_law 439 = .ok (.iaload, 1) := by decide +kernel
theorem dL_law_440 : decode cL_law 440 = .ok (.invokevirtual 57, 3) := by decide +kernel
theorem dL_law_443 : decode cL_law 443 = .ok (.aload_n 2, 1) := by decide +kernel
theorem dL_law_444 : decode cL_law 444 = .ok (.aload_n 0, 1) := by decide +kernel
theorem dL_law_445 : decode cL_law 445 = .ok (.iload_n 3, 1) := by decide +kernel
theorem dL_law_446 : decode cL_law 446 = .ok (.iconst 1, 1) := by decide +kernel
theorem dL_law_447 : decode cL_law 447 = .ok (.iadd, 1) := by decide +kernel
theorem dL_law_448 : decode cL_law 448 = .ok (.iaload, 1) := by decide +kernel
theorem dL_law_449 : decode cL_law 449 = .ok (.invokevirtual 60, 3) := by decide +kernel
theorem dL_law_452 : decode cL_law 452 = .ok (.if_icmp .eq 410, 3) := by decide +kernel
theorem dL_law_455 : decode cL_law 455 = .ok (.iconst 0, 1) := by decide +kernel
theorem dL_law_456 : decode cL_law 456 = .ok (.ireturn, 1) := by decide +kernel
theorem dL_law_457 : decode cL_law 457 = .ok (.aload_n 1, 1) := by decide +kernel
theorem dL_law_458 : decode cL_law 458 = .ok (.aload_n 0, 1) := by decide +kernel
theorem dL_law_459 : decode cL_law 459 = .ok (.iload_n 3, 1) := by decide +kernel
theorem dL_law_460 : decode cL_law 460 = .ok (.iconst 1, 1) := by decide +kernel
theorem dL_law_461 : decode cL_law 461 = .ok (.iadd, 1) := by decide +kernel
theorem dL_law_462 : decode cL_law 462 = .ok (.iaload, 1) := by decide +kernel
theorem dL_law_463 : decode cL_law 463 = .ok (.invokevirtual 61, 3) := by decide +kernel
theorem dL_law_466 : decode cL_law 466 = .ok (.aload_n 2, 1) := by decide +kernel
theorem dL_law_467 : decode cL_law 467 = .ok (.aload_n 0, 1) := by decide +kernel
theorem dL_law_468 : decode cL_law 468 = .ok (.iload_n 3, 1) := by decide +kernel
theorem dL_law_469 : decode cL_law 469 = .ok (.iconst 1, 1) := by decide +kernel
theorem dL_law_470 : decode cL_law 470 = .ok (.iadd, 1) := by decide +kernel
theorem dL_law_471 : decode cL_law 471 = .ok (.iaload, 1) := by decide +kernel
theorem dL_law_472 : decode cL_law 472 = .ok (.invokevirtual 64, 3) := by decide +kernel
theorem dL_law_475 : decode cL_law 475 = .ok (.if_icmp .eq 387, 3) := by decide +kernel
theorem dL_law_478 : decode cL_law 478 = .ok (.iconst 0, 1) := by decide +kernel
theorem dL_law_479 : decode cL_law 479 = .ok (.ireturn, 1) := by decide +kernel
theorem dL_law_480 : decode cL_law 480 = .ok (.aload_n 1, 1) := by decide +kernel
theorem dL_law_481 : decode cL_law 481 = .ok (.invokevirtual 65, 3) := by decide +kernel
theorem dL_law_484 : decode cL_law 484 = .ok (.aload_n 2, 1) := by decide +kernel
theorem dL_law_485 : decode cL_law 485 = .ok (.invokevirtual 68, 3) := by decide +kernel
theorem dL_law_488 : decode cL_law 488 = .ok (.if_icmp .eq 374, 3) := by decide +kernel
theorem dL_law_491 : decode cL_law 491 = .ok (.iconst 0, 1) := by decide +kernel
theorem dL_law_492 : decode cL_law 492 = .ok (.ireturn, 1) := by decide +kernel
theorem dL_law_493 : decode cL_law 493 = .ok (.aload_n 1, 1) := by decide +kernel
theorem dL_law_494 : decode cL_law 494 = .ok (.aload_n 0, 1) := by decide +kernel
theorem dL_law_495 : decode cL_law 495 = .ok (.iload_n 3, 1) := by decide +kernel
theorem dL_law_496 : decode cL_law 496 = .ok (.iconst 1, 1) := by decide +kernel
theorem dL_law_497 : decode cL_law 497 = .ok (.iadd, 1) := by decide +kernel
theorem dL_law_498 : decode cL_law 498 = .ok (.iaload, 1) := by decide +kernel
theorem dL_law_499 : decode cL_law 499 = .ok (.invokevirtual 69, 3) := by decide +kernel
theorem dL_law_502 : decode cL_law 502 = .ok (.aload_n 2, 1) := by decide +kernel
theorem dL_law_503 : decode cL_law 503 = .ok (.aload_n 0, 1) := by decide +kernel
theorem dL_law_504 : decode cL_law 504 = .ok (.iload_n 3, 1) := by decide +kernel
theorem dL_law_505 : decode cL_law 505 = .ok (.iconst 1, 1) := by decide +kernel
theorem dL_law_506 : decode cL_law 506 = .ok (.iadd, 1) := by decide +kernel
theorem dL_law_507 : decode cL_law 507 = .ok (.iaload, 1) := by decide +kernel
theorem dL_law_508 : decode cL_law 508 = .ok (.invokevirtual 72, 3) := by decide +kernel
theorem dL_law_511 : decode cL_law 511 = .ok (.if_icmp .eq 351, 3) := by decide +kernel
theorem dL_law_514 : decode cL_law 514 = .ok (.iconst 0, 1) := by decide +kernel
theorem dL_law_515 : decode cL_law 515 = .ok (.ireturn, 1) := by decide +kernel
theorem dL_law_516 : decode cL_law 516 = .ok (.aload_n 1, 1) := by decide +kernel
theorem dL_law_517 : decode cL_law 517 = .ok (.aload_n 0, 1) := by decide +kernel
theorem dL_law_518 : decode cL_law 518 = .ok (.iload_n 3, 1) := by decide +kernel
theorem dL_law_519 : decode cL_law 519 = .ok (.iconst 1, 1) := by decide +kernel
theorem dL_law_520 : decode cL_law 520 = .ok (.iadd, 1) := by decide +kernel
theorem dL_law_521 : decode cL_law 521 = .ok (.iaload, 1) := by decide +kernel
theorem dL_law_522 : decode cL_law 522 = .ok (.aload_n 0, 1) := by decide +kernel
theorem dL_law_523 : decode cL_law 523 = .ok (.iload_n 3, 1) := by decide +kernel
theorem dL_law_524 : decode cL_law 524 = .ok (.iconst 2, 1) := by decide +kernel
theorem dL_law_525 : decode cL_law 525 = .ok (.iadd, 1) := by decide +kernel
theorem dL_law_526 : decode cL_law 526 = .ok (.iaload, 1) := by decide +kernel
theorem dL_law_527 : decode cL_law 527 = .ok (.invokevirtual 73, 3) := by decide +kernel
theorem dL_law_530 : decode cL_law 530 = .ok (.aload_n 2, 1) := by decide +kernel
theorem dL_law_531 : decode cL_law 531 = .ok (.aload_n 0, 1) := by decide +kernel
theorem dL_law_532 : decode cL_law 532 = .ok (.iload_n 3, 1) := by decide +kernel
theorem dL_law_533 : decode cL_law 533 = .ok (.iconst 1, 1) := by decide +kernel
theorem dL_law_534 : decode cL_law 534 = .ok (.iadd, 1) := by decide +kernel
theorem dL_law_535 : decode cL_law 535 = .ok (.iaload, 1) := by decide +kernel
theorem dL_law_536 : decode cL_law 536 = .ok (.aload_n 0, 1) := by decide +kernel
theorem dL_law_537 : decode cL_law 537 = .ok (.iload_n 3, 1) := by decide +kernel
theorem dL_law_538 : decode cL_law 538 = .ok (.iconst 2, 1) := by decide +kernel
theorem dL_law_539 : decode cL_law 539 = .ok (.iadd, 1) := by decide +kernel
theorem dL_law_540 : decode cL_law 540 = .ok (.iaload, 1) := by decide +kernel
theorem dL_law_541 : decode cL_law 541 = .ok (.invokevirtual 76, 3) := by decide +kernel
theorem dL_law_544 : decode cL_law 544 = .ok (.if_icmp .eq 318, 3) := by decide +kernel
theorem dL_law_547 : decode cL_law 547 = .ok (.iconst 0, 1) := by decide +kernel
theorem dL_law_548 : decode cL_law 548 = .ok (.ireturn, 1) := by decide +kernel
theorem dL_law_549 : decode cL_law 549 = .ok (.aload_n 1, 1) := by decide +kernel
theorem dL_law_550 : decode cL_law 550 = .ok (.aload_n 0, 1) := by decide +kernel
theorem dL_law_551 : decode cL_law 551 = .ok (.iload_n 3, 1) := by decide +kernel
theorem dL_law_552 : decode cL_law 552 = .ok (.iconst 1, 1) := by decide +kernel
theorem dL_law_553 : decode cL_law 553 = .ok (.iadd, 1) := by decide +kernel
theorem dL_law_554 : decode cL_law 554 = .ok (.iaload, 1) := by decide +kernel
theorem dL_law_555 : decode cL_law 555 = .ok (.aload_n 0, 1) := by decide +kernel
theorem dL_law_556 : decode cL_law 556 = .ok (.iload_n 3, 1) := by decide +kernel
theorem dL_law_557 : decode cL_law 557 = .ok (.iconst 2, 1) := by decide +kernel
theorem dL_law_558 : decode cL_law 558 = .ok (.iadd, 1) := by decide +kernel
theorem dL_law_559 : decode cL_law 559 = .ok (.iaload, 1) := by decide +kernel
theorem dL_law_560 : decode cL_law 560 = .ok (.invokevirtual 77, 3) := by decide +kernel
theorem dL_law_563 : decode cL_law 563 = .ok (.aload_n 2, 1) := by decide +kernel
theorem dL_law_564 : decode cL_law 564 = .ok (.aload_n 0, 1) := by decide +kernel
theorem dL_law_565 : decode cL_law 565 = .ok (.iload_n 3, 1) := by decide +kernel
theorem dL_law_566 : decode cL_law 566 = .ok (.iconst 1, 1) := by decide +kernel
theorem dL_law_567 : decode cL_law 567 = .ok (.iadd, 1) := by decide +kernel
theorem dL_law_568 : decode cL_law 568 = .ok (.iaload, 1) := by decide +kernel
theorem dL_law_569 : decode cL_law 569 = .ok (.aload_n 0, 1) := by decide +kernel
theorem dL_law_570 : decode cL_law 570 = .ok (.iload_n 3, 1) := by decide +kernel
theorem dL_law_571 : decode cL_law 571 = .ok (.iconst 2, 1) := by decide +kernel
theorem dL_law_572 : decode cL_law 572 = .ok (.iadd, 1) := by decide +kernel
theorem dL_law_573 : decode cL_law 573 = .ok (.iaload, 1) := by decide +kernel
theorem dL_law_574 : decode cL_law 574 = .ok (.invokevirtual 80, 3) := by decide +kernel
theorem dL_law_577 : decode cL_law 577 = .ok (.if_icmp .eq 285, 3) := by decide +kernel
theorem dL_law_580 : decode cL_law 580 = .ok (.iconst 0, 1) := by decide +kernel
theorem dL_law_581 : decode cL_law 581 = .ok (.ireturn, 1) := by decide +kernel
theorem dL_law_582 : decode cL_law 582 = .ok (.aload_n 1, 1) := by decide +kernel
theorem dL_law_583 : decode cL_law 583 = .ok (.aload_n 0, 1) := by decide +kernel
theorem dL_law_584 : decode cL_law 584 = .ok (.iload_n 3, 1) := by decide +kernel
theorem dL_law_585 : decode cL_law 585 = .ok (.iconst 1, 1) := by decide +kernel
theorem dL_law_586 : decode cL_law 586 = .ok (.iadd, 1) := by decide +kernel
theorem dL_law_587 : decode cL_law 587 = .ok (.iaload, 1) := by decide +kernel
theorem dL_law_588 : decode cL_law 588 = .ok (.invokevirtual 81, 3) := by decide +kernel
theorem dL_law_591 : decode cL_law 591 = .ok (.aload_n 2, 1) := by decide +kernel
theorem dL_law_592 : decode cL_law 592 = .ok (.aload_n 0, 1) := by decide +kernel
theorem dL_law_593 : decode cL_law 593 = .ok (.iload_n 3, 1) := by decide +kernel
theorem dL_law_594 : decode cL_law 594 = .ok (.iconst 1, 1) := by decide +kernel
theorem dL_law_595 : decode cL_law 595 = .ok (.iadd, 1) := by decide +kernel
theorem dL_law_596 : decode cL_law 596 = .ok (.iaload, 1) := by decide +kernel
theorem dL_law_597 : decode cL_law 597 = .ok (.invokevirtual 84, 3) := by decide +kernel
theorem dL_law_600 : decode cL_law 600 = .ok (.if_icmp .eq 262, 3) := by decide +kernel
theorem dL_law_603 : decode cL_law 603 = .ok (.iconst 0, 1) := by decide +kernel
theorem dL_law_604 : decode cL_law 604 = .ok (.ireturn, 1) := by decide +kernel
theorem dL_law_605 : decode cL_law 605 = .ok (.aload_n 1, 1) := by decide +kernel
theorem dL_law_606 : decode cL_law 606 = .ok (.aload_n 0, 1) := by decide +kernel
theorem dL_law_607 : decode cL_law 607 = .ok (.iload_n 3, 1) := by decide +kernel
theorem dL_law_608 : decode cL_law 608 = .ok (.iconst 1, 1) := by decide +kernel
theorem dL_law_609 : decode cL_law 609 = .ok (.iadd, 1) := by decide +kernel
theorem dL_law_610 : decode cL_law 610 = .ok (.iaload, 1) := by decide +kernel
theorem dL_law_611 : decode cL_law 611 = .ok (.invokevirtual 85, 3) := by decide +kernel
theorem dL_law_614 : decode cL_law 614 = .ok (.aload_n 2, 1) := by decide +kernel
theorem dL_law_615 : decode cL_law 615 = .ok (.aload_n 0, 1) := by decide +kernel
theorem dL_law_616 : decode cL_law 616 = .ok (.iload_n 3, 1) := by decide +kernel
theorem dL_law_617 : decode cL_law 617 = .ok (.iconst 1, 1) := by decide +kernel
theorem dL_law_618 : decode cL_law 618 = .ok (.iadd, 1) := by decide +kernel
theorem dL_law_619 : decode cL_law 619 = .ok (.iaload, 1) := by decide +kernel
theorem dL_law_620 : decode cL_law 620 = .ok (.invokevirtual 88, 3) := by decide +kernel
theorem dL_law_623 : decode cL_law 623 = .ok (.if_icmp .eq 239, 3) := by decide +kernel
theorem dL_law_626 : decode cL_law 626 = .ok (.iconst 0, 1) := by decide +kernel
theorem dL_law_627 : decode cL_law 627 = .ok (.ireturn, 1) := by decide +kernel
theorem dL_law_628 : decode cL_law 628 = .ok (.aload_n 1, 1) := by decide +kernel
theorem dL_law_629 : decode cL_law 629 = .ok (.aload_n 0, 1) := by decide +kernel
theorem dL_law_630 : decode cL_law 630 = .ok (.iload_n 3, 1) := by decide +kernel
theorem dL_law_631 : decode cL_law 631 = .ok (.iconst 1, 1) := by decide +kernel
theorem dL_law_632 : decode cL_law 632 = .ok (.iadd, 1) := by decide +kernel
theorem dL_law_633 : decode cL_law 633 = .ok (.iaload, 1) := by decide +kernel
theorem dL_law_634 : decode cL_law 634 = .ok (.invokevirtual 89, 3) := by decide +kernel
theorem dL_law_637 : decode cL_law 637 = .ok (.aload_n 2, 1) := by decide +kernel
theorem dL_law_638 : decode cL_law 638 = .ok (.aload_n 0, 1) := by decide +kernel
theorem dL_law_639 : decode cL_law 639 = .ok (.iload_n 3, 1) := by decide +kernel
theorem dL_law_640 : decode cL_law 640 = .ok (.iconst 1, 1) := by decide +kernel
theorem dL_law_641 : decode cL_law 641 = .ok (.iadd, 1) := by decide +kernel
theorem dL_law_642 : decode cL_law 642 = .ok (.iaload, 1) := by decide +kernel
theorem dL_law_643 : decode cL_law 643 = .ok (.invokevirtual 92, 3) := by decide +kernel
theorem dL_law_646 : decode cL_law 646 = .ok (.if_icmp .eq 216, 3) := by decide +kernel
theorem dL_law_649 : decode cL_law 649 = .ok (.iconst 0, 1) := by decide +kernel
theorem dL_law_650 : decode cL_law 650 = .ok (.ireturn, 1) := by decide +kernel
theorem dL_law_651 : decode cL_law 651 = .ok (.aload_n 1, 1) := by decide +kernel
theorem dL_law_652 : decode cL_law 652 = .ok (.aload_n 0, 1) := by decide +kernel
theorem dL_law_653 : decode cL_law 653 = .ok (.iload_n 3, 1) := by decide +kernel
theorem dL_law_654 : decode cL_law 654 = .ok (.iconst 1, 1) := by decide +kernel
theorem dL_law_655 : decode cL_law 655 = .ok (.iadd, 1) := by decide +kernel
theorem dL_law_656 : decode cL_law 656 = .ok (.iaload, 1) := by decide +kernel
theorem dL_law_657 : decode cL_law 657 = .ok (.invokevirtual 93, 3) := by decide +kernel
theorem dL_law_660 : decode cL_law 660 = .ok (.aload_n 2, 1) := by decide +kernel
theorem dL_law_661 : decode cL_law 661 = .ok (.aload_n 0, 1) := by decide +kernel
theorem dL_law_662 : decode cL_law 662 = .ok (.iload_n 3, 1) := by decide +kernel
theorem dL_law_663 : decode cL_law 663 = .ok (.iconst 1, 1) := by decide +kernel
theorem dL_law_664 : decode cL_law 664 = .ok (.iadd, 1) := by decide +kernel
theorem dL_law_665 : decode cL_law 665 = .ok (.iaload, 1) := by decide +kernel
theorem dL_law_666 : decode cL_law 666 = .ok (.invokevirtual 96, 3) := by decide +kernel
theorem dL_law_669 : decode cL_law 669 = .ok (.if_icmp .eq 193, 3) := by decide +kernel
theorem dL_law_672 : decode cL_law 672 = .ok (.iconst 0, 1) := by decide +kernel
theorem dL_law_673 : decode cL_law 673 = .ok (.ireturn, 1) := by decide +kernel
theorem dL_law_674 : decode cL_law 674 = .ok (.aload_n 1, 1) := by decide +kernel
theorem dL_law_675 : decode cL_law 675 = .ok (.aload_n 0, 1) := by decide +kernel
theorem dL_law_676 : decode cL_law 676 = .ok (.iload_n 3, 1) := by decide +kernel
theorem dL_law_677 : decode cL_law 677 = .ok (.iconst 1, 1) := by decide +kernel
theorem dL_law_678 : decode cL_law 678 = .ok (.iadd, 1) := by decide +kernel
theorem dL_law_679 : decode cL_law 679 = .ok (.iaload, 1) := by decide +kernel
theorem dL_law_680 : decode cL_law 680 = .ok (.aload_n 0, 1) := by decide +kernel
theorem dL_law_681 : decode cL_law 681 = .ok (.iload_n 3, 1) := by decide +kernel
theorem dL_law_682 : decode cL_law 682 = .ok (.iconst 2, 1) := by decide +kernel
theorem dL_law_683 : decode cL_law 683 = .ok (.iadd, 1) := by decide +kernel
theorem dL_law_684 : decode cL_law 684 = .ok (.iaload, 1) := by decide +kernel
theorem dL_law_685 : decode cL_law 685 = .ok (.invokevirtual 97, 3) := by decide +kernel
theorem dL_law_688 : decode cL_law 688 = .ok (.aload_n 2, 1) := by decide +kernel
theorem dL_law_689 : decode cL_law 689 = .ok (.aload_n 0, 1) := by decide +kernel
theorem dL_law_690 : decode cL_law 690 = .ok (.iload_n 3, 1) := by decide +kernel
theorem dL_law_691 : decode cL_law 691 = .ok (.iconst 1, 1) := by decide +kernel
theorem dL_law_692 : decode cL_law 692 = .ok (.iadd, 1) := by decide +kernel
theorem dL_law_693 : decode cL_law 693 = .ok (.iaload, 1) := by decide +kernel
theorem dL_law_694 : decode cL_law 694 = .ok (.aload_n 0, 1) := by decide +kernel
theorem dL_law_695 : decode cL_law 695 = .ok (.iload_n 3, 1) := by decide +kernel
theorem dL_law_696 : decode cL_law 696 = .ok (.iconst 2, 1) := by decide +kernel
theorem dL_law_697 : decode cL_law 697 = .ok (.iadd, 1) := by decide +kernel
theorem dL_law_698 : decode cL_law 698 = .ok (.iaload, 1) := by decide +kernel
theorem dL_law_699 : decode cL_law 699 = .ok (.invokevirtual 100, 3) := by decide +kernel
theorem dL_law_702 : decode cL_law 702 = .ok (.if_icmp .eq 160, 3) := by decide +kernel
theorem dL_law_705 : decode cL_law 705 = .ok (.iconst 0, 1) := by decide +kernel
theorem dL_law_706 : decode cL_law 706 = .ok (.ireturn, 1) := by decide +kernel
theorem dL_law_707 : decode cL_law 707 = .ok (.aload_n 1, 1) := by decide +kernel
theorem dL_law_708 : decode cL_law 708 = .ok (.invokevirtual 101, 3) := by decide +kernel
theorem dL_law_711 : decode cL_law 711 = .ok (.aload_n 2, 1) := by decide +kernel
theorem dL_law_712 : decode cL_law 712 = .ok (.invokevirtual 104, 3) := by decide +kernel
theorem dL_law_715 : decode cL_law 715 = .ok (.if_icmp .eq 147, 3) := by decide +kernel
theorem dL_law_718 : decode cL_law 718 = .ok (.iconst 0, 1) := by decide +kernel
theorem dL_law_719 : decode cL_law 719 = .ok (.ireturn, 1) := by decide +kernel
theorem dL_law_720 : decode cL_law 720 = .ok (.aload_n 1, 1) := by decide +kernel
theorem dL_law_721 : decode cL_law 721 = .ok (.invokevirtual 105, 3) := by decide +kernel
theorem dL_law_724 : decode cL_law 724 = .ok (.aload_n 2, 1) := by decide +kernel
theorem dL_law_725 : decode cL_law 725 = .ok (.invokevirtual 108, 3) := by decide +kernel
theorem dL_law_728 : decode cL_law 728 = .ok (.if_icmp .eq 134, 3) := by decide +kernel
theorem dL_law_731 : decode cL_law 731 = .ok (.iconst 0, 1) := by decide +kernel
theorem dL_law_732 : decode cL_law 732 = .ok (.ireturn, 1) := by decide +kernel
theorem dL_law_733 : decode cL_law 733 = .ok (.aload_n 1, 1) := by decide +kernel
theorem dL_law_734 : decode cL_law 734 = .ok (.invokevirtual 109, 3) := by decide +kernel
theorem dL_law_737 : decode cL_law 737 = .ok (.aload_n 2, 1) := by decide +kernel
theorem dL_law_738 : decode cL_law 738 = .ok (.invokevirtual 112, 3) := by decide +kernel
theorem dL_law_741 : decode cL_law 741 = .ok (.if_icmp .eq 121, 3) := by decide +kernel
theorem dL_law_744 : decode cL_law 744 = .ok (.iconst 0, 1) := by decide +kernel
theorem dL_law_745 : decode cL_law 745 = .ok (.ireturn, 1) := by decide +kernel
theorem dL_law_746 : decode cL_law 746 = .ok (.aload_n 1, 1) := by decide +kernel
theorem dL_law_747 : decode cL_law 747 = .ok (.aload_n 0, 1) := by decide +kernel
theorem dL_law_748 : decode cL_law 748 = .ok (.iload_n 3, 1) := by decide +kernel
theorem dL_law_749 : decode cL_law 749 = .ok (.iconst 1, 1) := by decide +kernel
theorem dL_law_750 : decode cL_law 750 = .ok (.iadd, 1) := by decide +kernel
theorem dL_law_751 : decode cL_law 751 = .ok (.iaload, 1) := by decide +kernel
theorem dL_law_752 : decode cL_law 752 = .ok (.aload_n 0, 1) := by decide +kernel
theorem dL_law_753 : decode cL_law 753 = .ok (.iload_n 3, 1) := by decide +kernel
theorem dL_law_754 : decode cL_law 754 = .ok (.iconst 2, 1) := by decide +kernel
theorem dL_law_755 : decode cL_law 755 = .ok (.iadd, 1) := by decide +kernel
theorem dL_law_756 : decode cL_law 756 = .ok (.iaload, 1) := by decide +kernel
theorem dL_law_757 : decode cL_law 757 = .ok (.invokevirtual 113, 3) := by decide +kernel
theorem dL_law_760 : decode cL_law 760 = .ok (.aload_n 2, 1) := by decide +kernel
theorem dL_law_761 : decode cL_law 761 = .ok (.aload_n 0, 1) := by decide +kernel
theorem dL_law_762 : decode cL_law 762 = .ok (.iload_n 3, 1) := by decide +kernel
theorem dL_law_763 : decode cL_law 763 = .ok (.iconst 1, 1) := by decide +kernel
theorem dL_law_764 : decode cL_law 764 = .ok (.iadd, 1) := by decide +kernel
theorem dL_law_765 : decode cL_law 765 = .ok (.iaload, 1) := by decide +kernel
theorem dL_law_766 : decode cL_law 766 = .ok (.aload_n 0, 1) := by decide +kernel
theorem dL_law_767 : decode cL_law 767 = .ok (.iload_n 3, 1) := by decide +kernel
theorem dL_law_768 : decode cL_law 768 = .ok (.iconst 2, 1) := by decide +kernel
theorem dL_law_769 : decode cL_law 769 = .ok (.iadd, 1) := by decide +kernel
theorem dL_law_770 : decode cL_law 770 = .ok (.iaload, 1) := by decide +kernel
theorem dL_law_771 : decode cL_law 771 = .ok (.invokevirtual 116, 3) := by decide +kernel
theorem dL_law_774 : decode cL_law 774 = .ok (.if_icmp .eq 88, 3) := by decide +kernel
theorem dL_law_777 : decode cL_law 777 = .ok (.iconst 0, 1) := by decide +kernel
theorem dL_law_778 : decode cL_law 778 = .ok (.ireturn, 1) := by decide +kernel
theorem dL_law_779 : decode cL_law 779 = .ok (.aload_n 1, 1) := by decide +kernel
theorem dL_law_780 : decode cL_law 780 = .ok (.aload_n 0, 1) := by decide +kernel
theorem dL_law_781 : decode cL_law 781 = .ok (.iload_n 3, 1) := by decide +kernel
theorem dL_law_782 : decode cL_law 782 = .ok (.iconst 1, 1) := by decide +kernel
theorem dL_law_783 : decode cL_law 783 = .ok (.iadd, 1) := by decide +kernel
theorem dL_law_784 : decode cL_law 784 = .ok (.iaload, 1) := by decide +kernel
theorem dL_law_785 : decode cL_law 785 = .ok (.invokevirtual 117, 3) := by decide +kernel
theorem dL_law_788 : decode cL_law 788 = .ok (.aload_n 2, 1) := by decide +kernel
theorem dL_law_789 : decode cL_law 789 = .ok (.aload_n 0, 1) := by decide +kernel
theorem dL_law_790 : decode cL_law 790 = .ok (.iload_n 3, 1) := by decide +kernel
theorem dL_law_791 : decode cL_law 791 = .ok (.iconst 1, 1) := by decide +kernel
theorem dL_law_792 : decode cL_law 792 = .ok (.iadd, 1) := by decide +kernel
theorem dL_law_793 : decode cL_law 793 = .ok (.iaload, 1) := by decide +kernel
theorem dL_law_794 : decode cL_law 794 = .ok (.invokevirtual 120, 3) := by decide +kernel
theorem dL_law_797 : decode cL_law 797 = .ok (.if_icmp .eq 65, 3) := by decide +kernel
theorem dL_law_800 : decode cL_law 800 = .ok (.iconst 0, 1) := by decide +kernel
theorem dL_law_801 : decode cL_law 801 = .ok (.ireturn, 1) := by decide +kernel
theorem dL_law_802 : decode cL_law 802 = .ok (.aload_n 1, 1) := by decide +kernel
theorem dL_law_803 : decode cL_law 803 = .ok (.aload_n 0, 1) := by decide +kernel
theorem dL_law_804 : decode cL_law 804 = .ok (.iload_n 3, 1) := by decide +kernel
theorem dL_law_805 : decode cL_law 805 = .ok (.iconst 1, 1) := by decide +kernel
theorem dL_law_806 : decode cL_law 806 = .ok (.iadd, 1) := by decide +kernel
theorem dL_law_807 : decode cL_law 807 = .ok (.iaload, 1) := by decide +kernel
theorem dL_law_808 : decode cL_law 808 = .ok (.invokevirtual 121, 3) := by decide +kernel
theorem dL_law_811 : decode cL_law 811 = .ok (.aload_n 2, 1) := by decide +kernel
theorem dL_law_812 : decode cL_law 812 = .ok (.aload_n 0, 1) := by decide +kernel
theorem dL_law_813 : decode cL_law 813 = .ok (.iload_n 3, 1) := by decide +kernel
theorem dL_law_814 : decode cL_law 814 = .ok (.iconst 1, 1) := by decide +kernel
theorem dL_law_815 : decode cL_law 815 = .ok (.iadd, 1) := by decide +kernel
theorem dL_law_816 : decode cL_law 816 = .ok (.iaload, 1) := by decide +kernel
theorem dL_law_817 : decode cL_law 817 = .ok (.invokevirtual 124, 3) := by decide +kernel
theorem dL_law_820 : decode cL_law 820 = .ok (.if_icmp .eq 42, 3) := by decide +kernel
theorem dL_law_823 : decode cL_law 823 = .ok (.iconst 0, 1) := by decide +kernel
theorem dL_law_824 : decode cL_law 824 = .ok (.ireturn, 1) := by decide +kernel
theorem dL_law_825 : decode cL_law 825 = .ok (.aload_n 1, 1) := by decide +kernel
theorem dL_law_826 : decode cL_law 826 = .ok (.aload_n 0, 1) := by decide +kernel
theorem dL_law_827 : decode cL_law 827 = .ok (.iload_n 3, 1) := by decide +kernel
theorem dL_law_828 : decode cL_law 828 = .ok (.iconst 1, 1) := by decide +kernel
theorem dL_law_829 : decode cL_law 829 = .ok (.iadd, 1) := by decide +kernel
theorem dL_law_830 : decode cL_law 830 = .ok (.iaload, 1) := by decide +kernel
theorem dL_law_831 : decode cL_law 831 = .ok (.invokevirtual 125, 3) := by decide +kernel
theorem dL_law_834 : decode cL_law 834 = .ok (.aload_n 2, 1) := by decide +kernel
theorem dL_law_835 : decode cL_law 835 = .ok (.aload_n 0, 1) := by decide +kernel
theorem dL_law_836 : decode cL_law 836 = .ok (.iload_n 3, 1) := by decide +kernel
theorem dL_law_837 : decode cL_law 837 = .ok (.iconst 1, 1) := by decide +kernel
theorem dL_law_838 : decode cL_law 838 = .ok (.iadd, 1) := by decide +kernel
theorem dL_law_839 : decode cL_law 839 = .ok (.iaload, 1) := by decide +kernel
theorem dL_law_840 : decode cL_law 840 = .ok (.invokevirtual 128, 3) := by decide +kernel
theorem dL_law_843 : decode cL_law 843 = .ok (.if_icmp .eq 19, 3) := by decide +kernel
theorem dL_law_846 : decode cL_law 846 = .ok (.iconst 0, 1) := by decide +kernel
theorem dL_law_847 : decode cL_law 847 = .ok (.ireturn, 1) := by decide +kernel
theorem dL_law_848 : decode cL_law 848 = .ok (.aload_n 1, 1) := by decide +kernel
theorem dL_law_849 : decode cL_law 849 = .ok (.invokevirtual 129, 3) := by decide +kernel
theorem dL_law_852 : decode cL_law 852 = .ok (.aload_n 2, 1) := by decide +kernel
theorem dL_law_853 : decode cL_law 853 = .ok (.invokevirtual 133, 3) := by decide +kernel
theorem dL_law_856 : decode cL_law 856 = .ok (.lcmp, 1) := by decide +kernel
theorem dL_law_857 : decode cL_law 857 = .ok (.ifCond .eq 5, 3) := by decide +kernel
theorem dL_law_860 : decode cL_law 860 = .ok (.iconst 0, 1) := by decide +kernel
theorem dL_law_861 : decode cL_law 861 = .ok (.ireturn, 1) := by decide +kernel
theorem dL_law_862 : decode cL_law 862 = .ok (.iinc 3 4, 3) := by decide +kernel
theorem dL_law_865 : decode cL_law 865 = .ok (.goto (-847), 3) := by decide +kernel
theorem dL_law_868 : decode cL_law 868 = .ok (.iconst 1, 1) := by decide +kernel
theorem dL_law_869 : decode cL_law 869 = .ok (.ireturn, 1) := by decide +kernel
end
section
/-! a small machine of cells: numbers of cells stand for addresses (b + number); ints, references and longs of a cell apart -/
abbrev mm_HI : Type := Nat → Nat → Int32
abbrev mm_T : Type := (Nat → Nat → Option Nat) × (Nat → Nat → Int64)
def mm_rl (b : Nat) (v : Value) : Value := match v with
  | .ref c => .ref (b + c)
  | w => w
def mm_layL : List (Nat × Nat) := [(0, 9), (0, 8), (1, 150), (0, 7), (1, 48), (1, 8), (0, 2), (1, 1350), (1, 72), (0, 7), (1, 48), (1, 8), (0, 2), (1, 1350), (1, 72), (0, 1), (0, 6), (1, 6), (2, 10), (0, 6), (1, 6), (0, 6), (1, 6), (0, 6), (1, 6), (0, 6), (1, 6), (0, 6), (1, 6), (0, 6), (1, 6), (0, 6), (1, 6), (0, 6), (1, 6), (0, 6), (1, 6), (0, 6), (1, 6), (0, 1), (0, 6), (1, 6), (2, 10), (0, 6), (1, 6), (0, 6), (1, 6), (0, 6), (1, 6), (0, 6), (1, 6), (0, 6), (1, 6), (0, 6), (1, 6), (0, 6), (1, 6), (0, 6), (1, 6), (0, 6), (1, 6), (0, 6), (1, 6), (0, 1), (0, 6), (1, 6), (2, 10), (0, 6), (1, 6), (0, 6), (1, 6), (0, 6), (1, 6), (0, 6), (1, 6), (0, 6), (1, 6), (0, 6), (1, 6), (0, 6), (1, 6), (0, 6), (1, 6), (0, 6), (1, 6), (0, 6), (1, 6), (0, 4), (0, 5), (0, 6), (1, 6), (1, 21), (1, 6), (1, 6), (1, 6), (0, 3), (0, 6), (1, 6), (1, 21), (0, 0), (0, 6), (1, 6), (1, 21), (0, 4), (0, 6), (1, 6), (0, 10), (1, 36), (1, 48), (1, 8), (1, 6), (1, 6), (1, 6), (1, 150), (1, 36), (1, 48), (1, 8), (1, 3), (1, 3), (1, 3), (1, 80), (1, 6), (1, 6), (1, 6), (1, 180)]
def mm_lay (c : Nat) : Nat × Nat := mm_layL.getD c (3, 0)
def mm_ftL : List (List Nat) := [[1, 3, 3, 1, 0, 0, 1], [1, 0, 1], [1, 0], [1, 3, 3, 1, 0, 0, 0, 0], [0, 0, 0, 0, 0, 0], [1, 3, 3, 1, 0, 0, 0, 1, 1, 1], [1, 0, 0], [0, 0, 0, 1, 1, 1, 1], [0, 1, 0, 0, 0], [1, 1, 1, 1, 1, 1, 0, 0, 0, 0, 2, 1, 1, 1, 1, 1], [0, 0, 0, 1, 1, 1, 0, 0, 1, 0, 1, 1, 2, 1, 0, 0, 0, 0, 0, 0, 1, 1, 1, 1, 1, 1, 0, 1, 0, 1, 0, 0, 0, 0, 1, 1, 1]]
def mm_ft (ci k : Nat) : Nat := (mm_ftL.getD ci []).getD k 0
def mm_nf (ci : Nat) : Nat := (mm_ftL.getD ci []).length
def mm_sz (c : Nat) : Nat := if (mm_lay c).1 = 0 then mm_nf (mm_lay c).2 else (mm_lay c).2
def mm_sl : Nat → Nat
  | 0 => 0
  | n + 1 => mm_sl n + mm_sz n
def mm_fv (b : Nat) (hi : mm_HI) (τ : mm_T) (c k t : Nat) : Value := if t = 1 then va_rf ((τ.1 c k).map (b + ·)) else if t = 2 then .long (τ.2 c k) else .int (hi c k)
def mm_in (w : Cond) : Prop := w ∈ lw_tbl ∧ goodWord w = true
abbrev mm_g : List Cond := lw_tbl.filter goodWord
theorem mm_in_g {w : Cond} (h : mm_in w) : w ∈ mm_g := List.mem_filter.mpr h
theorem mm_g_good : GoodIn mm_g mm_g := fun w h => ⟨h, good_of_word (List.mem_filter.mp h).2⟩
def mm_E (U : State) : Prop := (∀ own idx y host, Cond.methodLinkNest own idx y host ∈ lw_tbl → va_Nw (.methodLinkNest own idx y host) U) ∧ (∀ x, Cond.declares x ∈ lw_tbl → va_Nw (.declares x) U) ∧ va_AO RX6 U
theorem mm_E.warm {s U : State} (hW : s.WarmedH U.vm) (h : mm_E s) : mm_E U := ⟨fun o i y ho hw => va_Nw.warmM hW (h.1 o i y ho hw), fun x hw => va_Nw.warmD hW (h.2.1 x hw), va_AO.moved hW.alike h.2.2⟩
theorem mm_E.same {s U : State} (hv : s.vm = U.vm) (h : mm_E s) : mm_E U := ⟨fun o i y ho hw => va_Nw.same rfl hv (h.1 o i y ho hw), fun x hw => va_Nw.same rfl hv (h.2.1 x hw), va_AO.moved (by rw [hv]; exact Vm.Alike.refl _) h.2.2⟩
abbrev mm_tys (cI cR : ClassId) : List (ClassId × FieldType) := [(cI, .int), (cR, .object RX6)]
def mm_tc (ty : FieldType) : Nat := match ty with
  | .int => 0
  | .boolean => 3
  | .long => 2
  | .object _ => 1
  | .array _ => 1
  | _ => 9
/-- the pool's entry idx of class own is field k (of type code tc) of the class with number ci -/
def mm_FL (own : String) (idx ci k tc : Nat) (fin ow : Bool) : Prop := ∃ (C : String) (T : u_T) (N : Nat) (ref : String) (ty : FieldType), vwCl[ci]? = some (C, T, N) ∧ N = mm_nf ci ∧ k < N ∧ mm_in (Cond.fieldLink own idx ref (T k).2.1 (T k).2.2.1) ∧ ((T k).1 = ref ∨ mm_in (Cond.sameField ref (T k).1 (T k).2.1 (T k).2.2.1)) ∧ parseFieldDescriptor (T k).2.2.1 = some ty ∧ mm_tc ty = tc ∧ mm_ft ci k = tc ∧ (T k).2.2.2 = fin ∧ (ow = true → (T k).1 = own)
/-- a method that is called: its code stands in the tables -/
def mm_M (y : MethodName) (bytes : ByteArray) (maxL : Nat) (ret : Option FieldType) : Prop := mm_in (Cond.code y bytes maxL ret) ∧ plainName y.cls = true ∧ maxL ≤ 40 ∧ mm_in (Cond.initialized y.cls) ∧ (y.cls ≠ "java/lang/invoke/MethodHandle" ∧ y.cls ≠ "java/lang/invoke/VarHandle") ∧ (y.name = "<init>" → ret = none)
def mm_par (y : MethodName) (n : Nat) : Prop := (parseMethodDescriptor y.desc).map (fun d => d.parameters.length) = some n
def mm_CS (own : String) (idx : Nat) (y : MethodName) (n : Nat) : Prop := mm_in (Cond.methodLink own idx y) ∧ mm_in (Cond.static y) ∧ mm_par y n
def mm_CV (own : String) (idx : Nat) (y : MethodName) (n ci : Nat) : Prop := mm_in (Cond.methodLink own idx y) ∧ mm_in (Cond.instanceMethod y) ∧ mm_in (Cond.selects y.cls y y) ∧ mm_par y n ∧ ∃ T N, vwCl[ci]? = some (y.cls, T, N)
def mm_CU (own : String) (idx : Nat) (y : MethodName) (n ci : Nat) : Prop := ∃ (x : MethodName) (C owner : String) (T : u_T) (N : Nat), mm_in (Cond.methodLink own idx x) ∧ mm_in (Cond.sameMethod x.cls owner x.name x.desc) ∧ mm_in (Cond.selects C x y) ∧ mm_in (Cond.instanceMethod y) ∧ (Cond.declares ⟨owner, x.name, x.desc⟩ ∈ lw_tbl ∨ ∃ b0 m0 r0, mm_in (Cond.instanceMethod ⟨owner, x.name, x.desc⟩) ∧ mm_in (Cond.code ⟨owner, x.name, x.desc⟩ b0 m0 r0)) ∧ (owner ≠ "java/lang/invoke/MethodHandle" ∧ owner ≠ "java/lang/invoke/VarHandle") ∧ mm_par x n ∧ vwCl[ci]? = some (C, T, N)
def mm_CI (own : String) (idx : Nat) (y : MethodName) (n : Nat) : Prop := y.name = "<init>" ∧ mm_in (Cond.instanceMethod y) ∧ mm_par y n ∧ (mm_in (Cond.methodLink own idx y) ∨ ∃ host, Cond.methodLinkNest own idx y host ∈ lw_tbl)
abbrev mm_X : Type := Nat → List (Option Value) → List Value → mm_HI → mm_T → Nat → Prop
abbrev mm_Q : Type := Option Value → mm_HI → mm_T → Prop
abbrev mm_call : Type := MethodName → List Value → mm_HI → mm_T → Nat → Nat → mm_Q → Prop
abbrev mm_up2 (hi : mm_HI) (c k : Nat) (x : Int32) : mm_HI := va_up hi c (va_up (hi c) k x)
def mm_NW (own : String) (ix ci : Nat) : Prop := ∃ (C : String) (T : u_T) (N : Nat), vwCl[ci]? = some (C, T, N) ∧ mm_in (Cond.classLink own ix C) ∧ mm_in (Cond.instantiable C N) ∧ mm_in (Cond.initialized C)
def mg_iconst (CALL : mm_call) (own : String) (cc : ByteArray) (nL : Nat) (ret : Option FieldType) (ini : Bool) (n1 : Nat) (Post : mm_Q) (X : mm_X) : Prop := ∀ (pc : Nat) (ls : List (Option Value)) (st : List Value) (hi : mm_HI) (τ : mm_T) (n : Nat) (z : Int) (v : Int32), decode cc pc = .ok (.iconst z, 1) → Int32.ofInt z = v → X (pc + 1) ls (.int v :: st) (hi) (τ) (n) → X (pc) ls (st) (hi) (τ) (n)
def mg_bipush (CALL : mm_call) (own : String) (cc : ByteArray) (nL : Nat) (ret : Option FieldType) (ini : Bool) (n1 : Nat) (Post : mm_Q) (X : mm_X) : Prop := ∀ (pc : Nat) (ls : List (Option Value)) (st : List Value) (hi : mm_HI) (τ : mm_T) (n : Nat) (z : Int) (v : Int32), decode cc pc = .ok (.bipush z, 2) → (Int8.ofInt z).toInt32 = v → X (pc + 2) ls (.int v :: st) (hi) (τ) (n) → X (pc) ls (st) (hi) (τ) (n)
def mg_sipush (CALL : mm_call) (own : String) (cc : ByteArray) (nL : Nat) (ret : Option FieldType) (ini : Bool) (n1 : Nat) (Post : mm_Q) (X : mm_X) : Prop := ∀ (pc : Nat) (ls : List (Option Value)) (st : List Value) (hi : mm_HI) (τ : mm_T) (n : Nat) (z : Int) (v : Int32), decode cc pc = .ok (.sipush z, 3) → (Int16.ofInt z).toInt32 = v → X (pc + 3) ls (.int v :: st) (hi) (τ) (n) → X (pc) ls (st) (hi) (τ) (n)
def mg_ldc (CALL : mm_call) (own : String) (cc : ByteArray) (nL : Nat) (ret : Option FieldType) (ini : Bool) (n1 : Nat) (Post : mm_Q) (X : mm_X) : Prop := ∀ (pc : Nat) (ls : List (Option Value)) (st : List Value) (hi : mm_HI) (τ : mm_T) (n : Nat) (z : Nat) (v : Int32), decode cc pc = .ok (.ldc z, 2) → mm_in (Cond.constant own z v) → X (pc + 2) ls (.int v :: st) (hi) (τ) (n) → X (pc) ls (st) (hi) (τ) (n)
def mg_ldcw (CALL : mm_call) (own : String) (cc : ByteArray) (nL : Nat) (ret : Option FieldType) (ini : Bool) (n1 : Nat) (Post : mm_Q) (X : mm_X) : Prop := ∀ (pc : Nat) (ls : List (Option Value)) (st : List Value) (hi : mm_HI) (τ : mm_T) (n : Nat) (z : Nat) (v : Int32), decode cc pc = .ok (.ldc_w z, 3) → mm_in (Cond.constant own z v) → X (pc + 3) ls (.int v :: st) (hi) (τ) (n) → X (pc) ls (st) (hi) (τ) (n)
def mg_lconst (CALL : mm_call) (own : String) (cc : ByteArray) (nL : Nat) (ret : Option FieldType) (ini : Bool) (n1 : Nat) (Post : mm_Q) (X : mm_X) : Prop := ∀ (pc : Nat) (ls : List (Option Value)) (st : List Value) (hi : mm_HI) (τ : mm_T) (n : Nat) (z : Fin 2) (v : Int64), decode cc pc = .ok (.lconst z, 1) → Int64.ofNat (z : Nat) = v → X (pc + 1) ls (.long v :: st) (hi) (τ) (n) → X (pc) ls (st) (hi) (τ) (n)
def mg_ldc2 (CALL : mm_call) (own : String) (cc : ByteArray) (nL : Nat) (ret : Option FieldType) (ini : Bool) (n1 : Nat) (Post : mm_Q) (X : mm_X) : Prop := ∀ (pc : Nat) (ls : List (Option Value)) (st : List Value) (hi : mm_HI) (τ : mm_T) (n : Nat) (z : Nat) (v : Int64), decode cc pc = .ok (.ldc2_w z, 3) → mm_in (Cond.constantLong own z v) → X (pc + 3) ls (.long v :: st) (hi) (τ) (n) → X (pc) ls (st) (hi) (τ) (n)
def mg_iload_n (CALL : mm_call) (own : String) (cc : ByteArray) (nL : Nat) (ret : Option FieldType) (ini : Bool) (n1 : Nat) (Post : mm_Q) (X : mm_X) : Prop := ∀ (pc : Nat) (ls : List (Option Value)) (st : List Value) (hi : mm_HI) (τ : mm_T) (n : Nat) (j : Fin 4) (x : Int32), decode cc pc = .ok (.iload_n j, 1) → ls[(j : Nat)]? = some (some (.int x)) → X (pc + 1) ls (.int x :: st) (hi) (τ) (n) → X (pc) ls (st) (hi) (τ) (n)
def mg_iload (CALL : mm_call) (own : String) (cc : ByteArray) (nL : Nat) (ret : Option FieldType) (ini : Bool) (n1 : Nat) (Post : mm_Q) (X : mm_X) : Prop := ∀ (pc : Nat) (ls : List (Option Value)) (st : List Value) (hi : mm_HI) (τ : mm_T) (n : Nat) (j : Nat) (x : Int32), decode cc pc = .ok (.iload j, 2) → ls[j]? = some (some (.int x)) → X (pc + 2) ls (.int x :: st) (hi) (τ) (n) → X (pc) ls (st) (hi) (τ) (n)
def mg_aload_n (CALL : mm_call) (own : String) (cc : ByteArray) (nL : Nat) (ret : Option FieldType) (ini : Bool) (n1 : Nat) (Post : mm_Q) (X : mm_X) : Prop := ∀ (pc : Nat) (ls : List (Option Value)) (st : List Value) (hi : mm_HI) (τ : mm_T) (n : Nat) (j : Fin 4) (x : Nat), decode cc pc = .ok (.aload_n j, 1) → ls[(j : Nat)]? = some (some (.ref x)) → X (pc + 1) ls (.ref x :: st) (hi) (τ) (n) → X (pc) ls (st) (hi) (τ) (n)
def mg_aload (CALL : mm_call) (own : String) (cc : ByteArray) (nL : Nat) (ret : Option FieldType) (ini : Bool) (n1 : Nat) (Post : mm_Q) (X : mm_X) : Prop := ∀ (pc : Nat) (ls : List (Option Value)) (st : List Value) (hi : mm_HI) (τ : mm_T) (n : Nat) (j : Nat) (x : Nat), decode cc pc = .ok (.aload j, 2) → ls[j]? = some (some (.ref x)) → X (pc + 2) ls (.ref x :: st) (hi) (τ) (n) → X (pc) ls (st) (hi) (τ) (n)
def mg_istore_n (CALL : mm_call) (own : String) (cc : ByteArray) (nL : Nat) (ret : Option FieldType) (ini : Bool) (n1 : Nat) (Post : mm_Q) (X : mm_X) : Prop := ∀ (pc : Nat) (ls : List (Option Value)) (st : List Value) (hi : mm_HI) (τ : mm_T) (n : Nat) (j : Fin 4) (x : Int32), decode cc pc = .ok (.istore_n j, 1) → (j : Nat) < nL → X (pc + 1) (ls.set (j : Nat) (some (.int x))) (st) (hi) (τ) (n) → X (pc) ls (.int x :: st) (hi) (τ) (n)
def mg_istore (CALL : mm_call) (own : String) (cc : ByteArray) (nL : Nat) (ret : Option FieldType) (ini : Bool) (n1 : Nat) (Post : mm_Q) (X : mm_X) : Prop := ∀ (pc : Nat) (ls : List (Option Value)) (st : List Value) (hi : mm_HI) (τ : mm_T) (n : Nat) (j : Nat) (x : Int32), decode cc pc = .ok (.istore j, 2) → j < nL → X (pc + 2) (ls.set j (some (.int x))) (st) (hi) (τ) (n) → X (pc) ls (.int x :: st) (hi) (τ) (n)
def mg_astore_n (CALL : mm_call) (own : String) (cc : ByteArray) (nL : Nat) (ret : Option FieldType) (ini : Bool) (n1 : Nat) (Post : mm_Q) (X : mm_X) : Prop := ∀ (pc : Nat) (ls : List (Option Value)) (st : List Value) (hi : mm_HI) (τ : mm_T) (n : Nat) (j : Fin 4) (x : Nat), decode cc pc = .ok (.astore_n j, 1) → (j : Nat) < nL → X (pc + 1) (ls.set (j : Nat) (some (.ref x))) (st) (hi) (τ) (n) → X (pc) ls (.ref x :: st) (hi) (τ) (n)
def mg_astore (CALL : mm_call) (own : String) (cc : ByteArray) (nL : Nat) (ret : Option FieldType) (ini : Bool) (n1 : Nat) (Post : mm_Q) (X : mm_X) : Prop := ∀ (pc : Nat) (ls : List (Option Value)) (st : List Value) (hi : mm_HI) (τ : mm_T) (n : Nat) (j : Nat) (x : Nat), decode cc pc = .ok (.astore j, 2) → j < nL → X (pc + 2) (ls.set j (some (.ref x))) (st) (hi) (τ) (n) → X (pc) ls (.ref x :: st) (hi) (τ) (n)
def mg_iinc (CALL : mm_call) (own : String) (cc : ByteArray) (nL : Nat) (ret : Option FieldType) (ini : Bool) (n1 : Nat) (Post : mm_Q) (X : mm_X) : Prop := ∀ (pc : Nat) (ls : List (Option Value)) (st : List Value) (hi : mm_HI) (τ : mm_T) (n : Nat) (j : Nat) (z : Int) (x v : Int32), decode cc pc = .ok (.iinc j z, 3) → ls[j]? = some (some (.int x)) → x + Int32.ofInt z = v → j < nL → X (pc + 3) (ls.set j (some (.int v))) (st) (hi) (τ) (n) → X (pc) ls (st) (hi) (τ) (n)
def mg_iadd (CALL : mm_call) (own : String) (cc : ByteArray) (nL : Nat) (ret : Option FieldType) (ini : Bool) (n1 : Nat) (Post : mm_Q) (X : mm_X) : Prop := ∀ (pc : Nat) (ls : List (Option Value)) (st : List Value) (hi : mm_HI) (τ : mm_T) (n : Nat) (x y : Int32), decode cc pc = .ok (.iadd, 1) → X (pc + 1) ls (.int (x + y) :: st) (hi) (τ) (n) → X (pc) ls (.int y :: .int x :: st) (hi) (τ) (n)
def mg_isub (CALL : mm_call) (own : String) (cc : ByteArray) (nL : Nat) (ret : Option FieldType) (ini : Bool) (n1 : Nat) (Post : mm_Q) (X : mm_X) : Prop := ∀ (pc : Nat) (ls : List (Option Value)) (st : List Value) (hi : mm_HI) (τ : mm_T) (n : Nat) (x y : Int32), decode cc pc = .ok (.isub, 1) → X (pc + 1) ls (.int (x - y) :: st) (hi) (τ) (n) → X (pc) ls (.int y :: .int x :: st) (hi) (τ) (n)
def mg_imul (CALL : mm_call) (own : String) (cc : ByteArray) (nL : Nat) (ret : Option FieldType) (ini : Bool) (n1 : Nat) (Post : mm_Q) (X : mm_X) : Prop := ∀ (pc : Nat) (ls : List (Option Value)) (st : List Value) (hi : mm_HI) (τ : mm_T) (n : Nat) (x y : Int32), decode cc pc = .ok (.imul, 1) → X (pc + 1) ls (.int (x * y) :: st) (hi) (τ) (n) → X (pc) ls (.int y :: .int x :: st) (hi) (τ) (n)
def mg_iand (CALL : mm_call) (own : String) (cc : ByteArray) (nL : Nat) (ret : Option FieldType) (ini : Bool) (n1 : Nat) (Post : mm_Q) (X : mm_X) : Prop := ∀ (pc : Nat) (ls : List (Option Value)) (st : List Value) (hi : mm_HI) (τ : mm_T) (n : Nat) (x y : Int32), decode cc pc = .ok (.iand, 1) → X (pc + 1) ls (.int (x &&& y) :: st) (hi) (τ) (n) → X (pc) ls (.int y :: .int x :: st) (hi) (τ) (n)
def mg_ior (CALL : mm_call) (own : String) (cc : ByteArray) (nL : Nat) (ret : Option FieldType) (ini : Bool) (n1 : Nat) (Post : mm_Q) (X : mm_X) : Prop := ∀ (pc : Nat) (ls : List (Option Value)) (st : List Value) (hi : mm_HI) (τ : mm_T) (n : Nat) (x y : Int32), decode cc pc = .ok (.ior, 1) → X (pc + 1) ls (.int (x ||| y) :: st) (hi) (τ) (n) → X (pc) ls (.int y :: .int x :: st) (hi) (τ) (n)
def mg_ixor (CALL : mm_call) (own : String) (cc : ByteArray) (nL : Nat) (ret : Option FieldType) (ini : Bool) (n1 : Nat) (Post : mm_Q) (X : mm_X) : Prop := ∀ (pc : Nat) (ls : List (Option Value)) (st : List Value) (hi : mm_HI) (τ : mm_T) (n : Nat) (x y : Int32), decode cc pc = .ok (.ixor, 1) → X (pc + 1) ls (.int (x ^^^ y) :: st) (hi) (τ) (n) → X (pc) ls (.int y :: .int x :: st) (hi) (τ) (n)
def mg_ishl (CALL : mm_call) (own : String) (cc : ByteArray) (nL : Nat) (ret : Option FieldType) (ini : Bool) (n1 : Nat) (Post : mm_Q) (X : mm_X) : Prop := ∀ (pc : Nat) (ls : List (Option Value)) (st : List Value) (hi : mm_HI) (τ : mm_T) (n : Nat) (x y : Int32), decode cc pc = .ok (.ishl, 1) → X (pc + 1) ls (.int (x <<< (y &&& 31)) :: st) (hi) (τ) (n) → X (pc) ls (.int y :: .int x :: st) (hi) (τ) (n)
def mg_ishr (CALL : mm_call) (own : String) (cc : ByteArray) (nL : Nat) (ret : Option FieldType) (ini : Bool) (n1 : Nat) (Post : mm_Q) (X : mm_X) : Prop := ∀ (pc : Nat) (ls : List (Option Value)) (st : List Value) (hi : mm_HI) (τ : mm_T) (n : Nat) (x y : Int32), decode cc pc = .ok (.ishr, 1) → X (pc + 1) ls (.int (x >>> (y &&& 31)) :: st) (hi) (τ) (n) → X (pc) ls (.int y :: .int x :: st) (hi) (τ) (n)
def mg_iushr (CALL : mm_call) (own : String) (cc : ByteArray) (nL : Nat) (ret : Option FieldType) (ini : Bool) (n1 : Nat) (Post : mm_Q) (X : mm_X) : Prop := ∀ (pc : Nat) (ls : List (Option Value)) (st : List Value) (hi : mm_HI) (τ : mm_T) (n : Nat) (x y v : Int32), decode cc pc = .ok (.iushr, 1) → (x.toUInt32 >>> (y.toUInt32 &&& Int32.toUInt32 31)).toInt32 = v → X (pc + 1) ls (.int v :: st) (hi) (τ) (n) → X (pc) ls (.int y :: .int x :: st) (hi) (τ) (n)
def mg_idiv (CALL : mm_call) (own : String) (cc : ByteArray) (nL : Nat) (ret : Option FieldType) (ini : Bool) (n1 : Nat) (Post : mm_Q) (X : mm_X) : Prop := ∀ (pc : Nat) (ls : List (Option Value)) (st : List Value) (hi : mm_HI) (τ : mm_T) (n : Nat) (x y : Int32), decode cc pc = .ok (.idiv, 1) → ¬ y = 0 → X (pc + 1) ls (.int (x / y) :: st) (hi) (τ) (n) → X (pc) ls (.int y :: .int x :: st) (hi) (τ) (n)
def mg_irem (CALL : mm_call) (own : String) (cc : ByteArray) (nL : Nat) (ret : Option FieldType) (ini : Bool) (n1 : Nat) (Post : mm_Q) (X : mm_X) : Prop := ∀ (pc : Nat) (ls : List (Option Value)) (st : List Value) (hi : mm_HI) (τ : mm_T) (n : Nat) (x y : Int32), decode cc pc = .ok (.irem, 1) → ¬ y = 0 → X (pc + 1) ls (.int (x - x / y * y) :: st) (hi) (τ) (n) → X (pc) ls (.int y :: .int x :: st) (hi) (τ) (n)
def mg_ineg (CALL : mm_call) (own : String) (cc : ByteArray) (nL : Nat) (ret : Option FieldType) (ini : Bool) (n1 : Nat) (Post : mm_Q) (X : mm_X) : Prop := ∀ (pc : Nat) (ls : List (Option Value)) (st : List Value) (hi : mm_HI) (τ : mm_T) (n : Nat) (x : Int32), decode cc pc = .ok (.ineg, 1) → X (pc + 1) ls (.int (-x) :: st) (hi) (τ) (n) → X (pc) ls (.int x :: st) (hi) (τ) (n)
def mg_ladd (CALL : mm_call) (own : String) (cc : ByteArray) (nL : Nat) (ret : Option FieldType) (ini : Bool) (n1 : Nat) (Post : mm_Q) (X : mm_X) : Prop := ∀ (pc : Nat) (ls : List (Option Value)) (st : List Value) (hi : mm_HI) (τ : mm_T) (n : Nat) (x y : Int64), decode cc pc = .ok (.ladd, 1) → X (pc + 1) ls (.long (x + y) :: st) (hi) (τ) (n) → X (pc) ls (.long y :: .long x :: st) (hi) (τ) (n)
def mg_lcmp (CALL : mm_call) (own : String) (cc : ByteArray) (nL : Nat) (ret : Option FieldType) (ini : Bool) (n1 : Nat) (Post : mm_Q) (X : mm_X) : Prop := ∀ (pc : Nat) (ls : List (Option Value)) (st : List Value) (hi : mm_HI) (τ : mm_T) (n : Nat) (x y : Int64), decode cc pc = .ok (.lcmp, 1) → X (pc + 1) ls (.int (lg_cmp x y) :: st) (hi) (τ) (n) → X (pc) ls (.long y :: .long x :: st) (hi) (τ) (n)
def mg_dup (CALL : mm_call) (own : String) (cc : ByteArray) (nL : Nat) (ret : Option FieldType) (ini : Bool) (n1 : Nat) (Post : mm_Q) (X : mm_X) : Prop := ∀ (pc : Nat) (ls : List (Option Value)) (st : List Value) (hi : mm_HI) (τ : mm_T) (n : Nat) (v : Value), decode cc pc = .ok (.dup, 1) → v.category = 1 → X (pc + 1) ls (v :: v :: st) (hi) (τ) (n) → X (pc) ls (v :: st) (hi) (τ) (n)
def mg_pop (CALL : mm_call) (own : String) (cc : ByteArray) (nL : Nat) (ret : Option FieldType) (ini : Bool) (n1 : Nat) (Post : mm_Q) (X : mm_X) : Prop := ∀ (pc : Nat) (ls : List (Option Value)) (st : List Value) (hi : mm_HI) (τ : mm_T) (n : Nat) (v : Value), decode cc pc = .ok (.pop, 1) → v.category = 1 → X (pc + 1) ls (st) (hi) (τ) (n) → X (pc) ls (v :: st) (hi) (τ) (n)
def mg_dup_x1 (CALL : mm_call) (own : String) (cc : ByteArray) (nL : Nat) (ret : Option FieldType) (ini : Bool) (n1 : Nat) (Post : mm_Q) (X : mm_X) : Prop := ∀ (pc : Nat) (ls : List (Option Value)) (st : List Value) (hi : mm_HI) (τ : mm_T) (n : Nat) (v w : Value), decode cc pc = .ok (.dup_x1, 1) → v.category = 1 → w.category = 1 → X (pc + 1) ls (v :: w :: v :: st) (hi) (τ) (n) → X (pc) ls (v :: w :: st) (hi) (τ) (n)
def mg_dup2 (CALL : mm_call) (own : String) (cc : ByteArray) (nL : Nat) (ret : Option FieldType) (ini : Bool) (n1 : Nat) (Post : mm_Q) (X : mm_X) : Prop := ∀ (pc : Nat) (ls : List (Option Value)) (st : List Value) (hi : mm_HI) (τ : mm_T) (n : Nat) (v w : Value), decode cc pc = .ok (.dup2, 1) → v.category = 1 → w.category = 1 → X (pc + 1) ls (v :: w :: v :: w :: st) (hi) (τ) (n) → X (pc) ls (v :: w :: st) (hi) (τ) (n)
def mg_if_eq (CALL : mm_call) (own : String) (cc : ByteArray) (nL : Nat) (ret : Option FieldType) (ini : Bool) (n1 : Nat) (Post : mm_Q) (X : mm_X) : Prop := ∀ (pc : Nat) (ls : List (Option Value)) (st : List Value) (hi : mm_HI) (τ : mm_T) (n : Nat) (x : Int32) (off : Int) (tgt : Nat), decode cc pc = .ok (.ifCond .eq off, 3) → (pc : Int) + off = (tgt : Int) → ((x = 0) → X (tgt) ls (st) (hi) (τ) (n)) → ((¬ x = 0) → X (pc + 3) ls (st) (hi) (τ) (n)) → X (pc) ls (.int x :: st) (hi) (τ) (n)
def mg_icmp_eq (CALL : mm_call) (own : String) (cc : ByteArray) (nL : Nat) (ret : Option FieldType) (ini : Bool) (n1 : Nat) (Post : mm_Q) (X : mm_X) : Prop := ∀ (pc : Nat) (ls : List (Option Value)) (st : List Value) (hi : mm_HI) (τ : mm_T) (n : Nat) (x y : Int32) (off : Int) (tgt : Nat), decode cc pc = .ok (.if_icmp .eq off, 3) → (pc : Int) + off = (tgt : Int) → ((x = y) → X (tgt) ls (st) (hi) (τ) (n)) → ((¬ x = y) → X (pc + 3) ls (st) (hi) (τ) (n)) → X (pc) ls (.int y :: .int x :: st) (hi) (τ) (n)
def mg_if_ne (CALL : mm_call) (own : String) (cc : ByteArray) (nL : Nat) (ret : Option FieldType) (ini : Bool) (n1 : Nat) (Post : mm_Q) (X : mm_X) : Prop := ∀ (pc : Nat) (ls : List (Option Value)) (st : List Value) (hi : mm_HI) (τ : mm_T) (n : Nat) (x : Int32) (off : Int) (tgt : Nat), decode cc pc = .ok (.ifCond .ne off, 3) → (pc : Int) + off = (tgt : Int) → ((¬ x = 0) → X (tgt) ls (st) (hi) (τ) (n)) → ((x = 0) → X (pc + 3) ls (st) (hi) (τ) (n)) → X (pc) ls (.int x :: st) (hi) (τ) (n)
def mg_icmp_ne (CALL : mm_call) (own : String) (cc : ByteArray) (nL : Nat) (ret : Option FieldType) (ini : Bool) (n1 : Nat) (Post : mm_Q) (X : mm_X) : Prop := ∀ (pc : Nat) (ls : List (Option Value)) (st : List Value) (hi : mm_HI) (τ : mm_T) (n : Nat) (x y : Int32) (off : Int) (tgt : Nat), decode cc pc = .ok (.if_icmp .ne off, 3) → (pc : Int) + off = (tgt : Int) → ((¬ x = y) → X (tgt) ls (st) (hi) (τ) (n)) → ((x = y) → X (pc + 3) ls (st) (hi) (τ) (n)) → X (pc) ls (.int y :: .int x :: st) (hi) (τ) (n)
def mg_if_lt (CALL : mm_call) (own : String) (cc : ByteArray) (nL : Nat) (ret : Option FieldType) (ini : Bool) (n1 : Nat) (Post : mm_Q) (X : mm_X) : Prop := ∀ (pc : Nat) (ls : List (Option Value)) (st : List Value) (hi : mm_HI) (τ : mm_T) (n : Nat) (x : Int32) (off : Int) (tgt : Nat), decode cc pc = .ok (.ifCond .lt off, 3) → (pc : Int) + off = (tgt : Int) → ((x < 0) → X (tgt) ls (st) (hi) (τ) (n)) → ((¬ x < 0) → X (pc + 3) ls (st) (hi) (τ) (n)) → X (pc) ls (.int x :: st) (hi) (τ) (n)
def mg_icmp_lt (CALL : mm_call) (own : String) (cc : ByteArray) (nL : Nat) (ret : Option FieldType) (ini : Bool) (n1 : Nat) (Post : mm_Q) (X : mm_X) : Prop := ∀ (pc : Nat) (ls : List (Option Value)) (st : List Value) (hi : mm_HI) (τ : mm_T) (n : Nat) (x y : Int32) (off : Int) (tgt : Nat), decode cc pc = .ok (.if_icmp .lt off, 3) → (pc : Int) + off = (tgt : Int) → ((x < y) → X (tgt) ls (st) (hi) (τ) (n)) → ((¬ x < y) → X (pc + 3) ls (st) (hi) (τ) (n)) → X (pc) ls (.int y :: .int x :: st) (hi) (τ) (n)
def mg_if_ge (CALL : mm_call) (own : String) (cc : ByteArray) (nL : Nat) (ret : Option FieldType) (ini : Bool) (n1 : Nat) (Post : mm_Q) (X : mm_X) : Prop := ∀ (pc : Nat) (ls : List (Option Value)) (st : List Value) (hi : mm_HI) (τ : mm_T) (n : Nat) (x : Int32) (off : Int) (tgt : Nat), decode cc pc = .ok (.ifCond .ge off, 3) → (pc : Int) + off = (tgt : Int) → ((0 ≤ x) → X (tgt) ls (st) (hi) (τ) (n)) → ((¬ 0 ≤ x) → X (pc + 3) ls (st) (hi) (τ) (n)) → X (pc) ls (.int x :: st) (hi) (τ) (n)
def mg_icmp_ge (CALL : mm_call) (own : String) (cc : ByteArray) (nL : Nat) (ret : Option FieldType) (ini : Bool) (n1 : Nat) (Post : mm_Q) (X : mm_X) : Prop := ∀ (pc : Nat) (ls : List (Option Value)) (st : List Value) (hi : mm_HI) (τ : mm_T) (n : Nat) (x y : Int32) (off : Int) (tgt : Nat), decode cc pc = .ok (.if_icmp .ge off, 3) → (pc : Int) + off = (tgt : Int) → ((y ≤ x) → X (tgt) ls (st) (hi) (τ) (n)) → ((¬ y ≤ x) → X (pc + 3) ls (st) (hi) (τ) (n)) → X (pc) ls (.int y :: .int x :: st) (hi) (τ) (n)
def mg_if_gt (CALL : mm_call) (own : String) (cc : ByteArray) (nL : Nat) (ret : Option FieldType) (ini : Bool) (n1 : Nat) (Post : mm_Q) (X : mm_X) : Prop := ∀ (pc : Nat) (ls : List (Option Value)) (st : List Value) (hi : mm_HI) (τ : mm_T) (n : Nat) (x : Int32) (off : Int) (tgt : Nat), decode cc pc = .ok (.ifCond .gt off, 3) → (pc : Int) + off = (tgt : Int) → ((0 < x) → X (tgt) ls (st) (hi) (τ) (n)) → ((¬ 0 < x) → X (pc + 3) ls (st) (hi) (τ) (n)) → X (pc) ls (.int x :: st) (hi) (τ) (n)
def mg_icmp_gt (CALL : mm_call) (own : String) (cc : ByteArray) (nL : Nat) (ret : Option FieldType) (ini : Bool) (n1 : Nat) (Post : mm_Q) (X : mm_X) : Prop := ∀ (pc : Nat) (ls : List (Option Value)) (st : List Value) (hi : mm_HI) (τ : mm_T) (n : Nat) (x y : Int32) (off : Int) (tgt : Nat), decode cc pc = .ok (.if_icmp .gt off, 3) → (pc : Int) + off = (tgt : Int) → ((y < x) → X (tgt) ls (st) (hi) (τ) (n)) → ((¬ y < x) → X (pc + 3) ls (st) (hi) (τ) (n)) → X (pc) ls (.int y :: .int x :: st) (hi) (τ) (n)
def mg_if_le (CALL : mm_call) (own : String) (cc : ByteArray) (nL : Nat) (ret : Option FieldType) (ini : Bool) (n1 : Nat) (Post : mm_Q) (X : mm_X) : Prop := ∀ (pc : Nat) (ls : List (Option Value)) (st : List Value) (hi : mm_HI) (τ : mm_T) (n : Nat) (x : Int32) (off : Int) (tgt : Nat), decode cc pc = .ok (.ifCond .le off, 3) → (pc : Int) + off = (tgt : Int) → ((x ≤ 0) → X (tgt) ls (st) (hi) (τ) (n)) → ((¬ x ≤ 0) → X (pc + 3) ls (st) (hi) (τ) (n)) → X (pc) ls (.int x :: st) (hi) (τ) (n)
def mg_icmp_le (CALL : mm_call) (own : String) (cc : ByteArray) (nL : Nat) (ret : Option FieldType) (ini : Bool) (n1 : Nat) (Post : mm_Q) (X : mm_X) : Prop := ∀ (pc : Nat) (ls : List (Option Value)) (st : List Value) (hi : mm_HI) (τ : mm_T) (n : Nat) (x y : Int32) (off : Int) (tgt : Nat), decode cc pc = .ok (.if_icmp .le off, 3) → (pc : Int) + off = (tgt : Int) → ((x ≤ y) → X (tgt) ls (st) (hi) (τ) (n)) → ((¬ x ≤ y) → X (pc + 3) ls (st) (hi) (τ) (n)) → X (pc) ls (.int y :: .int x :: st) (hi) (τ) (n)
def mg_goto (CALL : mm_call) (own : String) (cc : ByteArray) (nL : Nat) (ret : Option FieldType) (ini : Bool) (n1 : Nat) (Post : mm_Q) (X : mm_X) : Prop := ∀ (pc : Nat) (ls : List (Option Value)) (st : List Value) (hi : mm_HI) (τ : mm_T) (n : Nat) (off : Int) (tgt : Nat), decode cc pc = .ok (.goto off, 3) → (pc : Int) + off = (tgt : Int) → X (tgt) ls (st) (hi) (τ) (n) → X (pc) ls (st) (hi) (τ) (n)
def mg_tableOut (CALL : mm_call) (own : String) (cc : ByteArray) (nL : Nat) (ret : Option FieldType) (ini : Bool) (n1 : Nat) (Post : mm_Q) (X : mm_X) : Prop := ∀ (pc : Nat) (ls : List (Option Value)) (st : List Value) (hi : mm_HI) (τ : mm_T) (n : Nat) (dflt lo hh : Int) (offs : Array Int) (len : Nat) (x : Int32) (tgt : Nat), decode cc pc = .ok (.tableswitch dflt lo hh offs, len) → (x.toInt < lo ∨ hh < x.toInt) → (pc : Int) + dflt = (tgt : Int) → X (tgt) ls (st) (hi) (τ) (n) → X (pc) ls (.int x :: st) (hi) (τ) (n)
def mg_tableIn (CALL : mm_call) (own : String) (cc : ByteArray) (nL : Nat) (ret : Option FieldType) (ini : Bool) (n1 : Nat) (Post : mm_Q) (X : mm_X) : Prop := ∀ (pc : Nat) (ls : List (Option Value)) (st : List Value) (hi : mm_HI) (τ : mm_T) (n : Nat) (dflt lo hh : Int) (offs : Array Int) (len : Nat) (x : Int32) (off : Int) (tgt : Nat), decode cc pc = .ok (.tableswitch dflt lo hh offs, len) → ¬ x.toInt < lo → ¬ hh < x.toInt → offs[(x.toInt - lo).toNat]? = some off → (pc : Int) + off = (tgt : Int) → X (tgt) ls (st) (hi) (τ) (n) → X (pc) ls (.int x :: st) (hi) (τ) (n)
def mg_lookup (CALL : mm_call) (own : String) (cc : ByteArray) (nL : Nat) (ret : Option FieldType) (ini : Bool) (n1 : Nat) (Post : mm_Q) (X : mm_X) : Prop := ∀ (pc : Nat) (ls : List (Option Value)) (st : List Value) (hi : mm_HI) (τ : mm_T) (n : Nat) (dflt : Int) (ps : Array (Int × Int)) (len : Nat) (x : Int32) (off : Int) (tgt : Nat), decode cc pc = .ok (.lookupswitch dflt ps, len) → (ps.toList.zip (ps.toList.drop 1)).all (fun (a, next) => a.1 < next.1) = true → Op.lookupswitch.offset ps.toList dflt x.toInt = off → (pc : Int) + off = (tgt : Int) → X (tgt) ls (st) (hi) (τ) (n) → X (pc) ls (.int x :: st) (hi) (τ) (n)
def mg_getI (CALL : mm_call) (own : String) (cc : ByteArray) (nL : Nat) (ret : Option FieldType) (ini : Bool) (n1 : Nat) (Post : mm_Q) (X : mm_X) : Prop := ∀ (pc : Nat) (ls : List (Option Value)) (st : List Value) (hi : mm_HI) (τ : mm_T) (n : Nat) (ix ci k tc c : Nat) (fin ow : Bool), decode cc pc = .ok (.getfield ix, 3) → mm_FL own ix ci k tc fin ow → (tc = 0 ∨ tc = 3) → mm_lay c = (0, ci) → c < n → X (pc + 3) ls (.int (hi c k) :: st) (hi) (τ) (n) → X (pc) ls (.ref c :: st) (hi) (τ) (n)
def mg_getR (CALL : mm_call) (own : String) (cc : ByteArray) (nL : Nat) (ret : Option FieldType) (ini : Bool) (n1 : Nat) (Post : mm_Q) (X : mm_X) : Prop := ∀ (pc : Nat) (ls : List (Option Value)) (st : List Value) (hi : mm_HI) (τ : mm_T) (n : Nat) (ix ci k tc c : Nat) (fin ow : Bool), decode cc pc = .ok (.getfield ix, 3) → mm_FL own ix ci k tc fin ow → tc = 1 → mm_lay c = (0, ci) → c < n → X (pc + 3) ls (va_rf (τ.1 c k) :: st) (hi) (τ) (n) → X (pc) ls (.ref c :: st) (hi) (τ) (n)
def mg_getL (CALL : mm_call) (own : String) (cc : ByteArray) (nL : Nat) (ret : Option FieldType) (ini : Bool) (n1 : Nat) (Post : mm_Q) (X : mm_X) : Prop := ∀ (pc : Nat) (ls : List (Option Value)) (st : List Value) (hi : mm_HI) (τ : mm_T) (n : Nat) (ix ci k tc c : Nat) (fin ow : Bool), decode cc pc = .ok (.getfield ix, 3) → mm_FL own ix ci k tc fin ow → tc = 2 → mm_lay c = (0, ci) → c < n → X (pc + 3) ls (.long (τ.2 c k) :: st) (hi) (τ) (n) → X (pc) ls (.ref c :: st) (hi) (τ) (n)
def mg_putI (CALL : mm_call) (own : String) (cc : ByteArray) (nL : Nat) (ret : Option FieldType) (ini : Bool) (n1 : Nat) (Post : mm_Q) (X : mm_X) : Prop := ∀ (pc : Nat) (ls : List (Option Value)) (st : List Value) (hi : mm_HI) (τ : mm_T) (n : Nat) (ix ci k tc c : Nat) (fin ow : Bool) (x : Int32), decode cc pc = .ok (.putfield ix, 3) → mm_FL own ix ci k tc fin ow → (fin = false ∨ (ini = true ∧ ow = true)) → (tc = 0 ∨ (tc = 3 ∧ (x = 0 ∨ x = 1))) → mm_lay c = (0, ci) → c < n → X (pc + 3) ls (st) (mm_up2 hi c k x) (τ) (n) → X (pc) ls (.int x :: .ref c :: st) (hi) (τ) (n)
def mg_putR (CALL : mm_call) (own : String) (cc : ByteArray) (nL : Nat) (ret : Option FieldType) (ini : Bool) (n1 : Nat) (Post : mm_Q) (X : mm_X) : Prop := ∀ (pc : Nat) (ls : List (Option Value)) (st : List Value) (hi : mm_HI) (τ : mm_T) (n : Nat) (ix ci k tc c : Nat) (fin ow : Bool) (x : Nat), decode cc pc = .ok (.putfield ix, 3) → mm_FL own ix ci k tc fin ow → (fin = false ∨ (ini = true ∧ ow = true)) → tc = 1 → mm_lay c = (0, ci) → c < n → X (pc + 3) ls (st) (hi) ((va_up τ.1 c (va_up (τ.1 c) k (some x)), τ.2)) (n) → X (pc) ls (.ref x :: .ref c :: st) (hi) (τ) (n)
def mg_putL (CALL : mm_call) (own : String) (cc : ByteArray) (nL : Nat) (ret : Option FieldType) (ini : Bool) (n1 : Nat) (Post : mm_Q) (X : mm_X) : Prop := ∀ (pc : Nat) (ls : List (Option Value)) (st : List Value) (hi : mm_HI) (τ : mm_T) (n : Nat) (ix ci k tc c : Nat) (fin ow : Bool) (x : Int64), decode cc pc = .ok (.putfield ix, 3) → mm_FL own ix ci k tc fin ow → (fin = false ∨ (ini = true ∧ ow = true)) → tc = 2 → mm_lay c = (0, ci) → c < n → X (pc + 3) ls (st) (hi) ((τ.1, va_up τ.2 c (va_up (τ.2 c) k x))) (n) → X (pc) ls (.long x :: .ref c :: st) (hi) (τ) (n)
def mg_iald (CALL : mm_call) (own : String) (cc : ByteArray) (nL : Nat) (ret : Option FieldType) (ini : Bool) (n1 : Nat) (Post : mm_Q) (X : mm_X) : Prop := ∀ (pc : Nat) (ls : List (Option Value)) (st : List Value) (hi : mm_HI) (τ : mm_T) (n : Nat) (c N : Nat) (i : Int32), decode cc pc = .ok (.iaload, 1) → mm_lay c = (1, N) → c < n → vp_in i N → X (pc + 1) ls (.int (hi c i.toNatClampNeg) :: st) (hi) (τ) (n) → X (pc) ls (.int i :: .ref c :: st) (hi) (τ) (n)
def mg_iast (CALL : mm_call) (own : String) (cc : ByteArray) (nL : Nat) (ret : Option FieldType) (ini : Bool) (n1 : Nat) (Post : mm_Q) (X : mm_X) : Prop := ∀ (pc : Nat) (ls : List (Option Value)) (st : List Value) (hi : mm_HI) (τ : mm_T) (n : Nat) (c N : Nat) (i x : Int32), decode cc pc = .ok (.iastore, 1) → mm_lay c = (1, N) → c < n → vp_in i N → X (pc + 1) ls (st) (mm_up2 hi c i.toNatClampNeg x) (τ) (n) → X (pc) ls (.int x :: .int i :: .ref c :: st) (hi) (τ) (n)
def mg_alen (CALL : mm_call) (own : String) (cc : ByteArray) (nL : Nat) (ret : Option FieldType) (ini : Bool) (n1 : Nat) (Post : mm_Q) (X : mm_X) : Prop := ∀ (pc : Nat) (ls : List (Option Value)) (st : List Value) (hi : mm_HI) (τ : mm_T) (n : Nat) (c N : Nat), decode cc pc = .ok (.arraylength, 1) → mm_lay c = (1, N) → c < n → X (pc + 1) ls (.int (nI N) :: st) (hi) (τ) (n) → X (pc) ls (.ref c :: st) (hi) (τ) (n)
def mg_aald (CALL : mm_call) (own : String) (cc : ByteArray) (nL : Nat) (ret : Option FieldType) (ini : Bool) (n1 : Nat) (Post : mm_Q) (X : mm_X) : Prop := ∀ (pc : Nat) (ls : List (Option Value)) (st : List Value) (hi : mm_HI) (τ : mm_T) (n : Nat) (c N : Nat) (i : Int32), decode cc pc = .ok (.aaload, 1) → mm_lay c = (2, N) → c < n → vp_in i N → X (pc + 1) ls (va_rf (τ.1 c i.toNatClampNeg) :: st) (hi) (τ) (n) → X (pc) ls (.int i :: .ref c :: st) (hi) (τ) (n)
def mg_aast (CALL : mm_call) (own : String) (cc : ByteArray) (nL : Nat) (ret : Option FieldType) (ini : Bool) (n1 : Nat) (Post : mm_Q) (X : mm_X) : Prop := ∀ (pc : Nat) (ls : List (Option Value)) (st : List Value) (hi : mm_HI) (τ : mm_T) (n : Nat) (c N x : Nat) (i : Int32), decode cc pc = .ok (.aastore, 1) → mm_lay c = (2, N) → c < n → vp_in i N → mm_lay x = (0, 6) → x < n → X (pc + 1) ls (st) (hi) ((va_up τ.1 c (va_up (τ.1 c) i.toNatClampNeg (some x)), τ.2)) (n) → X (pc) ls (.ref x :: .int i :: .ref c :: st) (hi) (τ) (n)
def mg_new (CALL : mm_call) (own : String) (cc : ByteArray) (nL : Nat) (ret : Option FieldType) (ini : Bool) (n1 : Nat) (Post : mm_Q) (X : mm_X) : Prop := ∀ (pc : Nat) (ls : List (Option Value)) (st : List Value) (hi : mm_HI) (τ : mm_T) (n : Nat) (ix ci : Nat), decode cc pc = .ok (.new ix, 3) → mm_NW own ix ci → mm_lay n = (0, ci) → n + 1 ≤ n1 → X (pc + 3) ls (.ref n :: st) (va_up hi n (fun _ => 0)) ((va_up τ.1 n (fun _ => none), va_up τ.2 n (fun _ => 0))) (n + 1) → X (pc) ls (st) (hi) (τ) (n)
def mg_newa (CALL : mm_call) (own : String) (cc : ByteArray) (nL : Nat) (ret : Option FieldType) (ini : Bool) (n1 : Nat) (Post : mm_Q) (X : mm_X) : Prop := ∀ (pc : Nat) (ls : List (Option Value)) (st : List Value) (hi : mm_HI) (τ : mm_T) (n : Nat) (N : Nat) (i : Int32), decode cc pc = .ok (.newarray .int, 2) → mm_lay n = (1, N) → i = nI N → N < 100000 → n + 1 ≤ n1 → X (pc + 2) ls (.ref n :: st) (va_up hi n (fun _ => 0)) (τ) (n + 1) → X (pc) ls (.int i :: st) (hi) (τ) (n)
def mg_anew (CALL : mm_call) (own : String) (cc : ByteArray) (nL : Nat) (ret : Option FieldType) (ini : Bool) (n1 : Nat) (Post : mm_Q) (X : mm_X) : Prop := ∀ (pc : Nat) (ls : List (Option Value)) (st : List Value) (hi : mm_HI) (τ : mm_T) (n : Nat) (ix N : Nat) (i : Int32), decode cc pc = .ok (.anewarray ix, 3) → mm_in (Cond.classLink own ix RX6) → mm_lay n = (2, N) → i = nI N → N < 100000 → n + 1 ≤ n1 → X (pc + 3) ls (.ref n :: st) (hi) ((va_up τ.1 n (fun _ => none), τ.2)) (n + 1) → X (pc) ls (.int i :: st) (hi) (τ) (n)
def mg_objInit (CALL : mm_call) (own : String) (cc : ByteArray) (nL : Nat) (ret : Option FieldType) (ini : Bool) (n1 : Nat) (Post : mm_Q) (X : mm_X) : Prop := ∀ (pc : Nat) (ls : List (Option Value)) (st : List Value) (hi : mm_HI) (τ : mm_T) (n : Nat) (ix c : Nat), decode cc pc = .ok (.invokespecial ix, 3) → mm_in (Cond.methodLink own ix objectInit) → (st.map fun v => v.category).sum ≤ 8 → X (pc + 3) ls (st) (hi) (τ) (n) → X (pc) ls (.ref c :: st) (hi) (τ) (n)
def mg_copy (CALL : mm_call) (own : String) (cc : ByteArray) (nL : Nat) (ret : Option FieldType) (ini : Bool) (n1 : Nat) (Post : mm_Q) (X : mm_X) : Prop := ∀ (pc : Nat) (ls : List (Option Value)) (st : List Value) (hi : mm_HI) (τ : mm_T) (n : Nat) (ix c c1 N N1 : Nat) (sp dp z : Int32), decode cc pc = .ok (.invokestatic ix, 3) → mm_in (Cond.methodLink own ix arraycopyName) → mm_lay c = (1, N) → c < n → mm_lay c1 = (1, N1) → c1 < n → ¬ sp < 0 → ¬ dp < 0 → ¬ z < 0 → sp.toNatClampNeg + z.toNatClampNeg ≤ N → dp.toNatClampNeg + z.toNatClampNeg ≤ N1 → (st.map fun v => v.category).sum ≤ 8 → X (pc + 3) ls (st) (va_up hi c1 (va_cpy (hi c) (hi c1) sp.toNatClampNeg dp.toNatClampNeg z.toNatClampNeg)) (τ) (n) → X (pc) ls (.int z :: .int dp :: .ref c1 :: .int sp :: .ref c :: st) (hi) (τ) (n)
def mg_callS (CALL : mm_call) (own : String) (cc : ByteArray) (nL : Nat) (ret : Option FieldType) (ini : Bool) (n1 : Nat) (Post : mm_Q) (X : mm_X) : Prop := ∀ (pc : Nat) (ls : List (Option Value)) (st : List Value) (hi : mm_HI) (τ : mm_T) (n : Nat) (ix : Nat) (y : MethodName) (as stk : List Value) (n2 na : Nat) (Pq : mm_Q), decode cc pc = .ok (.invokestatic ix, 3) → mm_CS own ix y na → as.length = na → CALL y as hi τ n n2 Pq → n2 ≤ n1 → stk = as.reverse ++ st → (st.map fun v => v.category).sum ≤ 8 → (∀ v hi2 τ2, Pq v hi2 τ2 → X (pc + 3) ls (v.toList ++ st) hi2 τ2 n2) → X pc ls stk hi τ n
def mg_callV (CALL : mm_call) (own : String) (cc : ByteArray) (nL : Nat) (ret : Option FieldType) (ini : Bool) (n1 : Nat) (Post : mm_Q) (X : mm_X) : Prop := ∀ (pc : Nat) (ls : List (Option Value)) (st : List Value) (hi : mm_HI) (τ : mm_T) (n : Nat) (ix : Nat) (y : MethodName) (as stk : List Value) (n2 na : Nat) (Pq : mm_Q) (ci c : Nat) (as1 : List Value), decode cc pc = .ok (.invokevirtual ix, 3) → mm_CV own ix y na ci → as = .ref c :: as1 → as1.length = na → mm_lay c = (0, ci) → c < n → CALL y as hi τ n n2 Pq → n2 ≤ n1 → stk = as.reverse ++ st → (st.map fun v => v.category).sum ≤ 8 → (∀ v hi2 τ2, Pq v hi2 τ2 → X (pc + 3) ls (v.toList ++ st) hi2 τ2 n2) → X pc ls stk hi τ n
def mg_callU (CALL : mm_call) (own : String) (cc : ByteArray) (nL : Nat) (ret : Option FieldType) (ini : Bool) (n1 : Nat) (Post : mm_Q) (X : mm_X) : Prop := ∀ (pc : Nat) (ls : List (Option Value)) (st : List Value) (hi : mm_HI) (τ : mm_T) (n : Nat) (ix : Nat) (y : MethodName) (as stk : List Value) (n2 na : Nat) (Pq : mm_Q) (ci c : Nat) (as1 : List Value), decode cc pc = .ok (.invokevirtual ix, 3) → mm_CU own ix y na ci → as = .ref c :: as1 → as1.length = na → mm_lay c = (0, ci) → c < n → CALL y as hi τ n n2 Pq → n2 ≤ n1 → stk = as.reverse ++ st → (st.map fun v => v.category).sum ≤ 8 → (∀ v hi2 τ2, Pq v hi2 τ2 → X (pc + 3) ls (v.toList ++ st) hi2 τ2 n2) → X pc ls stk hi τ n
def mg_callI (CALL : mm_call) (own : String) (cc : ByteArray) (nL : Nat) (ret : Option FieldType) (ini : Bool) (n1 : Nat) (Post : mm_Q) (X : mm_X) : Prop := ∀ (pc : Nat) (ls : List (Option Value)) (st : List Value) (hi : mm_HI) (τ : mm_T) (n : Nat) (ix : Nat) (y : MethodName) (as stk : List Value) (n2 na : Nat) (Pq : mm_Q) (c : Nat) (as1 : List Value), decode cc pc = .ok (.invokespecial ix, 3) → mm_CI own ix y na → as = .ref c :: as1 → as1.length = na → CALL y as hi τ n n2 Pq → n2 ≤ n1 → stk = as.reverse ++ st → (st.map fun v => v.category).sum ≤ 8 → (∀ v hi2 τ2, Pq v hi2 τ2 → X (pc + 3) ls (v.toList ++ st) hi2 τ2 n2) → X pc ls stk hi τ n
def mg_iret (CALL : mm_call) (own : String) (cc : ByteArray) (nL : Nat) (ret : Option FieldType) (ini : Bool) (n1 : Nat) (Post : mm_Q) (X : mm_X) : Prop := ∀ (pc : Nat) (ls : List (Option Value)) (st : List Value) (hi : mm_HI) (τ : mm_T) (n : Nat) (x : Int32), decode cc pc = .ok (.ireturn, 1) → (ret = some .int ∨ (ret = some .boolean ∧ (x = 0 ∨ x = 1))) → n = n1 → Post (some (.int x)) hi τ → X pc ls [.int x] hi τ n
def mg_lret (CALL : mm_call) (own : String) (cc : ByteArray) (nL : Nat) (ret : Option FieldType) (ini : Bool) (n1 : Nat) (Post : mm_Q) (X : mm_X) : Prop := ∀ (pc : Nat) (ls : List (Option Value)) (st : List Value) (hi : mm_HI) (τ : mm_T) (n : Nat) (x : Int64), decode cc pc = .ok (.lreturn, 1) → ret = some .long → n = n1 → Post (some (.long x)) hi τ → X pc ls [.long x] hi τ n
def mg_aret (CALL : mm_call) (own : String) (cc : ByteArray) (nL : Nat) (ret : Option FieldType) (ini : Bool) (n1 : Nat) (Post : mm_Q) (X : mm_X) : Prop := ∀ (pc : Nat) (ls : List (Option Value)) (st : List Value) (hi : mm_HI) (τ : mm_T) (n : Nat) (x : Nat) (C : String), decode cc pc = .ok (.areturn, 1) → ret = some (.object C) → n = n1 → Post (some (.ref x)) hi τ → X pc ls [.ref x] hi τ n
def mg_vret (CALL : mm_call) (own : String) (cc : ByteArray) (nL : Nat) (ret : Option FieldType) (ini : Bool) (n1 : Nat) (Post : mm_Q) (X : mm_X) : Prop := ∀ (pc : Nat) (ls : List (Option Value)) (st : List Value) (hi : mm_HI) (τ : mm_T) (n : Nat), decode cc pc = .ok (.return_, 1) → ret = none → n = n1 → Post none hi τ → X pc ls [] hi τ n
def mg_G0 (CALL : mm_call) (own : String) (cc : ByteArray) (nL : Nat) (ret : Option FieldType) (ini : Bool) (n1 : Nat) (Post : mm_Q) (X : mm_X) : Prop := mg_iconst CALL own cc nL ret ini n1 Post X ∧ mg_bipush CALL own cc nL ret ini n1 Post X ∧ mg_sipush CALL own cc nL ret ini n1 Post X ∧ mg_ldc CALL own cc nL ret ini n1 Post X ∧ mg_ldcw CALL own cc nL ret ini n1 Post X ∧ mg_lconst CALL own cc nL ret ini n1 Post X ∧ mg_ldc2 CALL own cc nL ret ini n1 Post X ∧ mg_iload_n CALL own cc nL ret ini n1 Post X
def mg_G1 (CALL : mm_call) (own : String) (cc : ByteArray) (nL : Nat) (ret : Option FieldType) (ini : Bool) (n1 : Nat) (Post : mm_Q) (X : mm_X) : Prop := mg_iload CALL own cc nL ret ini n1 Post X ∧ mg_aload_n CALL own cc nL ret ini n1 Post X ∧ mg_aload CALL own cc nL ret ini n1 Post X ∧ mg_istore_n CALL own cc nL ret ini n1 Post X ∧ mg_istore CALL own cc nL ret ini n1 Post X ∧ mg_astore_n CALL own cc nL ret ini n1 Post X ∧ mg_astore CALL own cc nL ret ini n1 Post X ∧ mg_iinc CALL own cc nL ret ini n1 Post X
def mg_G2 (CALL : mm_call) (own : String) (cc : ByteArray) (nL : Nat) (ret : Option FieldType) (ini : Bool) (n1 : Nat) (Post : mm_Q) (X : mm_X) : Prop := mg_iadd CALL own cc nL ret ini n1 Post X ∧ mg_isub CALL own cc nL ret ini n1 Post X ∧ mg_imul CALL own cc nL ret ini n1 Post X ∧ mg_iand CALL own cc nL ret ini n1 Post X ∧ mg_ior CALL own cc nL ret ini n1 Post X ∧ mg_ixor CALL own cc nL ret ini n1 Post X ∧ mg_ishl CALL own cc nL ret ini n1 Post X ∧ mg_ishr CALL own cc nL ret ini n1 Post X
def mg_G3 (CALL : mm_call) (own : String) (cc : ByteArray) (nL : Nat) (ret : Option FieldType) (ini : Bool) (n1 : Nat) (Post : mm_Q) (X : mm_X) : Prop := mg_iushr CALL own cc nL ret ini n1 Post X ∧ mg_idiv CALL own cc nL ret ini n1 Post X ∧ mg_irem CALL own cc nL ret ini n1 Post X ∧ mg_ineg CALL own cc nL ret ini n1 Post X ∧ mg_ladd CALL own cc nL ret ini n1 Post X ∧ mg_lcmp CALL own cc nL ret ini n1 Post X ∧ mg_dup CALL own cc nL ret ini n1 Post X ∧ mg_pop CALL own cc nL ret ini n1 Post X
def mg_G4 (CALL : mm_call) (own : String) (cc : ByteArray) (nL : Nat) (ret : Option FieldType) (ini : Bool) (n1 : Nat) (Post : mm_Q) (X : mm_X) : Prop := mg_dup_x1 CALL own cc nL ret ini n1 Post X ∧ mg_dup2 CALL own cc nL ret ini n1 Post X ∧ mg_if_eq CALL own cc nL ret ini n1 Post X ∧ mg_icmp_eq CALL own cc nL ret ini n1 Post X ∧ mg_if_ne CALL own cc nL ret ini n1 Post X ∧ mg_icmp_ne CALL own cc nL ret ini n1 Post X ∧ mg_if_lt CALL own cc nL ret ini n1 Post X ∧ mg_icmp_lt CALL own cc nL ret ini n1 Post X
def mg_G5 (CALL : mm_call) (own : String) (cc : ByteArray) (nL : Nat) (ret : Option FieldType) (ini : Bool) (n1 : Nat) (Post : mm_Q) (X : mm_X) : Prop := mg_if_ge CALL own cc nL ret ini n1 Post X ∧ mg_icmp_ge CALL own cc nL ret ini n1 Post X ∧ mg_if_gt CALL own cc nL ret ini n1 Post X ∧ mg_icmp_gt CALL own cc nL ret ini n1 Post X ∧ mg_if_le CALL own cc nL ret ini n1 Post X ∧ mg_icmp_le CALL own cc nL ret ini n1 Post X ∧ mg_goto CALL own cc nL ret ini n1 Post X ∧ mg_tableOut CALL own cc nL ret ini n1 Post X
def mg_G6 (CALL : mm_call) (own : String) (cc : ByteArray) (nL : Nat) (ret : Option FieldType) (ini : Bool) (n1 : Nat) (Post : mm_Q) (X : mm_X) : Prop := mg_tableIn CALL own cc nL ret ini n1 Post X ∧ mg_lookup CALL own cc nL ret ini n1 Post X ∧ mg_getI CALL own cc nL ret ini n1 Post X ∧ mg_getR CALL own cc nL ret ini n1 Post X ∧ mg_getL CALL own cc nL ret ini n1 Post X ∧ mg_putI CALL own cc nL ret ini n1 Post X ∧ mg_putR CALL own cc nL ret ini n1 Post X ∧ mg_putL CALL own cc nL ret ini n1 Post X
def mg_G7 (CALL : mm_call) (own : String) (cc : ByteArray) (nL : Nat) (ret : Option FieldType) (ini : Bool) (n1 : Nat) (Post : mm_Q) (X : mm_X) : Prop := mg_iald CALL own cc nL ret ini n1 Post X ∧ mg_iast CALL own cc nL ret ini n1 Post X ∧ mg_alen CALL own cc nL ret ini n1 Post X ∧ mg_aald CALL own cc nL ret ini n1 Post X ∧ mg_aast CALL own cc nL ret ini n1 Post X ∧ mg_new CALL own cc nL ret ini n1 Post X ∧ mg_newa CALL own cc nL ret ini n1 Post X ∧ mg_anew CALL own cc nL ret ini n1 Post X
def mg_G8 (CALL : mm_call) (own : String) (cc : ByteArray) (nL : Nat) (ret : Option FieldType) (ini : Bool) (n1 : Nat) (Post : mm_Q) (X : mm_X) : Prop := mg_objInit CALL own cc nL ret ini n1 Post X ∧ mg_copy CALL own cc nL ret ini n1 Post X ∧ mg_callS CALL own cc nL ret ini n1 Post X ∧ mg_callV CALL own cc nL ret ini n1 Post X ∧ mg_callU CALL own cc nL ret ini n1 Post X ∧ mg_callI CALL own cc nL ret ini n1 Post X
def mg_R (CALL : mm_call) (own : String) (cc : ByteArray) (nL : Nat) (ret : Option FieldType) (ini : Bool) (n1 : Nat) (Post : mm_Q) (X : mm_X) : Prop := mg_iret CALL own cc nL ret ini n1 Post X ∧ mg_lret CALL own cc nL ret ini n1 Post X ∧ mg_aret CALL own cc nL ret ini n1 Post X ∧ mg_vret CALL own cc nL ret ini n1 Post X
/-- the rows but for returns; all rows -/
def mm_G0 (CALL : mm_call) (own : String) (cc : ByteArray) (nL : Nat) (ret : Option FieldType) (ini : Bool) (n1 : Nat) (Post : mm_Q) (X : mm_X) : Prop := mg_G0 CALL own cc nL ret ini n1 Post X ∧ mg_G1 CALL own cc nL ret ini n1 Post X ∧ mg_G2 CALL own cc nL ret ini n1 Post X ∧ mg_G3 CALL own cc nL ret ini n1 Post X ∧ mg_G4 CALL own cc nL ret ini n1 Post X ∧ mg_G5 CALL own cc nL ret ini n1 Post X ∧ mg_G6 CALL own cc nL ret ini n1 Post X ∧ mg_G7 CALL own cc nL ret ini n1 Post X ∧ mg_G8 CALL own cc nL ret ini n1 Post X
def mm_G (CALL : mm_call) (own : String) (cc : ByteArray) (nL : Nat) (ret : Option FieldType) (ini : Bool) (n1 : Nat) (Post : mm_Q) (X : mm_X) : Prop := mm_G0 CALL own cc nL ret ini n1 Post X ∧ mg_R CALL own cc nL ret ini n1 Post X
theorem r_iconst {CALL : mm_call} {own : String} {cc : ByteArray} {nL : Nat} {ret : Option FieldType} {ini : Bool} {n1 : Nat} {Post : mm_Q} {X : mm_X} (h : mm_G0 CALL own cc nL ret ini n1 Post X) : mg_iconst CALL own cc nL ret ini n1 Post X := h.1.1
theorem r_bipush {CALL : mm_call} {own : String} {cc : ByteArray} {nL : Nat} {ret : Option FieldType} {ini : Bool} {n1 : Nat} {Post : mm_Q} {X : mm_X} (h : mm_G0 CALL own cc nL ret ini n1 Post X) : mg_bipush CALL own cc nL ret ini n1 Post X := h.1.2.1
theorem r_sipush {CALL : mm_call} {own : String} {cc : ByteArray} {nL : Nat} {ret : Option FieldType} {ini : Bool} {n1 : Nat} {Post : mm_Q} {X : mm_X} (h : mm_G0 CALL own cc nL ret ini n1 Post X) : mg_sipush CALL own cc nL ret ini n1 Post X := h.1.2.2.1
theorem r_ldc {CALL : mm_call} {own : String} {cc : ByteArray} {nL : Nat} {ret : Option FieldType} {ini : Bool} {n1 : Nat} {Post : mm_Q} {X : mm_X} (h : mm_G0 CALL own cc nL ret ini n1 Post X) : mg_ldc CALL own cc nL ret ini n1 Post X := h.1.2.2.2.1
theorem r_ldcw {CALL : mm_call} {own : String} {cc : ByteArray} {nL : Nat} {ret : Option FieldType} {ini : Bool} {n1 : Nat} {Post : mm_Q} {X : mm_X} (h : mm_G0 CALL own cc nL ret ini n1 Post X) : mg_ldcw CALL own cc nL ret ini n1 Post X := h.1.2.2.2.2.1
theorem r_lconst {CALL : mm_call} {own : String} {cc : ByteArray} {nL : Nat} {ret : Option FieldType} {ini : Bool} {n1 : Nat} {Post : mm_Q} {X : mm_X} (h : mm_G0 CALL own cc nL ret ini n1 Post X) : mg_lconst CALL own cc nL ret ini n1 Post X := h.1.2.2.2.2.2.1
theorem r_ldc2 {CALL : mm_call} {own : String} {cc : ByteArray} {nL : Nat} {ret : Option FieldType} {ini : Bool} {n1 : Nat} {Post : mm_Q} {X : mm_X} (h : mm_G0 CALL own cc nL ret ini n1 Post X) : mg_ldc2 CALL own cc nL ret ini n1 Post X := h.1.2.2.2.2.2.2.1
theorem r_iload_n {CALL : mm_call} {own : String} {cc : ByteArray} {nL : Nat} {ret : Option FieldType} {ini : Bool} {n1 : Nat} {Post : mm_Q} {X : mm_X} (h : mm_G0 CALL own cc nL ret ini n1 Post X) : mg_iload_n CALL own cc nL ret ini n1 Post X := h.1.2.2.2.2.2.2.2
theorem r_iload {CALL : mm_call} {own : String} {cc : ByteArray} {nL : Nat} {ret : Option FieldType} {ini : Bool} {n1 : Nat} {Post : mm_Q} {X : mm_X} (h : mm_G0 CALL own cc nL ret ini n1 Post X) : mg_iload CALL own cc nL ret ini n1 Post X := h.2.1.1
theorem r_aload_n {CALL : mm_call} {own : String} {cc : ByteArray} {nL : Nat} {ret : Option FieldType} {ini : Bool} {n1 : Nat} {Post : mm_Q} {X : mm_X} (h : mm_G0 CALL own cc nL ret ini n1 Post X) : mg_aload_n CALL own cc nL ret ini n1 Post X := h.2.1.2.1
theorem r_aload {CALL : mm_call} {own : String} {cc : ByteArray} {nL : Nat} {ret : Option FieldType} {ini : Bool} {n1 : Nat} {Post : mm_Q} {X : mm_X} (h : mm_G0 CALL own cc nL ret ini n1 Post X) : mg_aload CALL own cc nL ret ini n1 Post X := h.2.1.2.2.1
theorem r_istore_n {CALL : mm_call} {own : String} {cc : ByteArray} {nL : Nat} {ret : Option FieldType} {ini : Bool} {n1 : Nat} {Post : mm_Q} {X : mm_X} (h : mm_G0 CALL own cc nL ret ini n1 Post X) : mg_istore_n CALL own cc nL ret ini n1 Post X := h.2.1.2.2.2.1
theorem r_istore {CALL : mm_call} {own : String} {cc : ByteArray} {nL : Nat} {ret : Option FieldType} {ini : Bool} {n1 : Nat} {Post : mm_Q} {X : mm_X} (h : mm_G0 CALL own cc nL ret ini n1 Post X) : mg_istore CALL own cc nL ret ini n1 Post X := h.2.1.2.2.2.2.1
theorem r_astore_n {CALL : mm_call} {own : String} {cc : ByteArray} {nL : Nat} {ret : Option FieldType} {ini : Bool} {n1 : Nat} {Post : mm_Q} {X : mm_X} (h : mm_G0 CALL own cc nL ret ini n1 Post X) : mg_astore_n CALL own cc nL ret ini n1 Post X := h.2.1.2.2.2.2.2.1
theorem r_astore {CALL : mm_call} {own : String} {cc : ByteArray} {nL : Nat} {ret : Option FieldType} {ini : Bool} {n1 : Nat} {Post : mm_Q} {X : mm_X} (h : mm_G0 CALL own cc nL ret ini n1 Post X) : mg_astore CALL own cc nL ret ini n1 Post X := h.2.1.2.2.2.2.2.2.1
theorem r_iinc {CALL : mm_call} {own : String} {cc : ByteArray} {nL : Nat} {ret : Option FieldType} {ini : Bool} {n1 : Nat} {Post : mm_Q} {X : mm_X} (h : mm_G0 CALL own cc nL ret ini n1 Post X) : mg_iinc CALL own cc nL ret ini n1 Post X := h.2.1.2.2.2.2.2.2.2
theorem r_iadd {CALL : mm_call} {own : String} {cc : ByteArray} {nL : Nat} {ret : Option FieldType} {ini : Bool} {n1 : Nat} {Post : mm_Q} {X : mm_X} (h : mm_G0 CALL own cc nL ret ini n1 Post X) : mg_iadd CALL own cc nL ret ini n1 Post X := h.2.2.1.1
theorem r_isub {CALL : mm_call} {own : String} {cc : ByteArray} {nL : Nat} {ret : Option FieldType} {ini : Bool} {n1 : Nat} {Post : mm_Q} {X : mm_X} (h : mm_G0 CALL own cc nL ret ini n1 Post X) : mg_isub CALL own cc nL ret ini n1 Post X := h.2.2.1.2.1
theorem r_imul {CALL : mm_call} {own : String} {cc : ByteArray} {nL : Nat} {ret : Option FieldType} {ini : Bool} {n1 : Nat} {Post : mm_Q} {X : mm_X} (h : mm_G0 CALL own cc nL ret ini n1 Post X) : mg_imul CALL own cc nL ret ini n1 Post X := h.2.2.1.2.2.1
theorem r_iand {CALL : mm_call} {own : String} {cc : ByteArray} {nL : Nat} {ret : Option FieldType} {ini : Bool} {n1 : Nat} {Post : mm_Q} {X : mm_X} (h : mm_G0 CALL own cc nL ret ini n1 Post X) : mg_iand CALL own cc nL ret ini n1 Post X := h.2.2.1.2.2.2.1
theorem r_ior {CALL : mm_call} {own : String} {cc : ByteArray} {nL : Nat} {ret : Option FieldType} {ini : Bool} {n1 : Nat} {Post : mm_Q} {X : mm_X} (h : mm_G0 CALL own cc nL ret ini n1 Post X) : mg_ior CALL own cc nL ret ini n1 Post X := h.2.2.1.2.2.2.2.1
theorem r_ixor {CALL : mm_call} {own : String} {cc : ByteArray} {nL : Nat} {ret : Option FieldType} {ini : Bool} {n1 : Nat} {Post : mm_Q} {X : mm_X} (h : mm_G0 CALL own cc nL ret ini n1 Post X) : mg_ixor CALL own cc nL ret ini n1 Post X := h.2.2.1.2.2.2.2.2.1
theorem r_ishl {CALL : mm_call} {own : String} {cc : ByteArray} {nL : Nat} {ret : Option FieldType} {ini : Bool} {n1 : Nat} {Post : mm_Q} {X : mm_X} (h : mm_G0 CALL own cc nL ret ini n1 Post X) : mg_ishl CALL own cc nL ret ini n1 Post X := h.2.2.1.2.2.2.2.2.2.1
theorem r_ishr {CALL : mm_call} {own : String} {cc : ByteArray} {nL : Nat} {ret : Option FieldType} {ini : Bool} {n1 : Nat} {Post : mm_Q} {X : mm_X} (h : mm_G0 CALL own cc nL ret ini n1 Post X) : mg_ishr CALL own cc nL ret ini n1 Post X := h.2.2.1.2.2.2.2.2.2.2
theorem r_iushr {CALL : mm_call} {own : String} {cc : ByteArray} {nL : Nat} {ret : Option FieldType} {ini : Bool} {n1 : Nat} {Post : mm_Q} {X : mm_X} (h : mm_G0 CALL own cc nL ret ini n1 Post X) : mg_iushr CALL own cc nL ret ini n1 Post X := h.2.2.2.1.1
theorem r_idiv {CALL : mm_call} {own : String} {cc : ByteArray} {nL : Nat} {ret : Option FieldType} {ini : Bool} {n1 : Nat} {Post : mm_Q} {X : mm_X} (h : mm_G0 CALL own cc nL ret ini n1 Post X) : mg_idiv CALL own cc nL ret ini n1 Post X := h.2.2.2.1.2.1
theorem r_irem {CALL : mm_call} {own : String} {cc : ByteArray} {nL : Nat} {ret : Option FieldType} {ini : Bool} {n1 : Nat} {Post : mm_Q} {X : mm_X} (h : mm_G0 CALL own cc nL ret ini n1 Post X) : mg_irem CALL own cc nL ret ini n1 Post X := h.2.2.2.1.2.2.1
theorem r_ineg {CALL : mm_call} {own : String} {cc : ByteArray} {nL : Nat} {ret : Option FieldType} {ini : Bool} {n1 : Nat} {Post : mm_Q} {X : mm_X} (h : mm_G0 CALL own cc nL ret ini n1 Post X) : mg_ineg CALL own cc nL ret ini n1 Post X := h.2.2.2.1.2.2.2.1
theorem r_ladd {CALL : mm_call} {own : String} {cc : ByteArray} {nL : Nat} {ret : Option FieldType} {ini : Bool} {n1 : Nat} {Post : mm_Q} {X : mm_X} (h : mm_G0 CALL own cc nL ret ini n1 Post X) : mg_ladd CALL own cc nL ret ini n1 Post X := h.2.2.2.1.2.2.2.2.1
theorem r_lcmp {CALL : mm_call} {own : String} {cc : ByteArray} {nL : Nat} {ret : Option FieldType} {ini : Bool} {n1 : Nat} {Post : mm_Q} {X : mm_X} (h : mm_G0 CALL own cc nL ret ini n1 Post X) : mg_lcmp CALL own cc nL ret ini n1 Post X := h.2.2.2.1.2.2.2.2.2.1
theorem r_dup {CALL : mm_call} {own : String} {cc : ByteArray} {nL : Nat} {ret : Option FieldType} {ini : Bool} {n1 : Nat} {Post : mm_Q} {X : mm_X} (h : mm_G0 CALL own cc nL ret ini n1 Post X) : mg_dup CALL own cc nL ret ini n1 Post X := h.2.2.2.1.2.2.2.2.2.2.1
theorem r_pop {CALL : mm_call} {own : String} {cc : ByteArray} {nL : Nat} {ret : Option FieldType} {ini : Bool} {n1 : Nat} {Post : mm_Q} {X : mm_X} (h : mm_G0 CALL own cc nL ret ini n1 Post X) : mg_pop CALL own cc nL ret ini n1 Post X := h.2.2.2.1.2.2.2.2.2.2.2
theorem r_dup_x1 {CALL : mm_call} {own : String} {cc : ByteArray} {nL : Nat} {ret : Option FieldType} {ini : Bool} {n1 : Nat} {Post : mm_Q} {X : mm_X} (h : mm_G0 CALL own cc nL ret ini n1 Post X) : mg_dup_x1 CALL own cc nL ret ini n1 Post X := h.2.2.2.2.1.1
theorem r_dup2 {CALL : mm_call} {own : String} {cc : ByteArray} {nL : Nat} {ret : Option FieldType} {ini : Bool} {n1 : Nat} {Post : mm_Q} {X : mm_X} (h : mm_G0 CALL own cc nL ret ini n1 Post X) : mg_dup2 CALL own cc nL ret ini n1 Post X := h.2.2.2.2.1.2.1
theorem r_if_eq {CALL : mm_call} {own : String} {cc : ByteArray} {nL : Nat} {ret : Option FieldType} {ini : Bool} {n1 : Nat} {Post : mm_Q} {X : mm_X} (h : mm_G0 CALL own cc nL ret ini n1 Post X) : mg_if_eq CALL own cc nL ret ini n1 Post X := h.2.2.2.2.1.2.2.1
theorem r_icmp_eq {CALL : mm_call} {own : String} {cc : ByteArray} {nL : Nat} {ret : Option FieldType} {ini : Bool} {n1 : Nat} {Post : mm_Q} {X : mm_X} (h : mm_G0 CALL own cc nL ret ini n1 Post X) : mg_icmp_eq CALL own cc nL ret ini n1 Post X := h.2.2.2.2.1.2.2.2.1
theorem r_if_ne {CALL : mm_call} {own : String} {cc : ByteArray} {nL : Nat} {ret : Option FieldType} {ini : Bool} {n1 : Nat} {Post : mm_Q} {X : mm_X} (h : mm_G0 CALL own cc nL ret ini n1 Post X) : mg_if_ne CALL own cc nL ret ini n1 Post X := h.2.2.2.2.1.2.2.2.2.1
theorem r_icmp_ne {CALL : mm_call} {own : String} {cc : ByteArray} {nL : Nat} {ret : Option FieldType} {ini : Bool} {n1 : Nat} {Post : mm_Q} {X : mm_X} (h : mm_G0 CALL own cc nL ret ini n1 Post X) : mg_icmp_ne CALL own cc nL ret ini n1 Post X := h.2.2.2.2.1.2.2.2.2.2.1
theorem r_if_lt {CALL : mm_call} {own : String} {cc : ByteArray} {nL : Nat} {ret : Option FieldType} {ini : Bool} {n1 : Nat} {Post : mm_Q} {X : mm_X} (h : mm_G0 CALL own cc nL ret ini n1 Post X) : mg_if_lt CALL own cc nL ret ini n1 Post X := h.2.2.2.2.1.2.2.2.2.2.2.1
theorem r_icmp_lt {CALL : mm_call} {own : String} {cc : ByteArray} {nL : Nat} {ret : Option FieldType} {ini : Bool} {n1 : Nat} {Post : mm_Q} {X : mm_X} (h : mm_G0 CALL own cc nL ret ini n1 Post X) : mg_icmp_lt CALL own cc nL ret ini n1 Post X := h.2.2.2.2.1.2.2.2.2.2.2.2
theorem r_if_ge {CALL : mm_call} {own : String} {cc : ByteArray} {nL : Nat} {ret : Option FieldType} {ini : Bool} {n1 : Nat} {Post : mm_Q} {X : mm_X} (h : mm_G0 CALL own cc nL ret ini n1 Post X) : mg_if_ge CALL own cc nL ret ini n1 Post X := h.2.2.2.2.2.1.1
theorem r_icmp_ge {CALL : mm_call} {own : String} {cc : ByteArray} {nL : Nat} {ret : Option FieldType} {ini : Bool} {n1 : Nat} {Post : mm_Q} {X : mm_X} (h : mm_G0 CALL own cc nL ret ini n1 Post X) : mg_icmp_ge CALL own cc nL ret ini n1 Post X := h.2.2.2.2.2.1.2.1
theorem r_if_gt {CALL : mm_call} {own : String} {cc : ByteArray} {nL : Nat} {ret : Option FieldType} {ini : Bool} {n1 : Nat} {Post : mm_Q} {X : mm_X} (h : mm_G0 CALL own cc nL ret ini n1 Post X) : mg_if_gt CALL own cc nL ret ini n1 Post X := h.2.2.2.2.2.1.2.2.1
theorem r_icmp_gt {CALL : mm_call} {own : String} {cc : ByteArray} {nL : Nat} {ret : Option FieldType} {ini : Bool} {n1 : Nat} {Post : mm_Q} {X : mm_X} (h : mm_G0 CALL own cc nL ret ini n1 Post X) : mg_icmp_gt CALL own cc nL ret ini n1 Post X := h.2.2.2.2.2.1.2.2.2.1
theorem r_if_le {CALL : mm_call} {own : String} {cc : ByteArray} {nL : Nat} {ret : Option FieldType} {ini : Bool} {n1 : Nat} {Post : mm_Q} {X : mm_X} (h : mm_G0 CALL own cc nL ret ini n1 Post X) : mg_if_le CALL own cc nL ret ini n1 Post X := h.2.2.2.2.2.1.2.2.2.2.1
theorem r_icmp_le {CALL : mm_call} {own : String} {cc : ByteArray} {nL : Nat} {ret : Option FieldType} {ini : Bool} {n1 : Nat} {Post : mm_Q} {X : mm_X} (h : mm_G0 CALL own cc nL ret ini n1 Post X) : mg_icmp_le CALL own cc nL ret ini n1 Post X := h.2.2.2.2.2.1.2.2.2.2.2.1
theorem r_goto {CALL : mm_call} {own : String} {cc : ByteArray} {nL : Nat} {ret : Option FieldType} {ini : Bool} {n1 : Nat} {Post : mm_Q} {X : mm_X} (h : mm_G0 CALL own cc nL ret ini n1 Post X) : mg_goto CALL own cc nL ret ini n1 Post X := h.2.2.2.2.2.1.2.2.2.2.2.2.1
theorem r_tableOut {CALL : mm_call} {own : String} {cc : ByteArray} {nL : Nat} {ret : Option FieldType} {ini : Bool} {n1 : Nat} {Post : mm_Q} {X : mm_X} (h : mm_G0 CALL own cc nL ret ini n1 Post X) : mg_tableOut CALL own cc nL ret ini n1 Post X := h.2.2.2.2.2.1.2.2.2.2.2.2.2
theorem r_tableIn {CALL : mm_call} {own : String} {cc : ByteArray} {nL : Nat} {ret : Option FieldType} {ini : Bool} {n1 : Nat} {Post : mm_Q} {X : mm_X} (h : mm_G0 CALL own cc nL ret ini n1 Post X) : mg_tableIn CALL own cc nL ret ini n1 Post X := h.2.2.2.2.2.2.1.1
theorem r_lookup {CALL : mm_call} {own : String} {cc : ByteArray} {nL : Nat} {ret : Option FieldType} {ini : Bool} {n1 : Nat} {Post : mm_Q} {X : mm_X} (h : mm_G0 CALL own cc nL ret ini n1 Post X) : mg_lookup CALL own cc nL ret ini n1 Post X := h.2.2.2.2.2.2.1.2.1
theorem r_getI {CALL : mm_call} {own : String} {cc : ByteArray} {nL : Nat} {ret : Option FieldType} {ini : Bool} {n1 : Nat} {Post : mm_Q} {X : mm_X} (h : mm_G0 CALL own cc nL ret ini n1 Post X) : mg_getI CALL own cc nL ret ini n1 Post X := h.2.2.2.2.2.2.1.2.2.1
theorem r_getR {CALL : mm_call} {own : String} {cc : ByteArray} {nL : Nat} {ret : Option FieldType} {ini : Bool} {n1 : Nat} {Post : mm_Q} {X : mm_X} (h : mm_G0 CALL own cc nL ret ini n1 Post X) : mg_getR CALL own cc nL ret ini n1 Post X := h.2.2.2.2.2.2.1.2.2.2.1
theorem r_getL {CALL : mm_call} {own : String} {cc : ByteArray} {nL : Nat} {ret : Option FieldType} {ini : Bool} {n1 : Nat} {Post : mm_Q} {X : mm_X} (h : mm_G0 CALL own cc nL ret ini n1 Post X) : mg_getL CALL own cc nL ret ini n1 Post X := h.2.2.2.2.2.2.1.2.2.2.2.1
theorem r_putI {CALL : mm_call} {own : String} {cc : ByteArray} {nL : Nat} {ret : Option FieldType} {ini : Bool} {n1 : Nat} {Post : mm_Q} {X : mm_X} (h : mm_G0 CALL own cc nL ret ini n1 Post X) : mg_putI CALL own cc nL ret ini n1 Post X := h.2.2.2.2.2.2.1.2.2.2.2.2.1
theorem r_putR {CALL : mm_call} {own : String} {cc : ByteArray} {nL : Nat} {ret : Option FieldType} {ini : Bool} {n1 : Nat} {Post : mm_Q} {X : mm_X} (h : mm_G0 CALL own cc nL ret ini n1 Post X) : mg_putR CALL own cc nL ret ini n1 Post X := h.2.2.2.2.2.2.1.2.2.2.2.2.2.1
theorem r_putL {CALL : mm_call} {own : String} {cc : ByteArray} {nL : Nat} {ret : Option FieldType} {ini : Bool} {n1 : Nat} {Post : mm_Q} {X : mm_X} (h : mm_G0 CALL own cc nL ret ini n1 Post X) : mg_putL CALL own cc nL ret ini n1 Post X := h.2.2.2.2.2.2.1.2.2.2.2.2.2.2
theorem r_iald {CALL : mm_call} {own : String} {cc : ByteArray} {nL : Nat} {ret : Option FieldType} {ini : Bool} {n1 : Nat} {Post : mm_Q} {X : mm_X} (h : mm_G0 CALL own cc nL ret ini n1 Post X) : mg_iald CALL own cc nL ret ini n1 Post X := h.2.2.2.2.2.2.2.1.1
theorem r_iast {CALL : mm_call} {own : String} {cc : ByteArray} {nL : Nat} {ret : Option FieldType} {ini : Bool} {n1 : Nat} {Post : mm_Q} {X : mm_X} (h : mm_G0 CALL own cc nL ret ini n1 Post X) : mg_iast CALL own cc nL ret ini n1 Post X := h.2.2.2.2.2.2.2.1.2.1
theorem r_alen {CALL : mm_call} {own : String} {cc : ByteArray} {nL : Nat} {ret : Option FieldType} {ini : Bool} {n1 : Nat} {Post : mm_Q} {X : mm_X} (h : mm_G0 CALL own cc nL ret ini n1 Post X) : mg_alen CALL own cc nL ret ini n1 Post X := h.2.2.2.2.2.2.2.1.2.2.1
theorem r_aald {CALL : mm_call} {own : String} {cc : ByteArray} {nL : Nat} {ret : Option FieldType} {ini : Bool} {n1 : Nat} {Post : mm_Q} {X : mm_X} (h : mm_G0 CALL own cc nL ret ini n1 Post X) : mg_aald CALL own cc nL ret ini n1 Post X := h.2.2.2.2.2.2.2.1.2.2.2.1
theorem r_aast {CALL : mm_call} {own : String} {cc : ByteArray} {nL : Nat} {ret : Option FieldType} {ini : Bool} {n1 : Nat} {Post : mm_Q} {X : mm_X} (h : mm_G0 CALL own cc nL ret ini n1 Post X) : mg_aast CALL own cc nL ret ini n1 Post X := h.2.2.2.2.2.2.2.1.2.2.2.2.1
theorem r_new {CALL : mm_call} {own : String} {cc : ByteArray} {nL : Nat} {ret : Option FieldType} {ini : Bool} {n1 : Nat} {Post : mm_Q} {X : mm_X} (h : mm_G0 CALL own cc nL ret ini n1 Post X) : mg_new CALL own cc nL ret ini n1 Post X := h.2.2.2.2.2.2.2.1.2.2.2.2.2.1
theorem r_newa {CALL : mm_call} {own : String} {cc : ByteArray} {nL : Nat} {ret : Option FieldType} {ini : Bool} {n1 : Nat} {Post : mm_Q} {X : mm_X} (h : mm_G0 CALL own cc nL ret ini n1 Post X) : mg_newa CALL own cc nL ret ini n1 Post X := h.2.2.2.2.2.2.2.1.2.2.2.2.2.2.1
theorem r_anew {CALL : mm_call} {own : String} {cc : ByteArray} {nL : Nat} {ret : Option FieldType} {ini : Bool} {n1 : Nat} {Post : mm_Q} {X : mm_X} (h : mm_G0 CALL own cc nL ret ini n1 Post X) : mg_anew CALL own cc nL ret ini n1 Post X := h.2.2.2.2.2.2.2.1.2.2.2.2.2.2.2
theorem r_objInit {CALL : mm_call} {own : String} {cc : ByteArray} {nL : Nat} {ret : Option FieldType} {ini : Bool} {n1 : Nat} {Post : mm_Q} {X : mm_X} (h : mm_G0 CALL own cc nL ret ini n1 Post X) : mg_objInit CALL own cc nL ret ini n1 Post X := h.2.2.2.2.2.2.2.2.1
theorem r_copy {CALL : mm_call} {own : String} {cc : ByteArray} {nL : Nat} {ret : Option FieldType} {ini : Bool} {n1 : Nat} {Post : mm_Q} {X : mm_X} (h : mm_G0 CALL own cc nL ret ini n1 Post X) : mg_copy CALL own cc nL ret ini n1 Post X := h.2.2.2.2.2.2.2.2.2.1
theorem r_callS {CALL : mm_call} {own : String} {cc : ByteArray} {nL : Nat} {ret : Option FieldType} {ini : Bool} {n1 : Nat} {Post : mm_Q} {X : mm_X} (h : mm_G0 CALL own cc nL ret ini n1 Post X) : mg_callS CALL own cc nL ret ini n1 Post X := h.2.2.2.2.2.2.2.2.2.2.1
theorem r_callV {CALL : mm_call} {own : String} {cc : ByteArray} {nL : Nat} {ret : Option FieldType} {ini : Bool} {n1 : Nat} {Post : mm_Q} {X : mm_X} (h : mm_G0 CALL own cc nL ret ini n1 Post X) : mg_callV CALL own cc nL ret ini n1 Post X := h.2.2.2.2.2.2.2.2.2.2.2.1
theorem r_callU {CALL : mm_call} {own : String} {cc : ByteArray} {nL : Nat} {ret : Option FieldType} {ini : Bool} {n1 : Nat} {Post : mm_Q} {X : mm_X} (h : mm_G0 CALL own cc nL ret ini n1 Post X) : mg_callU CALL own cc nL ret ini n1 Post X := h.2.2.2.2.2.2.2.2.2.2.2.2.1
theorem r_callI {CALL : mm_call} {own : String} {cc : ByteArray} {nL : Nat} {ret : Option FieldType} {ini : Bool} {n1 : Nat} {Post : mm_Q} {X : mm_X} (h : mm_G0 CALL own cc nL ret ini n1 Post X) : mg_callI CALL own cc nL ret ini n1 Post X := h.2.2.2.2.2.2.2.2.2.2.2.2.2
theorem r_iret {CALL : mm_call} {own : String} {cc : ByteArray} {nL : Nat} {ret : Option FieldType} {ini : Bool} {n1 : Nat} {Post : mm_Q} {X : mm_X} (h : mm_G CALL own cc nL ret ini n1 Post X) : mg_iret CALL own cc nL ret ini n1 Post X := h.2.1
theorem r_lret {CALL : mm_call} {own : String} {cc : ByteArray} {nL : Nat} {ret : Option FieldType} {ini : Bool} {n1 : Nat} {Post : mm_Q} {X : mm_X} (h : mm_G CALL own cc nL ret ini n1 Post X) : mg_lret CALL own cc nL ret ini n1 Post X := h.2.2.1
theorem r_aret {CALL : mm_call} {own : String} {cc : ByteArray} {nL : Nat} {ret : Option FieldType} {ini : Bool} {n1 : Nat} {Post : mm_Q} {X : mm_X} (h : mm_G CALL own cc nL ret ini n1 Post X) : mg_aret CALL own cc nL ret ini n1 Post X := h.2.2.2.1
theorem r_vret {CALL : mm_call} {own : String} {cc : ByteArray} {nL : Nat} {ret : Option FieldType} {ini : Bool} {n1 : Nat} {Post : mm_Q} {X : mm_X} (h : mm_G CALL own cc nL ret ini n1 Post X) : mg_vret CALL own cc nL ret ini n1 Post X := h.2.2.2.2
def mm_wp : Nat → mm_call
  | 0, _, _, _, _, _, _, _ => False
  | d + 1, y, as, hi, τ, n, n1, Post => ∃ (bytes : ByteArray) (maxL : Nat) (ret : Option FieldType), mm_M y bytes maxL ret ∧ n ≤ n1 ∧ as.length ≤ maxL ∧ (∀ v ∈ as, v.category = 1) ∧ ∀ X : mm_X, mm_G (mm_wp d) y.cls bytes maxL ret (decide (y.name = "<init>")) n1 Post X → X 0 (as.map some ++ List.replicate (maxL - as.length) none) [] hi τ n
end
section
theorem mm_rlc (b : Nat) (v : Value) : (mm_rl b v).category = v.category := by cases v <;> rfl
theorem mm_rlm (b : Nat) (st : List Value) : ((st.map (mm_rl b)).map fun v => v.category) = st.map fun v => v.category := by
  rw [List.map_map]
  exact List.map_congr_left fun v _ => mm_rlc b v
theorem mm_rl_rf (b : Nat) (o : Option Nat) : mm_rl b (va_rf o) = va_rf (o.map (b + ·)) := by cases o <;> rfl
theorem mm_sl_mono {a c : Nat} (h : a ≤ c) : mm_sl a ≤ mm_sl c := by
  induction h with
  | refl => exact Nat.le_refl _
  | step _ ih => exact Nat.le_trans ih (Nat.le_add_right _ _)
theorem mm_room {n0 n n1 : Nat} (h : n0 ≤ n) (h2 : n + 1 ≤ n1) : (n + 1) - n0 = (n - n0) + 1 ∧ mm_sl (n + 1) - mm_sl n0 = (mm_sl n - mm_sl n0) + mm_sz n ∧ (n - n0) + 1 ≤ n1 - n0 ∧ (mm_sl n - mm_sl n0) + mm_sz n ≤ mm_sl n1 - mm_sl n0 := by
  have e : mm_sl (n + 1) = mm_sl n + mm_sz n := rfl
  have a := mm_sl_mono h
  have c := mm_sl_mono h2
  omega
/-- the tables of the classes -/
theorem mm_w0 : ∀ w ∈ u_ws RX0 TX0 7, w ∈ mm_g := by decide +kernel
theorem mm_w1 : ∀ w ∈ u_ws RX1 TX1 3, w ∈ mm_g := by decide +kernel
theorem mm_w2 : ∀ w ∈ u_ws RX2 TX2 2, w ∈ mm_g := by decide +kernel
theorem mm_w3 : ∀ w ∈ u_ws RX3 TX3 8, w ∈ mm_g := by decide +kernel
theorem mm_w4 : ∀ w ∈ u_ws RX4 TX4 6, w ∈ mm_g := by decide +kernel
theorem mm_w5 : ∀ w ∈ u_ws RX5 TX5 10, w ∈ mm_g := by decide +kernel
theorem mm_w6 : ∀ w ∈ u_ws RX6 TX6 3, w ∈ mm_g := by decide +kernel
theorem mm_w7 : ∀ w ∈ u_ws RX7 TX7 7, w ∈ mm_g := by decide +kernel
theorem mm_w8 : ∀ w ∈ u_ws RX8 TX8 5, w ∈ mm_g := by decide +kernel
theorem mm_w9 : ∀ w ∈ u_ws RX10 TX10 16, w ∈ mm_g := by decide +kernel
theorem mm_w10 : ∀ w ∈ u_ws RX11 TX11 37, w ∈ mm_g := by decide +kernel
def mm_ok (ci : Nat) (q : vw_C) : Prop := (∀ w ∈ u_ws q.1 q.2.1 q.2.2, w ∈ mm_g) ∧ (∀ a, a < q.2.2 → ∀ b, b < q.2.2 → a ≠ b → (q.2.1 a).2.1 ≠ (q.2.1 b).2.1) ∧ q.2.2 = mm_nf ci ∧ ∃ ty : Nat → FieldType, (∀ k, k < q.2.2 → parseFieldDescriptor (q.2.1 k).2.2.1 = some (ty k)) ∧ ∀ k, k < q.2.2 → mm_tc (ty k) = mm_ft ci k
theorem mm_cls {ci : Nat} {q : vw_C} (h : vwCl[ci]? = some q) : mm_ok ci q := by
  match ci, h with
  | 0, h => cases h; exact ⟨mm_w0, nmX0, by decide +kernel, tyX0, tyX0_ok, by decide +kernel⟩
  | 1, h => cases h; exact ⟨mm_w1, nmX1, by decide +kernel, tyX1, tyX1_ok, by decide +kernel⟩
  | 2, h => cases h; exact ⟨mm_w2, nmX2, by decide +kernel, tyX2, tyX2_ok, by decide +kernel⟩
  | 3, h => cases h; exact ⟨mm_w3, nmX3, by decide +kernel, tyX3, tyX3_ok, by decide +kernel⟩
  | 4, h => cases h; exact ⟨mm_w4, nmX4, by decide +kernel, tyX4, tyX4_ok, by decide +kernel⟩
  | 5, h => cases h; exact ⟨mm_w5, nmX5, by decide +kernel, tyX5, tyX5_ok, by decide +kernel⟩
  | 6, h => cases h; exact ⟨mm_w6, nmX6, by decide +kernel, tyX6, tyX6_ok, by decide +kernel⟩
  | 7, h => cases h; exact ⟨mm_w7, nmX7, by decide +kernel, tyX7, tyX7_ok, by decide +kernel⟩
  | 8, h => cases h; exact ⟨mm_w8, nmX8, by decide +kernel, tyX8, tyX8_ok, by decide +kernel⟩
  | 9, h => cases h; exact ⟨mm_w9, nmX10, by decide +kernel, tyX10, tyX10_ok, by decide +kernel⟩
  | 10, h => cases h; exact ⟨mm_w10, nmX11, by decide +kernel, tyX11, tyX11_ok, by decide +kernel⟩
  | k + 11, h => simp [vwCl] at h
/-- the heap holds the cells -/
def mm_at (D : va_G) (cI cR : ClassId) (b : Nat) (hi : mm_HI) (τ : mm_T) (c : Nat) (H : Heap) : Prop :=
  if (mm_lay c).1 = 0 then ∃ q : vw_C, vwCl[(mm_lay c).2]? = some q ∧ t_OB (b + c) (D.1 (mm_lay c).2) q.2.2 (D.2 (mm_lay c).2) H (fun k => mm_fv b hi τ c k (mm_ft (mm_lay c).2 k))
  else if (mm_lay c).1 = 1 then H[b + c]? = some (arrV cI (mm_lay c).2 (fun j => .int (hi c j)))
  else H[b + c]? = some (arrV cR (mm_lay c).2 (fun j => va_rf ((τ.1 c j).map (b + ·))))
def mm_P (D : va_G) (cI cR : ClassId) (b : Nat) (hi : mm_HI) (τ : mm_T) (n : Nat) (H : Heap) : Prop := ∀ c, c < n → mm_at D cI cR b hi τ c H
def mm_S (b : Nat) (H0 H : Heap) (locs : List Loc) : Prop := (∀ q : Nat, q < b → H[q]? = H0[q]?) ∧ ∀ l ∈ locs, b ≤ l.base
theorem mm_fv_cong {b : Nat} {hi hi2 : mm_HI} {τ τ2 : mm_T} {c k t : Nat} (h1 : hi2 c = hi c) (h2 : τ2.1 c = τ.1 c) (h3 : τ2.2 c = τ.2 c) : mm_fv b hi2 τ2 c k t = mm_fv b hi τ c k t := by
  simp [mm_fv, h1, h2, h3]
theorem mm_at_cong {D : va_G} {cI cR : ClassId} {b : Nat} {hi hi2 : mm_HI} {τ τ2 : mm_T} {c : Nat} {H H2 : Heap} (h : mm_at D cI cR b hi τ c H) (h1 : hi2 c = hi c) (h2 : τ2.1 c = τ.1 c) (h3 : τ2.2 c = τ.2 c) (h4 : H2[b + c]? = H[b + c]?) : mm_at D cI cR b hi2 τ2 c H2 := by
  unfold mm_at at h ⊢
  split at h
  · rename_i hc
    rw [if_pos hc]
    obtain ⟨q, e1, e2⟩ := h
    exact ⟨q, e1, (e2.kept h4).to (fun k _ => (mm_fv_cong h1 h2 h3).symm)⟩
  · rename_i hc
    rw [if_neg hc]
    split at h
    · rename_i hc1
      rw [if_pos hc1, h4, h, h1]
    · rename_i hc1
      rw [if_neg hc1, h4, h, h2]
theorem mm_at_o {D : va_G} {cI cR : ClassId} {b : Nat} {hi : mm_HI} {τ : mm_T} {c ci : Nat} {H : Heap} (h2 : mm_lay c = (0, ci)) : mm_at D cI cR b hi τ c H ↔ ∃ q : vw_C, vwCl[ci]? = some q ∧ t_OB (b + c) (D.1 ci) q.2.2 (D.2 ci) H (fun k => mm_fv b hi τ c k (mm_ft ci k)) := by
  unfold mm_at
  rw [h2]
  simp
theorem mm_at_a {D : va_G} {cI cR : ClassId} {b : Nat} {hi : mm_HI} {τ : mm_T} {c N : Nat} {H : Heap} (h2 : mm_lay c = (1, N)) : mm_at D cI cR b hi τ c H ↔ H[b + c]? = some (arrV cI N (fun j => .int (hi c j))) := by
  unfold mm_at
  rw [h2]
  simp
theorem mm_at_q {D : va_G} {cI cR : ClassId} {b : Nat} {hi : mm_HI} {τ : mm_T} {c N : Nat} {H : Heap} (h2 : mm_lay c = (2, N)) : mm_at D cI cR b hi τ c H ↔ H[b + c]? = some (arrV cR N (fun j => va_rf ((τ.1 c j).map (b + ·)))) := by
  unfold mm_at
  rw [h2]
  simp
theorem mm_P.put {D : va_G} {cI cR : ClassId} {b n c : Nat} {hi hi2 : mm_HI} {τ τ2 : mm_T} {H H2 : Heap} (hP : mm_P D cI cR b hi τ n H) (hat : mm_at D cI cR b hi2 τ2 c H2) (ho : ∀ c1, c1 ≠ c → hi2 c1 = hi c1 ∧ τ2.1 c1 = τ.1 c1 ∧ τ2.2 c1 = τ.2 c1) (hq : ∀ q : Nat, q ≠ b + c → H2[q]? = H[q]?) : mm_P D cI cR b hi2 τ2 n H2 := by
  intro c1 h1
  by_cases h : c1 = c
  · subst h; exact hat
  · obtain ⟨a1, a2, a3⟩ := ho c1 h
    exact mm_at_cong (hP c1 h1) a1 a2 a3 (hq _ (by omega))
theorem mm_P.push {D : va_G} {cI cR : ClassId} {b n : Nat} {hi hi2 : mm_HI} {τ τ2 : mm_T} {H H2 : Heap} (hP : mm_P D cI cR b hi τ n H) (hat : mm_at D cI cR b hi2 τ2 n H2) (ho : ∀ c1, c1 ≠ n → hi2 c1 = hi c1 ∧ τ2.1 c1 = τ.1 c1 ∧ τ2.2 c1 = τ.2 c1) (hq : ∀ q : Nat, q < b + n → H2[q]? = H[q]?) : mm_P D cI cR b hi2 τ2 (n + 1) H2 := by
  intro c1 h1
  by_cases h : c1 = n
  · subst h; exact hat
  · obtain ⟨a1, a2, a3⟩ := ho c1 h
    exact mm_at_cong (hP c1 (by omega)) a1 a2 a3 (hq _ (by omega))
theorem mm_S.put {b : Nat} {H0 H H2 : Heap} {locs : List Loc} {c : Nat} {k : Nat} (h : mm_S b H0 H locs) (hq : ∀ q : Nat, q ≠ b + c → H2[q]? = H[q]?) : mm_S b H0 H2 (locs ++ [⟨b + c, k⟩]) := by
  refine ⟨fun q hl => by rw [hq q (by omega)]; exact h.1 q hl, fun q h1 => ?_⟩
  rcases List.mem_append.mp h1 with h2 | h2
  · exact h.2 q h2
  · rw [List.mem_singleton.mp h2]; exact Nat.le_add_right _ _
/-- the locals -/
def mm_LV (b nL : Nat) (ls : List (Option Value)) (lsA : Array Slot) : Prop := lv_has lsA nL [] ∧ ∀ (i : Nat) (v : Value), ls[i]? = some (some v) → lsA[i]? = some (.val (mm_rl b v)) ∧ v.category = 1
def mm_lst (b : Nat) (ls : List (Option Value)) : List (Nat × Value) := (List.range ls.length).filterMap (fun i => match ls[i]? with
  | some (some v) => some (i, mm_rl b v)
  | _ => none)
theorem mm_lst_mem {b : Nat} {ls : List (Option Value)} {q : Nat × Value} : q ∈ mm_lst b ls ↔ ∃ v, ls[q.1]? = some (some v) ∧ q.2 = mm_rl b v := by
  unfold mm_lst
  rw [List.mem_filterMap]
  constructor
  · rintro ⟨i, -, h⟩
    split at h
    · rename_i v hv
      cases h
      exact ⟨v, hv, rfl⟩
    · cases h
  · rintro ⟨v, h1, h2⟩
    refine ⟨q.1, List.mem_range.mpr (List.getElem?_eq_some_iff.mp h1).1, ?_⟩
    rw [h1]
    show some (q.1, mm_rl b v) = some q
    rw [← h2]
theorem mm_lvl {b nL : Nat} {ls : List (Option Value)} {lsA : Array Slot} (h : mm_LV b nL ls lsA) : lv_has lsA nL (mm_lst b ls) := by
  refine ⟨h.1.1, h.1.2.1, fun q hq => ?_⟩
  obtain ⟨v, h1, h2⟩ := mm_lst_mem.mp hq
  rw [h2]
  exact (h.2 _ _ h1).1
theorem mm_lvk (b : Nat) {ls : List (Option Value)} {j : Nat} {x : Int32} (h : ls[j]? = some (some (.int x))) : ∃ q : Nat, (mm_lst b ls)[q]? = some (j, .int x) :=
  List.getElem?_of_mem (mm_lst_mem.mpr ⟨_, h, rfl⟩)
theorem mm_lvs {b nL i : Nat} {ls : List (Option Value)} {lsA lsB : Array Slot} (h : mm_LV b nL ls lsA) {v : Value} (hv : v.category = 1) (h1 : lv_has lsB nL ((i, mm_rl b v) :: (mm_lst b ls).filter (fun q => !(q.1 == i) && !(q.1 + 1 == i && q.2.category == 2)))) : mm_LV b nL (ls.set i (some v)) lsB := by
  refine ⟨⟨h1.1, h1.2.1, fun q hq => absurd hq List.not_mem_nil⟩, fun j w hj => ?_⟩
  by_cases hij : i = j
  · subst hij
    rw [List.getElem?_set_self'] at hj
    cases hl : ls[i]? with
    | none => rw [hl] at hj; cases hj
    | some z =>
      rw [hl] at hj
      have e : v = w := by
        have := Option.some.inj (Option.some.inj hj)
        exact this
      subst e
      exact ⟨h1.2.2 _ List.mem_cons_self, hv⟩
  · rw [List.getElem?_set_ne hij] at hj
    obtain ⟨a1, a2⟩ := h.2 j w hj
    refine ⟨h1.2.2 (j, mm_rl b w) (List.mem_cons_of_mem _ (List.mem_filter.mpr ⟨mm_lst_mem.mpr ⟨w, hj, rfl⟩, ?_⟩)), a2⟩
    have e1 : ¬ j = i := fun q => hij q.symm
    simp [e1, mm_rlc, a2]
end
section
theorem mm_oi1 : mm_in (Cond.instanceMethod objectInit) := ⟨by decide +kernel, by decide +kernel⟩
theorem mm_oi2 : mm_in (Cond.code objectInit ⟨#[0xb1]⟩ 1 none) := ⟨by decide +kernel, by decide +kernel⟩
theorem mm_acn : mm_in (Cond.native arraycopyName) := ⟨by decide +kernel, by decide +kernel⟩
theorem mm_acs : mm_in (Cond.static arraycopyName) := ⟨by decide +kernel, by decide +kernel⟩
theorem mm_aci : mm_in (Cond.initialized "java/lang/System") := ⟨by decide +kernel, by decide +kernel⟩
theorem mm_arc : mm_in (Cond.arrayClass .int) := ⟨by decide +kernel, by decide +kernel⟩
section MI
variable {p : Program} {l : Launch} {e : Env} {R : Room} {s : State} {m : MethodId} {args : Array Value} {below : List Frame} {meth : Method} {c0 : Code} {H : Heap} {locs : List Loc} {cells slots : Nat} {Q : State → Prop}
variable {cc : ByteArray} {pc : Nat} {ls : Array Slot} {rest : List Value} {D : va_G} {cI cR : ClassId} {b n : Nat} {hi hi2 : mm_HI} {τ τ2 : mm_T} {own : String}
theorem mm_gts (hts : ∀ w, mm_in w → w.before args s = true) : ∀ w ∈ mm_g, w.before args s = true := fun w h => hts w (List.mem_filter.mp h)
theorem mm_same (hts : ∀ w, mm_in w → w.before args s = true) {T : u_T} {k : Nat} {ref : String} (h : (T k).1 = ref ∨ mm_in (Cond.sameField ref (T k).1 (T k).2.1 (T k).2.2.1)) (x : ClassId × Class × Nat × Field) (hx : s.fieldFound? (T k).1 (T k).2.1 (T k).2.2.1 = some x) : s.fieldFound? ref (T k).2.1 (T k).2.2.1 = some x := by
  rcases h with h | h
  · rw [← h]; exact hx
  · exact u_same (hts _ h) x hx
theorem mm_getf {ix ci k tc c : Nat} {fin ow : Bool} (hx : p.tables.exec = Jvm.exec) (hb : c0.code = cc) (hts : ∀ w, mm_in w → w.before args s = true) (hown : s.vm.findClass own = some m.cls) (hK : va_K D vwCl (mm_tys cI cR) s) (hP : mm_P D cI cR b hi τ n H) (hd : decode cc pc = .ok (.getfield ix, 3)) (h0 : mm_FL own ix ci k tc fin ow) (h2 : mm_lay c = (0, ci)) (h3 : c < n) {v : Value} (hv : mm_fv b hi τ c k tc = v)
    (kk : W p l e R s m args below meth c0 H locs cells slots Q (F0 m (pc + 3) ls (v :: rest))) : W p l e R s m args below meth c0 H locs cells slots Q (F0 m pc ls (.ref (b + c) :: rest)) := by
  obtain ⟨C, T, N, ref, ty, e1, e2, e3, e4, e5, e6, e7, e8, e9, -⟩ := h0
  obtain ⟨q, f1, cell, q1, q2, q3, q4⟩ := (mm_at_o h2).mp (hP c h3)
  have hr : q = (C, T, N) := Option.some.inj (f1.symm.trans e1)
  subst hr
  obtain ⟨hS, hfc, kC, hkC, hkind⟩ := hK.1 ci _ e1
  obtain ⟨cf, kf, fi, f, hi', hsl⟩ := hS k e3
  refine W.getf hx hb hown (hts _ e4) (mm_same hts e5 _ hi') (u_facts hfc hkC (u_lays (mm_gts hts) (mm_cls e1).1 e3) hi').1 q1 (by rw [q3]; exact fun h => by cases h) (v := v) ?_ rfl rfl hd kk
  rw [hsl, q4 k e3]
  show some (mm_fv b hi τ c k (mm_ft ci k)) = some v
  rw [e8, hv]
theorem mm_putf {ix ci k tc c : Nat} {fin ow ini : Bool} (hx : p.tables.exec = Jvm.exec) (hb : c0.code = cc) (hts : ∀ w, mm_in w → w.before args s = true) (hown : s.vm.findClass own = some m.cls) (hK : va_K D vwCl (mm_tys cI cR) s) (hP : mm_P D cI cR b hi τ n H) (hS : mm_S b s.heap H locs) (hini : ini = true → meth.name = "<init>") (hd : decode cc pc = .ok (.putfield ix, 3)) (h0 : mm_FL own ix ci k tc fin ow) (hf : fin = false ∨ (ini = true ∧ ow = true)) (h2 : mm_lay c = (0, ci)) (h3 : c < n) {v : Value} (hok : ∀ ty : FieldType, mm_tc ty = tc → narrow ty v = v ∧ fits ty v = true)
    (hnew : ∀ ft : Nat → Nat, ft k = tc → ∀ j, updV (fun k => mm_fv b hi τ c k (ft k)) k v j = mm_fv b hi2 τ2 c j (ft j)) (hoth : ∀ c1, c1 ≠ c → hi2 c1 = hi c1 ∧ τ2.1 c1 = τ.1 c1 ∧ τ2.2 c1 = τ.2 c1)
    (kk : ∀ (H1 : Heap) (locs1 : List Loc), H1.size = H.size → mm_P D cI cR b hi2 τ2 n H1 → mm_S b s.heap H1 locs1 → W p l e R s m args below meth c0 H1 locs1 cells slots Q (F0 m (pc + 3) ls rest)) : W p l e R s m args below meth c0 H locs cells slots Q (F0 m pc ls (v :: .ref (b + c) :: rest)) := by
  obtain ⟨C, T, N, ref, ty, e1, e2, e3, e4, e5, e6, e7, e8, e9, e10⟩ := h0
  obtain ⟨q, f1, cell, q1, q2, q3, q4⟩ := (mm_at_o h2).mp (hP c h3)
  have hr : q = (C, T, N) := Option.some.inj (f1.symm.trans e1)
  subst hr
  obtain ⟨o1, o2, o3, ty0, o4, o5⟩ := mm_cls e1
  have hap := va_apart (own := own) (mm_gts hts) o1 ty0 o4 o2 hK e1
  obtain ⟨hSl, hfc, kC, hkC, hkind⟩ := hK.1 ci _ e1
  obtain ⟨cf, kf, fi, f, hi', hsl⟩ := hSl k e3
  have hl := u_lays (mm_gts hts) o1 e3
  have hst := (u_facts hfc hkC hl hi').1
  obtain ⟨hn, hfit⟩ := hok ty e7
  have key : ∀ H1 : Heap, H1[b + c]? = some (cell.setSlot f.slot v) → H1.size = H.size → (∀ q : Nat, q ≠ b + c → H1[q]? = H[q]?) → W p l e R s m args below meth c0 H1 (locs ++ [⟨b + c, f.slot⟩]) cells slots Q (F0 m (pc + 3) ls rest) := by
    intro H1 g1 g2 g3
    refine kk H1 _ g2 (hP.put ((mm_at_o h2).mpr ⟨_, e1, ?_⟩) hoth g3) (hS.put g3)
    rw [hsl] at g1
    exact t_OB.to ⟨_, g1, q2, q3, t_set q4 hap e3 v⟩ (fun j _ => hnew _ e8 j)
  have hlt : f.slot < cell.slots.size := by rw [hsl]; exact k2_hasslot (q4 k e3)
  have hlay := mm_gts hts _ (o1 _ (u_in_lay e3))
  unfold u_lay at hlay
  cases fin with
  | false =>
    rw [if_neg (by rw [e9]; decide)] at hlay
    have h6 := u_store hfc hkC hkind hlay hi' e6 hn hfit
    exact W.putK hx hb (f := f) ⟨hown, hts _ e4, ⟨_, _, _, mm_same hts e5 _ hi'⟩, hst⟩ (by rw [q2]; exact h6) q1 q3 hlt rfl rfl hd key
  | true =>
    rw [if_pos e9] at hlay
    obtain ⟨i1, i2⟩ : ini = true ∧ ow = true := by
      rcases hf with hf | hf
      · cases hf
      · exact hf
    have hdecl := e10 i2
    have hcf : m.cls = cf := by
      obtain ⟨_, _, c', _, _, _, -, -, hf', -, -, -, hown2, -⟩ := Cond.laysFinal_spec hlay
      have z1 : c' = cf := by have := hi'.symm.trans hf'; simp at this; exact this.1.symm
      rw [hdecl] at hown2
      rw [← z1]; exact Option.some.inj (hown.symm.trans hown2)
    have h6 := u_fits hfc hkC hkind (Or.inr hlay) hi' e6 hn hfit
    exact W.putFinK hx hb hown (hts _ e4) (mm_same hts e5 _ hi') hst hcf (hini i1) (by rw [q2]; exact h6) q1 q3 hlt rfl rfl hd key
theorem mm_okI {tc : Nat} {x : Int32} (h : tc = 0 ∨ (tc = 3 ∧ (x = 0 ∨ x = 1))) (ty : FieldType) (ht : mm_tc ty = tc) : narrow ty (mm_rl b (.int x)) = mm_rl b (.int x) ∧ fits ty (mm_rl b (.int x)) = true := by
  rcases h with h | ⟨h, h1⟩
  · subst h
    cases ty <;> simp [mm_tc] at ht
    exact ⟨rfl, rfl⟩
  · subst h
    cases ty <;> simp [mm_tc] at ht
    rcases h1 with rfl | rfl <;> exact ⟨rfl, rfl⟩
theorem mm_okR {tc x : Nat} (h : tc = 1) (ty : FieldType) (ht : mm_tc ty = tc) : narrow ty (mm_rl b (.ref x)) = mm_rl b (.ref x) ∧ fits ty (mm_rl b (.ref x)) = true := by
  subst h
  cases ty <;> simp [mm_tc] at ht <;> exact ⟨rfl, rfl⟩
theorem mm_okL {tc : Nat} {x : Int64} (h : tc = 2) (ty : FieldType) (ht : mm_tc ty = tc) : narrow ty (mm_rl b (.long x)) = mm_rl b (.long x) ∧ fits ty (mm_rl b (.long x)) = true := by
  subst h
  cases ty <;> simp [mm_tc] at ht
  exact ⟨rfl, rfl⟩
theorem mm_newI {tc c k : Nat} {x : Int32} (h : tc = 0 ∨ (tc = 3 ∧ (x = 0 ∨ x = 1))) (ft : Nat → Nat) (hf : ft k = tc) (j : Nat) : updV (fun k => mm_fv b hi τ c k (ft k)) k (mm_rl b (.int x)) j = mm_fv b (mm_up2 hi c k x) τ c j (ft j) := by
  have ht : tc ≠ 1 ∧ tc ≠ 2 := by rcases h with rfl | ⟨rfl, -⟩ <;> decide
  by_cases hj : j = k
  · subst hj
    simp [updV, mm_fv, hf, ht, va_up, mm_rl]
  · simp [updV, mm_fv, hj, va_up]
theorem mm_newR {tc c k x : Nat} (h : tc = 1) (ft : Nat → Nat) (hf : ft k = tc) (j : Nat) : updV (fun k => mm_fv b hi τ c k (ft k)) k (mm_rl b (.ref x)) j = mm_fv b hi (va_up τ.1 c (va_up (τ.1 c) k (some x)), τ.2) c j (ft j) := by
  subst h
  by_cases hj : j = k
  · subst hj
    simp [updV, mm_fv, hf, va_up, mm_rl, va_rf]
  · simp [updV, mm_fv, hj, va_up]
theorem mm_newL {tc c k : Nat} {x : Int64} (h : tc = 2) (ft : Nat → Nat) (hf : ft k = tc) (j : Nat) : updV (fun k => mm_fv b hi τ c k (ft k)) k (mm_rl b (.long x)) j = mm_fv b hi (τ.1, va_up τ.2 c (va_up (τ.2 c) k x)) c j (ft j) := by
  subst h
  by_cases hj : j = k
  · subst hj
    simp [updV, mm_fv, hf, va_up, mm_rl]
  · simp [updV, mm_fv, hj, va_up]
theorem mm_iald {c N : Nat} {i : Int32} (hx : p.tables.exec = Jvm.exec) (hb : c0.code = cc) (hK : va_K D vwCl (mm_tys cI cR) s) (hP : mm_P D cI cR b hi τ n H) (hd : decode cc pc = .ok (.iaload, 1)) (h0 : mm_lay c = (1, N)) (h1 : c < n) (hin : vp_in i N)
    (kk : W p l e R s m args below meth c0 H locs cells slots Q (F0 m (pc + 1) ls (.int (hi c i.toNatClampNeg) :: rest))) : W p l e R s m args below meth c0 H locs cells slots Q (F0 m pc ls (.int i :: .ref (b + c) :: rest)) := by
  have hlt : i.toNatClampNeg < N := Nat.not_le.mp fun q => hin (Or.inr q)
  exact W.iald (v := .int (hi c i.toNatClampNeg)) hx hb ((mm_at_a h0).mp (hP c h1)) ((hK.2 0 _ rfl).1 N (fun j => .int (hi c j))) (fun q => by cases q) (by rw [arrV_size]; exact hin) (by rw [arrV_read _ _ hlt]) rfl rfl hd kk
theorem mm_iast {c N : Nat} {i x : Int32} (hx : p.tables.exec = Jvm.exec) (hb : c0.code = cc) (hK : va_K D vwCl (mm_tys cI cR) s) (hP : mm_P D cI cR b hi τ n H) (hS : mm_S b s.heap H locs) (hd : decode cc pc = .ok (.iastore, 1)) (h0 : mm_lay c = (1, N)) (h1 : c < n) (hin : vp_in i N)
    (kk : ∀ (H1 : Heap) (locs1 : List Loc), H1.size = H.size → mm_P D cI cR b (mm_up2 hi c i.toNatClampNeg x) τ n H1 → mm_S b s.heap H1 locs1 → W p l e R s m args below meth c0 H1 locs1 cells slots Q (F0 m (pc + 1) ls rest)) : W p l e R s m args below meth c0 H locs cells slots Q (F0 m pc ls (.int x :: .int i :: .ref (b + c) :: rest)) := by
  refine W.iast hx hb ((mm_at_a h0).mp (hP c h1)) ((hK.2 0 _ rfl).1 N (fun j => .int (hi c j))) (fun q => by cases q) (by rw [arrV_size]; exact hin) rfl rfl hd fun H1 g1 g2 g3 => ?_
  refine kk H1 _ g2 (hP.put ((mm_at_a h0).mpr ?_) (fun c1 hc1 => ⟨by simp [va_up, hc1], rfl, rfl⟩) g3) (hS.put g3)
  rw [g1, arrV_store]
  congr 2
  funext q
  by_cases hq : q = i.toNatClampNeg
  · subst hq; simp [updV, va_up]
  · simp [updV, va_up, hq]
theorem mm_alen {c N : Nat} (hx : p.tables.exec = Jvm.exec) (hb : c0.code = cc) (hK : va_K D vwCl (mm_tys cI cR) s) (hP : mm_P D cI cR b hi τ n H) (hd : decode cc pc = .ok (.arraylength, 1)) (h0 : mm_lay c = (1, N)) (h1 : c < n)
    (kk : W p l e R s m args below meth c0 H locs cells slots Q (F0 m (pc + 1) ls (.int (nI N) :: rest))) : W p l e R s m args below meth c0 H locs cells slots Q (F0 m pc ls (.ref (b + c) :: rest)) :=
  W.alen (n := nI N) hx hb ((mm_at_a h0).mp (hP c h1)) ((hK.2 0 _ rfl).1 N (fun j => .int (hi c j))) (by rw [arrV_size]; rfl) rfl rfl hd kk
theorem mm_aald {c N : Nat} {i : Int32} (hx : p.tables.exec = Jvm.exec) (hb : c0.code = cc) (hK : va_K D vwCl (mm_tys cI cR) s) (hP : mm_P D cI cR b hi τ n H) (hd : decode cc pc = .ok (.aaload, 1)) (h0 : mm_lay c = (2, N)) (h1 : c < n) (hin : vp_in i N)
    (kk : W p l e R s m args below meth c0 H locs cells slots Q (F0 m (pc + 1) ls (va_rf ((τ.1 c i.toNatClampNeg).map (b + ·)) :: rest))) : W p l e R s m args below meth c0 H locs cells slots Q (F0 m pc ls (.int i :: .ref (b + c) :: rest)) := by
  have hlt : i.toNatClampNeg < N := Nat.not_le.mp fun q => hin (Or.inr q)
  exact W.aald (v := va_rf ((τ.1 c i.toNatClampNeg).map (b + ·))) (ty := .object RX6) hx hb ((mm_at_q h0).mp (hP c h1)) ((hK.2 1 _ rfl).1 N _) rfl (fun q => by cases q) (by rw [arrV_size]; exact hin) (by rw [arrV_read _ _ hlt]) rfl rfl hd kk
theorem mm_aast {c N x : Nat} {i : Int32} (hx : p.tables.exec = Jvm.exec) (hb : c0.code = cc) (hK : va_K D vwCl (mm_tys cI cR) s) (hP : mm_P D cI cR b hi τ n H) (hS : mm_S b s.heap H locs) (hd : decode cc pc = .ok (.aastore, 1)) (h0 : mm_lay c = (2, N)) (h1 : c < n) (hin : vp_in i N) (h3 : mm_lay x = (0, 6)) (h4 : x < n)
    (kk : ∀ (H1 : Heap) (locs1 : List Loc), H1.size = H.size → mm_P D cI cR b hi (va_up τ.1 c (va_up (τ.1 c) i.toNatClampNeg (some x)), τ.2) n H1 → mm_S b s.heap H1 locs1 → W p l e R s m args below meth c0 H1 locs1 cells slots Q (F0 m (pc + 1) ls rest)) : W p l e R s m args below meth c0 H locs cells slots Q (F0 m pc ls (.ref (b + x) :: .int i :: .ref (b + c) :: rest)) := by
  have hlt : i.toNatClampNeg < N := Nat.not_le.mp fun q => hin (Or.inr q)
  have hp0 : ¬ i < 0 := fun q => hin (Or.inl q)
  obtain ⟨r', hr', cellV, g1, g2, g3, -⟩ := (mm_at_o h3).mp (hP x h4)
  have hcls := (hK.1 6 (RX6, TX6, 3) rfl).2
  obtain ⟨kA, comp, k1, k2, k3, -⟩ := (hK.2 1 _ rfl).2
  have hcomp : comp = D.1 6 := Option.some.inj (k3.symm.trans hcls.1)
  subst hcomp
  obtain ⟨kC, hkC, -⟩ := hcls.2
  refine W.aast hx hb ((mm_at_q h0).mp (hP c h1)) (fun q h => by cases h) (fun h => by cases h) k1 k2 rfl hkC ⟨hp0, by rw [arrV_size]; exact hlt⟩ g1 (fun q h => by rw [g3] at h; cases h) (by rw [g2]; exact hkC) (by rw [g2]; exact va_assign hcls) rfl rfl hd fun H1 e1 e2 e3 => ?_
  refine kk H1 _ e2 (hP.put ((mm_at_q h0).mpr ?_) (fun c1 hc1 => ⟨rfl, by simp [va_up, hc1], rfl⟩) e3) (hS.put e3)
  rw [e1, arrV_store]
  congr 2
  funext q
  by_cases hq : q = i.toNatClampNeg
  · subst hq; simp [updV, va_up, va_rf]
  · simp [updV, va_up, hq]
end MI
end
section
section MK
variable {p : Program} {l : Launch} {e : Env} {R : Room} {s : State} {m : MethodId} {args : Array Value} {below : List Frame} {meth : Method} {c0 : Code} {H : Heap} {locs : List Loc} {cells slots : Nat} {Q : State → Prop}
variable {cc : ByteArray} {pc : Nat} {ls : Array Slot} {rest : List Value} {D : va_G} {cI cR : ClassId} {b n : Nat} {hi hi2 : mm_HI} {τ τ2 : mm_T} {own : String}
theorem mm_S.keep {H0 H2 : Heap} (h : mm_S b H0 H locs) (hq : ∀ q : Nat, q < b → H2[q]? = H[q]?) : mm_S b H0 H2 locs := ⟨fun q hl => by rw [hq q hl]; exact h.1 q hl, h.2⟩
theorem mm_dv {ty : FieldType} {c k t : Nat} (h : mm_tc ty = t) (ht : t = 0 ∨ t = 1 ∨ t = 2 ∨ t = 3) : defaultValue ty = mm_fv b (va_up hi c (fun _ => 0)) (va_up τ.1 c (fun _ => none), va_up τ.2 c (fun _ => 0)) c k t := by
  subst h
  cases ty <;> simp [mm_tc] at ht <;> simp [mm_fv, mm_tc, va_up, defaultValue, va_rf]
theorem mm_ft4 : ∀ ci k, mm_ft ci k = 0 ∨ mm_ft ci k = 1 ∨ mm_ft ci k = 2 ∨ mm_ft ci k = 3 := by
  have h : ∀ r ∈ mm_ftL, ∀ x ∈ r, x = 0 ∨ x = 1 ∨ x = 2 ∨ x = 3 := by decide +kernel
  intro ci k
  unfold mm_ft
  rw [List.getD_eq_getElem?_getD, List.getD_eq_getElem?_getD]
  cases h1 : mm_ftL[ci]? with
  | none => simp
  | some r =>
    simp only [Option.getD_some]
    cases h2 : r[k]? with
    | none => simp
    | some x => exact h r (List.mem_of_getElem? h1) x (List.mem_of_getElem? h2)
theorem mm_new {ix ci : Nat} (hx : p.tables.exec = Jvm.exec) (hb : c0.code = cc) (hts : ∀ w, mm_in w → w.before args s = true) (hown : s.vm.findClass own = some m.cls) (hK : va_K D vwCl (mm_tys cI cR) s) (hP : mm_P D cI cR b hi τ n H) (hS : mm_S b s.heap H locs) (hn : H.size = b + n) (hd : decode cc pc = .ok (.new ix, 3)) (h0 : mm_NW own ix ci) (h1 : mm_lay n = (0, ci)) (hc : cells + 1 ≤ R.cells) (hsl : slots + mm_sz n ≤ R.slots)
    (kk : ∀ H1 : Heap, H1.size = b + (n + 1) → mm_P D cI cR b (va_up hi n (fun _ => 0)) (va_up τ.1 n (fun _ => none), va_up τ.2 n (fun _ => 0)) (n + 1) H1 → mm_S b s.heap H1 locs → W p l e R s m args below meth c0 H1 locs (cells + 1) (slots + mm_sz n) Q (F0 m (pc + 3) ls (.ref (b + n) :: rest))) : W p l e R s m args below meth c0 H locs cells slots Q (F0 m pc ls rest) := by
  obtain ⟨C, T, N, e1, e2, e3, e4⟩ := h0
  obtain ⟨o1, o2, o3, ty, o4, o5⟩ := mm_cls e1
  have hz : mm_sz n = N := by unfold mm_sz; rw [h1]; exact o3.symm
  rw [hz] at kk hsl
  have hKn := hK.1 ci _ e1
  refine W.newcK hx hb hown (hts _ e2) (hts _ e3) (hts _ e4) rfl hd hc hsl hKn.2.1 hn fun H1 kC hkC f1 f2 f3 => ?_
  refine kk H1 (by omega) (hP.push ((mm_at_o h1).mpr ⟨_, e1, ?_⟩) (fun c1 hc1 => ⟨by simp [va_up, hc1], by simp [va_up, hc1], by simp [va_up, hc1]⟩) f3) (hS.keep (fun q hq => f3 q (by omega)))
  exact (u_born ty (mm_gts hts) o1 hKn hkC f1 o4).to (fun k hk => mm_dv (o5 k hk) (mm_ft4 ci k))
theorem mm_newa {N : Nat} {i : Int32} (hx : p.tables.exec = Jvm.exec) (hb : c0.code = cc) (hts : ∀ w, mm_in w → w.before args s = true) (hK : va_K D vwCl (mm_tys cI cR) s) (hP : mm_P D cI cR b hi τ n H) (hS : mm_S b s.heap H locs) (hn : H.size = b + n) (hd : decode cc pc = .ok (.newarray .int, 2)) (h0 : mm_lay n = (1, N)) (h1 : i = nI N) (h2 : N < 100000) (hc : cells + 1 ≤ R.cells) (hsl : slots + mm_sz n ≤ R.slots)
    (kk : ∀ H1 : Heap, H1.size = b + (n + 1) → mm_P D cI cR b (va_up hi n (fun _ => 0)) τ (n + 1) H1 → mm_S b s.heap H1 locs → W p l e R s m args below meth c0 H1 locs (cells + 1) (slots + mm_sz n) Q (F0 m (pc + 2) ls (.ref (b + n) :: rest))) : W p l e R s m args below meth c0 H locs cells slots Q (F0 m pc ls (.int i :: rest)) := by
  subst h1
  have hz : mm_sz n = N := by unfold mm_sz; rw [h0]; rfl
  rw [hz] at kk hsl
  refine va_newaK (atype := .int) hx hb (hts _ mm_arc) rfl hd rfl (nI_pos (by omega)) (nI_clamp (by omega)) (by show N * 4 ≤ _; omega) hc hsl hn fun H1 cA f1 f2 f3 f4 f5 => ?_
  have hcA : cA = cI := Option.some.inj (f5.symm.trans (hK.2 0 _ rfl).2)
  subst hcA
  refine kk H1 (by omega) (hP.push ((mm_at_a h0).mpr ?_) (fun c1 hc1 => ⟨by simp [va_up, hc1], rfl, rfl⟩) f3) (hS.keep (fun q hq => f3 q (by omega)))
  rw [f1]
  congr 2
  funext q
  simp [va_up]
  rfl
theorem mm_anew {ix N : Nat} {i : Int32} (hx : p.tables.exec = Jvm.exec) (hb : c0.code = cc) (hts : ∀ w, mm_in w → w.before args s = true) (hown : s.vm.findClass own = some m.cls) (hE : mm_E s) (hK : va_K D vwCl (mm_tys cI cR) s) (hP : mm_P D cI cR b hi τ n H) (hS : mm_S b s.heap H locs) (hn : H.size = b + n) (hd : decode cc pc = .ok (.anewarray ix, 3)) (hcl : mm_in (Cond.classLink own ix RX6)) (h0 : mm_lay n = (2, N)) (h1 : i = nI N) (h2 : N < 100000) (hc : cells + 1 ≤ R.cells) (hsl : slots + mm_sz n ≤ R.slots)
    (kk : ∀ H1 : Heap, H1.size = b + (n + 1) → mm_P D cI cR b hi (va_up τ.1 n (fun _ => none), τ.2) (n + 1) H1 → mm_S b s.heap H1 locs → W p l e R s m args below meth c0 H1 locs (cells + 1) (slots + mm_sz n) Q (F0 m (pc + 3) ls (.ref (b + n) :: rest))) : W p l e R s m args below meth c0 H locs cells slots Q (F0 m pc ls (.int i :: rest)) := by
  subst h1
  have hz : mm_sz n = N := by unfold mm_sz; rw [h0]; rfl
  rw [hz] at kk hsl
  have hcl2 := nI_clamp (n := N) (by omega)
  refine W.anew hx hb hown (hts _ hcl) (va_AO.use hE.2.2) rfl hd rfl (nI_pos (by omega)) (by rw [hcl2]; omega) hc (by rw [hcl2]; exact hsl) fun cA kA comp f1 f2 f3 f4 => ?_
  have hcA : cA = cR := by
    obtain ⟨_, _, _, _, _, g⟩ := (hK.2 1 _ rfl).2
    exact Option.some.inj (f1.symm.trans g)
  subst hcA
  rw [hcl2, arrV_new, hn]
  refine kk _ (by rw [Array.size_push, hn]; omega) (hP.push ((mm_at_q h0).mpr ?_) (fun c1 hc1 => ⟨rfl, by simp [va_up, hc1], rfl⟩) (fun q hq => by rw [Array.getElem?_push, if_neg (by omega)])) (hS.keep (fun q hq => by rw [Array.getElem?_push, if_neg (by omega)]))
  rw [← hn, Array.getElem?_push_size]
  congr 2
  funext q
  simp [va_up, va_rf]
theorem mm_nn {z : Int32} (hz : ¬ z < 0) : z.toInt = (z.toNatClampNeg : Int) := by
  have hz0 : (0 : Int) ≤ z.toInt := by
    have := Int32.not_lt.mp hz
    simpa using Int32.le_iff_toInt_le.mp this
  show z.toInt = ((z.toInt.toNat : Nat) : Int)
  omega
theorem mm_copy {ix c c1 N N1 : Nat} {sp dp z : Int32} (hx : p.tables.exec = Jvm.exec) (hb : c0.code = cc) (hml : c0.maxLocals = ls.size) (hts : ∀ w, mm_in w → w.before args s = true) (hown : s.vm.findClass own = some m.cls) (hK : va_K D vwCl (mm_tys cI cR) s) (hP : mm_P D cI cR b hi τ n H) (hS : mm_S b s.heap H locs) (hd : decode cc pc = .ok (.invokestatic ix, 3)) (hl : mm_in (Cond.methodLink own ix arraycopyName)) (h1 : mm_lay c = (1, N)) (h2 : c < n) (h3 : mm_lay c1 = (1, N1)) (h4 : c1 < n) (h5 : ¬ sp < 0) (h6 : ¬ dp < 0) (h7 : ¬ z < 0) (h8 : sp.toNatClampNeg + z.toNatClampNeg ≤ N) (h9 : dp.toNatClampNeg + z.toNatClampNeg ≤ N1) (hfr : 1 ≤ R.frames) (hlo : (rest.map fun v => v.category).sum + 18 ≤ R.locals)
    (kk : ∀ (H1 : Heap) (locs1 : List Loc), H1.size = H.size → mm_P D cI cR b (va_up hi c1 (va_cpy (hi c) (hi c1) sp.toNatClampNeg dp.toNatClampNeg z.toNatClampNeg)) τ n H1 → mm_S b s.heap H1 locs1 → W p l e R s m args below meth c0 H1 locs1 cells slots Q (F0 m (pc + 3) ls rest)) : W p l e R s m args below meth c0 H locs cells slots Q (F0 m pc ls (.int z :: .int dp :: .ref (b + c1) :: .int sp :: .ref (b + c) :: rest)) := by
  intro T hT X
  have g0 := (mm_at_a h1).mp (hP c h2)
  have g1 := (mm_at_a h3).mp (hP c1 h4)
  obtain ⟨-, k0, hk0, cm0, hkk0⟩ := (hK.2 0 _ rfl).1 N (fun j => .int (hi c j))
  obtain ⟨-, k1, hk1, cm1, hkk1⟩ := (hK.2 0 _ rfl).1 N1 (fun j => .int (hi c1 j))
  obtain ⟨vm', X', step⟩ := X.arraycopy hx hown (hts _ hl) (hts _ mm_acn) (hts _ mm_acs) (hts _ mm_aci) (src := b + c) (dst := b + c1) (srcPos := sp) (destPos := dp) (n := z) (by rw [hT]; exact g0) (by rw [hT]; exact g1)
    (fun _ h => by cases h) (fun _ h => by cases h) (fun h => by cases h) (fun h => by cases h) hk0 hk1 hkk0 hkk1 (by simp [refKind]) h5 h6 h7
    (by rw [mm_nn h5, mm_nn h7, arrV_size]; omega)
    (by rw [mm_nn h6, mm_nn h7, arrV_size]; omega)
    (fun vm₁ _ i hi' => by
      have e1 : (arrV cI N (fun j => .int (hi c j))).slots.getD (sp.toNatClampNeg + i) .null = .int (hi c (sp.toNatClampNeg + i)) := by
        rw [Array.getD_eq_getD_getElem?, arrV_read _ _ (by omega)]
        rfl
      refine ⟨?_, ?_⟩
      · rw [e1]; rfl
      · rw [e1]; exact trivial)
    (g := F0 m pc ls (.int z :: .int dp :: .ref (b + c1) :: .int sp :: .ref (b + c) :: rest)) rfl (by rw [hml]) (rest := rest) rfl (by rw [hb]; exact hd) hfr (by show 2 * 0 + _ + (7 + 11) ≤ _; omega)
  have e1 : copied (arrV cI N (fun j => .int (hi c j))) (arrV cI N1 (fun j => .int (hi c1 j))) sp dp z = arrV cI N1 (fun j => .int (va_cpy (hi c) (hi c1) sp.toNatClampNeg dp.toNatClampNeg z.toNatClampNeg j)) := va_copied (fun q => .int q) cI cI (hi c) (hi c1) h8
  rw [e1] at X' step
  have hlt : b + c1 < H.size := (Array.getElem?_eq_some_iff.mp g1).1
  have oq : ∀ (x : Cell) (q : Nat), q ≠ b + c1 → (H.setIfInBounds (b + c1) x)[q]? = H[q]? := fun x q hq => by simp [Array.getElem?_setIfInBounds, Ne.symm hq]
  obtain ⟨t, a1, b1⟩ := kk (H.setIfInBounds (b + c1) (arrV cI N1 (fun j => .int (va_cpy (hi c) (hi c1) sp.toNatClampNeg dp.toNatClampNeg z.toNatClampNeg j)))) _ (by simp) (hP.put ((mm_at_a h3).mpr (by simp [va_up, Array.getElem?_setIfInBounds, hlt])) (fun c2 hc2 => ⟨by simp [va_up, hc2], rfl, rfl⟩) (oq _))
    ⟨fun q hq => by rw [oq _ q (by omega)]; exact hS.1 q hq, fun q hq => by
      rcases List.mem_append.mp hq with h | h
      · exact hS.2 q h
      · obtain ⟨w, -, hw⟩ := List.mem_map.mp h
        rw [← hw]
        exact Nat.le_add_right _ _⟩ _ (by rw [← hT]; rfl) X'
  exact ⟨t, step t a1, b1⟩
end MK
end
section
def mm_Pc (D : va_G) (cI cR : ClassId) (b : Nat) (as : List Value) (hi : mm_HI) (τ : mm_T) (n : Nat) : Array Value → State → Prop := va_Pc (as.map (mm_rl b)) (fun U => U.heap.size = b + n ∧ mm_P D cI cR b hi τ n U.heap ∧ va_K D vwCl (mm_tys cI cR) U ∧ mm_E U)
def mm_Qc (D : va_G) (cI cR : ClassId) (b n1 : Nat) (Post : mm_Q) : Array Value → State → Outcome → State → Prop := fun _ st oc t => (∃ (v : Option Value) (hi : mm_HI) (τ : mm_T), oc = .returned (v.map (mm_rl b)) ∧ Post v hi τ ∧ t.heap.size = b + n1 ∧ mm_P D cI cR b hi τ n1 t.heap) ∧ ∀ q : Nat, q < b → t.heap[q]? = st.heap[q]?
abbrev mm_rm (d n n1 : Nat) : Room := { frames := d, cells := n1 - n, slots := mm_sl n1 - mm_sl n, locals := 64 * d }
def mm_Met (l : Launch) (D : va_G) (cI cR : ClassId) (b d : Nat) : mm_call := fun y as hi τ n n1 Post => ∃ (bytes : ByteArray) (maxL : Nat) (ret : Option FieldType), mm_M y bytes maxL ret ∧ n ≤ n1 ∧ Met l y (Cond.code y bytes maxL ret :: mm_g) (mm_rm d n n1) (mm_Pc D cI cR b as hi τ n) (mm_Qc D cI cR b n1 Post) (n1 - n) (mm_sl n1 - mm_sl n) (fun q => b ≤ q)
section MC
variable {p : Program} {l : Launch} {e : Env} {R : Room} {s : State} {m : MethodId} {args : Array Value} {below : List Frame} {meth : Method} {c0 : Code} {H : Heap} {locs : List Loc} {cells slots : Nat} {Q : State → Prop}
variable {cc : ByteArray} {pc nL ix na d n0 n1 n2 ci c : Nat} {ls : Array Slot} {st as as1 rest : List Value} {D : va_G} {cI cR : ClassId} {b n : Nat} {hi hi2 : mm_HI} {τ τ2 : mm_T} {own : String} {y : MethodName} {Pq : mm_Q}
theorem mm_blind : FrameBlind (mm_Pc D cI cR b as hi τ n) := fun a U g mk q => by
  obtain ⟨q0, q1, q2, q3, q4⟩ := q
  exact ⟨q0, q1, q2, va_K.moved (u := U) (U := U.calling g mk a) (Vm.Alike.refl U.vm) q3, mm_E.same (s := U) rfl q4⟩
theorem mm_pre (hn : H.size = b + n) (hP : mm_P D cI cR b hi τ n H) (hK : va_K D vwCl (mm_tys cI cR) s) (hE : mm_E s) : ∀ U : State, U.heap = H → s.WarmedH U.vm → mm_Pc D cI cR b as hi τ n (as.map (mm_rl b)).toArray U := fun U hU hW =>
  ⟨rfl, by rw [hU]; exact hn, by rw [hU]; exact hP, va_K.moved hW.alike hK, hE.warm hW⟩
theorem mm_goodM {bytes : ByteArray} {maxL : Nat} {ret : Option FieldType} (h : mm_M y bytes maxL ret) : GoodIn mm_g (Cond.code y bytes maxL ret :: mm_g) := fun w hw => by
  rcases List.mem_cons.mp hw with rfl | hw
  · exact mm_g_good _ (mm_in_g h.1)
  · exact mm_g_good _ hw
theorem mm_run {mc ms : Nat} {st0 : List Value} {as0 : Array Value} (hr : va_Run p l e R s m args below meth c0 H locs cells slots mc ms (F0 m pc ls st0) rest (mm_Qc D cI cR b n2 Pq as0) (fun q => b ≤ q)) (hS : mm_S b s.heap H locs)
    (kk : ∀ (v : Option Value) (hi2 : mm_HI) (τ2 : mm_T) (H1 : Heap) (locs1 : List Loc), Pq v hi2 τ2 → H1.size = b + n2 → mm_P D cI cR b hi2 τ2 n2 H1 → mm_S b s.heap H1 locs1 → W p l e R s m args below meth c0 H1 locs1 (cells + mc) (slots + ms) Q (F0 m (pc + 3) ls ((v.map (mm_rl b)).toList ++ rest))) : W p l e R s m args below meth c0 H locs cells slots Q (F0 m pc ls st0) := by
  intro T hT X
  obtain ⟨v, st₀, t, T', L, h0, X', hL, e1, e2, ⟨⟨v1, hi1, τ1, hv, hq, hz, hP1⟩, hk⟩, stp⟩ := hr T hT X
  cases hv
  rw [h0] at hk
  obtain ⟨t2, a1, b1⟩ := kk v1 hi1 τ1 T'.heap (locs ++ L) hq (by rw [e1]; exact hz) (by rw [e1]; exact hP1) ⟨fun q hq => by rw [e1, hk q hq]; exact hS.1 q hq, fun q hq => by
      rcases List.mem_append.mp hq with h | h
      · exact hS.2 q h
      · exact hL q h⟩ T' rfl X'
  exact ⟨t2, stp t2 a1, b1⟩
theorem mm_room2 (hnn : n0 ≤ n) (h1 : n ≤ n2) (h2 : n2 ≤ n1) : (n - n0) + (n2 - n) = n2 - n0 ∧ (mm_sl n - mm_sl n0) + (mm_sl n2 - mm_sl n) = mm_sl n2 - mm_sl n0 ∧ n2 - n0 ≤ n1 - n0 ∧ mm_sl n2 - mm_sl n0 ≤ mm_sl n1 - mm_sl n0 := by
  have a1 := mm_sl_mono hnn
  have a2 := mm_sl_mono h1
  have a3 := mm_sl_mono h2
  omega
theorem mm_tl (v : Option Value) : (v.toList ++ st).map (mm_rl b) = (v.map (mm_rl b)).toList ++ st.map (mm_rl b) := by cases v <;> rfl
theorem mm_callS (hx : p.tables.exec = Jvm.exec) (hb : c0.code = cc) (hml : c0.maxLocals = nL) (hts : ∀ w, mm_in w → w.before args s = true) (hown : s.vm.findClass own = some m.cls) (hK : va_K D vwCl (mm_tys cI cR) s) (hE : mm_E s) (hP : mm_P D cI cR b hi τ n H) (hS : mm_S b s.heap H locs) (hnn : n0 ≤ n) (hn : H.size = b + n) (hR1 : d + 1 ≤ R.frames) (hR2 : 64 * (d + 1) ≤ R.locals) (hR3 : n1 - n0 ≤ R.cells) (hR4 : mm_sl n1 - mm_sl n0 ≤ R.slots)
    (hd : decode cc pc = .ok (.invokestatic ix, 3)) (hv : mm_CS own ix y na) (hna : as.length = na) (hM : mm_Met l D cI cR b d y as hi τ n n2 Pq) (hn2 : n2 ≤ n1) (hsm : (st.map fun v => v.category).sum ≤ 8) (hsz : ls.size = nL)
    (kk : ∀ (v : Option Value) (hi2 : mm_HI) (τ2 : mm_T) (H1 : Heap) (locs1 : List Loc), Pq v hi2 τ2 → H1.size = b + n2 → mm_P D cI cR b hi2 τ2 n2 H1 → mm_S b s.heap H1 locs1 → W p l e R s m args below meth c0 H1 locs1 (n2 - n0) (mm_sl n2 - mm_sl n0) Q (F0 m (pc + 3) ls ((v.toList ++ st).map (mm_rl b)))) :
    W p l e R s m args below meth c0 H locs (n - n0) (mm_sl n - mm_sl n0) Q (F0 m pc ls ((as.reverse ++ st).map (mm_rl b))) := by
  obtain ⟨bytes, maxL, ret, hm, hle, hMet⟩ := hM
  obtain ⟨r1, r2, r3, r4⟩ := mm_room2 hnn hle hn2
  have hcb : CallB R s args own ix y bytes maxL ret (Cond.code y bytes maxL ret :: mm_g) (mm_rm d n n2) (n2 - n) (mm_sl n2 - mm_sl n) na := callB_of na (mm_gts hts) (mm_goodM hm) rfl rfl rfl (hts _ hm.2.2.2.1) (hts _ hv.1) ⟨hm.2.2.2.2.1.1, hm.2.2.2.2.1.2, hv.2.2⟩ ⟨hR1, by have := hm.2.2.1; show 8 + (maxL + 11) + 64 * d ≤ _; omega⟩
  have hr := va_runS (e := e) (below := below) (meth := meth) (locs := locs) (cells := n - n0) (slots := mm_sl n - mm_sl n0) (As := as.map (mm_rl b)) (rest := st.map (mm_rl b)) (g := F0 m pc ls ((as.reverse ++ st).map (mm_rl b))) (H := H) ⟨hx, hb, hml, hown, mm_gts hts⟩ hMet ⟨hcb, hts _ hv.2.1⟩ ⟨mm_blind, mm_pre hn hP hK hE⟩ rfl (by rw [List.length_map]; exact hna) hsz (by show List.map _ _ = _; rw [List.map_append, List.map_reverse]) (lv_room (by rw [mm_rlm]; exact hsm)) hd ⟨by omega, by omega⟩
  refine mm_run hr hS (fun v hi2 τ2 H1 locs1 hq e1 hP1 hS1 => ?_)
  have h9 := kk v hi2 τ2 H1 locs1 hq e1 hP1 hS1
  rw [mm_tl, ← r1, ← r2] at h9
  exact h9
theorem mm_recv (hK : va_K D vwCl (mm_tys cI cR) s) (hP : mm_P D cI cR b hi τ n H) (hlay : mm_lay c = (0, ci)) (hcn : c < n) {C : String} {T : u_T} {N : Nat} (hc : vwCl[ci]? = some (C, T, N)) : ∃ cell : Cell, H[b + c]? = some cell ∧ cell.vm.isStatics = false ∧ s.vm.findClass C = some cell.cls := by
  obtain ⟨q, f1, cell, q1, q2, q3, -⟩ := (mm_at_o hlay).mp (hP c hcn)
  exact ⟨cell, q1, by rw [q3]; rfl, by rw [q2]; exact (hK.1 ci _ hc).2.1⟩
theorem mm_stk : ((((.ref c :: as1) : List Value).reverse ++ st).map (mm_rl b)) = (as1.map (mm_rl b)).reverse ++ .ref (b + c) :: st.map (mm_rl b) := by
  simp [mm_rl]
theorem mm_callV (hx : p.tables.exec = Jvm.exec) (hb : c0.code = cc) (hml : c0.maxLocals = nL) (hts : ∀ w, mm_in w → w.before args s = true) (hown : s.vm.findClass own = some m.cls) (hK : va_K D vwCl (mm_tys cI cR) s) (hE : mm_E s) (hP : mm_P D cI cR b hi τ n H) (hS : mm_S b s.heap H locs) (hnn : n0 ≤ n) (hn : H.size = b + n) (hR1 : d + 1 ≤ R.frames) (hR2 : 64 * (d + 1) ≤ R.locals) (hR3 : n1 - n0 ≤ R.cells) (hR4 : mm_sl n1 - mm_sl n0 ≤ R.slots)
    (hd : decode cc pc = .ok (.invokevirtual ix, 3)) (hv : mm_CV own ix y na ci) (hna : as1.length = na) (hlay : mm_lay c = (0, ci)) (hcn : c < n) (hM : mm_Met l D cI cR b d y (.ref c :: as1) hi τ n n2 Pq) (hn2 : n2 ≤ n1) (hsm : (st.map fun v => v.category).sum ≤ 8) (hsz : ls.size = nL)
    (kk : ∀ (v : Option Value) (hi2 : mm_HI) (τ2 : mm_T) (H1 : Heap) (locs1 : List Loc), Pq v hi2 τ2 → H1.size = b + n2 → mm_P D cI cR b hi2 τ2 n2 H1 → mm_S b s.heap H1 locs1 → W p l e R s m args below meth c0 H1 locs1 (n2 - n0) (mm_sl n2 - mm_sl n0) Q (F0 m (pc + 3) ls ((v.toList ++ st).map (mm_rl b)))) :
    W p l e R s m args below meth c0 H locs (n - n0) (mm_sl n - mm_sl n0) Q (F0 m pc ls (((.ref c :: as1).reverse ++ st).map (mm_rl b))) := by
  obtain ⟨bytes, maxL, ret, hm, hle, hMet⟩ := hM
  obtain ⟨r1, r2, r3, r4⟩ := mm_room2 hnn hle hn2
  obtain ⟨v1, v2, v3, v4, T, N, v5⟩ := hv
  have hcb : CallB R s args own ix y bytes maxL ret (Cond.code y bytes maxL ret :: mm_g) (mm_rm d n n2) (n2 - n) (mm_sl n2 - mm_sl n) na := callB_of na (mm_gts hts) (mm_goodM hm) rfl rfl rfl (hts _ hm.2.2.2.1) (hts _ v1) ⟨hm.2.2.2.2.1.1, hm.2.2.2.2.1.2, v4⟩ ⟨hR1, by have := hm.2.2.1; show 8 + (maxL + 11) + 64 * d ≤ _; omega⟩
  have hr := va_runV (e := e) (below := below) (meth := meth) (locs := locs) (cells := n - n0) (slots := mm_sl n - mm_sl n0) (C := y.cls) (b := b + c) (As := as1.map (mm_rl b)) (rest := st.map (mm_rl b)) (g := F0 m pc ls (((.ref c :: as1).reverse ++ st).map (mm_rl b))) (H := H) ⟨hx, hb, hml, hown, mm_gts hts⟩ hMet ⟨hcb, hts _ v2, hts _ v3⟩ ⟨mm_blind, mm_recv hK hP hlay hcn v5, mm_pre hn hP hK hE⟩ rfl (by rw [List.length_map]; exact hna) hsz mm_stk (lv_room (by rw [mm_rlm]; exact hsm)) hd ⟨by omega, by omega⟩
  refine mm_run hr hS (fun v hi2 τ2 H1 locs1 hq e1 hP1 hS1 => ?_)
  have h9 := kk v hi2 τ2 H1 locs1 hq e1 hP1 hS1
  rw [mm_tl, ← r1, ← r2] at h9
  exact h9
theorem mm_callU (hx : p.tables.exec = Jvm.exec) (hb : c0.code = cc) (hml : c0.maxLocals = nL) (hts : ∀ w, mm_in w → w.before args s = true) (hown : s.vm.findClass own = some m.cls) (hK : va_K D vwCl (mm_tys cI cR) s) (hE : mm_E s) (hP : mm_P D cI cR b hi τ n H) (hS : mm_S b s.heap H locs) (hnn : n0 ≤ n) (hn : H.size = b + n) (hR1 : d + 1 ≤ R.frames) (hR2 : 64 * (d + 1) ≤ R.locals) (hR3 : n1 - n0 ≤ R.cells) (hR4 : mm_sl n1 - mm_sl n0 ≤ R.slots)
    (hd : decode cc pc = .ok (.invokevirtual ix, 3)) (hv : mm_CU own ix y na ci) (hna : as1.length = na) (hlay : mm_lay c = (0, ci)) (hcn : c < n) (hM : mm_Met l D cI cR b d y (.ref c :: as1) hi τ n n2 Pq) (hn2 : n2 ≤ n1) (hsm : (st.map fun v => v.category).sum ≤ 8) (hsz : ls.size = nL)
    (kk : ∀ (v : Option Value) (hi2 : mm_HI) (τ2 : mm_T) (H1 : Heap) (locs1 : List Loc), Pq v hi2 τ2 → H1.size = b + n2 → mm_P D cI cR b hi2 τ2 n2 H1 → mm_S b s.heap H1 locs1 → W p l e R s m args below meth c0 H1 locs1 (n2 - n0) (mm_sl n2 - mm_sl n0) Q (F0 m (pc + 3) ls ((v.toList ++ st).map (mm_rl b)))) :
    W p l e R s m args below meth c0 H locs (n - n0) (mm_sl n - mm_sl n0) Q (F0 m pc ls (((.ref c :: as1).reverse ++ st).map (mm_rl b))) := by
  obtain ⟨bytes, maxL, ret, hm, hle, hMet⟩ := hM
  obtain ⟨r1, r2, r3, r4⟩ := mm_room2 hnn hle hn2
  obtain ⟨x, C, owner, T, N, v1, v2, v3, v4, v5, v6, v7, v8⟩ := hv
  have hdecl : va_Decl s ⟨owner, x.name, x.desc⟩ := by
    rcases v5 with h | ⟨b0, m0, r0, h1, h2⟩
    · exact va_Decl.abs (hE.2.1 _ h)
    · exact va_Decl.of (hts _ h1) (hts _ h2)
  have hcb : va_CU R s args own C owner ix x y bytes maxL ret (Cond.code y bytes maxL ret :: mm_g) (mm_rm d n n2) (n2 - n) (mm_sl n2 - mm_sl n) na := by
    refine ⟨⟨rfl, rfl, hR1, by have := hm.2.2.1; show 8 + (maxL + 11) + 64 * d ≤ _; omega, pay_in (mm_gts hts) (mm_goodM hm), List.mem_cons_self⟩, hts _ hm.1, hts _ hm.2.2.2.1, v6, fun sig h => ?_, hts _ v1, hts _ v2, hdecl, hts _ v3, hts _ v4⟩
    have h2 := v7
    unfold mm_par at h2
    rw [h] at h2
    exact (Option.some.inj h2).symm
  have hr := va_runU (e := e) (below := below) (meth := meth) (locs := locs) (cells := n - n0) (slots := mm_sl n - mm_sl n0) (C := C) (b := b + c) (As := as1.map (mm_rl b)) (rest := st.map (mm_rl b)) (g := F0 m pc ls (((.ref c :: as1).reverse ++ st).map (mm_rl b))) (H := H) ⟨hx, hb, hml, hown, mm_gts hts⟩ hMet hcb ⟨mm_blind, mm_recv hK hP hlay hcn v8, mm_pre hn hP hK hE⟩ rfl (by rw [List.length_map]; exact hna) hsz mm_stk (lv_room (by rw [mm_rlm]; exact hsm)) hd ⟨by omega, by omega⟩
  refine mm_run hr hS (fun v hi2 τ2 H1 locs1 hq e1 hP1 hS1 => ?_)
  have h9 := kk v hi2 τ2 H1 locs1 hq e1 hP1 hS1
  rw [mm_tl, ← r1, ← r2] at h9
  exact h9
theorem mm_callI (hx : p.tables.exec = Jvm.exec) (hb : c0.code = cc) (hml : c0.maxLocals = nL) (hts : ∀ w, mm_in w → w.before args s = true) (hown : s.vm.findClass own = some m.cls) (hK : va_K D vwCl (mm_tys cI cR) s) (hE : mm_E s) (hP : mm_P D cI cR b hi τ n H) (hS : mm_S b s.heap H locs) (hnn : n0 ≤ n) (hn : H.size = b + n) (hR1 : d + 1 ≤ R.frames) (hR2 : 64 * (d + 1) ≤ R.locals) (hR3 : n1 - n0 ≤ R.cells) (hR4 : mm_sl n1 - mm_sl n0 ≤ R.slots)
    (hd : decode cc pc = .ok (.invokespecial ix, 3)) (hv : mm_CI own ix y na) (hna : as1.length = na) (hM : mm_Met l D cI cR b d y (.ref c :: as1) hi τ n n2 Pq) (hn2 : n2 ≤ n1) (hsm : (st.map fun v => v.category).sum ≤ 8) (hsz : ls.size = nL)
    (kk : ∀ (v : Option Value) (hi2 : mm_HI) (τ2 : mm_T) (H1 : Heap) (locs1 : List Loc), Pq v hi2 τ2 → H1.size = b + n2 → mm_P D cI cR b hi2 τ2 n2 H1 → mm_S b s.heap H1 locs1 → W p l e R s m args below meth c0 H1 locs1 (n2 - n0) (mm_sl n2 - mm_sl n0) Q (F0 m (pc + 3) ls ((v.toList ++ st).map (mm_rl b)))) :
    W p l e R s m args below meth c0 H locs (n - n0) (mm_sl n - mm_sl n0) Q (F0 m pc ls (((.ref c :: as1).reverse ++ st).map (mm_rl b))) := by
  obtain ⟨bytes, maxL, ret, hm, hle, hMet⟩ := hM
  obtain ⟨r1, r2, r3, r4⟩ := mm_room2 hnn hle hn2
  obtain ⟨v1, v2, v3, v4⟩ := hv
  have hret := hm.2.2.2.2.2 v1
  subst hret
  have hroom : d + 1 ≤ R.frames ∧ 8 + (maxL + 11) + (mm_rm d n n2).locals ≤ R.locals := ⟨hR1, by have := hm.2.2.1; show 8 + (maxL + 11) + 64 * d ≤ _; omega⟩
  have hr : va_Run p l e R s m args below meth c0 H locs (n - n0) (mm_sl n - mm_sl n0) (n2 - n) (mm_sl n2 - mm_sl n) (F0 m pc ls (((.ref c :: as1).reverse ++ st).map (mm_rl b))) (st.map (mm_rl b)) (mm_Qc D cI cR b n2 Pq (Value.ref (b + c) :: as1.map (mm_rl b)).toArray) (fun q => b ≤ q) := by
    rcases v4 with h | ⟨host, h⟩
    · exact va_runI (b := b + c) (As := as1.map (mm_rl b)) ⟨hx, hb, hml, hown, mm_gts hts⟩ hMet (cwI na (mm_gts hts) (mm_goodM hm) rfl rfl rfl (hts _ hm.2.2.2.1) (hts _ h) (hts _ v2) v1 ⟨hm.2.2.2.2.1.1, hm.2.2.2.2.1.2, v3⟩ hroom) ⟨mm_blind, mm_pre hn hP hK hE⟩ rfl (by rw [List.length_map]; exact hna) hsz mm_stk (lv_room (by rw [mm_rlm]; exact hsm)) hd ⟨by omega, by omega⟩
    · exact va_runIN (b := b + c) (As := as1.map (mm_rl b)) ⟨hx, hb, hml, hown, mm_gts hts⟩ hMet ⟨va_cnB na (mm_gts hts) (mm_goodM hm) rfl rfl rfl (hE.1 _ _ _ _ h) (hts _ hm.2.2.2.1) ⟨hm.2.2.2.2.1.1, hm.2.2.2.2.1.2, v3⟩ hroom, v1, hts _ v2⟩ ⟨mm_blind, mm_pre hn hP hK hE⟩ rfl (by rw [List.length_map]; exact hna) hsz mm_stk (lv_room (by rw [mm_rlm]; exact hsm)) hd ⟨by omega, by omega⟩
  refine mm_run hr hS (fun v hi2 τ2 H1 locs1 hq e1 hP1 hS1 => ?_)
  have h9 := kk v hi2 τ2 H1 locs1 hq e1 hP1 hS1
  rw [mm_tl, ← r1, ← r2] at h9
  exact h9
end MC
end
section
def mm_W (p : Program) (l : Launch) (e : Env) (R : Room) (s : State) (m : MethodId) (args : Array Value) (below : List Frame) (meth : Method) (c0 : Code) (Q : State → Prop) (D : va_G) (cI cR : ClassId) (b nL n0 : Nat) : mm_X := fun pc ls st hi τ n => ∀ (H : Heap) (locs : List Loc) (lsA : Array Slot), n0 ≤ n → H.size = b + n → mm_P D cI cR b hi τ n H → mm_S b s.heap H locs → mm_LV b nL ls lsA → W p l e R s m args below meth c0 H locs (n - n0) (mm_sl n - mm_sl n0) Q (F0 m pc lsA (st.map (mm_rl b)))
def mm_Z (p : Program) (l : Launch) (R : Room) (s : State) (m : MethodId) (args : Array Value) (meth : Method) (c0 : Code) (D : va_G) (cI cR : ClassId) (b : Nat) (own : String) (cc : ByteArray) (nL : Nat) (ini : Bool) (n0 n1 d : Nat) (CALL : mm_call) : Prop := p.tables.exec = Jvm.exec ∧ c0.code = cc ∧ c0.maxLocals = nL ∧ (∀ w, mm_in w → w.before args s = true) ∧ s.vm.findClass own = some m.cls ∧ va_K D vwCl (mm_tys cI cR) s ∧ mm_E s ∧ (ini = true → meth.name = "<init>") ∧ d + 1 ≤ R.frames ∧ 64 * (d + 1) ≤ R.locals ∧ n1 - n0 ≤ R.cells ∧ mm_sl n1 - mm_sl n0 ≤ R.slots ∧ ∀ y as hi τ n n2 Pq, CALL y as hi τ n n2 Pq → mm_Met l D cI cR b d y as hi τ n n2 Pq
section MS
variable {p : Program} {l : Launch} {e : Env} {R : Room} {s : State} {m : MethodId} {args : Array Value} {below : List Frame} {meth : Method} {c0 : Code} {Q : State → Prop} {D : va_G} {cI cR : ClassId} {b : Nat} {own : String} {cc : ByteArray} {nL : Nat} {ini : Bool} {n0 n1 d : Nat} {CALL : mm_call} {ret : Option FieldType} {Post : mm_Q}
theorem ms_iconst (Z : mm_Z p l R s m args meth c0 D cI cR b own cc nL ini n0 n1 d CALL) : mg_iconst CALL own cc nL ret ini n1 Post (mm_W p l e R s m args below meth c0 Q D cI cR b nL n0) := by
    obtain ⟨hx, hb, hml, hts, hown, hK, hE, hini, hR1, hR2, hR3, hR4, hcall⟩ := Z
    intro pc ls st hi τ n z v hd h0 k H locs lsA hnn hn hP hS hL
    exact lv_iconst hx hb hd h0 (k H locs lsA hnn hn hP hS hL)
theorem ms_bipush (Z : mm_Z p l R s m args meth c0 D cI cR b own cc nL ini n0 n1 d CALL) : mg_bipush CALL own cc nL ret ini n1 Post (mm_W p l e R s m args below meth c0 Q D cI cR b nL n0) := by
    obtain ⟨hx, hb, hml, hts, hown, hK, hE, hini, hR1, hR2, hR3, hR4, hcall⟩ := Z
    intro pc ls st hi τ n z v hd h0 k H locs lsA hnn hn hP hS hL
    exact lv_bipush hx hb hd h0 (k H locs lsA hnn hn hP hS hL)
theorem ms_sipush (Z : mm_Z p l R s m args meth c0 D cI cR b own cc nL ini n0 n1 d CALL) : mg_sipush CALL own cc nL ret ini n1 Post (mm_W p l e R s m args below meth c0 Q D cI cR b nL n0) := by
    obtain ⟨hx, hb, hml, hts, hown, hK, hE, hini, hR1, hR2, hR3, hR4, hcall⟩ := Z
    intro pc ls st hi τ n z v hd h0 k H locs lsA hnn hn hP hS hL
    exact lv_sipush hx hb hd h0 (k H locs lsA hnn hn hP hS hL)
theorem ms_ldc (Z : mm_Z p l R s m args meth c0 D cI cR b own cc nL ini n0 n1 d CALL) : mg_ldc CALL own cc nL ret ini n1 Post (mm_W p l e R s m args below meth c0 Q D cI cR b nL n0) := by
    obtain ⟨hx, hb, hml, hts, hown, hK, hE, hini, hR1, hR2, hR3, hR4, hcall⟩ := Z
    intro pc ls st hi τ n z v hd h0 k H locs lsA hnn hn hP hS hL
    exact lv_ldc hx hb hown (hts _ h0) hd (k H locs lsA hnn hn hP hS hL)
theorem ms_ldcw (Z : mm_Z p l R s m args meth c0 D cI cR b own cc nL ini n0 n1 d CALL) : mg_ldcw CALL own cc nL ret ini n1 Post (mm_W p l e R s m args below meth c0 Q D cI cR b nL n0) := by
    obtain ⟨hx, hb, hml, hts, hown, hK, hE, hini, hR1, hR2, hR3, hR4, hcall⟩ := Z
    intro pc ls st hi τ n z v hd h0 k H locs lsA hnn hn hP hS hL
    exact lv_ldcw hx hb hown (hts _ h0) hd (k H locs lsA hnn hn hP hS hL)
theorem ms_lconst (Z : mm_Z p l R s m args meth c0 D cI cR b own cc nL ini n0 n1 d CALL) : mg_lconst CALL own cc nL ret ini n1 Post (mm_W p l e R s m args below meth c0 Q D cI cR b nL n0) := by
    obtain ⟨hx, hb, hml, hts, hown, hK, hE, hini, hR1, hR2, hR3, hR4, hcall⟩ := Z
    intro pc ls st hi τ n z v hd h0 k H locs lsA hnn hn hP hS hL
    exact lv_lconst hx hb hd h0 (k H locs lsA hnn hn hP hS hL)
theorem ms_ldc2 (Z : mm_Z p l R s m args meth c0 D cI cR b own cc nL ini n0 n1 d CALL) : mg_ldc2 CALL own cc nL ret ini n1 Post (mm_W p l e R s m args below meth c0 Q D cI cR b nL n0) := by
    obtain ⟨hx, hb, hml, hts, hown, hK, hE, hini, hR1, hR2, hR3, hR4, hcall⟩ := Z
    intro pc ls st hi τ n z v hd h0 k H locs lsA hnn hn hP hS hL
    exact lv_ldc2 hx hb hown (hts _ h0) hd (k H locs lsA hnn hn hP hS hL)
theorem ms_iload_n (Z : mm_Z p l R s m args meth c0 D cI cR b own cc nL ini n0 n1 d CALL) : mg_iload_n CALL own cc nL ret ini n1 Post (mm_W p l e R s m args below meth c0 Q D cI cR b nL n0) := by
    obtain ⟨hx, hb, hml, hts, hown, hK, hE, hini, hR1, hR2, hR3, hR4, hcall⟩ := Z
    intro pc ls st hi τ n j x hd h0 k H locs lsA hnn hn hP hS hL
    exact lv_iload_n hx hb hd rfl (hL.2 _ _ h0).1 (k H locs lsA hnn hn hP hS hL)
theorem ms_iload (Z : mm_Z p l R s m args meth c0 D cI cR b own cc nL ini n0 n1 d CALL) : mg_iload CALL own cc nL ret ini n1 Post (mm_W p l e R s m args below meth c0 Q D cI cR b nL n0) := by
    obtain ⟨hx, hb, hml, hts, hown, hK, hE, hini, hR1, hR2, hR3, hR4, hcall⟩ := Z
    intro pc ls st hi τ n j x hd h0 k H locs lsA hnn hn hP hS hL
    exact lv_iload hx hb hd (hL.2 _ _ h0).1 (k H locs lsA hnn hn hP hS hL)
theorem ms_aload_n (Z : mm_Z p l R s m args meth c0 D cI cR b own cc nL ini n0 n1 d CALL) : mg_aload_n CALL own cc nL ret ini n1 Post (mm_W p l e R s m args below meth c0 Q D cI cR b nL n0) := by
    obtain ⟨hx, hb, hml, hts, hown, hK, hE, hini, hR1, hR2, hR3, hR4, hcall⟩ := Z
    intro pc ls st hi τ n j x hd h0 k H locs lsA hnn hn hP hS hL
    exact lv_aload_n hx hb hd rfl (hL.2 _ _ h0).1 (k H locs lsA hnn hn hP hS hL)
theorem ms_aload (Z : mm_Z p l R s m args meth c0 D cI cR b own cc nL ini n0 n1 d CALL) : mg_aload CALL own cc nL ret ini n1 Post (mm_W p l e R s m args below meth c0 Q D cI cR b nL n0) := by
    obtain ⟨hx, hb, hml, hts, hown, hK, hE, hini, hR1, hR2, hR3, hR4, hcall⟩ := Z
    intro pc ls st hi τ n j x hd h0 k H locs lsA hnn hn hP hS hL
    exact lv_aload hx hb hd (hL.2 _ _ h0).1 (k H locs lsA hnn hn hP hS hL)
theorem ms_istore_n (Z : mm_Z p l R s m args meth c0 D cI cR b own cc nL ini n0 n1 d CALL) : mg_istore_n CALL own cc nL ret ini n1 Post (mm_W p l e R s m args below meth c0 Q D cI cR b nL n0) := by
    obtain ⟨hx, hb, hml, hts, hown, hK, hE, hini, hR1, hR2, hR3, hR4, hcall⟩ := Z
    intro pc ls st hi τ n j x hd h0 k H locs lsA hnn hn hP hS hL
    exact lv_istore_n hx hb hd rfl (mm_lvl hL) h0 rfl (fun ls1 h1 => k H locs ls1 hnn hn hP hS (mm_lvs hL (v := .int x) rfl h1))
theorem ms_istore (Z : mm_Z p l R s m args meth c0 D cI cR b own cc nL ini n0 n1 d CALL) : mg_istore CALL own cc nL ret ini n1 Post (mm_W p l e R s m args below meth c0 Q D cI cR b nL n0) := by
    obtain ⟨hx, hb, hml, hts, hown, hK, hE, hini, hR1, hR2, hR3, hR4, hcall⟩ := Z
    intro pc ls st hi τ n j x hd h0 k H locs lsA hnn hn hP hS hL
    exact lv_istore hx hb hd (mm_lvl hL) h0 rfl (fun ls1 h1 => k H locs ls1 hnn hn hP hS (mm_lvs hL (v := .int x) rfl h1))
theorem ms_astore_n (Z : mm_Z p l R s m args meth c0 D cI cR b own cc nL ini n0 n1 d CALL) : mg_astore_n CALL own cc nL ret ini n1 Post (mm_W p l e R s m args below meth c0 Q D cI cR b nL n0) := by
    obtain ⟨hx, hb, hml, hts, hown, hK, hE, hini, hR1, hR2, hR3, hR4, hcall⟩ := Z
    intro pc ls st hi τ n j x hd h0 k H locs lsA hnn hn hP hS hL
    exact lv_astore_n hx hb hd rfl (mm_lvl hL) h0 rfl (fun ls1 h1 => k H locs ls1 hnn hn hP hS (mm_lvs hL (v := .ref x) rfl h1))
theorem ms_astore (Z : mm_Z p l R s m args meth c0 D cI cR b own cc nL ini n0 n1 d CALL) : mg_astore CALL own cc nL ret ini n1 Post (mm_W p l e R s m args below meth c0 Q D cI cR b nL n0) := by
    obtain ⟨hx, hb, hml, hts, hown, hK, hE, hini, hR1, hR2, hR3, hR4, hcall⟩ := Z
    intro pc ls st hi τ n j x hd h0 k H locs lsA hnn hn hP hS hL
    exact lv_astore hx hb hd (mm_lvl hL) h0 rfl (fun ls1 h1 => k H locs ls1 hnn hn hP hS (mm_lvs hL (v := .ref x) rfl h1))
theorem ms_iinc (Z : mm_Z p l R s m args meth c0 D cI cR b own cc nL ini n0 n1 d CALL) : mg_iinc CALL own cc nL ret ini n1 Post (mm_W p l e R s m args below meth c0 Q D cI cR b nL n0) := by
    obtain ⟨hx, hb, hml, hts, hown, hK, hE, hini, hR1, hR2, hR3, hR4, hcall⟩ := Z
    intro pc ls st hi τ n j z x v hd h0 h1 h2 k H locs lsA hnn hn hP hS hL
    obtain ⟨q, hq⟩ := mm_lvk b h0
    exact lv_iinc hx hb hd (mm_lvl hL) hq h1 h2 rfl (fun ls1 h1 => k H locs ls1 hnn hn hP hS (mm_lvs hL (v := .int v) rfl h1))
theorem ms_iadd (Z : mm_Z p l R s m args meth c0 D cI cR b own cc nL ini n0 n1 d CALL) : mg_iadd CALL own cc nL ret ini n1 Post (mm_W p l e R s m args below meth c0 Q D cI cR b nL n0) := by
    obtain ⟨hx, hb, hml, hts, hown, hK, hE, hini, hR1, hR2, hR3, hR4, hcall⟩ := Z
    intro pc ls st hi τ n x y hd  k H locs lsA hnn hn hP hS hL
    exact lv_iadd hx hb hd (k H locs lsA hnn hn hP hS hL)
theorem ms_isub (Z : mm_Z p l R s m args meth c0 D cI cR b own cc nL ini n0 n1 d CALL) : mg_isub CALL own cc nL ret ini n1 Post (mm_W p l e R s m args below meth c0 Q D cI cR b nL n0) := by
    obtain ⟨hx, hb, hml, hts, hown, hK, hE, hini, hR1, hR2, hR3, hR4, hcall⟩ := Z
    intro pc ls st hi τ n x y hd  k H locs lsA hnn hn hP hS hL
    exact lv_isub hx hb hd (k H locs lsA hnn hn hP hS hL)
theorem ms_imul (Z : mm_Z p l R s m args meth c0 D cI cR b own cc nL ini n0 n1 d CALL) : mg_imul CALL own cc nL ret ini n1 Post (mm_W p l e R s m args below meth c0 Q D cI cR b nL n0) := by
    obtain ⟨hx, hb, hml, hts, hown, hK, hE, hini, hR1, hR2, hR3, hR4, hcall⟩ := Z
    intro pc ls st hi τ n x y hd  k H locs lsA hnn hn hP hS hL
    exact lv_imul hx hb hd (k H locs lsA hnn hn hP hS hL)
theorem ms_iand (Z : mm_Z p l R s m args meth c0 D cI cR b own cc nL ini n0 n1 d CALL) : mg_iand CALL own cc nL ret ini n1 Post (mm_W p l e R s m args below meth c0 Q D cI cR b nL n0) := by
    obtain ⟨hx, hb, hml, hts, hown, hK, hE, hini, hR1, hR2, hR3, hR4, hcall⟩ := Z
    intro pc ls st hi τ n x y hd  k H locs lsA hnn hn hP hS hL
    exact lv_iand hx hb hd (k H locs lsA hnn hn hP hS hL)
theorem ms_ior (Z : mm_Z p l R s m args meth c0 D cI cR b own cc nL ini n0 n1 d CALL) : mg_ior CALL own cc nL ret ini n1 Post (mm_W p l e R s m args below meth c0 Q D cI cR b nL n0) := by
    obtain ⟨hx, hb, hml, hts, hown, hK, hE, hini, hR1, hR2, hR3, hR4, hcall⟩ := Z
    intro pc ls st hi τ n x y hd  k H locs lsA hnn hn hP hS hL
    exact lv_ior hx hb hd (k H locs lsA hnn hn hP hS hL)
theorem ms_ixor (Z : mm_Z p l R s m args meth c0 D cI cR b own cc nL ini n0 n1 d CALL) : mg_ixor CALL own cc nL ret ini n1 Post (mm_W p l e R s m args below meth c0 Q D cI cR b nL n0) := by
    obtain ⟨hx, hb, hml, hts, hown, hK, hE, hini, hR1, hR2, hR3, hR4, hcall⟩ := Z
    intro pc ls st hi τ n x y hd  k H locs lsA hnn hn hP hS hL
    exact lv_ixor hx hb hd (k H locs lsA hnn hn hP hS hL)
theorem ms_ishl (Z : mm_Z p l R s m args meth c0 D cI cR b own cc nL ini n0 n1 d CALL) : mg_ishl CALL own cc nL ret ini n1 Post (mm_W p l e R s m args below meth c0 Q D cI cR b nL n0) := by
    obtain ⟨hx, hb, hml, hts, hown, hK, hE, hini, hR1, hR2, hR3, hR4, hcall⟩ := Z
    intro pc ls st hi τ n x y hd  k H locs lsA hnn hn hP hS hL
    exact lv_ishl hx hb hd (k H locs lsA hnn hn hP hS hL)
theorem ms_ishr (Z : mm_Z p l R s m args meth c0 D cI cR b own cc nL ini n0 n1 d CALL) : mg_ishr CALL own cc nL ret ini n1 Post (mm_W p l e R s m args below meth c0 Q D cI cR b nL n0) := by
    obtain ⟨hx, hb, hml, hts, hown, hK, hE, hini, hR1, hR2, hR3, hR4, hcall⟩ := Z
    intro pc ls st hi τ n x y hd  k H locs lsA hnn hn hP hS hL
    exact lv_ishr hx hb hd (k H locs lsA hnn hn hP hS hL)
theorem ms_iushr (Z : mm_Z p l R s m args meth c0 D cI cR b own cc nL ini n0 n1 d CALL) : mg_iushr CALL own cc nL ret ini n1 Post (mm_W p l e R s m args below meth c0 Q D cI cR b nL n0) := by
    obtain ⟨hx, hb, hml, hts, hown, hK, hE, hini, hR1, hR2, hR3, hR4, hcall⟩ := Z
    intro pc ls st hi τ n x y v hd h0 k H locs lsA hnn hn hP hS hL
    exact lv_iushr hx hb hd h0 (k H locs lsA hnn hn hP hS hL)
theorem ms_idiv (Z : mm_Z p l R s m args meth c0 D cI cR b own cc nL ini n0 n1 d CALL) : mg_idiv CALL own cc nL ret ini n1 Post (mm_W p l e R s m args below meth c0 Q D cI cR b nL n0) := by
    obtain ⟨hx, hb, hml, hts, hown, hK, hE, hini, hR1, hR2, hR3, hR4, hcall⟩ := Z
    intro pc ls st hi τ n x y hd h0 k H locs lsA hnn hn hP hS hL
    exact lv_idiv hx hb hd h0 (k H locs lsA hnn hn hP hS hL)
theorem ms_irem (Z : mm_Z p l R s m args meth c0 D cI cR b own cc nL ini n0 n1 d CALL) : mg_irem CALL own cc nL ret ini n1 Post (mm_W p l e R s m args below meth c0 Q D cI cR b nL n0) := by
    obtain ⟨hx, hb, hml, hts, hown, hK, hE, hini, hR1, hR2, hR3, hR4, hcall⟩ := Z
    intro pc ls st hi τ n x y hd h0 k H locs lsA hnn hn hP hS hL
    exact lv_irem hx hb hd h0 (k H locs lsA hnn hn hP hS hL)
theorem ms_ineg (Z : mm_Z p l R s m args meth c0 D cI cR b own cc nL ini n0 n1 d CALL) : mg_ineg CALL own cc nL ret ini n1 Post (mm_W p l e R s m args below meth c0 Q D cI cR b nL n0) := by
    obtain ⟨hx, hb, hml, hts, hown, hK, hE, hini, hR1, hR2, hR3, hR4, hcall⟩ := Z
    intro pc ls st hi τ n x hd  k H locs lsA hnn hn hP hS hL
    exact lv_ineg hx hb hd (k H locs lsA hnn hn hP hS hL)
theorem ms_ladd (Z : mm_Z p l R s m args meth c0 D cI cR b own cc nL ini n0 n1 d CALL) : mg_ladd CALL own cc nL ret ini n1 Post (mm_W p l e R s m args below meth c0 Q D cI cR b nL n0) := by
    obtain ⟨hx, hb, hml, hts, hown, hK, hE, hini, hR1, hR2, hR3, hR4, hcall⟩ := Z
    intro pc ls st hi τ n x y hd  k H locs lsA hnn hn hP hS hL
    exact lv_ladd hx hb hd (k H locs lsA hnn hn hP hS hL)
theorem ms_lcmp (Z : mm_Z p l R s m args meth c0 D cI cR b own cc nL ini n0 n1 d CALL) : mg_lcmp CALL own cc nL ret ini n1 Post (mm_W p l e R s m args below meth c0 Q D cI cR b nL n0) := by
    obtain ⟨hx, hb, hml, hts, hown, hK, hE, hini, hR1, hR2, hR3, hR4, hcall⟩ := Z
    intro pc ls st hi τ n x y hd  k H locs lsA hnn hn hP hS hL
    exact W.lcmp hx hb hd (k H locs lsA hnn hn hP hS hL)
theorem ms_dup (Z : mm_Z p l R s m args meth c0 D cI cR b own cc nL ini n0 n1 d CALL) : mg_dup CALL own cc nL ret ini n1 Post (mm_W p l e R s m args below meth c0 Q D cI cR b nL n0) := by
    obtain ⟨hx, hb, hml, hts, hown, hK, hE, hini, hR1, hR2, hR3, hR4, hcall⟩ := Z
    intro pc ls st hi τ n v hd h0 k H locs lsA hnn hn hP hS hL
    exact lv_dup hx hb hd ((mm_rlc b v).trans h0) (k H locs lsA hnn hn hP hS hL)
theorem ms_pop (Z : mm_Z p l R s m args meth c0 D cI cR b own cc nL ini n0 n1 d CALL) : mg_pop CALL own cc nL ret ini n1 Post (mm_W p l e R s m args below meth c0 Q D cI cR b nL n0) := by
    obtain ⟨hx, hb, hml, hts, hown, hK, hE, hini, hR1, hR2, hR3, hR4, hcall⟩ := Z
    intro pc ls st hi τ n v hd h0 k H locs lsA hnn hn hP hS hL
    exact lv_pop hx hb hd ((mm_rlc b v).trans h0) (k H locs lsA hnn hn hP hS hL)
theorem ms_dup_x1 (Z : mm_Z p l R s m args meth c0 D cI cR b own cc nL ini n0 n1 d CALL) : mg_dup_x1 CALL own cc nL ret ini n1 Post (mm_W p l e R s m args below meth c0 Q D cI cR b nL n0) := by
    obtain ⟨hx, hb, hml, hts, hown, hK, hE, hini, hR1, hR2, hR3, hR4, hcall⟩ := Z
    intro pc ls st hi τ n v w hd h0 h1 k H locs lsA hnn hn hP hS hL
    exact lv_dup_x1 hx hb hd ((mm_rlc b v).trans h0) ((mm_rlc b w).trans h1) (k H locs lsA hnn hn hP hS hL)
theorem ms_dup2 (Z : mm_Z p l R s m args meth c0 D cI cR b own cc nL ini n0 n1 d CALL) : mg_dup2 CALL own cc nL ret ini n1 Post (mm_W p l e R s m args below meth c0 Q D cI cR b nL n0) := by
    obtain ⟨hx, hb, hml, hts, hown, hK, hE, hini, hR1, hR2, hR3, hR4, hcall⟩ := Z
    intro pc ls st hi τ n v w hd h0 h1 k H locs lsA hnn hn hP hS hL
    exact lv_dup2_11 hx hb hd ((mm_rlc b v).trans h0) ((mm_rlc b w).trans h1) (k H locs lsA hnn hn hP hS hL)
theorem ms_if_eq (Z : mm_Z p l R s m args meth c0 D cI cR b own cc nL ini n0 n1 d CALL) : mg_if_eq CALL own cc nL ret ini n1 Post (mm_W p l e R s m args below meth c0 Q D cI cR b nL n0) := by
    obtain ⟨hx, hb, hml, hts, hown, hK, hE, hini, hR1, hR2, hR3, hR4, hcall⟩ := Z
    intro pc ls st hi τ n x off tgt hd ht kt kf H locs lsA hnn hn hP hS hL
    exact lv_if_eq hx hb hd ht (fun q => kt q H locs lsA hnn hn hP hS hL) (fun q => kf q H locs lsA hnn hn hP hS hL)
theorem ms_icmp_eq (Z : mm_Z p l R s m args meth c0 D cI cR b own cc nL ini n0 n1 d CALL) : mg_icmp_eq CALL own cc nL ret ini n1 Post (mm_W p l e R s m args below meth c0 Q D cI cR b nL n0) := by
    obtain ⟨hx, hb, hml, hts, hown, hK, hE, hini, hR1, hR2, hR3, hR4, hcall⟩ := Z
    intro pc ls st hi τ n x y off tgt hd ht kt kf H locs lsA hnn hn hP hS hL
    exact lv_icmp_eq hx hb hd ht (fun q => kt q H locs lsA hnn hn hP hS hL) (fun q => kf q H locs lsA hnn hn hP hS hL)
theorem ms_if_ne (Z : mm_Z p l R s m args meth c0 D cI cR b own cc nL ini n0 n1 d CALL) : mg_if_ne CALL own cc nL ret ini n1 Post (mm_W p l e R s m args below meth c0 Q D cI cR b nL n0) := by
    obtain ⟨hx, hb, hml, hts, hown, hK, hE, hini, hR1, hR2, hR3, hR4, hcall⟩ := Z
    intro pc ls st hi τ n x off tgt hd ht kt kf H locs lsA hnn hn hP hS hL
    exact lv_if_ne hx hb hd ht (fun q => kt q H locs lsA hnn hn hP hS hL) (fun q => kf q H locs lsA hnn hn hP hS hL)
theorem ms_icmp_ne (Z : mm_Z p l R s m args meth c0 D cI cR b own cc nL ini n0 n1 d CALL) : mg_icmp_ne CALL own cc nL ret ini n1 Post (mm_W p l e R s m args below meth c0 Q D cI cR b nL n0) := by
    obtain ⟨hx, hb, hml, hts, hown, hK, hE, hini, hR1, hR2, hR3, hR4, hcall⟩ := Z
    intro pc ls st hi τ n x y off tgt hd ht kt kf H locs lsA hnn hn hP hS hL
    exact lv_icmp_ne hx hb hd ht (fun q => kt q H locs lsA hnn hn hP hS hL) (fun q => kf q H locs lsA hnn hn hP hS hL)
theorem ms_if_lt (Z : mm_Z p l R s m args meth c0 D cI cR b own cc nL ini n0 n1 d CALL) : mg_if_lt CALL own cc nL ret ini n1 Post (mm_W p l e R s m args below meth c0 Q D cI cR b nL n0) := by
    obtain ⟨hx, hb, hml, hts, hown, hK, hE, hini, hR1, hR2, hR3, hR4, hcall⟩ := Z
    intro pc ls st hi τ n x off tgt hd ht kt kf H locs lsA hnn hn hP hS hL
    exact lv_if_lt hx hb hd ht (fun q => kt q H locs lsA hnn hn hP hS hL) (fun q => kf q H locs lsA hnn hn hP hS hL)
theorem ms_icmp_lt (Z : mm_Z p l R s m args meth c0 D cI cR b own cc nL ini n0 n1 d CALL) : mg_icmp_lt CALL own cc nL ret ini n1 Post (mm_W p l e R s m args below meth c0 Q D cI cR b nL n0) := by
    obtain ⟨hx, hb, hml, hts, hown, hK, hE, hini, hR1, hR2, hR3, hR4, hcall⟩ := Z
    intro pc ls st hi τ n x y off tgt hd ht kt kf H locs lsA hnn hn hP hS hL
    exact lv_icmp_lt hx hb hd ht (fun q => kt q H locs lsA hnn hn hP hS hL) (fun q => kf q H locs lsA hnn hn hP hS hL)
theorem ms_if_ge (Z : mm_Z p l R s m args meth c0 D cI cR b own cc nL ini n0 n1 d CALL) : mg_if_ge CALL own cc nL ret ini n1 Post (mm_W p l e R s m args below meth c0 Q D cI cR b nL n0) := by
    obtain ⟨hx, hb, hml, hts, hown, hK, hE, hini, hR1, hR2, hR3, hR4, hcall⟩ := Z
    intro pc ls st hi τ n x off tgt hd ht kt kf H locs lsA hnn hn hP hS hL
    exact lv_if_ge hx hb hd ht (fun q => kt q H locs lsA hnn hn hP hS hL) (fun q => kf q H locs lsA hnn hn hP hS hL)
theorem ms_icmp_ge (Z : mm_Z p l R s m args meth c0 D cI cR b own cc nL ini n0 n1 d CALL) : mg_icmp_ge CALL own cc nL ret ini n1 Post (mm_W p l e R s m args below meth c0 Q D cI cR b nL n0) := by
    obtain ⟨hx, hb, hml, hts, hown, hK, hE, hini, hR1, hR2, hR3, hR4, hcall⟩ := Z
    intro pc ls st hi τ n x y off tgt hd ht kt kf H locs lsA hnn hn hP hS hL
    exact lv_icmp_ge hx hb hd ht (fun q => kt q H locs lsA hnn hn hP hS hL) (fun q => kf q H locs lsA hnn hn hP hS hL)
theorem ms_if_gt (Z : mm_Z p l R s m args meth c0 D cI cR b own cc nL ini n0 n1 d CALL) : mg_if_gt CALL own cc nL ret ini n1 Post (mm_W p l e R s m args below meth c0 Q D cI cR b nL n0) := by
    obtain ⟨hx, hb, hml, hts, hown, hK, hE, hini, hR1, hR2, hR3, hR4, hcall⟩ := Z
    intro pc ls st hi τ n x off tgt hd ht kt kf H locs lsA hnn hn hP hS hL
    exact lv_if_gt hx hb hd ht (fun q => kt q H locs lsA hnn hn hP hS hL) (fun q => kf q H locs lsA hnn hn hP hS hL)
theorem ms_icmp_gt (Z : mm_Z p l R s m args meth c0 D cI cR b own cc nL ini n0 n1 d CALL) : mg_icmp_gt CALL own cc nL ret ini n1 Post (mm_W p l e R s m args below meth c0 Q D cI cR b nL n0) := by
    obtain ⟨hx, hb, hml, hts, hown, hK, hE, hini, hR1, hR2, hR3, hR4, hcall⟩ := Z
    intro pc ls st hi τ n x y off tgt hd ht kt kf H locs lsA hnn hn hP hS hL
    exact lv_icmp_gt hx hb hd ht (fun q => kt q H locs lsA hnn hn hP hS hL) (fun q => kf q H locs lsA hnn hn hP hS hL)
theorem ms_if_le (Z : mm_Z p l R s m args meth c0 D cI cR b own cc nL ini n0 n1 d CALL) : mg_if_le CALL own cc nL ret ini n1 Post (mm_W p l e R s m args below meth c0 Q D cI cR b nL n0) := by
    obtain ⟨hx, hb, hml, hts, hown, hK, hE, hini, hR1, hR2, hR3, hR4, hcall⟩ := Z
    intro pc ls st hi τ n x off tgt hd ht kt kf H locs lsA hnn hn hP hS hL
    exact lv_if_le hx hb hd ht (fun q => kt q H locs lsA hnn hn hP hS hL) (fun q => kf q H locs lsA hnn hn hP hS hL)
theorem ms_icmp_le (Z : mm_Z p l R s m args meth c0 D cI cR b own cc nL ini n0 n1 d CALL) : mg_icmp_le CALL own cc nL ret ini n1 Post (mm_W p l e R s m args below meth c0 Q D cI cR b nL n0) := by
    obtain ⟨hx, hb, hml, hts, hown, hK, hE, hini, hR1, hR2, hR3, hR4, hcall⟩ := Z
    intro pc ls st hi τ n x y off tgt hd ht kt kf H locs lsA hnn hn hP hS hL
    exact lv_icmp_le hx hb hd ht (fun q => kt q H locs lsA hnn hn hP hS hL) (fun q => kf q H locs lsA hnn hn hP hS hL)
theorem ms_goto (Z : mm_Z p l R s m args meth c0 D cI cR b own cc nL ini n0 n1 d CALL) : mg_goto CALL own cc nL ret ini n1 Post (mm_W p l e R s m args below meth c0 Q D cI cR b nL n0) := by
    obtain ⟨hx, hb, hml, hts, hown, hK, hE, hini, hR1, hR2, hR3, hR4, hcall⟩ := Z
    intro pc ls st hi τ n off tgt hd ht k H locs lsA hnn hn hP hS hL
    exact lv_goto hx hb hd ht (k H locs lsA hnn hn hP hS hL)
theorem ms_tableOut (Z : mm_Z p l R s m args meth c0 D cI cR b own cc nL ini n0 n1 d CALL) : mg_tableOut CALL own cc nL ret ini n1 Post (mm_W p l e R s m args below meth c0 Q D cI cR b nL n0) := by
    obtain ⟨hx, hb, hml, hts, hown, hK, hE, hini, hR1, hR2, hR3, hR4, hcall⟩ := Z
    intro pc ls st hi τ n dflt lo hh offs len x tgt hd h0 ht k H locs lsA hnn hn hP hS hL
    exact lv_tableOut hx hb hd h0 ht (k H locs lsA hnn hn hP hS hL)
theorem ms_tableIn (Z : mm_Z p l R s m args meth c0 D cI cR b own cc nL ini n0 n1 d CALL) : mg_tableIn CALL own cc nL ret ini n1 Post (mm_W p l e R s m args below meth c0 Q D cI cR b nL n0) := by
    obtain ⟨hx, hb, hml, hts, hown, hK, hE, hini, hR1, hR2, hR3, hR4, hcall⟩ := Z
    intro pc ls st hi τ n dflt lo hh offs len x off tgt hd h0 h1 h2 ht k H locs lsA hnn hn hP hS hL
    exact lv_tableIn hx hb hd h0 h1 h2 ht (k H locs lsA hnn hn hP hS hL)
theorem ms_lookup (Z : mm_Z p l R s m args meth c0 D cI cR b own cc nL ini n0 n1 d CALL) : mg_lookup CALL own cc nL ret ini n1 Post (mm_W p l e R s m args below meth c0 Q D cI cR b nL n0) := by
    obtain ⟨hx, hb, hml, hts, hown, hK, hE, hini, hR1, hR2, hR3, hR4, hcall⟩ := Z
    intro pc ls st hi τ n dflt ps len x off tgt hd h0 h1 ht k H locs lsA hnn hn hP hS hL
    exact lv_lookup hx hb hd h0 h1 ht (k H locs lsA hnn hn hP hS hL)
theorem ms_getI (Z : mm_Z p l R s m args meth c0 D cI cR b own cc nL ini n0 n1 d CALL) : mg_getI CALL own cc nL ret ini n1 Post (mm_W p l e R s m args below meth c0 Q D cI cR b nL n0) := by
    obtain ⟨hx, hb, hml, hts, hown, hK, hE, hini, hR1, hR2, hR3, hR4, hcall⟩ := Z
    intro pc ls st hi τ n ix ci k tc c fin ow hd h0 h1 h2 h3 kk H locs lsA hnn hn hP hS hL
    exact mm_getf hx hb hts hown hK hP hd h0 h2 h3 (v := mm_rl b (.int (hi c k))) (by rcases h1 with rfl | rfl <;> rfl) (kk H locs lsA hnn hn hP hS hL)
theorem ms_getR (Z : mm_Z p l R s m args meth c0 D cI cR b own cc nL ini n0 n1 d CALL) : mg_getR CALL own cc nL ret ini n1 Post (mm_W p l e R s m args below meth c0 Q D cI cR b nL n0) := by
    obtain ⟨hx, hb, hml, hts, hown, hK, hE, hini, hR1, hR2, hR3, hR4, hcall⟩ := Z
    intro pc ls st hi τ n ix ci k tc c fin ow hd h0 h1 h2 h3 kk H locs lsA hnn hn hP hS hL
    exact mm_getf hx hb hts hown hK hP hd h0 h2 h3 (v := mm_rl b (va_rf (τ.1 c k))) (by subst h1; exact (mm_rl_rf b _).symm) (kk H locs lsA hnn hn hP hS hL)
theorem ms_getL (Z : mm_Z p l R s m args meth c0 D cI cR b own cc nL ini n0 n1 d CALL) : mg_getL CALL own cc nL ret ini n1 Post (mm_W p l e R s m args below meth c0 Q D cI cR b nL n0) := by
    obtain ⟨hx, hb, hml, hts, hown, hK, hE, hini, hR1, hR2, hR3, hR4, hcall⟩ := Z
    intro pc ls st hi τ n ix ci k tc c fin ow hd h0 h1 h2 h3 kk H locs lsA hnn hn hP hS hL
    exact mm_getf hx hb hts hown hK hP hd h0 h2 h3 (v := mm_rl b (.long (τ.2 c k))) (by subst h1; rfl) (kk H locs lsA hnn hn hP hS hL)
theorem ms_putI (Z : mm_Z p l R s m args meth c0 D cI cR b own cc nL ini n0 n1 d CALL) : mg_putI CALL own cc nL ret ini n1 Post (mm_W p l e R s m args below meth c0 Q D cI cR b nL n0) := by
    obtain ⟨hx, hb, hml, hts, hown, hK, hE, hini, hR1, hR2, hR3, hR4, hcall⟩ := Z
    intro pc ls st hi τ n ix ci k tc c fin ow x hd h0 hf h1 h2 h3 kk H locs lsA hnn hn hP hS hL
    exact mm_putf hx hb hts hown hK hP hS hini hd h0 hf h2 h3 (v := mm_rl b (.int x)) (mm_okI h1) (mm_newI h1) (fun c1 hc1 => ⟨by simp [va_up, hc1], by simp [va_up, hc1], by simp [va_up, hc1]⟩) (fun H1 locs1 e1 hP1 hS1 => kk H1 locs1 lsA hnn (e1.trans hn) hP1 hS1 hL)
theorem ms_putR (Z : mm_Z p l R s m args meth c0 D cI cR b own cc nL ini n0 n1 d CALL) : mg_putR CALL own cc nL ret ini n1 Post (mm_W p l e R s m args below meth c0 Q D cI cR b nL n0) := by
    obtain ⟨hx, hb, hml, hts, hown, hK, hE, hini, hR1, hR2, hR3, hR4, hcall⟩ := Z
    intro pc ls st hi τ n ix ci k tc c fin ow x hd h0 hf h1 h2 h3 kk H locs lsA hnn hn hP hS hL
    exact mm_putf hx hb hts hown hK hP hS hini hd h0 hf h2 h3 (v := mm_rl b (.ref x)) (mm_okR h1) (mm_newR h1) (fun c1 hc1 => ⟨by simp [va_up, hc1], by simp [va_up, hc1], by simp [va_up, hc1]⟩) (fun H1 locs1 e1 hP1 hS1 => kk H1 locs1 lsA hnn (e1.trans hn) hP1 hS1 hL)
theorem ms_putL (Z : mm_Z p l R s m args meth c0 D cI cR b own cc nL ini n0 n1 d CALL) : mg_putL CALL own cc nL ret ini n1 Post (mm_W p l e R s m args below meth c0 Q D cI cR b nL n0) := by
    obtain ⟨hx, hb, hml, hts, hown, hK, hE, hini, hR1, hR2, hR3, hR4, hcall⟩ := Z
    intro pc ls st hi τ n ix ci k tc c fin ow x hd h0 hf h1 h2 h3 kk H locs lsA hnn hn hP hS hL
    exact mm_putf hx hb hts hown hK hP hS hini hd h0 hf h2 h3 (v := mm_rl b (.long x)) (mm_okL h1) (mm_newL h1) (fun c1 hc1 => ⟨by simp [va_up, hc1], by simp [va_up, hc1], by simp [va_up, hc1]⟩) (fun H1 locs1 e1 hP1 hS1 => kk H1 locs1 lsA hnn (e1.trans hn) hP1 hS1 hL)
theorem ms_iald (Z : mm_Z p l R s m args meth c0 D cI cR b own cc nL ini n0 n1 d CALL) : mg_iald CALL own cc nL ret ini n1 Post (mm_W p l e R s m args below meth c0 Q D cI cR b nL n0) := by
    obtain ⟨hx, hb, hml, hts, hown, hK, hE, hini, hR1, hR2, hR3, hR4, hcall⟩ := Z
    intro pc ls st hi τ n c N i hd h0 h1 h2 k H locs lsA hnn hn hP hS hL
    exact mm_iald hx hb hK hP hd h0 h1 h2 (k H locs lsA hnn hn hP hS hL)
theorem ms_iast (Z : mm_Z p l R s m args meth c0 D cI cR b own cc nL ini n0 n1 d CALL) : mg_iast CALL own cc nL ret ini n1 Post (mm_W p l e R s m args below meth c0 Q D cI cR b nL n0) := by
    obtain ⟨hx, hb, hml, hts, hown, hK, hE, hini, hR1, hR2, hR3, hR4, hcall⟩ := Z
    intro pc ls st hi τ n c N i x hd h0 h1 h2 k H locs lsA hnn hn hP hS hL
    exact mm_iast hx hb hK hP hS hd h0 h1 h2 (fun H1 locs1 e1 hP1 hS1 => k H1 locs1 lsA hnn (e1.trans hn) hP1 hS1 hL)
theorem ms_alen (Z : mm_Z p l R s m args meth c0 D cI cR b own cc nL ini n0 n1 d CALL) : mg_alen CALL own cc nL ret ini n1 Post (mm_W p l e R s m args below meth c0 Q D cI cR b nL n0) := by
    obtain ⟨hx, hb, hml, hts, hown, hK, hE, hini, hR1, hR2, hR3, hR4, hcall⟩ := Z
    intro pc ls st hi τ n c N hd h0 h1 k H locs lsA hnn hn hP hS hL
    exact mm_alen hx hb hK hP hd h0 h1 (k H locs lsA hnn hn hP hS hL)
theorem ms_aald (Z : mm_Z p l R s m args meth c0 D cI cR b own cc nL ini n0 n1 d CALL) : mg_aald CALL own cc nL ret ini n1 Post (mm_W p l e R s m args below meth c0 Q D cI cR b nL n0) := by
    obtain ⟨hx, hb, hml, hts, hown, hK, hE, hini, hR1, hR2, hR3, hR4, hcall⟩ := Z
    intro pc ls st hi τ n c N i hd h0 h1 h2 k H locs lsA hnn hn hP hS hL
    refine mm_aald hx hb hK hP hd h0 h1 h2 ?_
    rw [← mm_rl_rf]
    exact k H locs lsA hnn hn hP hS hL
theorem ms_aast (Z : mm_Z p l R s m args meth c0 D cI cR b own cc nL ini n0 n1 d CALL) : mg_aast CALL own cc nL ret ini n1 Post (mm_W p l e R s m args below meth c0 Q D cI cR b nL n0) := by
    obtain ⟨hx, hb, hml, hts, hown, hK, hE, hini, hR1, hR2, hR3, hR4, hcall⟩ := Z
    intro pc ls st hi τ n c N x i hd h0 h1 h2 h3 h4 k H locs lsA hnn hn hP hS hL
    exact mm_aast hx hb hK hP hS hd h0 h1 h2 h3 h4 (fun H1 locs1 e1 hP1 hS1 => k H1 locs1 lsA hnn (e1.trans hn) hP1 hS1 hL)
theorem ms_new (Z : mm_Z p l R s m args meth c0 D cI cR b own cc nL ini n0 n1 d CALL) : mg_new CALL own cc nL ret ini n1 Post (mm_W p l e R s m args below meth c0 Q D cI cR b nL n0) := by
    obtain ⟨hx, hb, hml, hts, hown, hK, hE, hini, hR1, hR2, hR3, hR4, hcall⟩ := Z
    intro pc ls st hi τ n ix ci hd h0 h1 h2 k H locs lsA hnn hn hP hS hL
    have er := mm_room (n0 := n0) hnn h2
    exact mm_new hx hb hts hown hK hP hS hn hd h0 h1 (by omega) (by omega) (fun H1 e1 hP1 hS1 => by
      have h9 := k H1 locs lsA (by omega) e1 hP1 hS1 hL
      rw [er.1, er.2.1] at h9
      exact h9)
theorem ms_newa (Z : mm_Z p l R s m args meth c0 D cI cR b own cc nL ini n0 n1 d CALL) : mg_newa CALL own cc nL ret ini n1 Post (mm_W p l e R s m args below meth c0 Q D cI cR b nL n0) := by
    obtain ⟨hx, hb, hml, hts, hown, hK, hE, hini, hR1, hR2, hR3, hR4, hcall⟩ := Z
    intro pc ls st hi τ n N i hd h0 h1 h2 h3 k H locs lsA hnn hn hP hS hL
    have er := mm_room (n0 := n0) hnn h3
    exact mm_newa hx hb hts hK hP hS hn hd h0 h1 h2 (by omega) (by omega) (fun H1 e1 hP1 hS1 => by
      have h9 := k H1 locs lsA (by omega) e1 hP1 hS1 hL
      rw [er.1, er.2.1] at h9
      exact h9)
theorem ms_anew (Z : mm_Z p l R s m args meth c0 D cI cR b own cc nL ini n0 n1 d CALL) : mg_anew CALL own cc nL ret ini n1 Post (mm_W p l e R s m args below meth c0 Q D cI cR b nL n0) := by
    obtain ⟨hx, hb, hml, hts, hown, hK, hE, hini, hR1, hR2, hR3, hR4, hcall⟩ := Z
    intro pc ls st hi τ n ix N i hd hc h0 h1 h2 h3 k H locs lsA hnn hn hP hS hL
    have er := mm_room (n0 := n0) hnn h3
    exact mm_anew hx hb hts hown hE hK hP hS hn hd hc h0 h1 h2 (by omega) (by omega) (fun H1 e1 hP1 hS1 => by
      have h9 := k H1 locs lsA (by omega) e1 hP1 hS1 hL
      rw [er.1, er.2.1] at h9
      exact h9)
theorem ms_objInit (Z : mm_Z p l R s m args meth c0 D cI cR b own cc nL ini n0 n1 d CALL) : mg_objInit CALL own cc nL ret ini n1 Post (mm_W p l e R s m args below meth c0 Q D cI cR b nL n0) := by
    obtain ⟨hx, hb, hml, hts, hown, hK, hE, hini, hR1, hR2, hR3, hR4, hcall⟩ := Z
    intro pc ls st hi τ n ix c hd h0 h1 k H locs lsA hnn hn hP hS hL
    exact W.objInit hx hb hown (hts _ h0) (hts _ mm_oi1) (hts _ mm_oi2) rfl (hL.1.1.trans hml.symm) rfl hd (by omega) (by rw [mm_rlm]; show 2 * 0 + _ + 12 ≤ R.locals; omega) (k H locs lsA hnn hn hP hS hL)
theorem ms_copy (Z : mm_Z p l R s m args meth c0 D cI cR b own cc nL ini n0 n1 d CALL) : mg_copy CALL own cc nL ret ini n1 Post (mm_W p l e R s m args below meth c0 Q D cI cR b nL n0) := by
    obtain ⟨hx, hb, hml, hts, hown, hK, hE, hini, hR1, hR2, hR3, hR4, hcall⟩ := Z
    intro pc ls st hi τ n ix c c1 N N1 sp dp z hd h0 h1 h2 h3 h4 h5 h6 h7 h8 h9 h10 k H locs lsA hnn hn hP hS hL
    exact mm_copy hx hb (hml.trans hL.1.1.symm) hts hown hK hP hS hd h0 h1 h2 h3 h4 h5 h6 h7 h8 h9 (by omega) (by rw [mm_rlm]; omega) (fun H1 locs1 e1 hP1 hS1 => k H1 locs1 lsA hnn (e1.trans hn) hP1 hS1 hL)
theorem ms_callS (Z : mm_Z p l R s m args meth c0 D cI cR b own cc nL ini n0 n1 d CALL) : mg_callS CALL own cc nL ret ini n1 Post (mm_W p l e R s m args below meth c0 Q D cI cR b nL n0) := by
    obtain ⟨hx, hb, hml, hts, hown, hK, hE, hini, hR1, hR2, hR3, hR4, hcall⟩ := Z
    intro pc ls st hi τ n ix y as stk n2 na Pq hd hv hna hc hn2 hstk hsm k H locs lsA hnn hn hP hS hL
    subst hstk
    exact mm_callS hx hb hml hts hown hK hE hP hS hnn hn hR1 hR2 hR3 hR4 hd hv hna (hcall _ _ _ _ _ _ _ hc) hn2 hsm hL.1.1 (fun v hi2 τ2 H1 locs1 hq e1 hP1 hS1 => k v hi2 τ2 hq H1 locs1 lsA (by have := (hcall _ _ _ _ _ _ _ hc).choose_spec.choose_spec.choose_spec.2.1; omega) e1 hP1 hS1 hL)
theorem ms_callV (Z : mm_Z p l R s m args meth c0 D cI cR b own cc nL ini n0 n1 d CALL) : mg_callV CALL own cc nL ret ini n1 Post (mm_W p l e R s m args below meth c0 Q D cI cR b nL n0) := by
    obtain ⟨hx, hb, hml, hts, hown, hK, hE, hini, hR1, hR2, hR3, hR4, hcall⟩ := Z
    intro pc ls st hi τ n ix y as stk n2 na Pq ci c as1 hd hv has hna hlay hcn hc hn2 hstk hsm k H locs lsA hnn hn hP hS hL
    subst hstk
    subst has
    exact mm_callV hx hb hml hts hown hK hE hP hS hnn hn hR1 hR2 hR3 hR4 hd hv hna hlay hcn (hcall _ _ _ _ _ _ _ hc) hn2 hsm hL.1.1 (fun v hi2 τ2 H1 locs1 hq e1 hP1 hS1 => k v hi2 τ2 hq H1 locs1 lsA (by have := (hcall _ _ _ _ _ _ _ hc).choose_spec.choose_spec.choose_spec.2.1; omega) e1 hP1 hS1 hL)
theorem ms_callU (Z : mm_Z p l R s m args meth c0 D cI cR b own cc nL ini n0 n1 d CALL) : mg_callU CALL own cc nL ret ini n1 Post (mm_W p l e R s m args below meth c0 Q D cI cR b nL n0) := by
    obtain ⟨hx, hb, hml, hts, hown, hK, hE, hini, hR1, hR2, hR3, hR4, hcall⟩ := Z
    intro pc ls st hi τ n ix y as stk n2 na Pq ci c as1 hd hv has hna hlay hcn hc hn2 hstk hsm k H locs lsA hnn hn hP hS hL
    subst hstk
    subst has
    exact mm_callU hx hb hml hts hown hK hE hP hS hnn hn hR1 hR2 hR3 hR4 hd hv hna hlay hcn (hcall _ _ _ _ _ _ _ hc) hn2 hsm hL.1.1 (fun v hi2 τ2 H1 locs1 hq e1 hP1 hS1 => k v hi2 τ2 hq H1 locs1 lsA (by have := (hcall _ _ _ _ _ _ _ hc).choose_spec.choose_spec.choose_spec.2.1; omega) e1 hP1 hS1 hL)
theorem ms_callI (Z : mm_Z p l R s m args meth c0 D cI cR b own cc nL ini n0 n1 d CALL) : mg_callI CALL own cc nL ret ini n1 Post (mm_W p l e R s m args below meth c0 Q D cI cR b nL n0) := by
    obtain ⟨hx, hb, hml, hts, hown, hK, hE, hini, hR1, hR2, hR3, hR4, hcall⟩ := Z
    intro pc ls st hi τ n ix y as stk n2 na Pq c as1 hd hv has hna hc hn2 hstk hsm k H locs lsA hnn hn hP hS hL
    subst hstk
    subst has
    exact mm_callI hx hb hml hts hown hK hE hP hS hnn hn hR1 hR2 hR3 hR4 hd hv hna (hcall _ _ _ _ _ _ _ hc) hn2 hsm hL.1.1 (fun v hi2 τ2 H1 locs1 hq e1 hP1 hS1 => k v hi2 τ2 hq H1 locs1 lsA (by have := (hcall _ _ _ _ _ _ _ hc).choose_spec.choose_spec.choose_spec.2.1; omega) e1 hP1 hS1 hL)
theorem ms_G0 (Z : mm_Z p l R s m args meth c0 D cI cR b own cc nL ini n0 n1 d CALL) : mg_G0 CALL own cc nL ret ini n1 Post (mm_W p l e R s m args below meth c0 Q D cI cR b nL n0) := ⟨ms_iconst Z, ms_bipush Z, ms_sipush Z, ms_ldc Z, ms_ldcw Z, ms_lconst Z, ms_ldc2 Z, ms_iload_n Z⟩
theorem ms_G1 (Z : mm_Z p l R s m args meth c0 D cI cR b own cc nL ini n0 n1 d CALL) : mg_G1 CALL own cc nL ret ini n1 Post (mm_W p l e R s m args below meth c0 Q D cI cR b nL n0) := ⟨ms_iload Z, ms_aload_n Z, ms_aload Z, ms_istore_n Z, ms_istore Z, ms_astore_n Z, ms_astore Z, ms_iinc Z⟩
theorem ms_G2 (Z : mm_Z p l R s m args meth c0 D cI cR b own cc nL ini n0 n1 d CALL) : mg_G2 CALL own cc nL ret ini n1 Post (mm_W p l e R s m args below meth c0 Q D cI cR b nL n0) := ⟨ms_iadd Z, ms_isub Z, ms_imul Z, ms_iand Z, ms_ior Z, ms_ixor Z, ms_ishl Z, ms_ishr Z⟩
theorem ms_G3 (Z : mm_Z p l R s m args meth c0 D cI cR b own cc nL ini n0 n1 d CALL) : mg_G3 CALL own cc nL ret ini n1 Post (mm_W p l e R s m args below meth c0 Q D cI cR b nL n0) := ⟨ms_iushr Z, ms_idiv Z, ms_irem Z, ms_ineg Z, ms_ladd Z, ms_lcmp Z, ms_dup Z, ms_pop Z⟩
theorem ms_G4 (Z : mm_Z p l R s m args meth c0 D cI cR b own cc nL ini n0 n1 d CALL) : mg_G4 CALL own cc nL ret ini n1 Post (mm_W p l e R s m args below meth c0 Q D cI cR b nL n0) := ⟨ms_dup_x1 Z, ms_dup2 Z, ms_if_eq Z, ms_icmp_eq Z, ms_if_ne Z, ms_icmp_ne Z, ms_if_lt Z, ms_icmp_lt Z⟩
theorem ms_G5 (Z : mm_Z p l R s m args meth c0 D cI cR b own cc nL ini n0 n1 d CALL) : mg_G5 CALL own cc nL ret ini n1 Post (mm_W p l e R s m args below meth c0 Q D cI cR b nL n0) := ⟨ms_if_ge Z, ms_icmp_ge Z, ms_if_gt Z, ms_icmp_gt Z, ms_if_le Z, ms_icmp_le Z, ms_goto Z, ms_tableOut Z⟩
theorem ms_G6 (Z : mm_Z p l R s m args meth c0 D cI cR b own cc nL ini n0 n1 d CALL) : mg_G6 CALL own cc nL ret ini n1 Post (mm_W p l e R s m args below meth c0 Q D cI cR b nL n0) := ⟨ms_tableIn Z, ms_lookup Z, ms_getI Z, ms_getR Z, ms_getL Z, ms_putI Z, ms_putR Z, ms_putL Z⟩
theorem ms_G7 (Z : mm_Z p l R s m args meth c0 D cI cR b own cc nL ini n0 n1 d CALL) : mg_G7 CALL own cc nL ret ini n1 Post (mm_W p l e R s m args below meth c0 Q D cI cR b nL n0) := ⟨ms_iald Z, ms_iast Z, ms_alen Z, ms_aald Z, ms_aast Z, ms_new Z, ms_newa Z, ms_anew Z⟩
theorem ms_G8 (Z : mm_Z p l R s m args meth c0 D cI cR b own cc nL ini n0 n1 d CALL) : mg_G8 CALL own cc nL ret ini n1 Post (mm_W p l e R s m args below meth c0 Q D cI cR b nL n0) := ⟨ms_objInit Z, ms_copy Z, ms_callS Z, ms_callV Z, ms_callU Z, ms_callI Z⟩
theorem ms_G (Z : mm_Z p l R s m args meth c0 D cI cR b own cc nL ini n0 n1 d CALL) : mm_G0 CALL own cc nL ret ini n1 Post (mm_W p l e R s m args below meth c0 Q D cI cR b nL n0) := ⟨ms_G0 Z, ms_G1 Z, ms_G2 Z, ms_G3 Z, ms_G4 Z, ms_G5 Z, ms_G6 Z, ms_G7 Z, ms_G8 Z⟩
theorem ms_qc {H : Heap} {locs : List Loc} {v : Option Value} {hi : mm_HI} {τ : mm_T} (hq : Post v hi τ) (hn : H.size = b + n1) (hP : mm_P D cI cR b hi τ n1 H) (hS : mm_S b s.heap H locs) : ∀ t : State, t.heap = H → s.WarmedH t.vm → mm_Qc D cI cR b n1 Post args s (.returned (v.map (mm_rl b))) t := fun t ht _ => ⟨⟨v, hi, τ, rfl, hq, by rw [ht]; exact hn, by rw [ht]; exact hP⟩, fun q h => by rw [ht]; exact hS.1 q h⟩
theorem ms_iret (Z : mm_Z p l R s m args meth c0 D cI cR b own cc nL ini n0 n1 d CALL) (hr : meth.sig.returnType = ret) (hlocks : meth.locks = false) : mg_iret CALL own cc nL ret ini n1 Post (mm_W p l e R s m args below meth c0 (MQ below (mm_Qc D cI cR b n1 Post) args s (n1 - n0) (mm_sl n1 - mm_sl n0) (fun q => b ≤ q)) D cI cR b nL n0) := by
    intro pc ls st hi τ n x hd h0 h1 hq H locs lsA hnn hn hP hS hL
    subst h1
    rcases h0 with h0 | ⟨h0, h2⟩
    · subst h0
      exact W.zret Z.1 Z.2.1 hr rfl (ms_qc hq hn hP hS) hS.2 hd hlocks
    · subst h0
      exact W.zret Z.1 Z.2.1 hr (by rcases h2 with rfl | rfl <;> rfl) (ms_qc hq hn hP hS) hS.2 hd hlocks
theorem ms_lret (Z : mm_Z p l R s m args meth c0 D cI cR b own cc nL ini n0 n1 d CALL) (hr : meth.sig.returnType = ret) (hlocks : meth.locks = false) : mg_lret CALL own cc nL ret ini n1 Post (mm_W p l e R s m args below meth c0 (MQ below (mm_Qc D cI cR b n1 Post) args s (n1 - n0) (mm_sl n1 - mm_sl n0) (fun q => b ≤ q)) D cI cR b nL n0) := by
    intro pc ls st hi τ n x hd h0 h1 hq H locs lsA hnn hn hP hS hL
    subst h1; subst h0
    exact W.lret Z.1 Z.2.1 hr (ms_qc hq hn hP hS) hS.2 hd hlocks
theorem ms_aret (Z : mm_Z p l R s m args meth c0 D cI cR b own cc nL ini n0 n1 d CALL) (hr : meth.sig.returnType = ret) (hlocks : meth.locks = false) : mg_aret CALL own cc nL ret ini n1 Post (mm_W p l e R s m args below meth c0 (MQ below (mm_Qc D cI cR b n1 Post) args s (n1 - n0) (mm_sl n1 - mm_sl n0) (fun q => b ≤ q)) D cI cR b nL n0) := by
    intro pc ls st hi τ n x C hd h0 h1 hq H locs lsA hnn hn hP hS hL
    subst h1; subst h0
    exact W.aret Z.1 Z.2.1 hr (Or.inl ⟨_, rfl⟩) (Or.inr ⟨_, rfl⟩) (ms_qc hq hn hP hS) hS.2 hd hlocks
theorem ms_vret (Z : mm_Z p l R s m args meth c0 D cI cR b own cc nL ini n0 n1 d CALL) (hr : meth.sig.returnType = ret) (hlocks : meth.locks = false) : mg_vret CALL own cc nL ret ini n1 Post (mm_W p l e R s m args below meth c0 (MQ below (mm_Qc D cI cR b n1 Post) args s (n1 - n0) (mm_sl n1 - mm_sl n0) (fun q => b ≤ q)) D cI cR b nL n0) := by
    intro pc ls st hi τ n hd h0 h1 hq H locs lsA hnn hn hP hS hL
    subst h1; subst h0
    exact W.vret Z.1 Z.2.1 hr (ms_qc hq hn hP hS) hS.2 hd hlocks
end MS
theorem mm_sl_l {b : Nat} : ∀ {as : List Value}, (∀ v ∈ as, v.category = 1) → lg_sl (as.map (mm_rl b)) = as.map (fun v => Slot.val (mm_rl b v))
  | [], _ => rfl
  | v :: as, h => by
    have h1 : (mm_rl b v).category = 1 := (mm_rlc b v).trans (h v List.mem_cons_self)
    have ih := mm_sl_l (b := b) (as := as) (fun w hw => h w (List.mem_cons_of_mem _ hw))
    unfold lg_sl at ih ⊢
    rw [List.map_cons, List.flatMap_cons, ih, h1]
    rfl
theorem mm_entry {b maxL : Nat} {as : List Value} (h : as.length ≤ maxL) (hc : ∀ v ∈ as, v.category = 1) : mm_LV b maxL (as.map some ++ List.replicate (maxL - as.length) none) ((lg_sl (as.map (mm_rl b)) ++ List.replicate (maxL - (lg_sl (as.map (mm_rl b))).length) Slot.unset).toArray) := by
  have e := mm_sl_l (b := b) hc
  have hl := lv_entry (as.map (mm_rl b)) (n := maxL) (by rw [e, List.length_map]; exact h)
  refine ⟨⟨hl.1, hl.2.1, fun q hq => absurd hq List.not_mem_nil⟩, fun i v hi => ?_⟩
  by_cases hlt : i < as.length
  · rw [List.getElem?_append_left (by rw [List.length_map]; exact hlt), List.getElem?_map] at hi
    cases ha : as[i]? with
    | none => rw [ha] at hi; cases hi
    | some w =>
      rw [ha] at hi
      have hw : w = v := by
        have := Option.some.inj (Option.some.inj hi)
        exact this
      subst hw
      refine ⟨?_, hc w (List.mem_of_getElem? ha)⟩
      rw [e, List.getElem?_toArray, List.getElem?_append_left (by rw [List.length_map]; exact hlt), List.getElem?_map, ha]
      rfl
  · rw [List.getElem?_append_right (by rw [List.length_map]; omega), List.getElem?_replicate] at hi
    split at hi <;> cases hi
theorem mm_sound (l : Launch) (D : va_G) (cI cR : ClassId) (b : Nat) : ∀ (d : Nat) (y : MethodName) (as : List Value) (hi : mm_HI) (τ : mm_T) (n n1 : Nat) (Post : mm_Q), mm_wp d y as hi τ n n1 Post → mm_Met l D cI cR b d y as hi τ n n1 Post
  | 0, _, _, _, _, _, _, _, h => h.elim
  | d + 1, y, as, hi, τ, n, n1, Post, h => by
    obtain ⟨bytes, maxL, ret, hM, hle, hlen, hcat, hX⟩ := h
    refine ⟨bytes, maxL, ret, hM, hle, Met.ofW (cc := bytes) (maxL := maxL) (ret := ret) hM.2.1 rfl ?_⟩
    intro p e s m args below meth c s₁ B hml hv
    obtain ⟨rfl, hsz, hP, hK, hE⟩ := hv
    have hts0 := atoms_spec (ws := Cond.code y bytes maxL ret :: mm_g) B.pre
    have hts : ∀ w, mm_in w → w.before (as.map (mm_rl b)).toArray s = true := fun w hw => hts0 w (List.mem_cons_of_mem _ (mm_in_g hw))
    have hown : s.vm.findClass y.cls = some m.cls := findClass_of_methodNamed B.named
    have hnm : meth.name = y.name := (name_of_methodNamed B.named B.method).1
    have Z : mm_Z p l (mm_rm (d + 1) n n1) s m (as.map (mm_rl b)).toArray meth c D cI cR b y.cls bytes maxL (decide (y.name = "<init>")) n n1 d (mm_wp d) :=
      ⟨B.exec, B.bytes, hml, hts, hown, hK, hE, fun h => by rw [hnm]; exact of_decide_eq_true h, Nat.le_refl _, Nat.le_refl _, Nat.le_refl _, Nat.le_refl _, fun y as hi τ n n2 Pq h => mm_sound l D cI cR b d y as hi τ n n2 Pq h⟩
    rw [lg_entry_eq]
    have key := hX (mm_W p l e (mm_rm (d + 1) n n1) s m (as.map (mm_rl b)).toArray below meth c (MQ below (mm_Qc D cI cR b n1 Post) (as.map (mm_rl b)).toArray s (n1 - n) (mm_sl n1 - mm_sl n) (fun q => b ≤ q)) D cI cR b maxL n)
      ⟨ms_G Z, ms_iret Z B.returns B.notSynchronized, ms_lret Z B.returns B.notSynchronized, ms_aret Z B.returns B.notSynchronized, ms_vret Z B.returns B.notSynchronized⟩ s.heap [] _ (Nat.le_refl n) hsz hP ⟨fun _ _ => rfl, fun _ h => absurd h List.not_mem_nil⟩ (mm_entry hlen hcat)
    rw [Nat.sub_self, Nat.sub_self] at key
    exact key
end
section
/-- the references behind both constructors; sw: whether sheet and draft have changed places an odd number of times -/
def mm_sh (sw : Bool) : Nat := if sw then 9 else 3
def mm_dr (sw : Bool) : Nat := if sw then 3 else 9
def mm_off (ci k : Nat) : Option Nat := match ci, k with
  | 0, 0 => some 1
  | 0, 3 => some 3
  | 0, 6 => some 4
  | 1, 0 => some 1
  | 1, 2 => some 3
  | 2, 0 => some 1
  | 3, 0 => some 1
  | 3, 3 => some 3
  | 5, 0 => some 1
  | 5, 3 => some 3
  | 5, 7 => some 4
  | 5, 8 => some 5
  | 5, 9 => some 6
  | 6, 0 => some 1
  | 7, 3 => some 1
  | 7, 4 => some 2
  | 7, 5 => some 3
  | 7, 6 => some 5
  | 8, 1 => some 1
  | 9, 0 => some 1
  | 9, 3 => some 15
  | 9, 4 => some 39
  | 9, 5 => some 63
  | 9, 11 => some 87
  | 9, 12 => some 88
  | 9, 13 => some 95
  | 9, 14 => some 99
  | 9, 15 => some 104
  | 10, 3 => some 1
  | 10, 4 => some 2
  | 10, 5 => some 3
  | 10, 8 => some 4
  | 10, 10 => some 5
  | 10, 11 => some 6
  | 10, 13 => some 7
  | 10, 20 => some 8
  | 10, 21 => some 9
  | 10, 22 => some 10
  | 10, 23 => some 11
  | 10, 24 => some 12
  | 10, 25 => some 13
  | 10, 27 => some 14
  | 10, 29 => some 15
  | 10, 34 => some 16
  | 10, 35 => some 17
  | 10, 36 => some 18
  | _, _ => none
def mm_hr (sw : Bool) (c k : Nat) : Option Nat := if (mm_lay c).1 = 2 then (if k < 10 then some (c + 1 + 2 * k) else none) else if (mm_lay c).1 = 0 then (if c = 0 ∧ k = 1 then some (mm_sh sw) else if c = 0 ∧ k = 2 then some (mm_dr sw) else (mm_off (mm_lay c).2 k).map (c + ·)) else none
theorem ly_lt {c a k : Nat} (h : mm_lay c = (a, k)) (ha : a < 3) : c < 125 := by
  rcases Nat.lt_or_ge c 125 with q | q
  · exact q
  · have e : mm_lay c = (3, 0) := by
      unfold mm_lay
      rw [List.getD_eq_getElem?_getD, List.getElem?_eq_none (by show 125 ≤ c; exact q)]
      rfl
    rw [e] at h; cases h; omega
theorem ly_bd {c N : Nat} (h : mm_lay c = (1, N)) : N < 2000 := by
  have a : ∀ x, x < 125 → (mm_lay x).2 < 2000 := by decide +kernel
  have e := a c (ly_lt h (by decide)); rw [h] at e; exact e
theorem ly_0_0 {c : Nat} (h : mm_lay c = (0, 0)) : mm_lay (c + 1) = (0, 6) := by
  have a : ∀ x, x < 125 → mm_lay x = (0, 0) → mm_lay (x + 1) = (0, 6) := by decide +kernel
  exact a c (ly_lt h (by decide)) h
theorem hf_0_0 {sw : Bool} {c : Nat} (h : mm_lay c = (0, 0)) : mm_hr sw c 0 = some (c + 1) := by
  have e : c ≠ 0 := by intro q; subst q; cases h
  simp [mm_hr, h, e, mm_off]
theorem ly_0_3 {c : Nat} (h : mm_lay c = (0, 0)) : mm_lay (c + 3) = (1, 21) := by
  have a : ∀ x, x < 125 → mm_lay x = (0, 0) → mm_lay (x + 3) = (1, 21) := by decide +kernel
  exact a c (ly_lt h (by decide)) h
theorem hf_0_3 {sw : Bool} {c : Nat} (h : mm_lay c = (0, 0)) : mm_hr sw c 3 = some (c + 3) := by
  have e : c ≠ 0 := by intro q; subst q; cases h
  simp [mm_hr, h, e, mm_off]
theorem ly_0_6 {c : Nat} (h : mm_lay c = (0, 0)) : mm_lay (c + 4) = (0, 4) := by
  have a : ∀ x, x < 125 → mm_lay x = (0, 0) → mm_lay (x + 4) = (0, 4) := by decide +kernel
  exact a c (ly_lt h (by decide)) h
theorem hf_0_6 {sw : Bool} {c : Nat} (h : mm_lay c = (0, 0)) : mm_hr sw c 6 = some (c + 4) := by
  have e : c ≠ 0 := by intro q; subst q; cases h
  simp [mm_hr, h, e, mm_off]
theorem ly_1_0 {c : Nat} (h : mm_lay c = (0, 1)) : mm_lay (c + 1) = (0, 6) := by
  have a : ∀ x, x < 125 → mm_lay x = (0, 1) → mm_lay (x + 1) = (0, 6) := by decide +kernel
  exact a c (ly_lt h (by decide)) h
theorem hf_1_0 {sw : Bool} {c : Nat} (h : mm_lay c = (0, 1)) : mm_hr sw c 0 = some (c + 1) := by
  have e : c ≠ 0 := by intro q; subst q; cases h
  simp [mm_hr, h, e, mm_off]
theorem ly_1_2 {c : Nat} (h : mm_lay c = (0, 1)) : mm_lay (c + 3) = (2, 10) := by
  have a : ∀ x, x < 125 → mm_lay x = (0, 1) → mm_lay (x + 3) = (2, 10) := by decide +kernel
  exact a c (ly_lt h (by decide)) h
theorem hf_1_2 {sw : Bool} {c : Nat} (h : mm_lay c = (0, 1)) : mm_hr sw c 2 = some (c + 3) := by
  have e : c ≠ 0 := by intro q; subst q; cases h
  simp [mm_hr, h, e, mm_off]
theorem ly_2_0 {c : Nat} (h : mm_lay c = (0, 2)) : mm_lay (c + 1) = (1, 1350) := by
  have a : ∀ x, x < 125 → mm_lay x = (0, 2) → mm_lay (x + 1) = (1, 1350) := by decide +kernel
  exact a c (ly_lt h (by decide)) h
theorem hf_2_0 {sw : Bool} {c : Nat} (h : mm_lay c = (0, 2)) : mm_hr sw c 0 = some (c + 1) := by
  have e : c ≠ 0 := by intro q; subst q; cases h
  simp [mm_hr, h, e, mm_off]
theorem ly_3_0 {c : Nat} (h : mm_lay c = (0, 3)) : mm_lay (c + 1) = (0, 6) := by
  have a : ∀ x, x < 125 → mm_lay x = (0, 3) → mm_lay (x + 1) = (0, 6) := by decide +kernel
  exact a c (ly_lt h (by decide)) h
theorem hf_3_0 {sw : Bool} {c : Nat} (h : mm_lay c = (0, 3)) : mm_hr sw c 0 = some (c + 1) := by
  have e : c ≠ 0 := by intro q; subst q; cases h
  simp [mm_hr, h, e, mm_off]
theorem ly_3_3 {c : Nat} (h : mm_lay c = (0, 3)) : mm_lay (c + 3) = (1, 21) := by
  have a : ∀ x, x < 125 → mm_lay x = (0, 3) → mm_lay (x + 3) = (1, 21) := by decide +kernel
  exact a c (ly_lt h (by decide)) h
theorem hf_3_3 {sw : Bool} {c : Nat} (h : mm_lay c = (0, 3)) : mm_hr sw c 3 = some (c + 3) := by
  have e : c ≠ 0 := by intro q; subst q; cases h
  simp [mm_hr, h, e, mm_off]
theorem ly_5_0 {c : Nat} (h : mm_lay c = (0, 5)) : mm_lay (c + 1) = (0, 6) := by
  have a : ∀ x, x < 125 → mm_lay x = (0, 5) → mm_lay (x + 1) = (0, 6) := by decide +kernel
  exact a c (ly_lt h (by decide)) h
theorem hf_5_0 {sw : Bool} {c : Nat} (h : mm_lay c = (0, 5)) : mm_hr sw c 0 = some (c + 1) := by
  have e : c ≠ 0 := by intro q; subst q; cases h
  simp [mm_hr, h, e, mm_off]
theorem ly_5_3 {c : Nat} (h : mm_lay c = (0, 5)) : mm_lay (c + 3) = (1, 21) := by
  have a : ∀ x, x < 125 → mm_lay x = (0, 5) → mm_lay (x + 3) = (1, 21) := by decide +kernel
  exact a c (ly_lt h (by decide)) h
theorem hf_5_3 {sw : Bool} {c : Nat} (h : mm_lay c = (0, 5)) : mm_hr sw c 3 = some (c + 3) := by
  have e : c ≠ 0 := by intro q; subst q; cases h
  simp [mm_hr, h, e, mm_off]
theorem ly_5_7 {c : Nat} (h : mm_lay c = (0, 5)) : mm_lay (c + 4) = (1, 6) := by
  have a : ∀ x, x < 125 → mm_lay x = (0, 5) → mm_lay (x + 4) = (1, 6) := by decide +kernel
  exact a c (ly_lt h (by decide)) h
theorem hf_5_7 {sw : Bool} {c : Nat} (h : mm_lay c = (0, 5)) : mm_hr sw c 7 = some (c + 4) := by
  have e : c ≠ 0 := by intro q; subst q; cases h
  simp [mm_hr, h, e, mm_off]
theorem ly_5_8 {c : Nat} (h : mm_lay c = (0, 5)) : mm_lay (c + 5) = (1, 6) := by
  have a : ∀ x, x < 125 → mm_lay x = (0, 5) → mm_lay (x + 5) = (1, 6) := by decide +kernel
  exact a c (ly_lt h (by decide)) h
theorem hf_5_8 {sw : Bool} {c : Nat} (h : mm_lay c = (0, 5)) : mm_hr sw c 8 = some (c + 5) := by
  have e : c ≠ 0 := by intro q; subst q; cases h
  simp [mm_hr, h, e, mm_off]
theorem ly_5_9 {c : Nat} (h : mm_lay c = (0, 5)) : mm_lay (c + 6) = (1, 6) := by
  have a : ∀ x, x < 125 → mm_lay x = (0, 5) → mm_lay (x + 6) = (1, 6) := by decide +kernel
  exact a c (ly_lt h (by decide)) h
theorem hf_5_9 {sw : Bool} {c : Nat} (h : mm_lay c = (0, 5)) : mm_hr sw c 9 = some (c + 6) := by
  have e : c ≠ 0 := by intro q; subst q; cases h
  simp [mm_hr, h, e, mm_off]
theorem ly_6_0 {c : Nat} (h : mm_lay c = (0, 6)) : mm_lay (c + 1) = (1, 6) := by
  have a : ∀ x, x < 125 → mm_lay x = (0, 6) → mm_lay (x + 1) = (1, 6) := by decide +kernel
  exact a c (ly_lt h (by decide)) h
theorem hf_6_0 {sw : Bool} {c : Nat} (h : mm_lay c = (0, 6)) : mm_hr sw c 0 = some (c + 1) := by
  have e : c ≠ 0 := by intro q; subst q; cases h
  simp [mm_hr, h, e, mm_off]
theorem ly_7_3 {c : Nat} (h : mm_lay c = (0, 7)) : mm_lay (c + 1) = (1, 48) := by
  have a : ∀ x, x < 125 → mm_lay x = (0, 7) → mm_lay (x + 1) = (1, 48) := by decide +kernel
  exact a c (ly_lt h (by decide)) h
theorem hf_7_3 {sw : Bool} {c : Nat} (h : mm_lay c = (0, 7)) : mm_hr sw c 3 = some (c + 1) := by
  have e : c ≠ 0 := by intro q; subst q; cases h
  simp [mm_hr, h, e, mm_off]
theorem ly_7_4 {c : Nat} (h : mm_lay c = (0, 7)) : mm_lay (c + 2) = (1, 8) := by
  have a : ∀ x, x < 125 → mm_lay x = (0, 7) → mm_lay (x + 2) = (1, 8) := by decide +kernel
  exact a c (ly_lt h (by decide)) h
theorem hf_7_4 {sw : Bool} {c : Nat} (h : mm_lay c = (0, 7)) : mm_hr sw c 4 = some (c + 2) := by
  have e : c ≠ 0 := by intro q; subst q; cases h
  simp [mm_hr, h, e, mm_off]
theorem ly_7_5 {c : Nat} (h : mm_lay c = (0, 7)) : mm_lay (c + 3) = (0, 2) := by
  have a : ∀ x, x < 125 → mm_lay x = (0, 7) → mm_lay (x + 3) = (0, 2) := by decide +kernel
  exact a c (ly_lt h (by decide)) h
theorem hf_7_5 {sw : Bool} {c : Nat} (h : mm_lay c = (0, 7)) : mm_hr sw c 5 = some (c + 3) := by
  have e : c ≠ 0 := by intro q; subst q; cases h
  simp [mm_hr, h, e, mm_off]
theorem ly_7_6 {c : Nat} (h : mm_lay c = (0, 7)) : mm_lay (c + 5) = (1, 72) := by
  have a : ∀ x, x < 125 → mm_lay x = (0, 7) → mm_lay (x + 5) = (1, 72) := by decide +kernel
  exact a c (ly_lt h (by decide)) h
theorem hf_7_6 {sw : Bool} {c : Nat} (h : mm_lay c = (0, 7)) : mm_hr sw c 6 = some (c + 5) := by
  have e : c ≠ 0 := by intro q; subst q; cases h
  simp [mm_hr, h, e, mm_off]
theorem ly_8_1 {c : Nat} (h : mm_lay c = (0, 8)) : mm_lay (c + 1) = (1, 150) := by
  have a : ∀ x, x < 125 → mm_lay x = (0, 8) → mm_lay (x + 1) = (1, 150) := by decide +kernel
  exact a c (ly_lt h (by decide)) h
theorem hf_8_1 {sw : Bool} {c : Nat} (h : mm_lay c = (0, 8)) : mm_hr sw c 1 = some (c + 1) := by
  have e : c ≠ 0 := by intro q; subst q; cases h
  simp [mm_hr, h, e, mm_off]
theorem ly_9_0 {c : Nat} (h : mm_lay c = (0, 9)) : mm_lay (c + 1) = (0, 8) := by
  have a : ∀ x, x < 125 → mm_lay x = (0, 9) → mm_lay (x + 1) = (0, 8) := by decide +kernel
  exact a c (ly_lt h (by decide)) h
theorem hf_9_0 {sw : Bool} {c : Nat} (h : mm_lay c = (0, 9)) : mm_hr sw c 0 = some (c + 1) := by
  have e : c = 0 := by
    have a : ∀ x, x < 125 → mm_lay x = (0, 9) → x = 0 := by decide +kernel
    exact a c (ly_lt h (by decide)) h
  subst e; cases sw <;> rfl
theorem ly_9_3 {c : Nat} (h : mm_lay c = (0, 9)) : mm_lay (c + 15) = (0, 1) := by
  have a : ∀ x, x < 125 → mm_lay x = (0, 9) → mm_lay (x + 15) = (0, 1) := by decide +kernel
  exact a c (ly_lt h (by decide)) h
theorem hf_9_3 {sw : Bool} {c : Nat} (h : mm_lay c = (0, 9)) : mm_hr sw c 3 = some (c + 15) := by
  have e : c = 0 := by
    have a : ∀ x, x < 125 → mm_lay x = (0, 9) → x = 0 := by decide +kernel
    exact a c (ly_lt h (by decide)) h
  subst e; cases sw <;> rfl
theorem ly_9_4 {c : Nat} (h : mm_lay c = (0, 9)) : mm_lay (c + 39) = (0, 1) := by
  have a : ∀ x, x < 125 → mm_lay x = (0, 9) → mm_lay (x + 39) = (0, 1) := by decide +kernel
  exact a c (ly_lt h (by decide)) h
theorem hf_9_4 {sw : Bool} {c : Nat} (h : mm_lay c = (0, 9)) : mm_hr sw c 4 = some (c + 39) := by
  have e : c = 0 := by
    have a : ∀ x, x < 125 → mm_lay x = (0, 9) → x = 0 := by decide +kernel
    exact a c (ly_lt h (by decide)) h
  subst e; cases sw <;> rfl
theorem ly_9_5 {c : Nat} (h : mm_lay c = (0, 9)) : mm_lay (c + 63) = (0, 1) := by
  have a : ∀ x, x < 125 → mm_lay x = (0, 9) → mm_lay (x + 63) = (0, 1) := by decide +kernel
  exact a c (ly_lt h (by decide)) h
theorem hf_9_5 {sw : Bool} {c : Nat} (h : mm_lay c = (0, 9)) : mm_hr sw c 5 = some (c + 63) := by
  have e : c = 0 := by
    have a : ∀ x, x < 125 → mm_lay x = (0, 9) → x = 0 := by decide +kernel
    exact a c (ly_lt h (by decide)) h
  subst e; cases sw <;> rfl
theorem ly_9_11 {c : Nat} (h : mm_lay c = (0, 9)) : mm_lay (c + 87) = (0, 4) := by
  have a : ∀ x, x < 125 → mm_lay x = (0, 9) → mm_lay (x + 87) = (0, 4) := by decide +kernel
  exact a c (ly_lt h (by decide)) h
theorem hf_9_11 {sw : Bool} {c : Nat} (h : mm_lay c = (0, 9)) : mm_hr sw c 11 = some (c + 87) := by
  have e : c = 0 := by
    have a : ∀ x, x < 125 → mm_lay x = (0, 9) → x = 0 := by decide +kernel
    exact a c (ly_lt h (by decide)) h
  subst e; cases sw <;> rfl
theorem ly_9_12 {c : Nat} (h : mm_lay c = (0, 9)) : mm_lay (c + 88) = (0, 5) := by
  have a : ∀ x, x < 125 → mm_lay x = (0, 9) → mm_lay (x + 88) = (0, 5) := by decide +kernel
  exact a c (ly_lt h (by decide)) h
theorem hf_9_12 {sw : Bool} {c : Nat} (h : mm_lay c = (0, 9)) : mm_hr sw c 12 = some (c + 88) := by
  have e : c = 0 := by
    have a : ∀ x, x < 125 → mm_lay x = (0, 9) → x = 0 := by decide +kernel
    exact a c (ly_lt h (by decide)) h
  subst e; cases sw <;> rfl
theorem ly_9_13 {c : Nat} (h : mm_lay c = (0, 9)) : mm_lay (c + 95) = (0, 3) := by
  have a : ∀ x, x < 125 → mm_lay x = (0, 9) → mm_lay (x + 95) = (0, 3) := by decide +kernel
  exact a c (ly_lt h (by decide)) h
theorem hf_9_13 {sw : Bool} {c : Nat} (h : mm_lay c = (0, 9)) : mm_hr sw c 13 = some (c + 95) := by
  have e : c = 0 := by
    have a : ∀ x, x < 125 → mm_lay x = (0, 9) → x = 0 := by decide +kernel
    exact a c (ly_lt h (by decide)) h
  subst e; cases sw <;> rfl
theorem ly_9_14 {c : Nat} (h : mm_lay c = (0, 9)) : mm_lay (c + 99) = (0, 0) := by
  have a : ∀ x, x < 125 → mm_lay x = (0, 9) → mm_lay (x + 99) = (0, 0) := by decide +kernel
  exact a c (ly_lt h (by decide)) h
theorem hf_9_14 {sw : Bool} {c : Nat} (h : mm_lay c = (0, 9)) : mm_hr sw c 14 = some (c + 99) := by
  have e : c = 0 := by
    have a : ∀ x, x < 125 → mm_lay x = (0, 9) → x = 0 := by decide +kernel
    exact a c (ly_lt h (by decide)) h
  subst e; cases sw <;> rfl
theorem ly_9_15 {c : Nat} (h : mm_lay c = (0, 9)) : mm_lay (c + 104) = (0, 6) := by
  have a : ∀ x, x < 125 → mm_lay x = (0, 9) → mm_lay (x + 104) = (0, 6) := by decide +kernel
  exact a c (ly_lt h (by decide)) h
theorem hf_9_15 {sw : Bool} {c : Nat} (h : mm_lay c = (0, 9)) : mm_hr sw c 15 = some (c + 104) := by
  have e : c = 0 := by
    have a : ∀ x, x < 125 → mm_lay x = (0, 9) → x = 0 := by decide +kernel
    exact a c (ly_lt h (by decide)) h
  subst e; cases sw <;> rfl
theorem ly_10_3 {c : Nat} (h : mm_lay c = (0, 10)) : mm_lay (c + 1) = (1, 36) := by
  have a : ∀ x, x < 125 → mm_lay x = (0, 10) → mm_lay (x + 1) = (1, 36) := by decide +kernel
  exact a c (ly_lt h (by decide)) h
theorem hf_10_3 {sw : Bool} {c : Nat} (h : mm_lay c = (0, 10)) : mm_hr sw c 3 = some (c + 1) := by
  have e : c ≠ 0 := by intro q; subst q; cases h
  simp [mm_hr, h, e, mm_off]
theorem ly_10_4 {c : Nat} (h : mm_lay c = (0, 10)) : mm_lay (c + 2) = (1, 48) := by
  have a : ∀ x, x < 125 → mm_lay x = (0, 10) → mm_lay (x + 2) = (1, 48) := by decide +kernel
  exact a c (ly_lt h (by decide)) h
theorem hf_10_4 {sw : Bool} {c : Nat} (h : mm_lay c = (0, 10)) : mm_hr sw c 4 = some (c + 2) := by
  have e : c ≠ 0 := by intro q; subst q; cases h
  simp [mm_hr, h, e, mm_off]
theorem ly_10_5 {c : Nat} (h : mm_lay c = (0, 10)) : mm_lay (c + 3) = (1, 8) := by
  have a : ∀ x, x < 125 → mm_lay x = (0, 10) → mm_lay (x + 3) = (1, 8) := by decide +kernel
  exact a c (ly_lt h (by decide)) h
theorem hf_10_5 {sw : Bool} {c : Nat} (h : mm_lay c = (0, 10)) : mm_hr sw c 5 = some (c + 3) := by
  have e : c ≠ 0 := by intro q; subst q; cases h
  simp [mm_hr, h, e, mm_off]
theorem ly_10_8 {c : Nat} (h : mm_lay c = (0, 10)) : mm_lay (c + 4) = (1, 6) := by
  have a : ∀ x, x < 125 → mm_lay x = (0, 10) → mm_lay (x + 4) = (1, 6) := by decide +kernel
  exact a c (ly_lt h (by decide)) h
theorem hf_10_8 {sw : Bool} {c : Nat} (h : mm_lay c = (0, 10)) : mm_hr sw c 8 = some (c + 4) := by
  have e : c ≠ 0 := by intro q; subst q; cases h
  simp [mm_hr, h, e, mm_off]
theorem ly_10_10 {c : Nat} (h : mm_lay c = (0, 10)) : mm_lay (c + 5) = (1, 6) := by
  have a : ∀ x, x < 125 → mm_lay x = (0, 10) → mm_lay (x + 5) = (1, 6) := by decide +kernel
  exact a c (ly_lt h (by decide)) h
theorem hf_10_10 {sw : Bool} {c : Nat} (h : mm_lay c = (0, 10)) : mm_hr sw c 10 = some (c + 5) := by
  have e : c ≠ 0 := by intro q; subst q; cases h
  simp [mm_hr, h, e, mm_off]
theorem ly_10_11 {c : Nat} (h : mm_lay c = (0, 10)) : mm_lay (c + 6) = (1, 6) := by
  have a : ∀ x, x < 125 → mm_lay x = (0, 10) → mm_lay (x + 6) = (1, 6) := by decide +kernel
  exact a c (ly_lt h (by decide)) h
theorem hf_10_11 {sw : Bool} {c : Nat} (h : mm_lay c = (0, 10)) : mm_hr sw c 11 = some (c + 6) := by
  have e : c ≠ 0 := by intro q; subst q; cases h
  simp [mm_hr, h, e, mm_off]
theorem ly_10_13 {c : Nat} (h : mm_lay c = (0, 10)) : mm_lay (c + 7) = (1, 150) := by
  have a : ∀ x, x < 125 → mm_lay x = (0, 10) → mm_lay (x + 7) = (1, 150) := by decide +kernel
  exact a c (ly_lt h (by decide)) h
theorem hf_10_13 {sw : Bool} {c : Nat} (h : mm_lay c = (0, 10)) : mm_hr sw c 13 = some (c + 7) := by
  have e : c ≠ 0 := by intro q; subst q; cases h
  simp [mm_hr, h, e, mm_off]
theorem ly_10_20 {c : Nat} (h : mm_lay c = (0, 10)) : mm_lay (c + 8) = (1, 36) := by
  have a : ∀ x, x < 125 → mm_lay x = (0, 10) → mm_lay (x + 8) = (1, 36) := by decide +kernel
  exact a c (ly_lt h (by decide)) h
theorem hf_10_20 {sw : Bool} {c : Nat} (h : mm_lay c = (0, 10)) : mm_hr sw c 20 = some (c + 8) := by
  have e : c ≠ 0 := by intro q; subst q; cases h
  simp [mm_hr, h, e, mm_off]
theorem ly_10_21 {c : Nat} (h : mm_lay c = (0, 10)) : mm_lay (c + 9) = (1, 48) := by
  have a : ∀ x, x < 125 → mm_lay x = (0, 10) → mm_lay (x + 9) = (1, 48) := by decide +kernel
  exact a c (ly_lt h (by decide)) h
theorem hf_10_21 {sw : Bool} {c : Nat} (h : mm_lay c = (0, 10)) : mm_hr sw c 21 = some (c + 9) := by
  have e : c ≠ 0 := by intro q; subst q; cases h
  simp [mm_hr, h, e, mm_off]
theorem ly_10_22 {c : Nat} (h : mm_lay c = (0, 10)) : mm_lay (c + 10) = (1, 8) := by
  have a : ∀ x, x < 125 → mm_lay x = (0, 10) → mm_lay (x + 10) = (1, 8) := by decide +kernel
  exact a c (ly_lt h (by decide)) h
theorem hf_10_22 {sw : Bool} {c : Nat} (h : mm_lay c = (0, 10)) : mm_hr sw c 22 = some (c + 10) := by
  have e : c ≠ 0 := by intro q; subst q; cases h
  simp [mm_hr, h, e, mm_off]
theorem ly_10_23 {c : Nat} (h : mm_lay c = (0, 10)) : mm_lay (c + 11) = (1, 3) := by
  have a : ∀ x, x < 125 → mm_lay x = (0, 10) → mm_lay (x + 11) = (1, 3) := by decide +kernel
  exact a c (ly_lt h (by decide)) h
theorem hf_10_23 {sw : Bool} {c : Nat} (h : mm_lay c = (0, 10)) : mm_hr sw c 23 = some (c + 11) := by
  have e : c ≠ 0 := by intro q; subst q; cases h
  simp [mm_hr, h, e, mm_off]
theorem ly_10_24 {c : Nat} (h : mm_lay c = (0, 10)) : mm_lay (c + 12) = (1, 3) := by
  have a : ∀ x, x < 125 → mm_lay x = (0, 10) → mm_lay (x + 12) = (1, 3) := by decide +kernel
  exact a c (ly_lt h (by decide)) h
theorem hf_10_24 {sw : Bool} {c : Nat} (h : mm_lay c = (0, 10)) : mm_hr sw c 24 = some (c + 12) := by
  have e : c ≠ 0 := by intro q; subst q; cases h
  simp [mm_hr, h, e, mm_off]
theorem ly_10_25 {c : Nat} (h : mm_lay c = (0, 10)) : mm_lay (c + 13) = (1, 3) := by
  have a : ∀ x, x < 125 → mm_lay x = (0, 10) → mm_lay (x + 13) = (1, 3) := by decide +kernel
  exact a c (ly_lt h (by decide)) h
theorem hf_10_25 {sw : Bool} {c : Nat} (h : mm_lay c = (0, 10)) : mm_hr sw c 25 = some (c + 13) := by
  have e : c ≠ 0 := by intro q; subst q; cases h
  simp [mm_hr, h, e, mm_off]
theorem ly_10_27 {c : Nat} (h : mm_lay c = (0, 10)) : mm_lay (c + 14) = (1, 80) := by
  have a : ∀ x, x < 125 → mm_lay x = (0, 10) → mm_lay (x + 14) = (1, 80) := by decide +kernel
  exact a c (ly_lt h (by decide)) h
theorem hf_10_27 {sw : Bool} {c : Nat} (h : mm_lay c = (0, 10)) : mm_hr sw c 27 = some (c + 14) := by
  have e : c ≠ 0 := by intro q; subst q; cases h
  simp [mm_hr, h, e, mm_off]
theorem ly_10_29 {c : Nat} (h : mm_lay c = (0, 10)) : mm_lay (c + 15) = (1, 6) := by
  have a : ∀ x, x < 125 → mm_lay x = (0, 10) → mm_lay (x + 15) = (1, 6) := by decide +kernel
  exact a c (ly_lt h (by decide)) h
theorem hf_10_29 {sw : Bool} {c : Nat} (h : mm_lay c = (0, 10)) : mm_hr sw c 29 = some (c + 15) := by
  have e : c ≠ 0 := by intro q; subst q; cases h
  simp [mm_hr, h, e, mm_off]
theorem ly_10_34 {c : Nat} (h : mm_lay c = (0, 10)) : mm_lay (c + 16) = (1, 6) := by
  have a : ∀ x, x < 125 → mm_lay x = (0, 10) → mm_lay (x + 16) = (1, 6) := by decide +kernel
  exact a c (ly_lt h (by decide)) h
theorem hf_10_34 {sw : Bool} {c : Nat} (h : mm_lay c = (0, 10)) : mm_hr sw c 34 = some (c + 16) := by
  have e : c ≠ 0 := by intro q; subst q; cases h
  simp [mm_hr, h, e, mm_off]
theorem ly_10_35 {c : Nat} (h : mm_lay c = (0, 10)) : mm_lay (c + 17) = (1, 6) := by
  have a : ∀ x, x < 125 → mm_lay x = (0, 10) → mm_lay (x + 17) = (1, 6) := by decide +kernel
  exact a c (ly_lt h (by decide)) h
theorem hf_10_35 {sw : Bool} {c : Nat} (h : mm_lay c = (0, 10)) : mm_hr sw c 35 = some (c + 17) := by
  have e : c ≠ 0 := by intro q; subst q; cases h
  simp [mm_hr, h, e, mm_off]
theorem ly_10_36 {c : Nat} (h : mm_lay c = (0, 10)) : mm_lay (c + 18) = (1, 180) := by
  have a : ∀ x, x < 125 → mm_lay x = (0, 10) → mm_lay (x + 18) = (1, 180) := by decide +kernel
  exact a c (ly_lt h (by decide)) h
theorem hf_10_36 {sw : Bool} {c : Nat} (h : mm_lay c = (0, 10)) : mm_hr sw c 36 = some (c + 18) := by
  have e : c ≠ 0 := by intro q; subst q; cases h
  simp [mm_hr, h, e, mm_off]
theorem ly_sh (sw : Bool) : mm_lay (mm_sh sw) = (0, 7) := by cases sw <;> rfl
theorem ly_dr (sw : Bool) : mm_lay (mm_dr sw) = (0, 7) := by cases sw <;> rfl
theorem hf_sh (sw : Bool) : mm_hr sw 0 1 = some (mm_sh sw) := rfl
theorem hf_dr (sw : Bool) : mm_hr sw 0 2 = some (mm_dr sw) := rfl
theorem hf_past {sw : Bool} {c N k : Nat} (h : mm_lay c = (2, N)) (hk : k < 10) : mm_hr sw c k = some (c + 1 + 2 * k) := by simp [mm_hr, h, hk]
theorem ly_past {c N k : Nat} (h : mm_lay c = (2, N)) (hk : k < 10) : mm_lay (c + 1 + 2 * k) = (0, 6) := by
  have a : ∀ x, x < 125 → (mm_lay x).1 = 2 → ∀ k, k < 10 → mm_lay (x + 1 + 2 * k) = (0, 6) := by decide +kernel
  exact a c (ly_lt h (by decide)) (by rw [h]) k hk
theorem hg {τ : mm_T} {sw : Bool} (hτ : τ.1 = mm_hr sw) {c k x : Nat} (h : mm_hr sw c k = some x) : τ.1 c k = some x := by rw [hτ]; exact h
def wR (d : Nat) (y : MethodName) (as : List Value) (hi : mm_HI) (τ : mm_T) (Q : mm_Q) : Prop := mm_wp d y as hi τ 125 125 Q
def wI (d : Nat) (y : MethodName) (as : List Value) (hi : mm_HI) (τ : mm_T) (P : Int32 → mm_HI → Prop) : Prop := wR d y as hi τ (fun v h t => t = τ ∧ ∃ r : Int32, v = some (.int r) ∧ P r h)
def wV (d : Nat) (y : MethodName) (as : List Value) (hi : mm_HI) (τ : mm_T) (P : mm_HI → Prop) : Prop := wR d y as hi τ (fun v h t => t = τ ∧ v = none ∧ P h)
def wB (d : Nat) (y : MethodName) (as : List Value) (hi : mm_HI) (τ : mm_T) (p : Prop) : Prop := wR d y as hi τ (fun v h t => t = τ ∧ h = hi ∧ ((p ∧ v = some (.int 1)) ∨ (¬ p ∧ v = some (.int 0))))
def wE (d : Nat) (y : MethodName) (as : List Value) (hi : mm_HI) (τ : mm_T) (r : Int32) : Prop := wR d y as hi τ (fun v h t => t = τ ∧ h = hi ∧ v = some (.int r))
def wA (d : Nat) (y : MethodName) (as : List Value) (hi : mm_HI) (τ : mm_T) (x : Nat) : Prop := wR d y as hi τ (fun v h t => t = τ ∧ h = hi ∧ v = some (.ref x))
/-- the beginning of a method -/
theorem w_intro {d : Nat} {y : MethodName} {as : List Value} {hi : mm_HI} {τ : mm_T} {Q : mm_Q} {bytes : ByteArray} {maxL : Nat} {ret : Option FieldType} (hd : 1 ≤ d) (hM : mm_M y bytes maxL ret) (hl : as.length ≤ maxL) (hc : (as.all fun v => v.category == 1) = true) (h : ∀ (e : Nat) (X : mm_X), e + 1 = d → mm_G (mm_wp e) y.cls bytes maxL ret (decide (y.name = "<init>")) 125 Q X → X 0 (as.map some ++ List.replicate (maxL - as.length) none) [] hi τ 125) : wR d y as hi τ Q := by
  obtain ⟨e, rfl⟩ : ∃ e, d = e + 1 := ⟨d - 1, by omega⟩
  exact ⟨bytes, maxL, ret, hM, Nat.le_refl _, hl, fun v hv => by simpa using List.all_eq_true.mp hc v hv, fun X G => h e X rfl G⟩
theorem q_iconst {d : Nat} {own : String} {cc : ByteArray} {nL : Nat} {ret : Option FieldType} {ini : Bool} {Post : mm_Q} {X : mm_X} {pc : Nat} {ls : List (Option Value)} {st : List Value} {hi : mm_HI} {τ : mm_T} {z : Int} {v : Int32} (G : mm_G (mm_wp d) own cc nL ret ini 125 Post X) (h0 : decode cc pc = .ok (.iconst z, 1)) (h1 : Int32.ofInt z = v) (h2 : X (pc + 1) ls (.int v :: st) (hi) (τ) 125) : X (pc) ls (st) (hi) (τ) 125 := r_iconst G.1 _ _ _ _ _ _ _ _ h0 h1 h2
theorem q_bipush {d : Nat} {own : String} {cc : ByteArray} {nL : Nat} {ret : Option FieldType} {ini : Bool} {Post : mm_Q} {X : mm_X} {pc : Nat} {ls : List (Option Value)} {st : List Value} {hi : mm_HI} {τ : mm_T} {z : Int} {v : Int32} (G : mm_G (mm_wp d) own cc nL ret ini 125 Post X) (h0 : decode cc pc = .ok (.bipush z, 2)) (h1 : (Int8.ofInt z).toInt32 = v) (h2 : X (pc + 2) ls (.int v :: st) (hi) (τ) 125) : X (pc) ls (st) (hi) (τ) 125 := r_bipush G.1 _ _ _ _ _ _ _ _ h0 h1 h2
theorem q_sipush {d : Nat} {own : String} {cc : ByteArray} {nL : Nat} {ret : Option FieldType} {ini : Bool} {Post : mm_Q} {X : mm_X} {pc : Nat} {ls : List (Option Value)} {st : List Value} {hi : mm_HI} {τ : mm_T} {z : Int} {v : Int32} (G : mm_G (mm_wp d) own cc nL ret ini 125 Post X) (h0 : decode cc pc = .ok (.sipush z, 3)) (h1 : (Int16.ofInt z).toInt32 = v) (h2 : X (pc + 3) ls (.int v :: st) (hi) (τ) 125) : X (pc) ls (st) (hi) (τ) 125 := r_sipush G.1 _ _ _ _ _ _ _ _ h0 h1 h2
theorem q_ldc {d : Nat} {own : String} {cc : ByteArray} {nL : Nat} {ret : Option FieldType} {ini : Bool} {Post : mm_Q} {X : mm_X} {pc : Nat} {ls : List (Option Value)} {st : List Value} {hi : mm_HI} {τ : mm_T} {z : Nat} {v : Int32} (G : mm_G (mm_wp d) own cc nL ret ini 125 Post X) (h0 : decode cc pc = .ok (.ldc z, 2)) (h1 : mm_in (Cond.constant own z v)) (h2 : X (pc + 2) ls (.int v :: st) (hi) (τ) 125) : X (pc) ls (st) (hi) (τ) 125 := r_ldc G.1 _ _ _ _ _ _ _ _ h0 h1 h2
theorem q_ldcw {d : Nat} {own : String} {cc : ByteArray} {nL : Nat} {ret : Option FieldType} {ini : Bool} {Post : mm_Q} {X : mm_X} {pc : Nat} {ls : List (Option Value)} {st : List Value} {hi : mm_HI} {τ : mm_T} {z : Nat} {v : Int32} (G : mm_G (mm_wp d) own cc nL ret ini 125 Post X) (h0 : decode cc pc = .ok (.ldc_w z, 3)) (h1 : mm_in (Cond.constant own z v)) (h2 : X (pc + 3) ls (.int v :: st) (hi) (τ) 125) : X (pc) ls (st) (hi) (τ) 125 := r_ldcw G.1 _ _ _ _ _ _ _ _ h0 h1 h2
theorem q_lconst {d : Nat} {own : String} {cc : ByteArray} {nL : Nat} {ret : Option FieldType} {ini : Bool} {Post : mm_Q} {X : mm_X} {pc : Nat} {ls : List (Option Value)} {st : List Value} {hi : mm_HI} {τ : mm_T} {z : Fin 2} {v : Int64} (G : mm_G (mm_wp d) own cc nL ret ini 125 Post X) (h0 : decode cc pc = .ok (.lconst z, 1)) (h1 : Int64.ofNat (z : Nat) = v) (h2 : X (pc + 1) ls (.long v :: st) (hi) (τ) 125) : X (pc) ls (st) (hi) (τ) 125 := r_lconst G.1 _ _ _ _ _ _ _ _ h0 h1 h2
theorem q_ldc2 {d : Nat} {own : String} {cc : ByteArray} {nL : Nat} {ret : Option FieldType} {ini : Bool} {Post : mm_Q} {X : mm_X} {pc : Nat} {ls : List (Option Value)} {st : List Value} {hi : mm_HI} {τ : mm_T} {z : Nat} {v : Int64} (G : mm_G (mm_wp d) own cc nL ret ini 125 Post X) (h0 : decode cc pc = .ok (.ldc2_w z, 3)) (h1 : mm_in (Cond.constantLong own z v)) (h2 : X (pc + 3) ls (.long v :: st) (hi) (τ) 125) : X (pc) ls (st) (hi) (τ) 125 := r_ldc2 G.1 _ _ _ _ _ _ _ _ h0 h1 h2
theorem q_iload_n {d : Nat} {own : String} {cc : ByteArray} {nL : Nat} {ret : Option FieldType} {ini : Bool} {Post : mm_Q} {X : mm_X} {pc : Nat} {ls : List (Option Value)} {st : List Value} {hi : mm_HI} {τ : mm_T} {j : Fin 4} {x : Int32} (G : mm_G (mm_wp d) own cc nL ret ini 125 Post X) (h0 : decode cc pc = .ok (.iload_n j, 1)) (h1 : ls[(j : Nat)]? = some (some (.int x))) (h2 : X (pc + 1) ls (.int x :: st) (hi) (τ) 125) : X (pc) ls (st) (hi) (τ) 125 := r_iload_n G.1 _ _ _ _ _ _ _ _ h0 h1 h2
theorem q_iload {d : Nat} {own : String} {cc : ByteArray} {nL : Nat} {ret : Option FieldType} {ini : Bool} {Post : mm_Q} {X : mm_X} {pc : Nat} {ls : List (Option Value)} {st : List Value} {hi : mm_HI} {τ : mm_T} {j : Nat} {x : Int32} (G : mm_G (mm_wp d) own cc nL ret ini 125 Post X) (h0 : decode cc pc = .ok (.iload j, 2)) (h1 : ls[j]? = some (some (.int x))) (h2 : X (pc + 2) ls (.int x :: st) (hi) (τ) 125) : X (pc) ls (st) (hi) (τ) 125 := r_iload G.1 _ _ _ _ _ _ _ _ h0 h1 h2
theorem q_aload_n {d : Nat} {own : String} {cc : ByteArray} {nL : Nat} {ret : Option FieldType} {ini : Bool} {Post : mm_Q} {X : mm_X} {pc : Nat} {ls : List (Option Value)} {st : List Value} {hi : mm_HI} {τ : mm_T} {j : Fin 4} {x : Nat} (G : mm_G (mm_wp d) own cc nL ret ini 125 Post X) (h0 : decode cc pc = .ok (.aload_n j, 1)) (h1 : ls[(j : Nat)]? = some (some (.ref x))) (h2 : X (pc + 1) ls (.ref x :: st) (hi) (τ) 125) : X (pc) ls (st) (hi) (τ) 125 := r_aload_n G.1 _ _ _ _ _ _ _ _ h0 h1 h2
theorem q_aload {d : Nat} {own : String} {cc : ByteArray} {nL : Nat} {ret : Option FieldType} {ini : Bool} {Post : mm_Q} {X : mm_X} {pc : Nat} {ls : List (Option Value)} {st : List Value} {hi : mm_HI} {τ : mm_T} {j : Nat} {x : Nat} (G : mm_G (mm_wp d) own cc nL ret ini 125 Post X) (h0 : decode cc pc = .ok (.aload j, 2)) (h1 : ls[j]? = some (some (.ref x))) (h2 : X (pc + 2) ls (.ref x :: st) (hi) (τ) 125) : X (pc) ls (st) (hi) (τ) 125 := r_aload G.1 _ _ _ _ _ _ _ _ h0 h1 h2
theorem q_istore_n {d : Nat} {own : String} {cc : ByteArray} {nL : Nat} {ret : Option FieldType} {ini : Bool} {Post : mm_Q} {X : mm_X} {pc : Nat} {ls : List (Option Value)} {st : List Value} {hi : mm_HI} {τ : mm_T} {j : Fin 4} {x : Int32} (G : mm_G (mm_wp d) own cc nL ret ini 125 Post X) (h0 : decode cc pc = .ok (.istore_n j, 1)) (h1 : (j : Nat) < nL) (h2 : X (pc + 1) (ls.set (j : Nat) (some (.int x))) (st) (hi) (τ) 125) : X (pc) ls (.int x :: st) (hi) (τ) 125 := r_istore_n G.1 _ _ _ _ _ _ _ _ h0 h1 h2
theorem q_istore {d : Nat} {own : String} {cc : ByteArray} {nL : Nat} {ret : Option FieldType} {ini : Bool} {Post : mm_Q} {X : mm_X} {pc : Nat} {ls : List (Option Value)} {st : List Value} {hi : mm_HI} {τ : mm_T} {j : Nat} {x : Int32} (G : mm_G (mm_wp d) own cc nL ret ini 125 Post X) (h0 : decode cc pc = .ok (.istore j, 2)) (h1 : j < nL) (h2 : X (pc + 2) (ls.set j (some (.int x))) (st) (hi) (τ) 125) : X (pc) ls (.int x :: st) (hi) (τ) 125 := r_istore G.1 _ _ _ _ _ _ _ _ h0 h1 h2
theorem q_astore_n {d : Nat} {own : String} {cc : ByteArray} {nL : Nat} {ret : Option FieldType} {ini : Bool} {Post : mm_Q} {X : mm_X} {pc : Nat} {ls : List (Option Value)} {st : List Value} {hi : mm_HI} {τ : mm_T} {j : Fin 4} {x : Nat} (G : mm_G (mm_wp d) own cc nL ret ini 125 Post X) (h0 : decode cc pc = .ok (.astore_n j, 1)) (h1 : (j : Nat) < nL) (h2 : X (pc + 1) (ls.set (j : Nat) (some (.ref x))) (st) (hi) (τ) 125) : X (pc) ls (.ref x :: st) (hi) (τ) 125 := r_astore_n G.1 _ _ _ _ _ _ _ _ h0 h1 h2
theorem q_astore {d : Nat} {own : String} {cc : ByteArray} {nL : Nat} {ret : Option FieldType} {ini : Bool} {Post : mm_Q} {X : mm_X} {pc : Nat} {ls : List (Option Value)} {st : List Value} {hi : mm_HI} {τ : mm_T} {j : Nat} {x : Nat} (G : mm_G (mm_wp d) own cc nL ret ini 125 Post X) (h0 : decode cc pc = .ok (.astore j, 2)) (h1 : j < nL) (h2 : X (pc + 2) (ls.set j (some (.ref x))) (st) (hi) (τ) 125) : X (pc) ls (.ref x :: st) (hi) (τ) 125 := r_astore G.1 _ _ _ _ _ _ _ _ h0 h1 h2
theorem q_iinc {d : Nat} {own : String} {cc : ByteArray} {nL : Nat} {ret : Option FieldType} {ini : Bool} {Post : mm_Q} {X : mm_X} {pc : Nat} {ls : List (Option Value)} {st : List Value} {hi : mm_HI} {τ : mm_T} {j : Nat} {z : Int} {x v : Int32} (G : mm_G (mm_wp d) own cc nL ret ini 125 Post X) (h0 : decode cc pc = .ok (.iinc j z, 3)) (h1 : ls[j]? = some (some (.int x))) (h2 : x + Int32.ofInt z = v) (h3 : j < nL) (h4 : X (pc + 3) (ls.set j (some (.int v))) (st) (hi) (τ) 125) : X (pc) ls (st) (hi) (τ) 125 := r_iinc G.1 _ _ _ _ _ _ _ _ _ _ h0 h1 h2 h3 h4
theorem q_iadd {d : Nat} {own : String} {cc : ByteArray} {nL : Nat} {ret : Option FieldType} {ini : Bool} {Post : mm_Q} {X : mm_X} {pc : Nat} {ls : List (Option Value)} {st : List Value} {hi : mm_HI} {τ : mm_T} {x y : Int32} (G : mm_G (mm_wp d) own cc nL ret ini 125 Post X) (h0 : decode cc pc = .ok (.iadd, 1)) (h1 : X (pc + 1) ls (.int (x + y) :: st) (hi) (τ) 125) : X (pc) ls (.int y :: .int x :: st) (hi) (τ) 125 := r_iadd G.1 _ _ _ _ _ _ _ _ h0 h1
theorem q_isub {d : Nat} {own : String} {cc : ByteArray} {nL : Nat} {ret : Option FieldType} {ini : Bool} {Post : mm_Q} {X : mm_X} {pc : Nat} {ls : List (Option Value)} {st : List Value} {hi : mm_HI} {τ : mm_T} {x y : Int32} (G : mm_G (mm_wp d) own cc nL ret ini 125 Post X) (h0 : decode cc pc = .ok (.isub, 1)) (h1 : X (pc + 1) ls (.int (x - y) :: st) (hi) (τ) 125) : X (pc) ls (.int y :: .int x :: st) (hi) (τ) 125 := r_isub G.1 _ _ _ _ _ _ _ _ h0 h1
theorem q_imul {d : Nat} {own : String} {cc : ByteArray} {nL : Nat} {ret : Option FieldType} {ini : Bool} {Post : mm_Q} {X : mm_X} {pc : Nat} {ls : List (Option Value)} {st : List Value} {hi : mm_HI} {τ : mm_T} {x y : Int32} (G : mm_G (mm_wp d) own cc nL ret ini 125 Post X) (h0 : decode cc pc = .ok (.imul, 1)) (h1 : X (pc + 1) ls (.int (x * y) :: st) (hi) (τ) 125) : X (pc) ls (.int y :: .int x :: st) (hi) (τ) 125 := r_imul G.1 _ _ _ _ _ _ _ _ h0 h1
theorem q_iand {d : Nat} {own : String} {cc : ByteArray} {nL : Nat} {ret : Option FieldType} {ini : Bool} {Post : mm_Q} {X : mm_X} {pc : Nat} {ls : List (Option Value)} {st : List Value} {hi : mm_HI} {τ : mm_T} {x y : Int32} (G : mm_G (mm_wp d) own cc nL ret ini 125 Post X) (h0 : decode cc pc = .ok (.iand, 1)) (h1 : X (pc + 1) ls (.int (x &&& y) :: st) (hi) (τ) 125) : X (pc) ls (.int y :: .int x :: st) (hi) (τ) 125 := r_iand G.1 _ _ _ _ _ _ _ _ h0 h1
theorem q_ior {d : Nat} {own : String} {cc : ByteArray} {nL : Nat} {ret : Option FieldType} {ini : Bool} {Post : mm_Q} {X : mm_X} {pc : Nat} {ls : List (Option Value)} {st : List Value} {hi : mm_HI} {τ : mm_T} {x y : Int32} (G : mm_G (mm_wp d) own cc nL ret ini 125 Post X) (h0 : decode cc pc = .ok (.ior, 1)) (h1 : X (pc + 1) ls (.int (x ||| y) :: st) (hi) (τ) 125) : X (pc) ls (.int y :: .int x :: st) (hi) (τ) 125 := r_ior G.1 _ _ _ _ _ _ _ _ h0 h1
theorem q_ixor {d : Nat} {own : String} {cc : ByteArray} {nL : Nat} {ret : Option FieldType} {ini : Bool} {Post : mm_Q} {X : mm_X} {pc : Nat} {ls : List (Option Value)} {st : List Value} {hi : mm_HI} {τ : mm_T} {x y : Int32} (G : mm_G (mm_wp d) own cc nL ret ini 125 Post X) (h0 : decode cc pc = .ok (.ixor, 1)) (h1 : X (pc + 1) ls (.int (x ^^^ y) :: st) (hi) (τ) 125) : X (pc) ls (.int y :: .int x :: st) (hi) (τ) 125 := r_ixor G.1 _ _ _ _ _ _ _ _ h0 h1
theorem q_ishl {d : Nat} {own : String} {cc : ByteArray} {nL : Nat} {ret : Option FieldType} {ini : Bool} {Post : mm_Q} {X : mm_X} {pc : Nat} {ls : List (Option Value)} {st : List Value} {hi : mm_HI} {τ : mm_T} {x y : Int32} (G : mm_G (mm_wp d) own cc nL ret ini 125 Post X) (h0 : decode cc pc = .ok (.ishl, 1)) (h1 : X (pc + 1) ls (.int (x <<< (y &&& 31)) :: st) (hi) (τ) 125) : X (pc) ls (.int y :: .int x :: st) (hi) (τ) 125 := r_ishl G.1 _ _ _ _ _ _ _ _ h0 h1
theorem q_ishr {d : Nat} {own : String} {cc : ByteArray} {nL : Nat} {ret : Option FieldType} {ini : Bool} {Post : mm_Q} {X : mm_X} {pc : Nat} {ls : List (Option Value)} {st : List Value} {hi : mm_HI} {τ : mm_T} {x y : Int32} (G : mm_G (mm_wp d) own cc nL ret ini 125 Post X) (h0 : decode cc pc = .ok (.ishr, 1)) (h1 : X (pc + 1) ls (.int (x >>> (y &&& 31)) :: st) (hi) (τ) 125) : X (pc) ls (.int y :: .int x :: st) (hi) (τ) 125 := r_ishr G.1 _ _ _ _ _ _ _ _ h0 h1
theorem q_iushr {d : Nat} {own : String} {cc : ByteArray} {nL : Nat} {ret : Option FieldType} {ini : Bool} {Post : mm_Q} {X : mm_X} {pc : Nat} {ls : List (Option Value)} {st : List Value} {hi : mm_HI} {τ : mm_T} {x y v : Int32} (G : mm_G (mm_wp d) own cc nL ret ini 125 Post X) (h0 : decode cc pc = .ok (.iushr, 1)) (h1 : (x.toUInt32 >>> (y.toUInt32 &&& Int32.toUInt32 31)).toInt32 = v) (h2 : X (pc + 1) ls (.int v :: st) (hi) (τ) 125) : X (pc) ls (.int y :: .int x :: st) (hi) (τ) 125 := r_iushr G.1 _ _ _ _ _ _ _ _ _ h0 h1 h2
theorem q_idiv {d : Nat} {own : String} {cc : ByteArray} {nL : Nat} {ret : Option FieldType} {ini : Bool} {Post : mm_Q} {X : mm_X} {pc : Nat} {ls : List (Option Value)} {st : List Value} {hi : mm_HI} {τ : mm_T} {x y : Int32} (G : mm_G (mm_wp d) own cc nL ret ini 125 Post X) (h0 : decode cc pc = .ok (.idiv, 1)) (h1 : ¬ y = 0) (h2 : X (pc + 1) ls (.int (x / y) :: st) (hi) (τ) 125) : X (pc) ls (.int y :: .int x :: st) (hi) (τ) 125 := r_idiv G.1 _ _ _ _ _ _ _ _ h0 h1 h2
theorem q_irem {d : Nat} {own : String} {cc : ByteArray} {nL : Nat} {ret : Option FieldType} {ini : Bool} {Post : mm_Q} {X : mm_X} {pc : Nat} {ls : List (Option Value)} {st : List Value} {hi : mm_HI} {τ : mm_T} {x y : Int32} (G : mm_G (mm_wp d) own cc nL ret ini 125 Post X) (h0 : decode cc pc = .ok (.irem, 1)) (h1 : ¬ y = 0) (h2 : X (pc + 1) ls (.int (x - x / y * y) :: st) (hi) (τ) 125) : X (pc) ls (.int y :: .int x :: st) (hi) (τ) 125 := r_irem G.1 _ _ _ _ _ _ _ _ h0 h1 h2
theorem q_ineg {d : Nat} {own : String} {cc : ByteArray} {nL : Nat} {ret : Option FieldType} {ini : Bool} {Post : mm_Q} {X : mm_X} {pc : Nat} {ls : List (Option Value)} {st : List Value} {hi : mm_HI} {τ : mm_T} {x : Int32} (G : mm_G (mm_wp d) own cc nL ret ini 125 Post X) (h0 : decode cc pc = .ok (.ineg, 1)) (h1 : X (pc + 1) ls (.int (-x) :: st) (hi) (τ) 125) : X (pc) ls (.int x :: st) (hi) (τ) 125 := r_ineg G.1 _ _ _ _ _ _ _ h0 h1
theorem q_ladd {d : Nat} {own : String} {cc : ByteArray} {nL : Nat} {ret : Option FieldType} {ini : Bool} {Post : mm_Q} {X : mm_X} {pc : Nat} {ls : List (Option Value)} {st : List Value} {hi : mm_HI} {τ : mm_T} {x y : Int64} (G : mm_G (mm_wp d) own cc nL ret ini 125 Post X) (h0 : decode cc pc = .ok (.ladd, 1)) (h1 : X (pc + 1) ls (.long (x + y) :: st) (hi) (τ) 125) : X (pc) ls (.long y :: .long x :: st) (hi) (τ) 125 := r_ladd G.1 _ _ _ _ _ _ _ _ h0 h1
theorem q_lcmp {d : Nat} {own : String} {cc : ByteArray} {nL : Nat} {ret : Option FieldType} {ini : Bool} {Post : mm_Q} {X : mm_X} {pc : Nat} {ls : List (Option Value)} {st : List Value} {hi : mm_HI} {τ : mm_T} {x y : Int64} (G : mm_G (mm_wp d) own cc nL ret ini 125 Post X) (h0 : decode cc pc = .ok (.lcmp, 1)) (h1 : X (pc + 1) ls (.int (lg_cmp x y) :: st) (hi) (τ) 125) : X (pc) ls (.long y :: .long x :: st) (hi) (τ) 125 := r_lcmp G.1 _ _ _ _ _ _ _ _ h0 h1
theorem q_dup {d : Nat} {own : String} {cc : ByteArray} {nL : Nat} {ret : Option FieldType} {ini : Bool} {Post : mm_Q} {X : mm_X} {pc : Nat} {ls : List (Option Value)} {st : List Value} {hi : mm_HI} {τ : mm_T} {v : Value} (G : mm_G (mm_wp d) own cc nL ret ini 125 Post X) (h0 : decode cc pc = .ok (.dup, 1)) (h1 : v.category = 1) (h2 : X (pc + 1) ls (v :: v :: st) (hi) (τ) 125) : X (pc) ls (v :: st) (hi) (τ) 125 := r_dup G.1 _ _ _ _ _ _ _ h0 h1 h2
theorem q_pop {d : Nat} {own : String} {cc : ByteArray} {nL : Nat} {ret : Option FieldType} {ini : Bool} {Post : mm_Q} {X : mm_X} {pc : Nat} {ls : List (Option Value)} {st : List Value} {hi : mm_HI} {τ : mm_T} {v : Value} (G : mm_G (mm_wp d) own cc nL ret ini 125 Post X) (h0 : decode cc pc = .ok (.pop, 1)) (h1 : v.category = 1) (h2 : X (pc + 1) ls (st) (hi) (τ) 125) : X (pc) ls (v :: st) (hi) (τ) 125 := r_pop G.1 _ _ _ _ _ _ _ h0 h1 h2
theorem q_dup_x1 {d : Nat} {own : String} {cc : ByteArray} {nL : Nat} {ret : Option FieldType} {ini : Bool} {Post : mm_Q} {X : mm_X} {pc : Nat} {ls : List (Option Value)} {st : List Value} {hi : mm_HI} {τ : mm_T} {v w : Value} (G : mm_G (mm_wp d) own cc nL ret ini 125 Post X) (h0 : decode cc pc = .ok (.dup_x1, 1)) (h1 : v.category = 1) (h2 : w.category = 1) (h3 : X (pc + 1) ls (v :: w :: v :: st) (hi) (τ) 125) : X (pc) ls (v :: w :: st) (hi) (τ) 125 := r_dup_x1 G.1 _ _ _ _ _ _ _ _ h0 h1 h2 h3
theorem q_dup2 {d : Nat} {own : String} {cc : ByteArray} {nL : Nat} {ret : Option FieldType} {ini : Bool} {Post : mm_Q} {X : mm_X} {pc : Nat} {ls : List (Option Value)} {st : List Value} {hi : mm_HI} {τ : mm_T} {v w : Value} (G : mm_G (mm_wp d) own cc nL ret ini 125 Post X) (h0 : decode cc pc = .ok (.dup2, 1)) (h1 : v.category = 1) (h2 : w.category = 1) (h3 : X (pc + 1) ls (v :: w :: v :: w :: st) (hi) (τ) 125) : X (pc) ls (v :: w :: st) (hi) (τ) 125 := r_dup2 G.1 _ _ _ _ _ _ _ _ h0 h1 h2 h3
theorem q_if_eq {d : Nat} {own : String} {cc : ByteArray} {nL : Nat} {ret : Option FieldType} {ini : Bool} {Post : mm_Q} {X : mm_X} {pc : Nat} {ls : List (Option Value)} {st : List Value} {hi : mm_HI} {τ : mm_T} {x : Int32} {off : Int} {tgt : Nat} (G : mm_G (mm_wp d) own cc nL ret ini 125 Post X) (h0 : decode cc pc = .ok (.ifCond .eq off, 3)) (h1 : (pc : Int) + off = (tgt : Int)) (h2 : ((x = 0) → X (tgt) ls (st) (hi) (τ) 125)) (h3 : ((¬ x = 0) → X (pc + 3) ls (st) (hi) (τ) 125)) : X (pc) ls (.int x :: st) (hi) (τ) 125 := r_if_eq G.1 _ _ _ _ _ _ _ _ _ h0 h1 h2 h3
theorem q_icmp_eq {d : Nat} {own : String} {cc : ByteArray} {nL : Nat} {ret : Option FieldType} {ini : Bool} {Post : mm_Q} {X : mm_X} {pc : Nat} {ls : List (Option Value)} {st : List Value} {hi : mm_HI} {τ : mm_T} {x y : Int32} {off : Int} {tgt : Nat} (G : mm_G (mm_wp d) own cc nL ret ini 125 Post X) (h0 : decode cc pc = .ok (.if_icmp .eq off, 3)) (h1 : (pc : Int) + off = (tgt : Int)) (h2 : ((x = y) → X (tgt) ls (st) (hi) (τ) 125)) (h3 : ((¬ x = y) → X (pc + 3) ls (st) (hi) (τ) 125)) : X (pc) ls (.int y :: .int x :: st) (hi) (τ) 125 := r_icmp_eq G.1 _ _ _ _ _ _ _ _ _ _ h0 h1 h2 h3
theorem q_if_ne {d : Nat} {own : String} {cc : ByteArray} {nL : Nat} {ret : Option FieldType} {ini : Bool} {Post : mm_Q} {X : mm_X} {pc : Nat} {ls : List (Option Value)} {st : List Value} {hi : mm_HI} {τ : mm_T} {x : Int32} {off : Int} {tgt : Nat} (G : mm_G (mm_wp d) own cc nL ret ini 125 Post X) (h0 : decode cc pc = .ok (.ifCond .ne off, 3)) (h1 : (pc : Int) + off = (tgt : Int)) (h2 : ((¬ x = 0) → X (tgt) ls (st) (hi) (τ) 125)) (h3 : ((x = 0) → X (pc + 3) ls (st) (hi) (τ) 125)) : X (pc) ls (.int x :: st) (hi) (τ) 125 := r_if_ne G.1 _ _ _ _ _ _ _ _ _ h0 h1 h2 h3
theorem q_icmp_ne {d : Nat} {own : String} {cc : ByteArray} {nL : Nat} {ret : Option FieldType} {ini : Bool} {Post : mm_Q} {X : mm_X} {pc : Nat} {ls : List (Option Value)} {st : List Value} {hi : mm_HI} {τ : mm_T} {x y : Int32} {off : Int} {tgt : Nat} (G : mm_G (mm_wp d) own cc nL ret ini 125 Post X) (h0 : decode cc pc = .ok (.if_icmp .ne off, 3)) (h1 : (pc : Int) + off = (tgt : Int)) (h2 : ((¬ x = y) → X (tgt) ls (st) (hi) (τ) 125)) (h3 : ((x = y) → X (pc + 3) ls (st) (hi) (τ) 125)) : X (pc) ls (.int y :: .int x :: st) (hi) (τ) 125 := r_icmp_ne G.1 _ _ _ _ _ _ _ _ _ _ h0 h1 h2 h3
theorem q_if_lt {d : Nat} {own : String} {cc : ByteArray} {nL : Nat} {ret : Option FieldType} {ini : Bool} {Post : mm_Q} {X : mm_X} {pc : Nat} {ls : List (Option Value)} {st : List Value} {hi : mm_HI} {τ : mm_T} {x : Int32} {off : Int} {tgt : Nat} (G : mm_G (mm_wp d) own cc nL ret ini 125 Post X) (h0 : decode cc pc = .ok (.ifCond .lt off, 3)) (h1 : (pc : Int) + off = (tgt : Int)) (h2 : ((x < 0) → X (tgt) ls (st) (hi) (τ) 125)) (h3 : ((¬ x < 0) → X (pc + 3) ls (st) (hi) (τ) 125)) : X (pc) ls (.int x :: st) (hi) (τ) 125 := r_if_lt G.1 _ _ _ _ _ _ _ _ _ h0 h1 h2 h3
theorem q_icmp_lt {d : Nat} {own : String} {cc : ByteArray} {nL : Nat} {ret : Option FieldType} {ini : Bool} {Post : mm_Q} {X : mm_X} {pc : Nat} {ls : List (Option Value)} {st : List Value} {hi : mm_HI} {τ : mm_T} {x y : Int32} {off : Int} {tgt : Nat} (G : mm_G (mm_wp d) own cc nL ret ini 125 Post X) (h0 : decode cc pc = .ok (.if_icmp .lt off, 3)) (h1 : (pc : Int) + off = (tgt : Int)) (h2 : ((x < y) → X (tgt) ls (st) (hi) (τ) 125)) (h3 : ((¬ x < y) → X (pc + 3) ls (st) (hi) (τ) 125)) : X (pc) ls (.int y :: .int x :: st) (hi) (τ) 125 := r_icmp_lt G.1 _ _ _ _ _ _ _ _ _ _ h0 h1 h2 h3
theorem q_if_ge {d : Nat} {own : String} {cc : ByteArray} {nL : Nat} {ret : Option FieldType} {ini : Bool} {Post : mm_Q} {X : mm_X} {pc : Nat} {ls : List (Option Value)} {st : List Value} {hi : mm_HI} {τ : mm_T} {x : Int32} {off : Int} {tgt : Nat} (G : mm_G (mm_wp d) own cc nL ret ini 125 Post X) (h0 : decode cc pc = .ok (.ifCond .ge off, 3)) (h1 : (pc : Int) + off = (tgt : Int)) (h2 : ((0 ≤ x) → X (tgt) ls (st) (hi) (τ) 125)) (h3 : ((¬ 0 ≤ x) → X (pc + 3) ls (st) (hi) (τ) 125)) : X (pc) ls (.int x :: st) (hi) (τ) 125 := r_if_ge G.1 _ _ _ _ _ _ _ _ _ h0 h1 h2 h3
theorem q_icmp_ge {d : Nat} {own : String} {cc : ByteArray} {nL : Nat} {ret : Option FieldType} {ini : Bool} {Post : mm_Q} {X : mm_X} {pc : Nat} {ls : List (Option Value)} {st : List Value} {hi : mm_HI} {τ : mm_T} {x y : Int32} {off : Int} {tgt : Nat} (G : mm_G (mm_wp d) own cc nL ret ini 125 Post X) (h0 : decode cc pc = .ok (.if_icmp .ge off, 3)) (h1 : (pc : Int) + off = (tgt : Int)) (h2 : ((y ≤ x) → X (tgt) ls (st) (hi) (τ) 125)) (h3 : ((¬ y ≤ x) → X (pc + 3) ls (st) (hi) (τ) 125)) : X (pc) ls (.int y :: .int x :: st) (hi) (τ) 125 := r_icmp_ge G.1 _ _ _ _ _ _ _ _ _ _ h0 h1 h2 h3
theorem q_if_gt {d : Nat} {own : String} {cc : ByteArray} {nL : Nat} {ret : Option FieldType} {ini : Bool} {Post : mm_Q} {X : mm_X} {pc : Nat} {ls : List (Option Value)} {st : List Value} {hi : mm_HI} {τ : mm_T} {x : Int32} {off : Int} {tgt : Nat} (G : mm_G (mm_wp d) own cc nL ret ini 125 Post X) (h0 : decode cc pc = .ok (.ifCond .gt off, 3)) (h1 : (pc : Int) + off = (tgt : Int)) (h2 : ((0 < x) → X (tgt) ls (st) (hi) (τ) 125)) (h3 : ((¬ 0 < x) → X (pc + 3) ls (st) (hi) (τ) 125)) : X (pc) ls (.int x :: st) (hi) (τ) 125 := r_if_gt G.1 _ _ _ _ _ _ _ _ _ h0 h1 h2 h3
theorem q_icmp_gt {d : Nat} {own : String} {cc : ByteArray} {nL : Nat} {ret : Option FieldType} {ini : Bool} {Post : mm_Q} {X : mm_X} {pc : Nat} {ls : List (Option Value)} {st : List Value} {hi : mm_HI} {τ : mm_T} {x y : Int32} {off : Int} {tgt : Nat} (G : mm_G (mm_wp d) own cc nL ret ini 125 Post X) (h0 : decode cc pc = .ok (.if_icmp .gt off, 3)) (h1 : (pc : Int) + off = (tgt : Int)) (h2 : ((y < x) → X (tgt) ls (st) (hi) (τ) 125)) (h3 : ((¬ y < x) → X (pc + 3) ls (st) (hi) (τ) 125)) : X (pc) ls (.int y :: .int x :: st) (hi) (τ) 125 := r_icmp_gt G.1 _ _ _ _ _ _ _ _ _ _ h0 h1 h2 h3
theorem q_if_le {d : Nat} {own : String} {cc : ByteArray} {nL : Nat} {ret : Option FieldType} {ini : Bool} {Post : mm_Q} {X : mm_X} {pc : Nat} {ls : List (Option Value)} {st : List Value} {hi : mm_HI} {τ : mm_T} {x : Int32} {off : Int} {tgt : Nat} (G : mm_G (mm_wp d) own cc nL ret ini 125 Post X) (h0 : decode cc pc = .ok (.ifCond .le off, 3)) (h1 : (pc : Int) + off = (tgt : Int)) (h2 : ((x ≤ 0) → X (tgt) ls (st) (hi) (τ) 125)) (h3 : ((¬ x ≤ 0) → X (pc + 3) ls (st) (hi) (τ) 125)) : X (pc) ls (.int x :: st) (hi) (τ) 125 := r_if_le G.1 _ _ _ _ _ _ _ _ _ h0 h1 h2 h3
theorem q_icmp_le {d : Nat} {own : String} {cc : ByteArray} {nL : Nat} {ret : Option FieldType} {ini : Bool} {Post : mm_Q} {X : mm_X} {pc : Nat} {ls : List (Option Value)} {st : List Value} {hi : mm_HI} {τ : mm_T} {x y : Int32} {off : Int} {tgt : Nat} (G : mm_G (mm_wp d) own cc nL ret ini 125 Post X) (h0 : decode cc pc = .ok (.if_icmp .le off, 3)) (h1 : (pc : Int) + off = (tgt : Int)) (h2 : ((x ≤ y) → X (tgt) ls (st) (hi) (τ) 125)) (h3 : ((¬ x ≤ y) → X (pc + 3) ls (st) (hi) (τ) 125)) : X (pc) ls (.int y :: .int x :: st) (hi) (τ) 125 := r_icmp_le G.1 _ _ _ _ _ _ _ _ _ _ h0 h1 h2 h3
theorem q_goto {d : Nat} {own : String} {cc : ByteArray} {nL : Nat} {ret : Option FieldType} {ini : Bool} {Post : mm_Q} {X : mm_X} {pc : Nat} {ls : List (Option Value)} {st : List Value} {hi : mm_HI} {τ : mm_T} {off : Int} {tgt : Nat} (G : mm_G (mm_wp d) own cc nL ret ini 125 Post X) (h0 : decode cc pc = .ok (.goto off, 3)) (h1 : (pc : Int) + off = (tgt : Int)) (h2 : X (tgt) ls (st) (hi) (τ) 125) : X (pc) ls (st) (hi) (τ) 125 := r_goto G.1 _ _ _ _ _ _ _ _ h0 h1 h2
theorem q_tableOut {d : Nat} {own : String} {cc : ByteArray} {nL : Nat} {ret : Option FieldType} {ini : Bool} {Post : mm_Q} {X : mm_X} {pc : Nat} {ls : List (Option Value)} {st : List Value} {hi : mm_HI} {τ : mm_T} {dflt lo hh : Int} {offs : Array Int} {len : Nat} {x : Int32} {tgt : Nat} (G : mm_G (mm_wp d) own cc nL ret ini 125 Post X) (h0 : decode cc pc = .ok (.tableswitch dflt lo hh offs, len)) (h1 : (x.toInt < lo ∨ hh < x.toInt)) (h2 : (pc : Int) + dflt = (tgt : Int)) (h3 : X (tgt) ls (st) (hi) (τ) 125) : X (pc) ls (.int x :: st) (hi) (τ) 125 := r_tableOut G.1 _ _ _ _ _ _ _ _ _ _ _ _ _ h0 h1 h2 h3
theorem q_tableIn {d : Nat} {own : String} {cc : ByteArray} {nL : Nat} {ret : Option FieldType} {ini : Bool} {Post : mm_Q} {X : mm_X} {pc : Nat} {ls : List (Option Value)} {st : List Value} {hi : mm_HI} {τ : mm_T} {dflt lo hh : Int} {offs : Array Int} {len : Nat} {x : Int32} {off : Int} {tgt : Nat} (G : mm_G (mm_wp d) own cc nL ret ini 125 Post X) (h0 : decode cc pc = .ok (.tableswitch dflt lo hh offs, len)) (h1 : ¬ x.toInt < lo) (h2 : ¬ hh < x.toInt) (h3 : offs[(x.toInt - lo).toNat]? = some off) (h4 : (pc : Int) + off = (tgt : Int)) (h5 : X (tgt) ls (st) (hi) (τ) 125) : X (pc) ls (.int x :: st) (hi) (τ) 125 := r_tableIn G.1 _ _ _ _ _ _ _ _ _ _ _ _ _ _ h0 h1 h2 h3 h4 h5
theorem q_lookup {d : Nat} {own : String} {cc : ByteArray} {nL : Nat} {ret : Option FieldType} {ini : Bool} {Post : mm_Q} {X : mm_X} {pc : Nat} {ls : List (Option Value)} {st : List Value} {hi : mm_HI} {τ : mm_T} {dflt : Int} {ps : Array (Int × Int)} {len : Nat} {x : Int32} {off : Int} {tgt : Nat} (G : mm_G (mm_wp d) own cc nL ret ini 125 Post X) (h0 : decode cc pc = .ok (.lookupswitch dflt ps, len)) (h1 : (ps.toList.zip (ps.toList.drop 1)).all (fun (a, next) => a.1 < next.1) = true) (h2 : Op.lookupswitch.offset ps.toList dflt x.toInt = off) (h3 : (pc : Int) + off = (tgt : Int)) (h4 : X (tgt) ls (st) (hi) (τ) 125) : X (pc) ls (.int x :: st) (hi) (τ) 125 := r_lookup G.1 _ _ _ _ _ _ _ _ _ _ _ _ h0 h1 h2 h3 h4
theorem q_getI {d : Nat} {own : String} {cc : ByteArray} {nL : Nat} {ret : Option FieldType} {ini : Bool} {Post : mm_Q} {X : mm_X} {pc : Nat} {ls : List (Option Value)} {st : List Value} {hi : mm_HI} {τ : mm_T} {ix ci k tc c : Nat} {fin ow : Bool} {v : Int32} (G : mm_G (mm_wp d) own cc nL ret ini 125 Post X) (h0 : decode cc pc = .ok (.getfield ix, 3)) (h1 : mm_FL own ix ci k tc fin ow) (h2 : tc = 0 ∨ tc = 3) (h3 : mm_lay c = (0, ci)) (hv : hi c k = v) (h4 : X (pc + 3) ls (.int v :: st) hi τ 125) : X pc ls (.ref c :: st) hi τ 125 := r_getI G.1 _ _ _ _ _ _ _ _ _ _ _ _ _ h0 h1 h2 h3 (ly_lt h3 (by decide)) (by rw [hv]; exact h4)
theorem q_getR {d : Nat} {own : String} {cc : ByteArray} {nL : Nat} {ret : Option FieldType} {ini : Bool} {Post : mm_Q} {X : mm_X} {pc : Nat} {ls : List (Option Value)} {st : List Value} {hi : mm_HI} {τ : mm_T} {ix ci k c x : Nat} {fin ow : Bool} (G : mm_G (mm_wp d) own cc nL ret ini 125 Post X) (h0 : decode cc pc = .ok (.getfield ix, 3)) (h1 : mm_FL own ix ci k 1 fin ow) (h3 : mm_lay c = (0, ci)) (hv : τ.1 c k = some x) (h4 : X (pc + 3) ls (.ref x :: st) hi τ 125) : X pc ls (.ref c :: st) hi τ 125 := r_getR G.1 _ _ _ _ _ _ _ _ _ _ _ _ _ h0 h1 rfl h3 (ly_lt h3 (by decide)) (by rw [hv]; exact h4)
theorem q_getL {d : Nat} {own : String} {cc : ByteArray} {nL : Nat} {ret : Option FieldType} {ini : Bool} {Post : mm_Q} {X : mm_X} {pc : Nat} {ls : List (Option Value)} {st : List Value} {hi : mm_HI} {τ : mm_T} {ix ci k c : Nat} {fin ow : Bool} (G : mm_G (mm_wp d) own cc nL ret ini 125 Post X) (h0 : decode cc pc = .ok (.getfield ix, 3)) (h1 : mm_FL own ix ci k 2 fin ow) (h3 : mm_lay c = (0, ci)) (h4 : X (pc + 3) ls (.long (τ.2 c k) :: st) hi τ 125) : X pc ls (.ref c :: st) hi τ 125 := r_getL G.1 _ _ _ _ _ _ _ _ _ _ _ _ _ h0 h1 rfl h3 (ly_lt h3 (by decide)) h4
theorem q_putI {d : Nat} {own : String} {cc : ByteArray} {nL : Nat} {ret : Option FieldType} {ini : Bool} {Post : mm_Q} {X : mm_X} {pc : Nat} {ls : List (Option Value)} {st : List Value} {hi : mm_HI} {τ : mm_T} {ix ci k c : Nat} {ow : Bool} {x : Int32} (G : mm_G (mm_wp d) own cc nL ret ini 125 Post X) (h0 : decode cc pc = .ok (.putfield ix, 3)) (h1 : mm_FL own ix ci k 0 false ow) (h3 : mm_lay c = (0, ci)) (h4 : X (pc + 3) ls st (mm_up2 hi c k x) τ 125) : X pc ls (.int x :: .ref c :: st) hi τ 125 := r_putI G.1 _ _ _ _ _ _ _ _ _ _ _ _ _ _ h0 h1 (Or.inl rfl) (Or.inl rfl) h3 (ly_lt h3 (by decide)) h4
theorem q_putR {d : Nat} {own : String} {cc : ByteArray} {nL : Nat} {ret : Option FieldType} {ini : Bool} {Post : mm_Q} {X : mm_X} {pc : Nat} {ls : List (Option Value)} {st : List Value} {hi : mm_HI} {τ : mm_T} {ix ci k c x : Nat} {ow : Bool} (G : mm_G (mm_wp d) own cc nL ret ini 125 Post X) (h0 : decode cc pc = .ok (.putfield ix, 3)) (h1 : mm_FL own ix ci k 1 false ow) (h3 : mm_lay c = (0, ci)) (h4 : X (pc + 3) ls st hi (va_up τ.1 c (va_up (τ.1 c) k (some x)), τ.2) 125) : X pc ls (.ref x :: .ref c :: st) hi τ 125 := r_putR G.1 _ _ _ _ _ _ _ _ _ _ _ _ _ _ h0 h1 (Or.inl rfl) rfl h3 (ly_lt h3 (by decide)) h4
theorem q_putL {d : Nat} {own : String} {cc : ByteArray} {nL : Nat} {ret : Option FieldType} {ini : Bool} {Post : mm_Q} {X : mm_X} {pc : Nat} {ls : List (Option Value)} {st : List Value} {hi : mm_HI} {τ : mm_T} {ix ci k c : Nat} {ow : Bool} {x : Int64} (G : mm_G (mm_wp d) own cc nL ret ini 125 Post X) (h0 : decode cc pc = .ok (.putfield ix, 3)) (h1 : mm_FL own ix ci k 2 false ow) (h3 : mm_lay c = (0, ci)) (h4 : X (pc + 3) ls st hi (τ.1, va_up τ.2 c (va_up (τ.2 c) k x)) 125) : X pc ls (.long x :: .ref c :: st) hi τ 125 := r_putL G.1 _ _ _ _ _ _ _ _ _ _ _ _ _ _ h0 h1 (Or.inl rfl) rfl h3 (ly_lt h3 (by decide)) h4
theorem ix_in {i : Int32} {j N c : Nat} (hl : mm_lay c = (1, N)) (hj : i = nI j) (hb : j < N) : vp_in i N ∧ i.toNatClampNeg = j := by
  have := ly_bd hl
  subst hj
  exact ⟨vp_in_nI hb (by omega), nI_clamp (by omega)⟩
theorem q_iald {d : Nat} {own : String} {cc : ByteArray} {nL : Nat} {ret : Option FieldType} {ini : Bool} {Post : mm_Q} {X : mm_X} {pc : Nat} {ls : List (Option Value)} {st : List Value} {hi : mm_HI} {τ : mm_T} {c N j : Nat} {i v : Int32} (G : mm_G (mm_wp d) own cc nL ret ini 125 Post X) (h0 : decode cc pc = .ok (.iaload, 1)) (h1 : mm_lay c = (1, N)) (hj : i = nI j) (hb : j < N) (hv : hi c j = v) (h4 : X (pc + 1) ls (.int v :: st) hi τ 125) : X pc ls (.int i :: .ref c :: st) hi τ 125 := r_iald G.1 _ _ _ _ _ _ _ _ _ h0 h1 (ly_lt h1 (by decide)) (ix_in h1 hj hb).1 (by rw [(ix_in h1 hj hb).2, hv]; exact h4)
theorem q_iast {d : Nat} {own : String} {cc : ByteArray} {nL : Nat} {ret : Option FieldType} {ini : Bool} {Post : mm_Q} {X : mm_X} {pc : Nat} {ls : List (Option Value)} {st : List Value} {hi : mm_HI} {τ : mm_T} {c N j : Nat} {i x : Int32} (G : mm_G (mm_wp d) own cc nL ret ini 125 Post X) (h0 : decode cc pc = .ok (.iastore, 1)) (h1 : mm_lay c = (1, N)) (hj : i = nI j) (hb : j < N) (h4 : X (pc + 1) ls st (mm_up2 hi c j x) τ 125) : X pc ls (.int x :: .int i :: .ref c :: st) hi τ 125 := r_iast G.1 _ _ _ _ _ _ _ _ _ _ h0 h1 (ly_lt h1 (by decide)) (ix_in h1 hj hb).1 (by rw [(ix_in h1 hj hb).2]; exact h4)
theorem q_alen {d : Nat} {own : String} {cc : ByteArray} {nL : Nat} {ret : Option FieldType} {ini : Bool} {Post : mm_Q} {X : mm_X} {pc : Nat} {ls : List (Option Value)} {st : List Value} {hi : mm_HI} {τ : mm_T} {c N : Nat} (G : mm_G (mm_wp d) own cc nL ret ini 125 Post X) (h0 : decode cc pc = .ok (.arraylength, 1)) (h1 : mm_lay c = (1, N)) (h4 : X (pc + 1) ls (.int (nI N) :: st) hi τ 125) : X pc ls (.ref c :: st) hi τ 125 := r_alen G.1 _ _ _ _ _ _ _ _ h0 h1 (ly_lt h1 (by decide)) h4
theorem q_aald {d : Nat} {own : String} {cc : ByteArray} {nL : Nat} {ret : Option FieldType} {ini : Bool} {Post : mm_Q} {X : mm_X} {pc : Nat} {ls : List (Option Value)} {st : List Value} {hi : mm_HI} {τ : mm_T} {c N j x : Nat} {i : Int32} (G : mm_G (mm_wp d) own cc nL ret ini 125 Post X) (h0 : decode cc pc = .ok (.aaload, 1)) (h1 : mm_lay c = (2, N)) (hj : i = nI j) (hb : j < N) (hN : N < 2000) (hv : τ.1 c j = some x) (h4 : X (pc + 1) ls (.ref x :: st) hi τ 125) : X pc ls (.int i :: .ref c :: st) hi τ 125 := r_aald G.1 _ _ _ _ _ _ _ _ _ h0 h1 (ly_lt h1 (by decide)) (by subst hj; exact vp_in_nI hb (by omega)) (by subst hj; rw [nI_clamp (by omega), hv]; exact h4)
theorem q_copy6 {d : Nat} {own : String} {cc : ByteArray} {nL : Nat} {ret : Option FieldType} {ini : Bool} {Post : mm_Q} {X : mm_X} {pc : Nat} {ls : List (Option Value)} {st : List Value} {hi : mm_HI} {τ : mm_T} {ix c c1 : Nat} (G : mm_G (mm_wp d) own cc nL ret ini 125 Post X) (h0 : decode cc pc = .ok (.invokestatic ix, 3)) (h1 : mm_in (Cond.methodLink own ix arraycopyName)) (h2 : mm_lay c = (1, 6)) (h3 : mm_lay c1 = (1, 6)) (hs : (st.map fun v => v.category).sum ≤ 8) (h4 : X (pc + 3) ls st (va_up hi c1 (va_cpy (hi c) (hi c1) 0 0 6)) τ 125) : X pc ls (.int (nI 6) :: .int (nI 0) :: .ref c1 :: .int (nI 0) :: .ref c :: st) hi τ 125 := r_copy G.1 _ _ _ _ _ _ _ _ _ _ _ _ _ _ h0 h1 h2 (ly_lt h2 (by decide)) h3 (ly_lt h3 (by decide)) (by decide) (by decide) (by decide) (by decide) (by decide) hs h4
theorem q_iaddN {d : Nat} {own : String} {cc : ByteArray} {nL : Nat} {ret : Option FieldType} {ini : Bool} {Post : mm_Q} {X : mm_X} {pc : Nat} {ls : List (Option Value)} {st : List Value} {hi : mm_HI} {τ : mm_T} {a b : Nat} (G : mm_G (mm_wp d) own cc nL ret ini 125 Post X) (hd : decode cc pc = .ok (.iadd, 1)) (k : X (pc + 1) ls (.int (nI (a + b)) :: st) hi τ 125) : X pc ls (.int (nI b) :: .int (nI a) :: st) hi τ 125 := q_iadd G hd (by rw [nI_add]; exact k)
theorem q_imulN {d : Nat} {own : String} {cc : ByteArray} {nL : Nat} {ret : Option FieldType} {ini : Bool} {Post : mm_Q} {X : mm_X} {pc : Nat} {ls : List (Option Value)} {st : List Value} {hi : mm_HI} {τ : mm_T} {a b : Nat} (G : mm_G (mm_wp d) own cc nL ret ini 125 Post X) (hd : decode cc pc = .ok (.imul, 1)) (k : X (pc + 1) ls (.int (nI (a * b)) :: st) hi τ 125) : X pc ls (.int (nI b) :: .int (nI a) :: st) hi τ 125 := q_imul G hd (by rw [pk_mul]; exact k)
theorem q_isubN {d : Nat} {own : String} {cc : ByteArray} {nL : Nat} {ret : Option FieldType} {ini : Bool} {Post : mm_Q} {X : mm_X} {pc : Nat} {ls : List (Option Value)} {st : List Value} {hi : mm_HI} {τ : mm_T} {a b : Nat} (G : mm_G (mm_wp d) own cc nL ret ini 125 Post X) (hd : decode cc pc = .ok (.isub, 1)) (h : b ≤ a) (k : X (pc + 1) ls (.int (nI (a - b)) :: st) hi τ 125) : X pc ls (.int (nI b) :: .int (nI a) :: st) hi τ 125 := q_isub G hd (by rw [pk_sub h]; exact k)
theorem q_idivN {d : Nat} {own : String} {cc : ByteArray} {nL : Nat} {ret : Option FieldType} {ini : Bool} {Post : mm_Q} {X : mm_X} {pc : Nat} {ls : List (Option Value)} {st : List Value} {hi : mm_HI} {τ : mm_T} {a b : Nat} (G : mm_G (mm_wp d) own cc nL ret ini 125 Post X) (hd : decode cc pc = .ok (.idiv, 1)) (h : 0 < b) (ha : a < 2 ^ 31) (hb : b < 2 ^ 31) (k : X (pc + 1) ls (.int (nI (a / b)) :: st) hi τ 125) : X pc ls (.int (nI b) :: .int (nI a) :: st) hi τ 125 := q_idiv G hd (nI_ne0 h hb) (by rw [pk_div ha h hb]; exact k)
theorem q_iremN {d : Nat} {own : String} {cc : ByteArray} {nL : Nat} {ret : Option FieldType} {ini : Bool} {Post : mm_Q} {X : mm_X} {pc : Nat} {ls : List (Option Value)} {st : List Value} {hi : mm_HI} {τ : mm_T} {a b : Nat} (G : mm_G (mm_wp d) own cc nL ret ini 125 Post X) (hd : decode cc pc = .ok (.irem, 1)) (h : 0 < b) (ha : a < 2 ^ 31) (hb : b < 2 ^ 31) (k : X (pc + 1) ls (.int (nI (a % b)) :: st) hi τ 125) : X pc ls (.int (nI b) :: .int (nI a) :: st) hi τ 125 := q_irem G hd (nI_ne0 h hb) (by rw [pk_rem ha h hb]; exact k)
theorem q_iincN {d : Nat} {own : String} {cc : ByteArray} {nL : Nat} {ret : Option FieldType} {ini : Bool} {Post : mm_Q} {X : mm_X} {pc : Nat} {ls : List (Option Value)} {st : List Value} {hi : mm_HI} {τ : mm_T} {j a b : Nat} {z : Int} (G : mm_G (mm_wp d) own cc nL ret ini 125 Post X) (hd : decode cc pc = .ok (.iinc j z, 3)) (h0 : ls[j]? = some (some (.int (nI a)))) (h1 : nI a + Int32.ofInt z = nI b) (h2 : j < nL) (k : X (pc + 3) (ls.set j (some (.int (nI b)))) st hi τ 125) : X pc ls st hi τ 125 := q_iinc G hd h0 h1 h2 k
theorem inc1 (a : Nat) : nI a + Int32.ofInt 1 = nI (a + 1) := nI_1 a
theorem inc2 (a : Nat) : nI a + Int32.ofInt 2 = nI (a + 2) := nI_add a 2
theorem inc4 (a : Nat) : nI a + Int32.ofInt 4 = nI (a + 4) := nI_add a 4
theorem dec1 {a : Nat} (h : 0 < a) : nI a + Int32.ofInt (-1) = nI (a - 1) := sb_m1 h
theorem q_icmp_eqN {d : Nat} {own : String} {cc : ByteArray} {nL : Nat} {ret : Option FieldType} {ini : Bool} {Post : mm_Q} {X : mm_X} {pc : Nat} {ls : List (Option Value)} {st : List Value} {hi : mm_HI} {τ : mm_T} {a b : Nat} {off : Int} {tgt : Nat} (G : mm_G (mm_wp d) own cc nL ret ini 125 Post X) (hd : decode cc pc = .ok (.if_icmp .eq off, 3)) (ht : (pc : Int) + off = (tgt : Int)) (ha : a < 2 ^ 31) (hb : b < 2 ^ 31) (kt : a = b → X tgt ls st hi τ 125) (kf : a ≠ b → X (pc + 3) ls st hi τ 125) : X pc ls (.int (nI b) :: .int (nI a) :: st) hi τ 125 := q_icmp_eq G hd ht (fun q => kt ((nI_eq ha hb).mp q)) (fun q => kf (fun z => q ((nI_eq ha hb).mpr z)))
theorem q_icmp_neN {d : Nat} {own : String} {cc : ByteArray} {nL : Nat} {ret : Option FieldType} {ini : Bool} {Post : mm_Q} {X : mm_X} {pc : Nat} {ls : List (Option Value)} {st : List Value} {hi : mm_HI} {τ : mm_T} {a b : Nat} {off : Int} {tgt : Nat} (G : mm_G (mm_wp d) own cc nL ret ini 125 Post X) (hd : decode cc pc = .ok (.if_icmp .ne off, 3)) (ht : (pc : Int) + off = (tgt : Int)) (ha : a < 2 ^ 31) (hb : b < 2 ^ 31) (kt : a ≠ b → X tgt ls st hi τ 125) (kf : a = b → X (pc + 3) ls st hi τ 125) : X pc ls (.int (nI b) :: .int (nI a) :: st) hi τ 125 := q_icmp_ne G hd ht (fun q => kt (fun z => q ((nI_eq ha hb).mpr z))) (fun q => kf ((nI_eq ha hb).mp q))
theorem q_icmp_ltN {d : Nat} {own : String} {cc : ByteArray} {nL : Nat} {ret : Option FieldType} {ini : Bool} {Post : mm_Q} {X : mm_X} {pc : Nat} {ls : List (Option Value)} {st : List Value} {hi : mm_HI} {τ : mm_T} {a b : Nat} {off : Int} {tgt : Nat} (G : mm_G (mm_wp d) own cc nL ret ini 125 Post X) (hd : decode cc pc = .ok (.if_icmp .lt off, 3)) (ht : (pc : Int) + off = (tgt : Int)) (ha : a < 2 ^ 31) (hb : b < 2 ^ 31) (kt : a < b → X tgt ls st hi τ 125) (kf : b ≤ a → X (pc + 3) ls st hi τ 125) : X pc ls (.int (nI b) :: .int (nI a) :: st) hi τ 125 := q_icmp_lt G hd ht (fun q => kt ((nI_ltI ha hb).mp q)) (fun q => kf (Nat.not_lt.mp (fun z => q ((nI_ltI ha hb).mpr z))))
theorem q_icmp_geN {d : Nat} {own : String} {cc : ByteArray} {nL : Nat} {ret : Option FieldType} {ini : Bool} {Post : mm_Q} {X : mm_X} {pc : Nat} {ls : List (Option Value)} {st : List Value} {hi : mm_HI} {τ : mm_T} {a b : Nat} {off : Int} {tgt : Nat} (G : mm_G (mm_wp d) own cc nL ret ini 125 Post X) (hd : decode cc pc = .ok (.if_icmp .ge off, 3)) (ht : (pc : Int) + off = (tgt : Int)) (ha : a < 2 ^ 31) (hb : b < 2 ^ 31) (kt : b ≤ a → X tgt ls st hi τ 125) (kf : a < b → X (pc + 3) ls st hi τ 125) : X pc ls (.int (nI b) :: .int (nI a) :: st) hi τ 125 := q_icmp_ge G hd ht (fun q => kt ((nI_leI hb ha).mp q)) (fun q => kf (Nat.not_le.mp (fun z => q ((nI_leI hb ha).mpr z))))
theorem q_icmp_gtN {d : Nat} {own : String} {cc : ByteArray} {nL : Nat} {ret : Option FieldType} {ini : Bool} {Post : mm_Q} {X : mm_X} {pc : Nat} {ls : List (Option Value)} {st : List Value} {hi : mm_HI} {τ : mm_T} {a b : Nat} {off : Int} {tgt : Nat} (G : mm_G (mm_wp d) own cc nL ret ini 125 Post X) (hd : decode cc pc = .ok (.if_icmp .gt off, 3)) (ht : (pc : Int) + off = (tgt : Int)) (ha : a < 2 ^ 31) (hb : b < 2 ^ 31) (kt : b < a → X tgt ls st hi τ 125) (kf : a ≤ b → X (pc + 3) ls st hi τ 125) : X pc ls (.int (nI b) :: .int (nI a) :: st) hi τ 125 := q_icmp_gt G hd ht (fun q => kt ((nI_ltI hb ha).mp q)) (fun q => kf (Nat.not_lt.mp (fun z => q ((nI_ltI hb ha).mpr z))))
theorem q_icmp_leN {d : Nat} {own : String} {cc : ByteArray} {nL : Nat} {ret : Option FieldType} {ini : Bool} {Post : mm_Q} {X : mm_X} {pc : Nat} {ls : List (Option Value)} {st : List Value} {hi : mm_HI} {τ : mm_T} {a b : Nat} {off : Int} {tgt : Nat} (G : mm_G (mm_wp d) own cc nL ret ini 125 Post X) (hd : decode cc pc = .ok (.if_icmp .le off, 3)) (ht : (pc : Int) + off = (tgt : Int)) (ha : a < 2 ^ 31) (hb : b < 2 ^ 31) (kt : a ≤ b → X tgt ls st hi τ 125) (kf : b < a → X (pc + 3) ls st hi τ 125) : X pc ls (.int (nI b) :: .int (nI a) :: st) hi τ 125 := q_icmp_le G hd ht (fun q => kt ((nI_leI ha hb).mp q)) (fun q => kf (Nat.not_le.mp (fun z => q ((nI_leI ha hb).mpr z))))
theorem nI_z {a : Nat} (ha : a < 2 ^ 31) : nI a = 0 ↔ a = 0 := by rw [← nI_0]; exact nI_eq ha (by decide)
theorem q_if_eqN {d : Nat} {own : String} {cc : ByteArray} {nL : Nat} {ret : Option FieldType} {ini : Bool} {Post : mm_Q} {X : mm_X} {pc : Nat} {ls : List (Option Value)} {st : List Value} {hi : mm_HI} {τ : mm_T} {a : Nat} {off : Int} {tgt : Nat} (G : mm_G (mm_wp d) own cc nL ret ini 125 Post X) (hd : decode cc pc = .ok (.ifCond .eq off, 3)) (ht : (pc : Int) + off = (tgt : Int)) (ha : a < 2 ^ 31) (kt : a = 0 → X tgt ls st hi τ 125) (kf : a ≠ 0 → X (pc + 3) ls st hi τ 125) : X pc ls (.int (nI a) :: st) hi τ 125 := q_if_eq G hd ht (fun q => kt ((nI_z ha).mp q)) (fun q => kf (fun z => q ((nI_z ha).mpr z)))
theorem q_if_neN {d : Nat} {own : String} {cc : ByteArray} {nL : Nat} {ret : Option FieldType} {ini : Bool} {Post : mm_Q} {X : mm_X} {pc : Nat} {ls : List (Option Value)} {st : List Value} {hi : mm_HI} {τ : mm_T} {a : Nat} {off : Int} {tgt : Nat} (G : mm_G (mm_wp d) own cc nL ret ini 125 Post X) (hd : decode cc pc = .ok (.ifCond .ne off, 3)) (ht : (pc : Int) + off = (tgt : Int)) (ha : a < 2 ^ 31) (kt : a ≠ 0 → X tgt ls st hi τ 125) (kf : a = 0 → X (pc + 3) ls st hi τ 125) : X pc ls (.int (nI a) :: st) hi τ 125 := q_if_ne G hd ht (fun q => kt (fun z => q ((nI_z ha).mpr z))) (fun q => kf ((nI_z ha).mp q))
theorem q_if_leN {d : Nat} {own : String} {cc : ByteArray} {nL : Nat} {ret : Option FieldType} {ini : Bool} {Post : mm_Q} {X : mm_X} {pc : Nat} {ls : List (Option Value)} {st : List Value} {hi : mm_HI} {τ : mm_T} {a : Nat} {off : Int} {tgt : Nat} (G : mm_G (mm_wp d) own cc nL ret ini 125 Post X) (hd : decode cc pc = .ok (.ifCond .le off, 3)) (ht : (pc : Int) + off = (tgt : Int)) (ha : a < 2 ^ 31) (kt : a = 0 → X tgt ls st hi τ 125) (kf : 0 < a → X (pc + 3) ls st hi τ 125) : X pc ls (.int (nI a) :: st) hi τ 125 := q_if_le G hd ht (fun q => kt (by rcases Nat.eq_zero_or_pos a with z | z; exact z; exact absurd q (nI_nle z ha))) (fun q => kf (by rcases Nat.eq_zero_or_pos a with z | z; exact absurd (by rw [z]; decide) q; exact z))
theorem q_if_gtN {d : Nat} {own : String} {cc : ByteArray} {nL : Nat} {ret : Option FieldType} {ini : Bool} {Post : mm_Q} {X : mm_X} {pc : Nat} {ls : List (Option Value)} {st : List Value} {hi : mm_HI} {τ : mm_T} {a : Nat} {off : Int} {tgt : Nat} (G : mm_G (mm_wp d) own cc nL ret ini 125 Post X) (hd : decode cc pc = .ok (.ifCond .gt off, 3)) (ht : (pc : Int) + off = (tgt : Int)) (ha : a < 2 ^ 31) (kt : 0 < a → X tgt ls st hi τ 125) (kf : a = 0 → X (pc + 3) ls st hi τ 125) : X pc ls (.int (nI a) :: st) hi τ 125 := q_if_gt G hd ht (fun q => kt (by rcases Nat.eq_zero_or_pos a with z | z; exact absurd q (by rw [z]; decide); exact z)) (fun q => kf (by rcases Nat.eq_zero_or_pos a with z | z; exact z; exact absurd (by rw [← nI_0]; exact nI_lt z ha) q))
theorem q_cS0I {d : Nat} {own : String} {cc : ByteArray} {nL : Nat} {ret : Option FieldType} {ini : Bool} {Post : mm_Q} {X : mm_X} {pc : Nat} {ls : List (Option Value)} {st : List Value} {hi : mm_HI} {τ : mm_T} {ix : Nat} {y : MethodName}  (G : mm_G (mm_wp d) own cc nL ret ini 125 Post X) (hd : decode cc pc = .ok (.invokestatic ix, 3)) (hv : mm_CS own ix y 0)  {P : Int32 → mm_HI → Prop} (hc : wI d y [] hi τ P) (hs : (st.map fun v => v.category).sum ≤ 8) (k : ∀ (r : Int32) (hi2 : mm_HI), P r hi2 → X (pc + 3) ls (.int r :: st) hi2 τ 125) : X pc ls (st) hi τ 125 := r_callS G.1 _ _ _ _ _ _ _ _ [] _ _ _ _ hd hv rfl hc (Nat.le_refl _) rfl hs (fun v h2 t2 hp => by obtain ⟨rfl, r, rfl, hq⟩ := hp; exact k r h2 hq)
theorem q_cS0V {d : Nat} {own : String} {cc : ByteArray} {nL : Nat} {ret : Option FieldType} {ini : Bool} {Post : mm_Q} {X : mm_X} {pc : Nat} {ls : List (Option Value)} {st : List Value} {hi : mm_HI} {τ : mm_T} {ix : Nat} {y : MethodName}  (G : mm_G (mm_wp d) own cc nL ret ini 125 Post X) (hd : decode cc pc = .ok (.invokestatic ix, 3)) (hv : mm_CS own ix y 0)  {P : mm_HI → Prop} (hc : wV d y [] hi τ P) (hs : (st.map fun v => v.category).sum ≤ 8) (k : ∀ (hi2 : mm_HI), P hi2 → X (pc + 3) ls st hi2 τ 125) : X pc ls (st) hi τ 125 := r_callS G.1 _ _ _ _ _ _ _ _ [] _ _ _ _ hd hv rfl hc (Nat.le_refl _) rfl hs (fun v h2 t2 hp => by obtain ⟨rfl, rfl, hq⟩ := hp; exact k h2 hq)
theorem q_cS0B {d : Nat} {own : String} {cc : ByteArray} {nL : Nat} {ret : Option FieldType} {ini : Bool} {Post : mm_Q} {X : mm_X} {pc : Nat} {ls : List (Option Value)} {st : List Value} {hi : mm_HI} {τ : mm_T} {ix : Nat} {y : MethodName}  (G : mm_G (mm_wp d) own cc nL ret ini 125 Post X) (hd : decode cc pc = .ok (.invokestatic ix, 3)) (hv : mm_CS own ix y 0)  {p : Prop} (hc : wB d y [] hi τ p) (hs : (st.map fun v => v.category).sum ≤ 8) (kt : p → X (pc + 3) ls (.int (nI 1) :: st) hi τ 125) (kf : ¬ p → X (pc + 3) ls (.int (nI 0) :: st) hi τ 125) : X pc ls (st) hi τ 125 := r_callS G.1 _ _ _ _ _ _ _ _ [] _ _ _ _ hd hv rfl hc (Nat.le_refl _) rfl hs (fun v h2 t2 hp => by obtain ⟨rfl, rfl, ⟨hq, rfl⟩ | ⟨hq, rfl⟩⟩ := hp; exact kt hq; exact kf hq)
theorem q_cS0E {d : Nat} {own : String} {cc : ByteArray} {nL : Nat} {ret : Option FieldType} {ini : Bool} {Post : mm_Q} {X : mm_X} {pc : Nat} {ls : List (Option Value)} {st : List Value} {hi : mm_HI} {τ : mm_T} {ix : Nat} {y : MethodName}  (G : mm_G (mm_wp d) own cc nL ret ini 125 Post X) (hd : decode cc pc = .ok (.invokestatic ix, 3)) (hv : mm_CS own ix y 0)  {r : Int32} (hc : wE d y [] hi τ r) (hs : (st.map fun v => v.category).sum ≤ 8) (k : X (pc + 3) ls (.int r :: st) hi τ 125) : X pc ls (st) hi τ 125 := r_callS G.1 _ _ _ _ _ _ _ _ [] _ _ _ _ hd hv rfl hc (Nat.le_refl _) rfl hs (fun v h2 t2 hp => by obtain ⟨rfl, rfl, rfl⟩ := hp; exact k)
theorem q_cS0A {d : Nat} {own : String} {cc : ByteArray} {nL : Nat} {ret : Option FieldType} {ini : Bool} {Post : mm_Q} {X : mm_X} {pc : Nat} {ls : List (Option Value)} {st : List Value} {hi : mm_HI} {τ : mm_T} {ix : Nat} {y : MethodName}  (G : mm_G (mm_wp d) own cc nL ret ini 125 Post X) (hd : decode cc pc = .ok (.invokestatic ix, 3)) (hv : mm_CS own ix y 0)  {x : Nat} (hc : wA d y [] hi τ x) (hs : (st.map fun v => v.category).sum ≤ 8) (k : X (pc + 3) ls (.ref x :: st) hi τ 125) : X pc ls (st) hi τ 125 := r_callS G.1 _ _ _ _ _ _ _ _ [] _ _ _ _ hd hv rfl hc (Nat.le_refl _) rfl hs (fun v h2 t2 hp => by obtain ⟨rfl, rfl, rfl⟩ := hp; exact k)
theorem q_cS0R {d : Nat} {own : String} {cc : ByteArray} {nL : Nat} {ret : Option FieldType} {ini : Bool} {Post : mm_Q} {X : mm_X} {pc : Nat} {ls : List (Option Value)} {st : List Value} {hi : mm_HI} {τ : mm_T} {ix : Nat} {y : MethodName}  (G : mm_G (mm_wp d) own cc nL ret ini 125 Post X) (hd : decode cc pc = .ok (.invokestatic ix, 3)) (hv : mm_CS own ix y 0)  {Q : mm_Q} (hc : wR d y [] hi τ Q) (hs : (st.map fun v => v.category).sum ≤ 8) (k : ∀ (v : Option Value) (hi2 : mm_HI) (τ2 : mm_T), Q v hi2 τ2 → X (pc + 3) ls (v.toList ++ st) hi2 τ2 125) : X pc ls (st) hi τ 125 := r_callS G.1 _ _ _ _ _ _ _ _ [] _ _ _ _ hd hv rfl hc (Nat.le_refl _) rfl hs k
theorem q_cS1I {d : Nat} {own : String} {cc : ByteArray} {nL : Nat} {ret : Option FieldType} {ini : Bool} {Post : mm_Q} {X : mm_X} {pc : Nat} {ls : List (Option Value)} {st : List Value} {hi : mm_HI} {τ : mm_T} {ix : Nat} {y : MethodName} {a1 : Value}  (G : mm_G (mm_wp d) own cc nL ret ini 125 Post X) (hd : decode cc pc = .ok (.invokestatic ix, 3)) (hv : mm_CS own ix y 1)  {P : Int32 → mm_HI → Prop} (hc : wI d y [a1] hi τ P) (hs : (st.map fun v => v.category).sum ≤ 8) (k : ∀ (r : Int32) (hi2 : mm_HI), P r hi2 → X (pc + 3) ls (.int r :: st) hi2 τ 125) : X pc ls (a1 :: st) hi τ 125 := r_callS G.1 _ _ _ _ _ _ _ _ [a1] _ _ _ _ hd hv rfl hc (Nat.le_refl _) rfl hs (fun v h2 t2 hp => by obtain ⟨rfl, r, rfl, hq⟩ := hp; exact k r h2 hq)
theorem q_cS1V {d : Nat} {own : String} {cc : ByteArray} {nL : Nat} {ret : Option FieldType} {ini : Bool} {Post : mm_Q} {X : mm_X} {pc : Nat} {ls : List (Option Value)} {st : List Value} {hi : mm_HI} {τ : mm_T} {ix : Nat} {y : MethodName} {a1 : Value}  (G : mm_G (mm_wp d) own cc nL ret ini 125 Post X) (hd : decode cc pc = .ok (.invokestatic ix, 3)) (hv : mm_CS own ix y 1)  {P : mm_HI → Prop} (hc : wV d y [a1] hi τ P) (hs : (st.map fun v => v.category).sum ≤ 8) (k : ∀ (hi2 : mm_HI), P hi2 → X (pc + 3) ls st hi2 τ 125) : X pc ls (a1 :: st) hi τ 125 := r_callS G.1 _ _ _ _ _ _ _ _ [a1] _ _ _ _ hd hv rfl hc (Nat.le_refl _) rfl hs (fun v h2 t2 hp => by obtain ⟨rfl, rfl, hq⟩ := hp; exact k h2 hq)
theorem q_cS1B {d : Nat} {own : String} {cc : ByteArray} {nL : Nat} {ret : Option FieldType} {ini : Bool} {Post : mm_Q} {X : mm_X} {pc : Nat} {ls : List (Option Value)} {st : List Value} {hi : mm_HI} {τ : mm_T} {ix : Nat} {y : MethodName} {a1 : Value}  (G : mm_G (mm_wp d) own cc nL ret ini 125 Post X) (hd : decode cc pc = .ok (.invokestatic ix, 3)) (hv : mm_CS own ix y 1)  {p : Prop} (hc : wB d y [a1] hi τ p) (hs : (st.map fun v => v.category).sum ≤ 8) (kt : p → X (pc + 3) ls (.int (nI 1) :: st) hi τ 125) (kf : ¬ p → X (pc + 3) ls (.int (nI 0) :: st) hi τ 125) : X pc ls (a1 :: st) hi τ 125 := r_callS G.1 _ _ _ _ _ _ _ _ [a1] _ _ _ _ hd hv rfl hc (Nat.le_refl _) rfl hs (fun v h2 t2 hp => by obtain ⟨rfl, rfl, ⟨hq, rfl⟩ | ⟨hq, rfl⟩⟩ := hp; exact kt hq; exact kf hq)
theorem q_cS1E {d : Nat} {own : String} {cc : ByteArray} {nL : Nat} {ret : Option FieldType} {ini : Bool} {Post : mm_Q} {X : mm_X} {pc : Nat} {ls : List (Option Value)} {st : List Value} {hi : mm_HI} {τ : mm_T} {ix : Nat} {y : MethodName} {a1 : Value}  (G : mm_G (mm_wp d) own cc nL ret ini 125 Post X) (hd : decode cc pc = .ok (.invokestatic ix, 3)) (hv : mm_CS own ix y 1)  {r : Int32} (hc : wE d y [a1] hi τ r) (hs : (st.map fun v => v.category).sum ≤ 8) (k : X (pc + 3) ls (.int r :: st) hi τ 125) : X pc ls (a1 :: st) hi τ 125 := r_callS G.1 _ _ _ _ _ _ _ _ [a1] _ _ _ _ hd hv rfl hc (Nat.le_refl _) rfl hs (fun v h2 t2 hp => by obtain ⟨rfl, rfl, rfl⟩ := hp; exact k)
theorem q_cS1A {d : Nat} {own : String} {cc : ByteArray} {nL : Nat} {ret : Option FieldType} {ini : Bool} {Post : mm_Q} {X : mm_X} {pc : Nat} {ls : List (Option Value)} {st : List Value} {hi : mm_HI} {τ : mm_T} {ix : Nat} {y : MethodName} {a1 : Value}  (G : mm_G (mm_wp d) own cc nL ret ini 125 Post X) (hd : decode cc pc = .ok (.invokestatic ix, 3)) (hv : mm_CS own ix y 1)  {x : Nat} (hc : wA d y [a1] hi τ x) (hs : (st.map fun v => v.category).sum ≤ 8) (k : X (pc + 3) ls (.ref x :: st) hi τ 125) : X pc ls (a1 :: st) hi τ 125 := r_callS G.1 _ _ _ _ _ _ _ _ [a1] _ _ _ _ hd hv rfl hc (Nat.le_refl _) rfl hs (fun v h2 t2 hp => by obtain ⟨rfl, rfl, rfl⟩ := hp; exact k)
theorem q_cS1R {d : Nat} {own : String} {cc : ByteArray} {nL : Nat} {ret : Option FieldType} {ini : Bool} {Post : mm_Q} {X : mm_X} {pc : Nat} {ls : List (Option Value)} {st : List Value} {hi : mm_HI} {τ : mm_T} {ix : Nat} {y : MethodName} {a1 : Value}  (G : mm_G (mm_wp d) own cc nL ret ini 125 Post X) (hd : decode cc pc = .ok (.invokestatic ix, 3)) (hv : mm_CS own ix y 1)  {Q : mm_Q} (hc : wR d y [a1] hi τ Q) (hs : (st.map fun v => v.category).sum ≤ 8) (k : ∀ (v : Option Value) (hi2 : mm_HI) (τ2 : mm_T), Q v hi2 τ2 → X (pc + 3) ls (v.toList ++ st) hi2 τ2 125) : X pc ls (a1 :: st) hi τ 125 := r_callS G.1 _ _ _ _ _ _ _ _ [a1] _ _ _ _ hd hv rfl hc (Nat.le_refl _) rfl hs k
theorem q_cS2I {d : Nat} {own : String} {cc : ByteArray} {nL : Nat} {ret : Option FieldType} {ini : Bool} {Post : mm_Q} {X : mm_X} {pc : Nat} {ls : List (Option Value)} {st : List Value} {hi : mm_HI} {τ : mm_T} {ix : Nat} {y : MethodName} {a1 a2 : Value}  (G : mm_G (mm_wp d) own cc nL ret ini 125 Post X) (hd : decode cc pc = .ok (.invokestatic ix, 3)) (hv : mm_CS own ix y 2)  {P : Int32 → mm_HI → Prop} (hc : wI d y [a1, a2] hi τ P) (hs : (st.map fun v => v.category).sum ≤ 8) (k : ∀ (r : Int32) (hi2 : mm_HI), P r hi2 → X (pc + 3) ls (.int r :: st) hi2 τ 125) : X pc ls (a2 :: a1 :: st) hi τ 125 := r_callS G.1 _ _ _ _ _ _ _ _ [a1, a2] _ _ _ _ hd hv rfl hc (Nat.le_refl _) rfl hs (fun v h2 t2 hp => by obtain ⟨rfl, r, rfl, hq⟩ := hp; exact k r h2 hq)
theorem q_cS2V {d : Nat} {own : String} {cc : ByteArray} {nL : Nat} {ret : Option FieldType} {ini : Bool} {Post : mm_Q} {X : mm_X} {pc : Nat} {ls : List (Option Value)} {st : List Value} {hi : mm_HI} {τ : mm_T} {ix : Nat} {y : MethodName} {a1 a2 : Value}  (G : mm_G (mm_wp d) own cc nL ret ini 125 Post X) (hd : decode cc pc = .ok (.invokestatic ix, 3)) (hv : mm_CS own ix y 2)  {P : mm_HI → Prop} (hc : wV d y [a1, a2] hi τ P) (hs : (st.map fun v => v.category).sum ≤ 8) (k : ∀ (hi2 : mm_HI), P hi2 → X (pc + 3) ls st hi2 τ 125) : X pc ls (a2 :: a1 :: st) hi τ 125 := r_callS G.1 _ _ _ _ _ _ _ _ [a1, a2] _ _ _ _ hd hv rfl hc (Nat.le_refl _) rfl hs (fun v h2 t2 hp => by obtain ⟨rfl, rfl, hq⟩ := hp; exact k h2 hq)
theorem q_cS2B {d : Nat} {own : String} {cc : ByteArray} {nL : Nat} {ret : Option FieldType} {ini : Bool} {Post : mm_Q} {X : mm_X} {pc : Nat} {ls : List (Option Value)} {st : List Value} {hi : mm_HI} {τ : mm_T} {ix : Nat} {y : MethodName} {a1 a2 : Value}  (G : mm_G (mm_wp d) own cc nL ret ini 125 Post X) (hd : decode cc pc = .ok (.invokestatic ix, 3)) (hv : mm_CS own ix y 2)  {p : Prop} (hc : wB d y [a1, a2] hi τ p) (hs : (st.map fun v => v.category).sum ≤ 8) (kt : p → X (pc + 3) ls (.int (nI 1) :: st) hi τ 125) (kf : ¬ p → X (pc + 3) ls (.int (nI 0) :: st) hi τ 125) : X pc ls (a2 :: a1 :: st) hi τ 125 := r_callS G.1 _ _ _ _ _ _ _ _ [a1, a2] _ _ _ _ hd hv rfl hc (Nat.le_refl _) rfl hs (fun v h2 t2 hp => by obtain ⟨rfl, rfl, ⟨hq, rfl⟩ | ⟨hq, rfl⟩⟩ := hp; exact kt hq; exact kf hq)
theorem q_cS2E {d : Nat} {own : String} {cc : ByteArray} {nL : Nat} {ret : Option FieldType} {ini : Bool} {Post : mm_Q} {X : mm_X} {pc : Nat} {ls : List (Option Value)} {st : List Value} {hi : mm_HI} {τ : mm_T} {ix : Nat} {y : MethodName} {a1 a2 : Value}  (G : mm_G (mm_wp d) own cc nL ret ini 125 Post X) (hd : decode cc pc = .ok (.invokestatic ix, 3)) (hv : mm_CS own ix y 2)  {r : Int32} (hc : wE d y [a1, a2] hi τ r) (hs : (st.map fun v => v.category).sum ≤ 8) (k : X (pc + 3) ls (.int r :: st) hi τ 125) : X pc ls (a2 :: a1 :: st) hi τ 125 := r_callS G.1 _ _ _ _ _ _ _ _ [a1, a2] _ _ _ _ hd hv rfl hc (Nat.le_refl _) rfl hs (fun v h2 t2 hp => by obtain ⟨rfl, rfl, rfl⟩ := hp; exact k)
theorem q_cS2A {d : Nat} {own : String} {cc : ByteArray} {nL : Nat} {ret : Option FieldType} {ini : Bool} {Post : mm_Q} {X : mm_X} {pc : Nat} {ls : List (Option Value)} {st : List Value} {hi : mm_HI} {τ : mm_T} {ix : Nat} {y : MethodName} {a1 a2 : Value}  (G : mm_G (mm_wp d) own cc nL ret ini 125 Post X) (hd : decode cc pc = .ok (.invokestatic ix, 3)) (hv : mm_CS own ix y 2)  {x : Nat} (hc : wA d y [a1, a2] hi τ x) (hs : (st.map fun v => v.category).sum ≤ 8) (k : X (pc + 3) ls (.ref x :: st) hi τ 125) : X pc ls (a2 :: a1 :: st) hi τ 125 := r_callS G.1 _ _ _ _ _ _ _ _ [a1, a2] _ _ _ _ hd hv rfl hc (Nat.le_refl _) rfl hs (fun v h2 t2 hp => by obtain ⟨rfl, rfl, rfl⟩ := hp; exact k)
theorem q_cS2R {d : Nat} {own : String} {cc : ByteArray} {nL : Nat} {ret : Option FieldType} {ini : Bool} {Post : mm_Q} {X : mm_X} {pc : Nat} {ls : List (Option Value)} {st : List Value} {hi : mm_HI} {τ : mm_T} {ix : Nat} {y : MethodName} {a1 a2 : Value}  (G : mm_G (mm_wp d) own cc nL ret ini 125 Post X) (hd : decode cc pc = .ok (.invokestatic ix, 3)) (hv : mm_CS own ix y 2)  {Q : mm_Q} (hc : wR d y [a1, a2] hi τ Q) (hs : (st.map fun v => v.category).sum ≤ 8) (k : ∀ (v : Option Value) (hi2 : mm_HI) (τ2 : mm_T), Q v hi2 τ2 → X (pc + 3) ls (v.toList ++ st) hi2 τ2 125) : X pc ls (a2 :: a1 :: st) hi τ 125 := r_callS G.1 _ _ _ _ _ _ _ _ [a1, a2] _ _ _ _ hd hv rfl hc (Nat.le_refl _) rfl hs k
theorem q_cS3I {d : Nat} {own : String} {cc : ByteArray} {nL : Nat} {ret : Option FieldType} {ini : Bool} {Post : mm_Q} {X : mm_X} {pc : Nat} {ls : List (Option Value)} {st : List Value} {hi : mm_HI} {τ : mm_T} {ix : Nat} {y : MethodName} {a1 a2 a3 : Value}  (G : mm_G (mm_wp d) own cc nL ret ini 125 Post X) (hd : decode cc pc = .ok (.invokestatic ix, 3)) (hv : mm_CS own ix y 3)  {P : Int32 → mm_HI → Prop} (hc : wI d y [a1, a2, a3] hi τ P) (hs : (st.map fun v => v.category).sum ≤ 8) (k : ∀ (r : Int32) (hi2 : mm_HI), P r hi2 → X (pc + 3) ls (.int r :: st) hi2 τ 125) : X pc ls (a3 :: a2 :: a1 :: st) hi τ 125 := r_callS G.1 _ _ _ _ _ _ _ _ [a1, a2, a3] _ _ _ _ hd hv rfl hc (Nat.le_refl _) rfl hs (fun v h2 t2 hp => by obtain ⟨rfl, r, rfl, hq⟩ := hp; exact k r h2 hq)
theorem q_cS3V {d : Nat} {own : String} {cc : ByteArray} {nL : Nat} {ret : Option FieldType} {ini : Bool} {Post : mm_Q} {X : mm_X} {pc : Nat} {ls : List (Option Value)} {st : List Value} {hi : mm_HI} {τ : mm_T} {ix : Nat} {y : MethodName} {a1 a2 a3 : Value}  (G : mm_G (mm_wp d) own cc nL ret ini 125 Post X) (hd : decode cc pc = .ok (.invokestatic ix, 3)) (hv : mm_CS own ix y 3)  {P : mm_HI → Prop} (hc : wV d y [a1, a2, a3] hi τ P) (hs : (st.map fun v => v.category).sum ≤ 8) (k : ∀ (hi2 : mm_HI), P hi2 → X (pc + 3) ls st hi2 τ 125) : X pc ls (a3 :: a2 :: a1 :: st) hi τ 125 := r_callS G.1 _ _ _ _ _ _ _ _ [a1, a2, a3] _ _ _ _ hd hv rfl hc (Nat.le_refl _) rfl hs (fun v h2 t2 hp => by obtain ⟨rfl, rfl, hq⟩ := hp; exact k h2 hq)
theorem q_cS3B {d : Nat} {own : String} {cc : ByteArray} {nL : Nat} {ret : Option FieldType} {ini : Bool} {Post : mm_Q} {X : mm_X} {pc : Nat} {ls : List (Option Value)} {st : List Value} {hi : mm_HI} {τ : mm_T} {ix : Nat} {y : MethodName} {a1 a2 a3 : Value}  (G : mm_G (mm_wp d) own cc nL ret ini 125 Post X) (hd : decode cc pc = .ok (.invokestatic ix, 3)) (hv : mm_CS own ix y 3)  {p : Prop} (hc : wB d y [a1, a2, a3] hi τ p) (hs : (st.map fun v => v.category).sum ≤ 8) (kt : p → X (pc + 3) ls (.int (nI 1) :: st) hi τ 125) (kf : ¬ p → X (pc + 3) ls (.int (nI 0) :: st) hi τ 125) : X pc ls (a3 :: a2 :: a1 :: st) hi τ 125 := r_callS G.1 _ _ _ _ _ _ _ _ [a1, a2, a3] _ _ _ _ hd hv rfl hc (Nat.le_refl _) rfl hs (fun v h2 t2 hp => by obtain ⟨rfl, rfl, ⟨hq, rfl⟩ | ⟨hq, rfl⟩⟩ := hp; exact kt hq; exact kf hq)
theorem q_cS3E {d : Nat} {own : String} {cc : ByteArray} {nL : Nat} {ret : Option FieldType} {ini : Bool} {Post : mm_Q} {X : mm_X} {pc : Nat} {ls : List (Option Value)} {st : List Value} {hi : mm_HI} {τ : mm_T} {ix : Nat} {y : MethodName} {a1 a2 a3 : Value}  (G : mm_G (mm_wp d) own cc nL ret ini 125 Post X) (hd : decode cc pc = .ok (.invokestatic ix, 3)) (hv : mm_CS own ix y 3)  {r : Int32} (hc : wE d y [a1, a2, a3] hi τ r) (hs : (st.map fun v => v.category).sum ≤ 8) (k : X (pc + 3) ls (.int r :: st) hi τ 125) : X pc ls (a3 :: a2 :: a1 :: st) hi τ 125 := r_callS G.1 _ _ _ _ _ _ _ _ [a1, a2, a3] _ _ _ _ hd hv rfl hc (Nat.le_refl _) rfl hs (fun v h2 t2 hp => by obtain ⟨rfl, rfl, rfl⟩ := hp; exact k)
theorem q_cS3A {d : Nat} {own : String} {cc : ByteArray} {nL : Nat} {ret : Option FieldType} {ini : Bool} {Post : mm_Q} {X : mm_X} {pc : Nat} {ls : List (Option Value)} {st : List Value} {hi : mm_HI} {τ : mm_T} {ix : Nat} {y : MethodName} {a1 a2 a3 : Value}  (G : mm_G (mm_wp d) own cc nL ret ini 125 Post X) (hd : decode cc pc = .ok (.invokestatic ix, 3)) (hv : mm_CS own ix y 3)  {x : Nat} (hc : wA d y [a1, a2, a3] hi τ x) (hs : (st.map fun v => v.category).sum ≤ 8) (k : X (pc + 3) ls (.ref x :: st) hi τ 125) : X pc ls (a3 :: a2 :: a1 :: st) hi τ 125 := r_callS G.1 _ _ _ _ _ _ _ _ [a1, a2, a3] _ _ _ _ hd hv rfl hc (Nat.le_refl _) rfl hs (fun v h2 t2 hp => by obtain ⟨rfl, rfl, rfl⟩ := hp; exact k)
theorem q_cS3R {d : Nat} {own : String} {cc : ByteArray} {nL : Nat} {ret : Option FieldType} {ini : Bool} {Post : mm_Q} {X : mm_X} {pc : Nat} {ls : List (Option Value)} {st : List Value} {hi : mm_HI} {τ : mm_T} {ix : Nat} {y : MethodName} {a1 a2 a3 : Value}  (G : mm_G (mm_wp d) own cc nL ret ini 125 Post X) (hd : decode cc pc = .ok (.invokestatic ix, 3)) (hv : mm_CS own ix y 3)  {Q : mm_Q} (hc : wR d y [a1, a2, a3] hi τ Q) (hs : (st.map fun v => v.category).sum ≤ 8) (k : ∀ (v : Option Value) (hi2 : mm_HI) (τ2 : mm_T), Q v hi2 τ2 → X (pc + 3) ls (v.toList ++ st) hi2 τ2 125) : X pc ls (a3 :: a2 :: a1 :: st) hi τ 125 := r_callS G.1 _ _ _ _ _ _ _ _ [a1, a2, a3] _ _ _ _ hd hv rfl hc (Nat.le_refl _) rfl hs k
theorem q_cS4I {d : Nat} {own : String} {cc : ByteArray} {nL : Nat} {ret : Option FieldType} {ini : Bool} {Post : mm_Q} {X : mm_X} {pc : Nat} {ls : List (Option Value)} {st : List Value} {hi : mm_HI} {τ : mm_T} {ix : Nat} {y : MethodName} {a1 a2 a3 a4 : Value}  (G : mm_G (mm_wp d) own cc nL ret ini 125 Post X) (hd : decode cc pc = .ok (.invokestatic ix, 3)) (hv : mm_CS own ix y 4)  {P : Int32 → mm_HI → Prop} (hc : wI d y [a1, a2, a3, a4] hi τ P) (hs : (st.map fun v => v.category).sum ≤ 8) (k : ∀ (r : Int32) (hi2 : mm_HI), P r hi2 → X (pc + 3) ls (.int r :: st) hi2 τ 125) : X pc ls (a4 :: a3 :: a2 :: a1 :: st) hi τ 125 := r_callS G.1 _ _ _ _ _ _ _ _ [a1, a2, a3, a4] _ _ _ _ hd hv rfl hc (Nat.le_refl _) rfl hs (fun v h2 t2 hp => by obtain ⟨rfl, r, rfl, hq⟩ := hp; exact k r h2 hq)
theorem q_cS4V {d : Nat} {own : String} {cc : ByteArray} {nL : Nat} {ret : Option FieldType} {ini : Bool} {Post : mm_Q} {X : mm_X} {pc : Nat} {ls : List (Option Value)} {st : List Value} {hi : mm_HI} {τ : mm_T} {ix : Nat} {y : MethodName} {a1 a2 a3 a4 : Value}  (G : mm_G (mm_wp d) own cc nL ret ini 125 Post X) (hd : decode cc pc = .ok (.invokestatic ix, 3)) (hv : mm_CS own ix y 4)  {P : mm_HI → Prop} (hc : wV d y [a1, a2, a3, a4] hi τ P) (hs : (st.map fun v => v.category).sum ≤ 8) (k : ∀ (hi2 : mm_HI), P hi2 → X (pc + 3) ls st hi2 τ 125) : X pc ls (a4 :: a3 :: a2 :: a1 :: st) hi τ 125 := r_callS G.1 _ _ _ _ _ _ _ _ [a1, a2, a3, a4] _ _ _ _ hd hv rfl hc (Nat.le_refl _) rfl hs (fun v h2 t2 hp => by obtain ⟨rfl, rfl, hq⟩ := hp; exact k h2 hq)
theorem q_cS4B {d : Nat} {own : String} {cc : ByteArray} {nL : Nat} {ret : Option FieldType} {ini : Bool} {Post : mm_Q} {X : mm_X} {pc : Nat} {ls : List (Option Value)} {st : List Value} {hi : mm_HI} {τ : mm_T} {ix : Nat} {y : MethodName} {a1 a2 a3 a4 : Value}  (G : mm_G (mm_wp d) own cc nL ret ini 125 Post X) (hd : decode cc pc = .ok (.invokestatic ix, 3)) (hv : mm_CS own ix y 4)  {p : Prop} (hc : wB d y [a1, a2, a3, a4] hi τ p) (hs : (st.map fun v => v.category).sum ≤ 8) (kt : p → X (pc + 3) ls (.int (nI 1) :: st) hi τ 125) (kf : ¬ p → X (pc + 3) ls (.int (nI 0) :: st) hi τ 125) : X pc ls (a4 :: a3 :: a2 :: a1 :: st) hi τ 125 := r_callS G.1 _ _ _ _ _ _ _ _ [a1, a2, a3, a4] _ _ _ _ hd hv rfl hc (Nat.le_refl _) rfl hs (fun v h2 t2 hp => by obtain ⟨rfl, rfl, ⟨hq, rfl⟩ | ⟨hq, rfl⟩⟩ := hp; exact kt hq; exact kf hq)
theorem q_cS4E {d : Nat} {own : String} {cc : ByteArray} {nL : Nat} {ret : Option FieldType} {ini : Bool} {Post : mm_Q} {X : mm_X} {pc : Nat} {ls : List (Option Value)} {st : List Value} {hi : mm_HI} {τ : mm_T} {ix : Nat} {y : MethodName} {a1 a2 a3 a4 : Value}  (G : mm_G (mm_wp d) own cc nL ret ini 125 Post X) (hd : decode cc pc = .ok (.invokestatic ix, 3)) (hv : mm_CS own ix y 4)  {r : Int32} (hc : wE d y [a1, a2, a3, a4] hi τ r) (hs : (st.map fun v => v.category).sum ≤ 8) (k : X (pc + 3) ls (.int r :: st) hi τ 125) : X pc ls (a4 :: a3 :: a2 :: a1 :: st) hi τ 125 := r_callS G.1 _ _ _ _ _ _ _ _ [a1, a2, a3, a4] _ _ _ _ hd hv rfl hc (Nat.le_refl _) rfl hs (fun v h2 t2 hp => by obtain ⟨rfl, rfl, rfl⟩ := hp; exact k)
theorem q_cS4A {d : Nat} {own : String} {cc : ByteArray} {nL : Nat} {ret : Option FieldType} {ini : Bool} {Post : mm_Q} {X : mm_X} {pc : Nat} {ls : List (Option Value)} {st : List Value} {hi : mm_HI} {τ : mm_T} {ix : Nat} {y : MethodName} {a1 a2 a3 a4 : Value}  (G : mm_G (mm_wp d) own cc nL ret ini 125 Post X) (hd : decode cc pc = .ok (.invokestatic ix, 3)) (hv : mm_CS own ix y 4)  {x : Nat} (hc : wA d y [a1, a2, a3, a4] hi τ x) (hs : (st.map fun v => v.category).sum ≤ 8) (k : X (pc + 3) ls (.ref x :: st) hi τ 125) : X pc ls (a4 :: a3 :: a2 :: a1 :: st) hi τ 125 := r_callS G.1 _ _ _ _ _ _ _ _ [a1, a2, a3, a4] _ _ _ _ hd hv rfl hc (Nat.le_refl _) rfl hs (fun v h2 t2 hp => by obtain ⟨rfl, rfl, rfl⟩ := hp; exact k)
theorem q_cS4R {d : Nat} {own : String} {cc : ByteArray} {nL : Nat} {ret : Option FieldType} {ini : Bool} {Post : mm_Q} {X : mm_X} {pc : Nat} {ls : List (Option Value)} {st : List Value} {hi : mm_HI} {τ : mm_T} {ix : Nat} {y : MethodName} {a1 a2 a3 a4 : Value}  (G : mm_G (mm_wp d) own cc nL ret ini 125 Post X) (hd : decode cc pc = .ok (.invokestatic ix, 3)) (hv : mm_CS own ix y 4)  {Q : mm_Q} (hc : wR d y [a1, a2, a3, a4] hi τ Q) (hs : (st.map fun v => v.category).sum ≤ 8) (k : ∀ (v : Option Value) (hi2 : mm_HI) (τ2 : mm_T), Q v hi2 τ2 → X (pc + 3) ls (v.toList ++ st) hi2 τ2 125) : X pc ls (a4 :: a3 :: a2 :: a1 :: st) hi τ 125 := r_callS G.1 _ _ _ _ _ _ _ _ [a1, a2, a3, a4] _ _ _ _ hd hv rfl hc (Nat.le_refl _) rfl hs k
theorem q_cS5I {d : Nat} {own : String} {cc : ByteArray} {nL : Nat} {ret : Option FieldType} {ini : Bool} {Post : mm_Q} {X : mm_X} {pc : Nat} {ls : List (Option Value)} {st : List Value} {hi : mm_HI} {τ : mm_T} {ix : Nat} {y : MethodName} {a1 a2 a3 a4 a5 : Value}  (G : mm_G (mm_wp d) own cc nL ret ini 125 Post X) (hd : decode cc pc = .ok (.invokestatic ix, 3)) (hv : mm_CS own ix y 5)  {P : Int32 → mm_HI → Prop} (hc : wI d y [a1, a2, a3, a4, a5] hi τ P) (hs : (st.map fun v => v.category).sum ≤ 8) (k : ∀ (r : Int32) (hi2 : mm_HI), P r hi2 → X (pc + 3) ls (.int r :: st) hi2 τ 125) : X pc ls (a5 :: a4 :: a3 :: a2 :: a1 :: st) hi τ 125 := r_callS G.1 _ _ _ _ _ _ _ _ [a1, a2, a3, a4, a5] _ _ _ _ hd hv rfl hc (Nat.le_refl _) rfl hs (fun v h2 t2 hp => by obtain ⟨rfl, r, rfl, hq⟩ := hp; exact k r h2 hq)
theorem q_cS5V {d : Nat} {own : String} {cc : ByteArray} {nL : Nat} {ret : Option FieldType} {ini : Bool} {Post : mm_Q} {X : mm_X} {pc : Nat} {ls : List (Option Value)} {st : List Value} {hi : mm_HI} {τ : mm_T} {ix : Nat} {y : MethodName} {a1 a2 a3 a4 a5 : Value}  (G : mm_G (mm_wp d) own cc nL ret ini 125 Post X) (hd : decode cc pc = .ok (.invokestatic ix, 3)) (hv : mm_CS own ix y 5)  {P : mm_HI → Prop} (hc : wV d y [a1, a2, a3, a4, a5] hi τ P) (hs : (st.map fun v => v.category).sum ≤ 8) (k : ∀ (hi2 : mm_HI), P hi2 → X (pc + 3) ls st hi2 τ 125) : X pc ls (a5 :: a4 :: a3 :: a2 :: a1 :: st) hi τ 125 := r_callS G.1 _ _ _ _ _ _ _ _ [a1, a2, a3, a4, a5] _ _ _ _ hd hv rfl hc (Nat.le_refl _) rfl hs (fun v h2 t2 hp => by obtain ⟨rfl, rfl, hq⟩ := hp; exact k h2 hq)
theorem q_cS5B {d : Nat} {own : String} {cc : ByteArray} {nL : Nat} {ret : Option FieldType} {ini : Bool} {Post : mm_Q} {X : mm_X} {pc : Nat} {ls : List (Option Value)} {st : List Value} {hi : mm_HI} {τ : mm_T} {ix : Nat} {y : MethodName} {a1 a2 a3 a4 a5 : Value}  (G : mm_G (mm_wp d) own cc nL ret ini 125 Post X) (hd : decode cc pc = .ok (.invokestatic ix, 3)) (hv : mm_CS own ix y 5)  {p : Prop} (hc : wB d y [a1, a2, a3, a4, a5] hi τ p) (hs : (st.map fun v => v.category).sum ≤ 8) (kt : p → X (pc + 3) ls (.int (nI 1) :: st) hi τ 125) (kf : ¬ p → X (pc + 3) ls (.int (nI 0) :: st) hi τ 125) : X pc ls (a5 :: a4 :: a3 :: a2 :: a1 :: st) hi τ 125 := r_callS G.1 _ _ _ _ _ _ _ _ [a1, a2, a3, a4, a5] _ _ _ _ hd hv rfl hc (Nat.le_refl _) rfl hs (fun v h2 t2 hp => by obtain ⟨rfl, rfl, ⟨hq, rfl⟩ | ⟨hq, rfl⟩⟩ := hp; exact kt hq; exact kf hq)
theorem q_cS5E {d : Nat} {own : String} {cc : ByteArray} {nL : Nat} {ret : Option FieldType} {ini : Bool} {Post : mm_Q} {X : mm_X} {pc : Nat} {ls : List (Option Value)} {st : List Value} {hi : mm_HI} {τ : mm_T} {ix : Nat} {y : MethodName} {a1 a2 a3 a4 a5 : Value}  (G : mm_G (mm_wp d) own cc nL ret ini 125 Post X) (hd : decode cc pc = .ok (.invokestatic ix, 3)) (hv : mm_CS own ix y 5)  {r : Int32} (hc : wE d y [a1, a2, a3, a4, a5] hi τ r) (hs : (st.map fun v => v.category).sum ≤ 8) (k : X (pc + 3) ls (.int r :: st) hi τ 125) : X pc ls (a5 :: a4 :: a3 :: a2 :: a1 :: st) hi τ 125 := r_callS G.1 _ _ _ _ _ _ _ _ [a1, a2, a3, a4, a5] _ _ _ _ hd hv rfl hc (Nat.le_refl _) rfl hs (fun v h2 t2 hp => by obtain ⟨rfl, rfl, rfl⟩ := hp; exact k)
theorem q_cS5A {d : Nat} {own : String} {cc : ByteArray} {nL : Nat} {ret : Option FieldType} {ini : Bool} {Post : mm_Q} {X : mm_X} {pc : Nat} {ls : List (Option Value)} {st : List Value} {hi : mm_HI} {τ : mm_T} {ix : Nat} {y : MethodName} {a1 a2 a3 a4 a5 : Value}  (G : mm_G (mm_wp d) own cc nL ret ini 125 Post X) (hd : decode cc pc = .ok (.invokestatic ix, 3)) (hv : mm_CS own ix y 5)  {x : Nat} (hc : wA d y [a1, a2, a3, a4, a5] hi τ x) (hs : (st.map fun v => v.category).sum ≤ 8) (k : X (pc + 3) ls (.ref x :: st) hi τ 125) : X pc ls (a5 :: a4 :: a3 :: a2 :: a1 :: st) hi τ 125 := r_callS G.1 _ _ _ _ _ _ _ _ [a1, a2, a3, a4, a5] _ _ _ _ hd hv rfl hc (Nat.le_refl _) rfl hs (fun v h2 t2 hp => by obtain ⟨rfl, rfl, rfl⟩ := hp; exact k)
theorem q_cS5R {d : Nat} {own : String} {cc : ByteArray} {nL : Nat} {ret : Option FieldType} {ini : Bool} {Post : mm_Q} {X : mm_X} {pc : Nat} {ls : List (Option Value)} {st : List Value} {hi : mm_HI} {τ : mm_T} {ix : Nat} {y : MethodName} {a1 a2 a3 a4 a5 : Value}  (G : mm_G (mm_wp d) own cc nL ret ini 125 Post X) (hd : decode cc pc = .ok (.invokestatic ix, 3)) (hv : mm_CS own ix y 5)  {Q : mm_Q} (hc : wR d y [a1, a2, a3, a4, a5] hi τ Q) (hs : (st.map fun v => v.category).sum ≤ 8) (k : ∀ (v : Option Value) (hi2 : mm_HI) (τ2 : mm_T), Q v hi2 τ2 → X (pc + 3) ls (v.toList ++ st) hi2 τ2 125) : X pc ls (a5 :: a4 :: a3 :: a2 :: a1 :: st) hi τ 125 := r_callS G.1 _ _ _ _ _ _ _ _ [a1, a2, a3, a4, a5] _ _ _ _ hd hv rfl hc (Nat.le_refl _) rfl hs k
theorem q_cV0I {d : Nat} {own : String} {cc : ByteArray} {nL : Nat} {ret : Option FieldType} {ini : Bool} {Post : mm_Q} {X : mm_X} {pc : Nat} {ls : List (Option Value)} {st : List Value} {hi : mm_HI} {τ : mm_T} {ix : Nat} {y : MethodName} {ci c : Nat}  (G : mm_G (mm_wp d) own cc nL ret ini 125 Post X) (hd : decode cc pc = .ok (.invokevirtual ix, 3)) (hv : mm_CV own ix y 0 ci) (hl : mm_lay c = (0, ci))  {P : Int32 → mm_HI → Prop} (hc : wI d y [.ref c] hi τ P) (hs : (st.map fun v => v.category).sum ≤ 8) (k : ∀ (r : Int32) (hi2 : mm_HI), P r hi2 → X (pc + 3) ls (.int r :: st) hi2 τ 125) : X pc ls (.ref c :: st) hi τ 125 := r_callV G.1 _ _ _ _ _ _ _ _ [.ref c] _ _ _ _ _ _ [] hd hv rfl rfl hl (ly_lt hl (by decide)) hc (Nat.le_refl _) rfl hs (fun v h2 t2 hp => by obtain ⟨rfl, r, rfl, hq⟩ := hp; exact k r h2 hq)
theorem q_cV0V {d : Nat} {own : String} {cc : ByteArray} {nL : Nat} {ret : Option FieldType} {ini : Bool} {Post : mm_Q} {X : mm_X} {pc : Nat} {ls : List (Option Value)} {st : List Value} {hi : mm_HI} {τ : mm_T} {ix : Nat} {y : MethodName} {ci c : Nat}  (G : mm_G (mm_wp d) own cc nL ret ini 125 Post X) (hd : decode cc pc = .ok (.invokevirtual ix, 3)) (hv : mm_CV own ix y 0 ci) (hl : mm_lay c = (0, ci))  {P : mm_HI → Prop} (hc : wV d y [.ref c] hi τ P) (hs : (st.map fun v => v.category).sum ≤ 8) (k : ∀ (hi2 : mm_HI), P hi2 → X (pc + 3) ls st hi2 τ 125) : X pc ls (.ref c :: st) hi τ 125 := r_callV G.1 _ _ _ _ _ _ _ _ [.ref c] _ _ _ _ _ _ [] hd hv rfl rfl hl (ly_lt hl (by decide)) hc (Nat.le_refl _) rfl hs (fun v h2 t2 hp => by obtain ⟨rfl, rfl, hq⟩ := hp; exact k h2 hq)
theorem q_cV0B {d : Nat} {own : String} {cc : ByteArray} {nL : Nat} {ret : Option FieldType} {ini : Bool} {Post : mm_Q} {X : mm_X} {pc : Nat} {ls : List (Option Value)} {st : List Value} {hi : mm_HI} {τ : mm_T} {ix : Nat} {y : MethodName} {ci c : Nat}  (G : mm_G (mm_wp d) own cc nL ret ini 125 Post X) (hd : decode cc pc = .ok (.invokevirtual ix, 3)) (hv : mm_CV own ix y 0 ci) (hl : mm_lay c = (0, ci))  {p : Prop} (hc : wB d y [.ref c] hi τ p) (hs : (st.map fun v => v.category).sum ≤ 8) (kt : p → X (pc + 3) ls (.int (nI 1) :: st) hi τ 125) (kf : ¬ p → X (pc + 3) ls (.int (nI 0) :: st) hi τ 125) : X pc ls (.ref c :: st) hi τ 125 := r_callV G.1 _ _ _ _ _ _ _ _ [.ref c] _ _ _ _ _ _ [] hd hv rfl rfl hl (ly_lt hl (by decide)) hc (Nat.le_refl _) rfl hs (fun v h2 t2 hp => by obtain ⟨rfl, rfl, ⟨hq, rfl⟩ | ⟨hq, rfl⟩⟩ := hp; exact kt hq; exact kf hq)
theorem q_cV0E {d : Nat} {own : String} {cc : ByteArray} {nL : Nat} {ret : Option FieldType} {ini : Bool} {Post : mm_Q} {X : mm_X} {pc : Nat} {ls : List (Option Value)} {st : List Value} {hi : mm_HI} {τ : mm_T} {ix : Nat} {y : MethodName} {ci c : Nat}  (G : mm_G (mm_wp d) own cc nL ret ini 125 Post X) (hd : decode cc pc = .ok (.invokevirtual ix, 3)) (hv : mm_CV own ix y 0 ci) (hl : mm_lay c = (0, ci))  {r : Int32} (hc : wE d y [.ref c] hi τ r) (hs : (st.map fun v => v.category).sum ≤ 8) (k : X (pc + 3) ls (.int r :: st) hi τ 125) : X pc ls (.ref c :: st) hi τ 125 := r_callV G.1 _ _ _ _ _ _ _ _ [.ref c] _ _ _ _ _ _ [] hd hv rfl rfl hl (ly_lt hl (by decide)) hc (Nat.le_refl _) rfl hs (fun v h2 t2 hp => by obtain ⟨rfl, rfl, rfl⟩ := hp; exact k)
theorem q_cV0A {d : Nat} {own : String} {cc : ByteArray} {nL : Nat} {ret : Option FieldType} {ini : Bool} {Post : mm_Q} {X : mm_X} {pc : Nat} {ls : List (Option Value)} {st : List Value} {hi : mm_HI} {τ : mm_T} {ix : Nat} {y : MethodName} {ci c : Nat}  (G : mm_G (mm_wp d) own cc nL ret ini 125 Post X) (hd : decode cc pc = .ok (.invokevirtual ix, 3)) (hv : mm_CV own ix y 0 ci) (hl : mm_lay c = (0, ci))  {x : Nat} (hc : wA d y [.ref c] hi τ x) (hs : (st.map fun v => v.category).sum ≤ 8) (k : X (pc + 3) ls (.ref x :: st) hi τ 125) : X pc ls (.ref c :: st) hi τ 125 := r_callV G.1 _ _ _ _ _ _ _ _ [.ref c] _ _ _ _ _ _ [] hd hv rfl rfl hl (ly_lt hl (by decide)) hc (Nat.le_refl _) rfl hs (fun v h2 t2 hp => by obtain ⟨rfl, rfl, rfl⟩ := hp; exact k)
theorem q_cV0R {d : Nat} {own : String} {cc : ByteArray} {nL : Nat} {ret : Option FieldType} {ini : Bool} {Post : mm_Q} {X : mm_X} {pc : Nat} {ls : List (Option Value)} {st : List Value} {hi : mm_HI} {τ : mm_T} {ix : Nat} {y : MethodName} {ci c : Nat}  (G : mm_G (mm_wp d) own cc nL ret ini 125 Post X) (hd : decode cc pc = .ok (.invokevirtual ix, 3)) (hv : mm_CV own ix y 0 ci) (hl : mm_lay c = (0, ci))  {Q : mm_Q} (hc : wR d y [.ref c] hi τ Q) (hs : (st.map fun v => v.category).sum ≤ 8) (k : ∀ (v : Option Value) (hi2 : mm_HI) (τ2 : mm_T), Q v hi2 τ2 → X (pc + 3) ls (v.toList ++ st) hi2 τ2 125) : X pc ls (.ref c :: st) hi τ 125 := r_callV G.1 _ _ _ _ _ _ _ _ [.ref c] _ _ _ _ _ _ [] hd hv rfl rfl hl (ly_lt hl (by decide)) hc (Nat.le_refl _) rfl hs k
theorem q_cV1I {d : Nat} {own : String} {cc : ByteArray} {nL : Nat} {ret : Option FieldType} {ini : Bool} {Post : mm_Q} {X : mm_X} {pc : Nat} {ls : List (Option Value)} {st : List Value} {hi : mm_HI} {τ : mm_T} {ix : Nat} {y : MethodName} {ci c : Nat} {a1 : Value}  (G : mm_G (mm_wp d) own cc nL ret ini 125 Post X) (hd : decode cc pc = .ok (.invokevirtual ix, 3)) (hv : mm_CV own ix y 1 ci) (hl : mm_lay c = (0, ci))  {P : Int32 → mm_HI → Prop} (hc : wI d y [.ref c, a1] hi τ P) (hs : (st.map fun v => v.category).sum ≤ 8) (k : ∀ (r : Int32) (hi2 : mm_HI), P r hi2 → X (pc + 3) ls (.int r :: st) hi2 τ 125) : X pc ls (a1 :: .ref c :: st) hi τ 125 := r_callV G.1 _ _ _ _ _ _ _ _ [.ref c, a1] _ _ _ _ _ _ [a1] hd hv rfl rfl hl (ly_lt hl (by decide)) hc (Nat.le_refl _) rfl hs (fun v h2 t2 hp => by obtain ⟨rfl, r, rfl, hq⟩ := hp; exact k r h2 hq)
theorem q_cV1V {d : Nat} {own : String} {cc : ByteArray} {nL : Nat} {ret : Option FieldType} {ini : Bool} {Post : mm_Q} {X : mm_X} {pc : Nat} {ls : List (Option Value)} {st : List Value} {hi : mm_HI} {τ : mm_T} {ix : Nat} {y : MethodName} {ci c : Nat} {a1 : Value}  (G : mm_G (mm_wp d) own cc nL ret ini 125 Post X) (hd : decode cc pc = .ok (.invokevirtual ix, 3)) (hv : mm_CV own ix y 1 ci) (hl : mm_lay c = (0, ci))  {P : mm_HI → Prop} (hc : wV d y [.ref c, a1] hi τ P) (hs : (st.map fun v => v.category).sum ≤ 8) (k : ∀ (hi2 : mm_HI), P hi2 → X (pc + 3) ls st hi2 τ 125) : X pc ls (a1 :: .ref c :: st) hi τ 125 := r_callV G.1 _ _ _ _ _ _ _ _ [.ref c, a1] _ _ _ _ _ _ [a1] hd hv rfl rfl hl (ly_lt hl (by decide)) hc (Nat.le_refl _) rfl hs (fun v h2 t2 hp => by obtain ⟨rfl, rfl, hq⟩ := hp; exact k h2 hq)
theorem q_cV1B {d : Nat} {own : String} {cc : ByteArray} {nL : Nat} {ret : Option FieldType} {ini : Bool} {Post : mm_Q} {X : mm_X} {pc : Nat} {ls : List (Option Value)} {st : List Value} {hi : mm_HI} {τ : mm_T} {ix : Nat} {y : MethodName} {ci c : Nat} {a1 : Value}  (G : mm_G (mm_wp d) own cc nL ret ini 125 Post X) (hd : decode cc pc = .ok (.invokevirtual ix, 3)) (hv : mm_CV own ix y 1 ci) (hl : mm_lay c = (0, ci))  {p : Prop} (hc : wB d y [.ref c, a1] hi τ p) (hs : (st.map fun v => v.category).sum ≤ 8) (kt : p → X (pc + 3) ls (.int (nI 1) :: st) hi τ 125) (kf : ¬ p → X (pc + 3) ls (.int (nI 0) :: st) hi τ 125) : X pc ls (a1 :: .ref c :: st) hi τ 125 := r_callV G.1 _ _ _ _ _ _ _ _ [.ref c, a1] _ _ _ _ _ _ [a1] hd hv rfl rfl hl (ly_lt hl (by decide)) hc (Nat.le_refl _) rfl hs (fun v h2 t2 hp => by obtain ⟨rfl, rfl, ⟨hq, rfl⟩ | ⟨hq, rfl⟩⟩ := hp; exact kt hq; exact kf hq)
theorem q_cV1E {d : Nat} {own : String} {cc : ByteArray} {nL : Nat} {ret : Option FieldType} {ini : Bool} {Post : mm_Q} {X : mm_X} {pc : Nat} {ls : List (Option Value)} {st : List Value} {hi : mm_HI} {τ : mm_T} {ix : Nat} {y : MethodName} {ci c : Nat} {a1 : Value}  (G : mm_G (mm_wp d) own cc nL ret ini 125 Post X) (hd : decode cc pc = .ok (.invokevirtual ix, 3)) (hv : mm_CV own ix y 1 ci) (hl : mm_lay c = (0, ci))  {r : Int32} (hc : wE d y [.ref c, a1] hi τ r) (hs : (st.map fun v => v.category).sum ≤ 8) (k : X (pc + 3) ls (.int r :: st) hi τ 125) : X pc ls (a1 :: .ref c :: st) hi τ 125 := r_callV G.1 _ _ _ _ _ _ _ _ [.ref c, a1] _ _ _ _ _ _ [a1] hd hv rfl rfl hl (ly_lt hl (by decide)) hc (Nat.le_refl _) rfl hs (fun v h2 t2 hp => by obtain ⟨rfl, rfl, rfl⟩ := hp; exact k)
theorem q_cV1A {d : Nat} {own : String} {cc : ByteArray} {nL : Nat} {ret : Option FieldType} {ini : Bool} {Post : mm_Q} {X : mm_X} {pc : Nat} {ls : List (Option Value)} {st : List Value} {hi : mm_HI} {τ : mm_T} {ix : Nat} {y : MethodName} {ci c : Nat} {a1 : Value}  (G : mm_G (mm_wp d) own cc nL ret ini 125 Post X) (hd : decode cc pc = .ok (.invokevirtual ix, 3)) (hv : mm_CV own ix y 1 ci) (hl : mm_lay c = (0, ci))  {x : Nat} (hc : wA d y [.ref c, a1] hi τ x) (hs : (st.map fun v => v.category).sum ≤ 8) (k : X (pc + 3) ls (.ref x :: st) hi τ 125) : X pc ls (a1 :: .ref c :: st) hi τ 125 := r_callV G.1 _ _ _ _ _ _ _ _ [.ref c, a1] _ _ _ _ _ _ [a1] hd hv rfl rfl hl (ly_lt hl (by decide)) hc (Nat.le_refl _) rfl hs (fun v h2 t2 hp => by obtain ⟨rfl, rfl, rfl⟩ := hp; exact k)
theorem q_cV1R {d : Nat} {own : String} {cc : ByteArray} {nL : Nat} {ret : Option FieldType} {ini : Bool} {Post : mm_Q} {X : mm_X} {pc : Nat} {ls : List (Option Value)} {st : List Value} {hi : mm_HI} {τ : mm_T} {ix : Nat} {y : MethodName} {ci c : Nat} {a1 : Value}  (G : mm_G (mm_wp d) own cc nL ret ini 125 Post X) (hd : decode cc pc = .ok (.invokevirtual ix, 3)) (hv : mm_CV own ix y 1 ci) (hl : mm_lay c = (0, ci))  {Q : mm_Q} (hc : wR d y [.ref c, a1] hi τ Q) (hs : (st.map fun v => v.category).sum ≤ 8) (k : ∀ (v : Option Value) (hi2 : mm_HI) (τ2 : mm_T), Q v hi2 τ2 → X (pc + 3) ls (v.toList ++ st) hi2 τ2 125) : X pc ls (a1 :: .ref c :: st) hi τ 125 := r_callV G.1 _ _ _ _ _ _ _ _ [.ref c, a1] _ _ _ _ _ _ [a1] hd hv rfl rfl hl (ly_lt hl (by decide)) hc (Nat.le_refl _) rfl hs k
theorem q_cV2I {d : Nat} {own : String} {cc : ByteArray} {nL : Nat} {ret : Option FieldType} {ini : Bool} {Post : mm_Q} {X : mm_X} {pc : Nat} {ls : List (Option Value)} {st : List Value} {hi : mm_HI} {τ : mm_T} {ix : Nat} {y : MethodName} {ci c : Nat} {a1 a2 : Value}  (G : mm_G (mm_wp d) own cc nL ret ini 125 Post X) (hd : decode cc pc = .ok (.invokevirtual ix, 3)) (hv : mm_CV own ix y 2 ci) (hl : mm_lay c = (0, ci))  {P : Int32 → mm_HI → Prop} (hc : wI d y [.ref c, a1, a2] hi τ P) (hs : (st.map fun v => v.category).sum ≤ 8) (k : ∀ (r : Int32) (hi2 : mm_HI), P r hi2 → X (pc + 3) ls (.int r :: st) hi2 τ 125) : X pc ls (a2 :: a1 :: .ref c :: st) hi τ 125 := r_callV G.1 _ _ _ _ _ _ _ _ [.ref c, a1, a2] _ _ _ _ _ _ [a1, a2] hd hv rfl rfl hl (ly_lt hl (by decide)) hc (Nat.le_refl _) rfl hs (fun v h2 t2 hp => by obtain ⟨rfl, r, rfl, hq⟩ := hp; exact k r h2 hq)
theorem q_cV2V {d : Nat} {own : String} {cc : ByteArray} {nL : Nat} {ret : Option FieldType} {ini : Bool} {Post : mm_Q} {X : mm_X} {pc : Nat} {ls : List (Option Value)} {st : List Value} {hi : mm_HI} {τ : mm_T} {ix : Nat} {y : MethodName} {ci c : Nat} {a1 a2 : Value}  (G : mm_G (mm_wp d) own cc nL ret ini 125 Post X) (hd : decode cc pc = .ok (.invokevirtual ix, 3)) (hv : mm_CV own ix y 2 ci) (hl : mm_lay c = (0, ci))  {P : mm_HI → Prop} (hc : wV d y [.ref c, a1, a2] hi τ P) (hs : (st.map fun v => v.category).sum ≤ 8) (k : ∀ (hi2 : mm_HI), P hi2 → X (pc + 3) ls st hi2 τ 125) : X pc ls (a2 :: a1 :: .ref c :: st) hi τ 125 := r_callV G.1 _ _ _ _ _ _ _ _ [.ref c, a1, a2] _ _ _ _ _ _ [a1, a2] hd hv rfl rfl hl (ly_lt hl (by decide)) hc (Nat.le_refl _) rfl hs (fun v h2 t2 hp => by obtain ⟨rfl, rfl, hq⟩ := hp; exact k h2 hq)
theorem q_cV2B {d : Nat} {own : String} {cc : ByteArray} {nL : Nat} {ret : Option FieldType} {ini : Bool} {Post : mm_Q} {X : mm_X} {pc : Nat} {ls : List (Option Value)} {st : List Value} {hi : mm_HI} {τ : mm_T} {ix : Nat} {y : MethodName} {ci c : Nat} {a1 a2 : Value}  (G : mm_G (mm_wp d) own cc nL ret ini 125 Post X) (hd : decode cc pc = .ok (.invokevirtual ix, 3)) (hv : mm_CV own ix y 2 ci) (hl : mm_lay c = (0, ci))  {p : Prop} (hc : wB d y [.ref c, a1, a2] hi τ p) (hs : (st.map fun v => v.category).sum ≤ 8) (kt : p → X (pc + 3) ls (.int (nI 1) :: st) hi τ 125) (kf : ¬ p → X (pc + 3) ls (.int (nI 0) :: st) hi τ 125) : X pc ls (a2 :: a1 :: .ref c :: st) hi τ 125 := r_callV G.1 _ _ _ _ _ _ _ _ [.ref c, a1, a2] _ _ _ _ _ _ [a1, a2] hd hv rfl rfl hl (ly_lt hl (by decide)) hc (Nat.le_refl _) rfl hs (fun v h2 t2 hp => by obtain ⟨rfl, rfl, ⟨hq, rfl⟩ | ⟨hq, rfl⟩⟩ := hp; exact kt hq; exact kf hq)
theorem q_cV2E {d : Nat} {own : String} {cc : ByteArray} {nL : Nat} {ret : Option FieldType} {ini : Bool} {Post : mm_Q} {X : mm_X} {pc : Nat} {ls : List (Option Value)} {st : List Value} {hi : mm_HI} {τ : mm_T} {ix : Nat} {y : MethodName} {ci c : Nat} {a1 a2 : Value}  (G : mm_G (mm_wp d) own cc nL ret ini 125 Post X) (hd : decode cc pc = .ok (.invokevirtual ix, 3)) (hv : mm_CV own ix y 2 ci) (hl : mm_lay c = (0, ci))  {r : Int32} (hc : wE d y [.ref c, a1, a2] hi τ r) (hs : (st.map fun v => v.category).sum ≤ 8) (k : X (pc + 3) ls (.int r :: st) hi τ 125) : X pc ls (a2 :: a1 :: .ref c :: st) hi τ 125 := r_callV G.1 _ _ _ _ _ _ _ _ [.ref c, a1, a2] _ _ _ _ _ _ [a1, a2] hd hv rfl rfl hl (ly_lt hl (by decide)) hc (Nat.le_refl _) rfl hs (fun v h2 t2 hp => by obtain ⟨rfl, rfl, rfl⟩ := hp; exact k)
theorem q_cV2A {d : Nat} {own : String} {cc : ByteArray} {nL : Nat} {ret : Option FieldType} {ini : Bool} {Post : mm_Q} {X : mm_X} {pc : Nat} {ls : List (Option Value)} {st : List Value} {hi : mm_HI} {τ : mm_T} {ix : Nat} {y : MethodName} {ci c : Nat} {a1 a2 : Value}  (G : mm_G (mm_wp d) own cc nL ret ini 125 Post X) (hd : decode cc pc = .ok (.invokevirtual ix, 3)) (hv : mm_CV own ix y 2 ci) (hl : mm_lay c = (0, ci))  {x : Nat} (hc : wA d y [.ref c, a1, a2] hi τ x) (hs : (st.map fun v => v.category).sum ≤ 8) (k : X (pc + 3) ls (.ref x :: st) hi τ 125) : X pc ls (a2 :: a1 :: .ref c :: st) hi τ 125 := r_callV G.1 _ _ _ _ _ _ _ _ [.ref c, a1, a2] _ _ _ _ _ _ [a1, a2] hd hv rfl rfl hl (ly_lt hl (by decide)) hc (Nat.le_refl _) rfl hs (fun v h2 t2 hp => by obtain ⟨rfl, rfl, rfl⟩ := hp; exact k)
theorem q_cV2R {d : Nat} {own : String} {cc : ByteArray} {nL : Nat} {ret : Option FieldType} {ini : Bool} {Post : mm_Q} {X : mm_X} {pc : Nat} {ls : List (Option Value)} {st : List Value} {hi : mm_HI} {τ : mm_T} {ix : Nat} {y : MethodName} {ci c : Nat} {a1 a2 : Value}  (G : mm_G (mm_wp d) own cc nL ret ini 125 Post X) (hd : decode cc pc = .ok (.invokevirtual ix, 3)) (hv : mm_CV own ix y 2 ci) (hl : mm_lay c = (0, ci))  {Q : mm_Q} (hc : wR d y [.ref c, a1, a2] hi τ Q) (hs : (st.map fun v => v.category).sum ≤ 8) (k : ∀ (v : Option Value) (hi2 : mm_HI) (τ2 : mm_T), Q v hi2 τ2 → X (pc + 3) ls (v.toList ++ st) hi2 τ2 125) : X pc ls (a2 :: a1 :: .ref c :: st) hi τ 125 := r_callV G.1 _ _ _ _ _ _ _ _ [.ref c, a1, a2] _ _ _ _ _ _ [a1, a2] hd hv rfl rfl hl (ly_lt hl (by decide)) hc (Nat.le_refl _) rfl hs k
theorem q_cV3I {d : Nat} {own : String} {cc : ByteArray} {nL : Nat} {ret : Option FieldType} {ini : Bool} {Post : mm_Q} {X : mm_X} {pc : Nat} {ls : List (Option Value)} {st : List Value} {hi : mm_HI} {τ : mm_T} {ix : Nat} {y : MethodName} {ci c : Nat} {a1 a2 a3 : Value}  (G : mm_G (mm_wp d) own cc nL ret ini 125 Post X) (hd : decode cc pc = .ok (.invokevirtual ix, 3)) (hv : mm_CV own ix y 3 ci) (hl : mm_lay c = (0, ci))  {P : Int32 → mm_HI → Prop} (hc : wI d y [.ref c, a1, a2, a3] hi τ P) (hs : (st.map fun v => v.category).sum ≤ 8) (k : ∀ (r : Int32) (hi2 : mm_HI), P r hi2 → X (pc + 3) ls (.int r :: st) hi2 τ 125) : X pc ls (a3 :: a2 :: a1 :: .ref c :: st) hi τ 125 := r_callV G.1 _ _ _ _ _ _ _ _ [.ref c, a1, a2, a3] _ _ _ _ _ _ [a1, a2, a3] hd hv rfl rfl hl (ly_lt hl (by decide)) hc (Nat.le_refl _) rfl hs (fun v h2 t2 hp => by obtain ⟨rfl, r, rfl, hq⟩ := hp; exact k r h2 hq)
theorem q_cV3V {d : Nat} {own : String} {cc : ByteArray} {nL : Nat} {ret : Option FieldType} {ini : Bool} {Post : mm_Q} {X : mm_X} {pc : Nat} {ls : List (Option Value)} {st : List Value} {hi : mm_HI} {τ : mm_T} {ix : Nat} {y : MethodName} {ci c : Nat} {a1 a2 a3 : Value}  (G : mm_G (mm_wp d) own cc nL ret ini 125 Post X) (hd : decode cc pc = .ok (.invokevirtual ix, 3)) (hv : mm_CV own ix y 3 ci) (hl : mm_lay c = (0, ci))  {P : mm_HI → Prop} (hc : wV d y [.ref c, a1, a2, a3] hi τ P) (hs : (st.map fun v => v.category).sum ≤ 8) (k : ∀ (hi2 : mm_HI), P hi2 → X (pc + 3) ls st hi2 τ 125) : X pc ls (a3 :: a2 :: a1 :: .ref c :: st) hi τ 125 := r_callV G.1 _ _ _ _ _ _ _ _ [.ref c, a1, a2, a3] _ _ _ _ _ _ [a1, a2, a3] hd hv rfl rfl hl (ly_lt hl (by decide)) hc (Nat.le_refl _) rfl hs (fun v h2 t2 hp => by obtain ⟨rfl, rfl, hq⟩ := hp; exact k h2 hq)
theorem q_cV3B {d : Nat} {own : String} {cc : ByteArray} {nL : Nat} {ret : Option FieldType} {ini : Bool} {Post : mm_Q} {X : mm_X} {pc : Nat} {ls : List (Option Value)} {st : List Value} {hi : mm_HI} {τ : mm_T} {ix : Nat} {y : MethodName} {ci c : Nat} {a1 a2 a3 : Value}  (G : mm_G (mm_wp d) own cc nL ret ini 125 Post X) (hd : decode cc pc = .ok (.invokevirtual ix, 3)) (hv : mm_CV own ix y 3 ci) (hl : mm_lay c = (0, ci))  {p : Prop} (hc : wB d y [.ref c, a1, a2, a3] hi τ p) (hs : (st.map fun v => v.category).sum ≤ 8) (kt : p → X (pc + 3) ls (.int (nI 1) :: st) hi τ 125) (kf : ¬ p → X (pc + 3) ls (.int (nI 0) :: st) hi τ 125) : X pc ls (a3 :: a2 :: a1 :: .ref c :: st) hi τ 125 := r_callV G.1 _ _ _ _ _ _ _ _ [.ref c, a1, a2, a3] _ _ _ _ _ _ [a1, a2, a3] hd hv rfl rfl hl (ly_lt hl (by decide)) hc (Nat.le_refl _) rfl hs (fun v h2 t2 hp => by obtain ⟨rfl, rfl, ⟨hq, rfl⟩ | ⟨hq, rfl⟩⟩ := hp; exact kt hq; exact kf hq)
theorem q_cV3E {d : Nat} {own : String} {cc : ByteArray} {nL : Nat} {ret : Option FieldType} {ini : Bool} {Post : mm_Q} {X : mm_X} {pc : Nat} {ls : List (Option Value)} {st : List Value} {hi : mm_HI} {τ : mm_T} {ix : Nat} {y : MethodName} {ci c : Nat} {a1 a2 a3 : Value}  (G : mm_G (mm_wp d) own cc nL ret ini 125 Post X) (hd : decode cc pc = .ok (.invokevirtual ix, 3)) (hv : mm_CV own ix y 3 ci) (hl : mm_lay c = (0, ci))  {r : Int32} (hc : wE d y [.ref c, a1, a2, a3] hi τ r) (hs : (st.map fun v => v.category).sum ≤ 8) (k : X (pc + 3) ls (.int r :: st) hi τ 125) : X pc ls (a3 :: a2 :: a1 :: .ref c :: st) hi τ 125 := r_callV G.1 _ _ _ _ _ _ _ _ [.ref c, a1, a2, a3] _ _ _ _ _ _ [a1, a2, a3] hd hv rfl rfl hl (ly_lt hl (by decide)) hc (Nat.le_refl _) rfl hs (fun v h2 t2 hp => by obtain ⟨rfl, rfl, rfl⟩ := hp; exact k)
theorem q_cV3A {d : Nat} {own : String} {cc : ByteArray} {nL : Nat} {ret : Option FieldType} {ini : Bool} {Post : mm_Q} {X : mm_X} {pc : Nat} {ls : List (Option Value)} {st : List Value} {hi : mm_HI} {τ : mm_T} {ix : Nat} {y : MethodName} {ci c : Nat} {a1 a2 a3 : Value}  (G : mm_G (mm_wp d) own cc nL ret ini 125 Post X) (hd : decode cc pc = .ok (.invokevirtual ix, 3)) (hv : mm_CV own ix y 3 ci) (hl : mm_lay c = (0, ci))  {x : Nat} (hc : wA d y [.ref c, a1, a2, a3] hi τ x) (hs : (st.map fun v => v.category).sum ≤ 8) (k : X (pc + 3) ls (.ref x :: st) hi τ 125) : X pc ls (a3 :: a2 :: a1 :: .ref c :: st) hi τ 125 := r_callV G.1 _ _ _ _ _ _ _ _ [.ref c, a1, a2, a3] _ _ _ _ _ _ [a1, a2, a3] hd hv rfl rfl hl (ly_lt hl (by decide)) hc (Nat.le_refl _) rfl hs (fun v h2 t2 hp => by obtain ⟨rfl, rfl, rfl⟩ := hp; exact k)
theorem q_cV3R {d : Nat} {own : String} {cc : ByteArray} {nL : Nat} {ret : Option FieldType} {ini : Bool} {Post : mm_Q} {X : mm_X} {pc : Nat} {ls : List (Option Value)} {st : List Value} {hi : mm_HI} {τ : mm_T} {ix : Nat} {y : MethodName} {ci c : Nat} {a1 a2 a3 : Value}  (G : mm_G (mm_wp d) own cc nL ret ini 125 Post X) (hd : decode cc pc = .ok (.invokevirtual ix, 3)) (hv : mm_CV own ix y 3 ci) (hl : mm_lay c = (0, ci))  {Q : mm_Q} (hc : wR d y [.ref c, a1, a2, a3] hi τ Q) (hs : (st.map fun v => v.category).sum ≤ 8) (k : ∀ (v : Option Value) (hi2 : mm_HI) (τ2 : mm_T), Q v hi2 τ2 → X (pc + 3) ls (v.toList ++ st) hi2 τ2 125) : X pc ls (a3 :: a2 :: a1 :: .ref c :: st) hi τ 125 := r_callV G.1 _ _ _ _ _ _ _ _ [.ref c, a1, a2, a3] _ _ _ _ _ _ [a1, a2, a3] hd hv rfl rfl hl (ly_lt hl (by decide)) hc (Nat.le_refl _) rfl hs k
theorem q_cV4I {d : Nat} {own : String} {cc : ByteArray} {nL : Nat} {ret : Option FieldType} {ini : Bool} {Post : mm_Q} {X : mm_X} {pc : Nat} {ls : List (Option Value)} {st : List Value} {hi : mm_HI} {τ : mm_T} {ix : Nat} {y : MethodName} {ci c : Nat} {a1 a2 a3 a4 : Value}  (G : mm_G (mm_wp d) own cc nL ret ini 125 Post X) (hd : decode cc pc = .ok (.invokevirtual ix, 3)) (hv : mm_CV own ix y 4 ci) (hl : mm_lay c = (0, ci))  {P : Int32 → mm_HI → Prop} (hc : wI d y [.ref c, a1, a2, a3, a4] hi τ P) (hs : (st.map fun v => v.category).sum ≤ 8) (k : ∀ (r : Int32) (hi2 : mm_HI), P r hi2 → X (pc + 3) ls (.int r :: st) hi2 τ 125) : X pc ls (a4 :: a3 :: a2 :: a1 :: .ref c :: st) hi τ 125 := r_callV G.1 _ _ _ _ _ _ _ _ [.ref c, a1, a2, a3, a4] _ _ _ _ _ _ [a1, a2, a3, a4] hd hv rfl rfl hl (ly_lt hl (by decide)) hc (Nat.le_refl _) rfl hs (fun v h2 t2 hp => by obtain ⟨rfl, r, rfl, hq⟩ := hp; exact k r h2 hq)
theorem q_cV4V {d : Nat} {own : String} {cc : ByteArray} {nL : Nat} {ret : Option FieldType} {ini : Bool} {Post : mm_Q} {X : mm_X} {pc : Nat} {ls : List (Option Value)} {st : List Value} {hi : mm_HI} {τ : mm_T} {ix : Nat} {y : MethodName} {ci c : Nat} {a1 a2 a3 a4 : Value}  (G : mm_G (mm_wp d) own cc nL ret ini 125 Post X) (hd : decode cc pc = .ok (.invokevirtual ix, 3)) (hv : mm_CV own ix y 4 ci) (hl : mm_lay c = (0, ci))  {P : mm_HI → Prop} (hc : wV d y [.ref c, a1, a2, a3, a4] hi τ P) (hs : (st.map fun v => v.category).sum ≤ 8) (k : ∀ (hi2 : mm_HI), P hi2 → X (pc + 3) ls st hi2 τ 125) : X pc ls (a4 :: a3 :: a2 :: a1 :: .ref c :: st) hi τ 125 := r_callV G.1 _ _ _ _ _ _ _ _ [.ref c, a1, a2, a3, a4] _ _ _ _ _ _ [a1, a2, a3, a4] hd hv rfl rfl hl (ly_lt hl (by decide)) hc (Nat.le_refl _) rfl hs (fun v h2 t2 hp => by obtain ⟨rfl, rfl, hq⟩ := hp; exact k h2 hq)
theorem q_cV4B {d : Nat} {own : String} {cc : ByteArray} {nL : Nat} {ret : Option FieldType} {ini : Bool} {Post : mm_Q} {X : mm_X} {pc : Nat} {ls : List (Option Value)} {st : List Value} {hi : mm_HI} {τ : mm_T} {ix : Nat} {y : MethodName} {ci c : Nat} {a1 a2 a3 a4 : Value}  (G : mm_G (mm_wp d) own cc nL ret ini 125 Post X) (hd : decode cc pc = .ok (.invokevirtual ix, 3)) (hv : mm_CV own ix y 4 ci) (hl : mm_lay c = (0, ci))  {p : Prop} (hc : wB d y [.ref c, a1, a2, a3, a4] hi τ p) (hs : (st.map fun v => v.category).sum ≤ 8) (kt : p → X (pc + 3) ls (.int (nI 1) :: st) hi τ 125) (kf : ¬ p → X (pc + 3) ls (.int (nI 0) :: st) hi τ 125) : X pc ls (a4 :: a3 :: a2 :: a1 :: .ref c :: st) hi τ 125 := r_callV G.1 _ _ _ _ _ _ _ _ [.ref c, a1, a2, a3, a4] _ _ _ _ _ _ [a1, a2, a3, a4] hd hv rfl rfl hl (ly_lt hl (by decide)) hc (Nat.le_refl _) rfl hs (fun v h2 t2 hp => by obtain ⟨rfl, rfl, ⟨hq, rfl⟩ | ⟨hq, rfl⟩⟩ := hp; exact kt hq; exact kf hq)
theorem q_cV4E {d : Nat} {own : String} {cc : ByteArray} {nL : Nat} {ret : Option FieldType} {ini : Bool} {Post : mm_Q} {X : mm_X} {pc : Nat} {ls : List (Option Value)} {st : List Value} {hi : mm_HI} {τ : mm_T} {ix : Nat} {y : MethodName} {ci c : Nat} {a1 a2 a3 a4 : Value}  (G : mm_G (mm_wp d) own cc nL ret ini 125 Post X) (hd : decode cc pc = .ok (.invokevirtual ix, 3)) (hv : mm_CV own ix y 4 ci) (hl : mm_lay c = (0, ci))  {r : Int32} (hc : wE d y [.ref c, a1, a2, a3, a4] hi τ r) (hs : (st.map fun v => v.category).sum ≤ 8) (k : X (pc + 3) ls (.int r :: st) hi τ 125) : X pc ls (a4 :: a3 :: a2 :: a1 :: .ref c :: st) hi τ 125 := r_callV G.1 _ _ _ _ _ _ _ _ [.ref c, a1, a2, a3, a4] _ _ _ _ _ _ [a1, a2, a3, a4] hd hv rfl rfl hl (ly_lt hl (by decide)) hc (Nat.le_refl _) rfl hs (fun v h2 t2 hp => by obtain ⟨rfl, rfl, rfl⟩ := hp; exact k)
theorem q_cV4A {d : Nat} {own : String} {cc : ByteArray} {nL : Nat} {ret : Option FieldType} {ini : Bool} {Post : mm_Q} {X : mm_X} {pc : Nat} {ls : List (Option Value)} {st : List Value} {hi : mm_HI} {τ : mm_T} {ix : Nat} {y : MethodName} {ci c : Nat} {a1 a2 a3 a4 : Value}  (G : mm_G (mm_wp d) own cc nL ret ini 125 Post X) (hd : decode cc pc = .ok (.invokevirtual ix, 3)) (hv : mm_CV own ix y 4 ci) (hl : mm_lay c = (0, ci))  {x : Nat} (hc : wA d y [.ref c, a1, a2, a3, a4] hi τ x) (hs : (st.map fun v => v.category).sum ≤ 8) (k : X (pc + 3) ls (.ref x :: st) hi τ 125) : X pc ls (a4 :: a3 :: a2 :: a1 :: .ref c :: st) hi τ 125 := r_callV G.1 _ _ _ _ _ _ _ _ [.ref c, a1, a2, a3, a4] _ _ _ _ _ _ [a1, a2, a3, a4] hd hv rfl rfl hl (ly_lt hl (by decide)) hc (Nat.le_refl _) rfl hs (fun v h2 t2 hp => by obtain ⟨rfl, rfl, rfl⟩ := hp; exact k)
theorem q_cV4R {d : Nat} {own : String} {cc : ByteArray} {nL : Nat} {ret : Option FieldType} {ini : Bool} {Post : mm_Q} {X : mm_X} {pc : Nat} {ls : List (Option Value)} {st : List Value} {hi : mm_HI} {τ : mm_T} {ix : Nat} {y : MethodName} {ci c : Nat} {a1 a2 a3 a4 : Value}  (G : mm_G (mm_wp d) own cc nL ret ini 125 Post X) (hd : decode cc pc = .ok (.invokevirtual ix, 3)) (hv : mm_CV own ix y 4 ci) (hl : mm_lay c = (0, ci))  {Q : mm_Q} (hc : wR d y [.ref c, a1, a2, a3, a4] hi τ Q) (hs : (st.map fun v => v.category).sum ≤ 8) (k : ∀ (v : Option Value) (hi2 : mm_HI) (τ2 : mm_T), Q v hi2 τ2 → X (pc + 3) ls (v.toList ++ st) hi2 τ2 125) : X pc ls (a4 :: a3 :: a2 :: a1 :: .ref c :: st) hi τ 125 := r_callV G.1 _ _ _ _ _ _ _ _ [.ref c, a1, a2, a3, a4] _ _ _ _ _ _ [a1, a2, a3, a4] hd hv rfl rfl hl (ly_lt hl (by decide)) hc (Nat.le_refl _) rfl hs k
theorem q_cV5I {d : Nat} {own : String} {cc : ByteArray} {nL : Nat} {ret : Option FieldType} {ini : Bool} {Post : mm_Q} {X : mm_X} {pc : Nat} {ls : List (Option Value)} {st : List Value} {hi : mm_HI} {τ : mm_T} {ix : Nat} {y : MethodName} {ci c : Nat} {a1 a2 a3 a4 a5 : Value}  (G : mm_G (mm_wp d) own cc nL ret ini 125 Post X) (hd : decode cc pc = .ok (.invokevirtual ix, 3)) (hv : mm_CV own ix y 5 ci) (hl : mm_lay c = (0, ci))  {P : Int32 → mm_HI → Prop} (hc : wI d y [.ref c, a1, a2, a3, a4, a5] hi τ P) (hs : (st.map fun v => v.category).sum ≤ 8) (k : ∀ (r : Int32) (hi2 : mm_HI), P r hi2 → X (pc + 3) ls (.int r :: st) hi2 τ 125) : X pc ls (a5 :: a4 :: a3 :: a2 :: a1 :: .ref c :: st) hi τ 125 := r_callV G.1 _ _ _ _ _ _ _ _ [.ref c, a1, a2, a3, a4, a5] _ _ _ _ _ _ [a1, a2, a3, a4, a5] hd hv rfl rfl hl (ly_lt hl (by decide)) hc (Nat.le_refl _) rfl hs (fun v h2 t2 hp => by obtain ⟨rfl, r, rfl, hq⟩ := hp; exact k r h2 hq)
theorem q_cV5V {d : Nat} {own : String} {cc : ByteArray} {nL : Nat} {ret : Option FieldType} {ini : Bool} {Post : mm_Q} {X : mm_X} {pc : Nat} {ls : List (Option Value)} {st : List Value} {hi : mm_HI} {τ : mm_T} {ix : Nat} {y : MethodName} {ci c : Nat} {a1 a2 a3 a4 a5 : Value}  (G : mm_G (mm_wp d) own cc nL ret ini 125 Post X) (hd : decode cc pc = .ok (.invokevirtual ix, 3)) (hv : mm_CV own ix y 5 ci) (hl : mm_lay c = (0, ci))  {P : mm_HI → Prop} (hc : wV d y [.ref c, a1, a2, a3, a4, a5] hi τ P) (hs : (st.map fun v => v.category).sum ≤ 8) (k : ∀ (hi2 : mm_HI), P hi2 → X (pc + 3) ls st hi2 τ 125) : X pc ls (a5 :: a4 :: a3 :: a2 :: a1 :: .ref c :: st) hi τ 125 := r_callV G.1 _ _ _ _ _ _ _ _ [.ref c, a1, a2, a3, a4, a5] _ _ _ _ _ _ [a1, a2, a3, a4, a5] hd hv rfl rfl hl (ly_lt hl (by decide)) hc (Nat.le_refl _) rfl hs (fun v h2 t2 hp => by obtain ⟨rfl, rfl, hq⟩ := hp; exact k h2 hq)
theorem q_cV5B {d : Nat} {own : String} {cc : ByteArray} {nL : Nat} {ret : Option FieldType} {ini : Bool} {Post : mm_Q} {X : mm_X} {pc : Nat} {ls : List (Option Value)} {st : List Value} {hi : mm_HI} {τ : mm_T} {ix : Nat} {y : MethodName} {ci c : Nat} {a1 a2 a3 a4 a5 : Value}  (G : mm_G (mm_wp d) own cc nL ret ini 125 Post X) (hd : decode cc pc = .ok (.invokevirtual ix, 3)) (hv : mm_CV own ix y 5 ci) (hl : mm_lay c = (0, ci))  {p : Prop} (hc : wB d y [.ref c, a1, a2, a3, a4, a5] hi τ p) (hs : (st.map fun v => v.category).sum ≤ 8) (kt : p → X (pc + 3) ls (.int (nI 1) :: st) hi τ 125) (kf : ¬ p → X (pc + 3) ls (.int (nI 0) :: st) hi τ 125) : X pc ls (a5 :: a4 :: a3 :: a2 :: a1 :: .ref c :: st) hi τ 125 := r_callV G.1 _ _ _ _ _ _ _ _ [.ref c, a1, a2, a3, a4, a5] _ _ _ _ _ _ [a1, a2, a3, a4, a5] hd hv rfl rfl hl (ly_lt hl (by decide)) hc (Nat.le_refl _) rfl hs (fun v h2 t2 hp => by obtain ⟨rfl, rfl, ⟨hq, rfl⟩ | ⟨hq, rfl⟩⟩ := hp; exact kt hq; exact kf hq)
theorem q_cV5E {d : Nat} {own : String} {cc : ByteArray} {nL : Nat} {ret : Option FieldType} {ini : Bool} {Post : mm_Q} {X : mm_X} {pc : Nat} {ls : List (Option Value)} {st : List Value} {hi : mm_HI} {τ : mm_T} {ix : Nat} {y : MethodName} {ci c : Nat} {a1 a2 a3 a4 a5 : Value}  (G : mm_G (mm_wp d) own cc nL ret ini 125 Post X) (hd : decode cc pc = .ok (.invokevirtual ix, 3)) (hv : mm_CV own ix y 5 ci) (hl : mm_lay c = (0, ci))  {r : Int32} (hc : wE d y [.ref c, a1, a2, a3, a4, a5] hi τ r) (hs : (st.map fun v => v.category).sum ≤ 8) (k : X (pc + 3) ls (.int r :: st) hi τ 125) : X pc ls (a5 :: a4 :: a3 :: a2 :: a1 :: .ref c :: st) hi τ 125 := r_callV G.1 _ _ _ _ _ _ _ _ [.ref c, a1, a2, a3, a4, a5] _ _ _ _ _ _ [a1, a2, a3, a4, a5] hd hv rfl rfl hl (ly_lt hl (by decide)) hc (Nat.le_refl _) rfl hs (fun v h2 t2 hp => by obtain ⟨rfl, rfl, rfl⟩ := hp; exact k)
theorem q_cV5A {d : Nat} {own : String} {cc : ByteArray} {nL : Nat} {ret : Option FieldType} {ini : Bool} {Post : mm_Q} {X : mm_X} {pc : Nat} {ls : List (Option Value)} {st : List Value} {hi : mm_HI} {τ : mm_T} {ix : Nat} {y : MethodName} {ci c : Nat} {a1 a2 a3 a4 a5 : Value}  (G : mm_G (mm_wp d) own cc nL ret ini 125 Post X) (hd : decode cc pc = .ok (.invokevirtual ix, 3)) (hv : mm_CV own ix y 5 ci) (hl : mm_lay c = (0, ci))  {x : Nat} (hc : wA d y [.ref c, a1, a2, a3, a4, a5] hi τ x) (hs : (st.map fun v => v.category).sum ≤ 8) (k : X (pc + 3) ls (.ref x :: st) hi τ 125) : X pc ls (a5 :: a4 :: a3 :: a2 :: a1 :: .ref c :: st) hi τ 125 := r_callV G.1 _ _ _ _ _ _ _ _ [.ref c, a1, a2, a3, a4, a5] _ _ _ _ _ _ [a1, a2, a3, a4, a5] hd hv rfl rfl hl (ly_lt hl (by decide)) hc (Nat.le_refl _) rfl hs (fun v h2 t2 hp => by obtain ⟨rfl, rfl, rfl⟩ := hp; exact k)
theorem q_cV5R {d : Nat} {own : String} {cc : ByteArray} {nL : Nat} {ret : Option FieldType} {ini : Bool} {Post : mm_Q} {X : mm_X} {pc : Nat} {ls : List (Option Value)} {st : List Value} {hi : mm_HI} {τ : mm_T} {ix : Nat} {y : MethodName} {ci c : Nat} {a1 a2 a3 a4 a5 : Value}  (G : mm_G (mm_wp d) own cc nL ret ini 125 Post X) (hd : decode cc pc = .ok (.invokevirtual ix, 3)) (hv : mm_CV own ix y 5 ci) (hl : mm_lay c = (0, ci))  {Q : mm_Q} (hc : wR d y [.ref c, a1, a2, a3, a4, a5] hi τ Q) (hs : (st.map fun v => v.category).sum ≤ 8) (k : ∀ (v : Option Value) (hi2 : mm_HI) (τ2 : mm_T), Q v hi2 τ2 → X (pc + 3) ls (v.toList ++ st) hi2 τ2 125) : X pc ls (a5 :: a4 :: a3 :: a2 :: a1 :: .ref c :: st) hi τ 125 := r_callV G.1 _ _ _ _ _ _ _ _ [.ref c, a1, a2, a3, a4, a5] _ _ _ _ _ _ [a1, a2, a3, a4, a5] hd hv rfl rfl hl (ly_lt hl (by decide)) hc (Nat.le_refl _) rfl hs k
theorem q_cU0I {d : Nat} {own : String} {cc : ByteArray} {nL : Nat} {ret : Option FieldType} {ini : Bool} {Post : mm_Q} {X : mm_X} {pc : Nat} {ls : List (Option Value)} {st : List Value} {hi : mm_HI} {τ : mm_T} {ix : Nat} {y : MethodName} {ci c : Nat}  (G : mm_G (mm_wp d) own cc nL ret ini 125 Post X) (hd : decode cc pc = .ok (.invokevirtual ix, 3)) (hv : mm_CU own ix y 0 ci) (hl : mm_lay c = (0, ci))  {P : Int32 → mm_HI → Prop} (hc : wI d y [.ref c] hi τ P) (hs : (st.map fun v => v.category).sum ≤ 8) (k : ∀ (r : Int32) (hi2 : mm_HI), P r hi2 → X (pc + 3) ls (.int r :: st) hi2 τ 125) : X pc ls (.ref c :: st) hi τ 125 := r_callU G.1 _ _ _ _ _ _ _ _ [.ref c] _ _ _ _ _ _ [] hd hv rfl rfl hl (ly_lt hl (by decide)) hc (Nat.le_refl _) rfl hs (fun v h2 t2 hp => by obtain ⟨rfl, r, rfl, hq⟩ := hp; exact k r h2 hq)
theorem q_cU0V {d : Nat} {own : String} {cc : ByteArray} {nL : Nat} {ret : Option FieldType} {ini : Bool} {Post : mm_Q} {X : mm_X} {pc : Nat} {ls : List (Option Value)} {st : List Value} {hi : mm_HI} {τ : mm_T} {ix : Nat} {y : MethodName} {ci c : Nat}  (G : mm_G (mm_wp d) own cc nL ret ini 125 Post X) (hd : decode cc pc = .ok (.invokevirtual ix, 3)) (hv : mm_CU own ix y 0 ci) (hl : mm_lay c = (0, ci))  {P : mm_HI → Prop} (hc : wV d y [.ref c] hi τ P) (hs : (st.map fun v => v.category).sum ≤ 8) (k : ∀ (hi2 : mm_HI), P hi2 → X (pc + 3) ls st hi2 τ 125) : X pc ls (.ref c :: st) hi τ 125 := r_callU G.1 _ _ _ _ _ _ _ _ [.ref c] _ _ _ _ _ _ [] hd hv rfl rfl hl (ly_lt hl (by decide)) hc (Nat.le_refl _) rfl hs (fun v h2 t2 hp => by obtain ⟨rfl, rfl, hq⟩ := hp; exact k h2 hq)
theorem q_cU0B {d : Nat} {own : String} {cc : ByteArray} {nL : Nat} {ret : Option FieldType} {ini : Bool} {Post : mm_Q} {X : mm_X} {pc : Nat} {ls : List (Option Value)} {st : List Value} {hi : mm_HI} {τ : mm_T} {ix : Nat} {y : MethodName} {ci c : Nat}  (G : mm_G (mm_wp d) own cc nL ret ini 125 Post X) (hd : decode cc pc = .ok (.invokevirtual ix, 3)) (hv : mm_CU own ix y 0 ci) (hl : mm_lay c = (0, ci))  {p : Prop} (hc : wB d y [.ref c] hi τ p) (hs : (st.map fun v => v.category).sum ≤ 8) (kt : p → X (pc + 3) ls (.int (nI 1) :: st) hi τ 125) (kf : ¬ p → X (pc + 3) ls (.int (nI 0) :: st) hi τ 125) : X pc ls (.ref c :: st) hi τ 125 := r_callU G.1 _ _ _ _ _ _ _ _ [.ref c] _ _ _ _ _ _ [] hd hv rfl rfl hl (ly_lt hl (by decide)) hc (Nat.le_refl _) rfl hs (fun v h2 t2 hp => by obtain ⟨rfl, rfl, ⟨hq, rfl⟩ | ⟨hq, rfl⟩⟩ := hp; exact kt hq; exact kf hq)
theorem q_cU0E {d : Nat} {own : String} {cc : ByteArray} {nL : Nat} {ret : Option FieldType} {ini : Bool} {Post : mm_Q} {X : mm_X} {pc : Nat} {ls : List (Option Value)} {st : List Value} {hi : mm_HI} {τ : mm_T} {ix : Nat} {y : MethodName} {ci c : Nat}  (G : mm_G (mm_wp d) own cc nL ret ini 125 Post X) (hd : decode cc pc = .ok (.invokevirtual ix, 3)) (hv : mm_CU own ix y 0 ci) (hl : mm_lay c = (0, ci))  {r : Int32} (hc : wE d y [.ref c] hi τ r) (hs : (st.map fun v => v.category).sum ≤ 8) (k : X (pc + 3) ls (.int r :: st) hi τ 125) : X pc ls (.ref c :: st) hi τ 125 := r_callU G.1 _ _ _ _ _ _ _ _ [.ref c] _ _ _ _ _ _ [] hd hv rfl rfl hl (ly_lt hl (by decide)) hc (Nat.le_refl _) rfl hs (fun v h2 t2 hp => by obtain ⟨rfl, rfl, rfl⟩ := hp; exact k)
theorem q_cU0A {d : Nat} {own : String} {cc : ByteArray} {nL : Nat} {ret : Option FieldType} {ini : Bool} {Post : mm_Q} {X : mm_X} {pc : Nat} {ls : List (Option Value)} {st : List Value} {hi : mm_HI} {τ : mm_T} {ix : Nat} {y : MethodName} {ci c : Nat}  (G : mm_G (mm_wp d) own cc nL ret ini 125 Post X) (hd : decode cc pc = .ok (.invokevirtual ix, 3)) (hv : mm_CU own ix y 0 ci) (hl : mm_lay c = (0, ci))  {x : Nat} (hc : wA d y [.ref c] hi τ x) (hs : (st.map fun v => v.category).sum ≤ 8) (k : X (pc + 3) ls (.ref x :: st) hi τ 125) : X pc ls (.ref c :: st) hi τ 125 := r_callU G.1 _ _ _ _ _ _ _ _ [.ref c] _ _ _ _ _ _ [] hd hv rfl rfl hl (ly_lt hl (by decide)) hc (Nat.le_refl _) rfl hs (fun v h2 t2 hp => by obtain ⟨rfl, rfl, rfl⟩ := hp; exact k)
theorem q_cU0R {d : Nat} {own : String} {cc : ByteArray} {nL : Nat} {ret : Option FieldType} {ini : Bool} {Post : mm_Q} {X : mm_X} {pc : Nat} {ls : List (Option Value)} {st : List Value} {hi : mm_HI} {τ : mm_T} {ix : Nat} {y : MethodName} {ci c : Nat}  (G : mm_G (mm_wp d) own cc nL ret ini 125 Post X) (hd : decode cc pc = .ok (.invokevirtual ix, 3)) (hv : mm_CU own ix y 0 ci) (hl : mm_lay c = (0, ci))  {Q : mm_Q} (hc : wR d y [.ref c] hi τ Q) (hs : (st.map fun v => v.category).sum ≤ 8) (k : ∀ (v : Option Value) (hi2 : mm_HI) (τ2 : mm_T), Q v hi2 τ2 → X (pc + 3) ls (v.toList ++ st) hi2 τ2 125) : X pc ls (.ref c :: st) hi τ 125 := r_callU G.1 _ _ _ _ _ _ _ _ [.ref c] _ _ _ _ _ _ [] hd hv rfl rfl hl (ly_lt hl (by decide)) hc (Nat.le_refl _) rfl hs k
theorem q_cU1I {d : Nat} {own : String} {cc : ByteArray} {nL : Nat} {ret : Option FieldType} {ini : Bool} {Post : mm_Q} {X : mm_X} {pc : Nat} {ls : List (Option Value)} {st : List Value} {hi : mm_HI} {τ : mm_T} {ix : Nat} {y : MethodName} {ci c : Nat} {a1 : Value}  (G : mm_G (mm_wp d) own cc nL ret ini 125 Post X) (hd : decode cc pc = .ok (.invokevirtual ix, 3)) (hv : mm_CU own ix y 1 ci) (hl : mm_lay c = (0, ci))  {P : Int32 → mm_HI → Prop} (hc : wI d y [.ref c, a1] hi τ P) (hs : (st.map fun v => v.category).sum ≤ 8) (k : ∀ (r : Int32) (hi2 : mm_HI), P r hi2 → X (pc + 3) ls (.int r :: st) hi2 τ 125) : X pc ls (a1 :: .ref c :: st) hi τ 125 := r_callU G.1 _ _ _ _ _ _ _ _ [.ref c, a1] _ _ _ _ _ _ [a1] hd hv rfl rfl hl (ly_lt hl (by decide)) hc (Nat.le_refl _) rfl hs (fun v h2 t2 hp => by obtain ⟨rfl, r, rfl, hq⟩ := hp; exact k r h2 hq)
theorem q_cU1V {d : Nat} {own : String} {cc : ByteArray} {nL : Nat} {ret : Option FieldType} {ini : Bool} {Post : mm_Q} {X : mm_X} {pc : Nat} {ls : List (Option Value)} {st : List Value} {hi : mm_HI} {τ : mm_T} {ix : Nat} {y : MethodName} {ci c : Nat} {a1 : Value}  (G : mm_G (mm_wp d) own cc nL ret ini 125 Post X) (hd : decode cc pc = .ok (.invokevirtual ix, 3)) (hv : mm_CU own ix y 1 ci) (hl : mm_lay c = (0, ci))  {P : mm_HI → Prop} (hc : wV d y [.ref c, a1] hi τ P) (hs : (st.map fun v => v.category).sum ≤ 8) (k : ∀ (hi2 : mm_HI), P hi2 → X (pc + 3) ls st hi2 τ 125) : X pc ls (a1 :: .ref c :: st) hi τ 125 := r_callU G.1 _ _ _ _ _ _ _ _ [.ref c, a1] _ _ _ _ _ _ [a1] hd hv rfl rfl hl (ly_lt hl (by decide)) hc (Nat.le_refl _) rfl hs (fun v h2 t2 hp => by obtain ⟨rfl, rfl, hq⟩ := hp; exact k h2 hq)
theorem q_cU1B {d : Nat} {own : String} {cc : ByteArray} {nL : Nat} {ret : Option FieldType} {ini : Bool} {Post : mm_Q} {X : mm_X} {pc : Nat} {ls : List (Option Value)} {st : List Value} {hi : mm_HI} {τ : mm_T} {ix : Nat} {y : MethodName} {ci c : Nat} {a1 : Value}  (G : mm_G (mm_wp d) own cc nL ret ini 125 Post X) (hd : decode cc pc = .ok (.invokevirtual ix, 3)) (hv : mm_CU own ix y 1 ci) (hl : mm_lay c = (0, ci))  {p : Prop} (hc : wB d y [.ref c, a1] hi τ p) (hs : (st.map fun v => v.category).sum ≤ 8) (kt : p → X (pc + 3) ls (.int (nI 1) :: st) hi τ 125) (kf : ¬ p → X (pc + 3) ls (.int (nI 0) :: st) hi τ 125) : X pc ls (a1 :: .ref c :: st) hi τ 125 := r_callU G.1 _ _ _ _ _ _ _ _ [.ref c, a1] _ _ _ _ _ _ [a1] hd hv rfl rfl hl (ly_lt hl (by decide)) hc (Nat.le_refl _) rfl hs (fun v h2 t2 hp => by obtain ⟨rfl, rfl, ⟨hq, rfl⟩ | ⟨hq, rfl⟩⟩ := hp; exact kt hq; exact kf hq)
theorem q_cU1E {d : Nat} {own : String} {cc : ByteArray} {nL : Nat} {ret : Option FieldType} {ini : Bool} {Post : mm_Q} {X : mm_X} {pc : Nat} {ls : List (Option Value)} {st : List Value} {hi : mm_HI} {τ : mm_T} {ix : Nat} {y : MethodName} {ci c : Nat} {a1 : Value}  (G : mm_G (mm_wp d) own cc nL ret ini 125 Post X) (hd : decode cc pc = .ok (.invokevirtual ix, 3)) (hv : mm_CU own ix y 1 ci) (hl : mm_lay c = (0, ci))  {r : Int32} (hc : wE d y [.ref c, a1] hi τ r) (hs : (st.map fun v => v.category).sum ≤ 8) (k : X (pc + 3) ls (.int r :: st) hi τ 125) : X pc ls (a1 :: .ref c :: st) hi τ 125 := r_callU G.1 _ _ _ _ _ _ _ _ [.ref c, a1] _ _ _ _ _ _ [a1] hd hv rfl rfl hl (ly_lt hl (by decide)) hc (Nat.le_refl _) rfl hs (fun v h2 t2 hp => by obtain ⟨rfl, rfl, rfl⟩ := hp; exact k)
theorem q_cU1A {d : Nat} {own : String} {cc : ByteArray} {nL : Nat} {ret : Option FieldType} {ini : Bool} {Post : mm_Q} {X : mm_X} {pc : Nat} {ls : List (Option Value)} {st : List Value} {hi : mm_HI} {τ : mm_T} {ix : Nat} {y : MethodName} {ci c : Nat} {a1 : Value}  (G : mm_G (mm_wp d) own cc nL ret ini 125 Post X) (hd : decode cc pc = .ok (.invokevirtual ix, 3)) (hv : mm_CU own ix y 1 ci) (hl : mm_lay c = (0, ci))  {x : Nat} (hc : wA d y [.ref c, a1] hi τ x) (hs : (st.map fun v => v.category).sum ≤ 8) (k : X (pc + 3) ls (.ref x :: st) hi τ 125) : X pc ls (a1 :: .ref c :: st) hi τ 125 := r_callU G.1 _ _ _ _ _ _ _ _ [.ref c, a1] _ _ _ _ _ _ [a1] hd hv rfl rfl hl (ly_lt hl (by decide)) hc (Nat.le_refl _) rfl hs (fun v h2 t2 hp => by obtain ⟨rfl, rfl, rfl⟩ := hp; exact k)
theorem q_cU1R {d : Nat} {own : String} {cc : ByteArray} {nL : Nat} {ret : Option FieldType} {ini : Bool} {Post : mm_Q} {X : mm_X} {pc : Nat} {ls : List (Option Value)} {st : List Value} {hi : mm_HI} {τ : mm_T} {ix : Nat} {y : MethodName} {ci c : Nat} {a1 : Value}  (G : mm_G (mm_wp d) own cc nL ret ini 125 Post X) (hd : decode cc pc = .ok (.invokevirtual ix, 3)) (hv : mm_CU own ix y 1 ci) (hl : mm_lay c = (0, ci))  {Q : mm_Q} (hc : wR d y [.ref c, a1] hi τ Q) (hs : (st.map fun v => v.category).sum ≤ 8) (k : ∀ (v : Option Value) (hi2 : mm_HI) (τ2 : mm_T), Q v hi2 τ2 → X (pc + 3) ls (v.toList ++ st) hi2 τ2 125) : X pc ls (a1 :: .ref c :: st) hi τ 125 := r_callU G.1 _ _ _ _ _ _ _ _ [.ref c, a1] _ _ _ _ _ _ [a1] hd hv rfl rfl hl (ly_lt hl (by decide)) hc (Nat.le_refl _) rfl hs k
theorem q_cU2I {d : Nat} {own : String} {cc : ByteArray} {nL : Nat} {ret : Option FieldType} {ini : Bool} {Post : mm_Q} {X : mm_X} {pc : Nat} {ls : List (Option Value)} {st : List Value} {hi : mm_HI} {τ : mm_T} {ix : Nat} {y : MethodName} {ci c : Nat} {a1 a2 : Value}  (G : mm_G (mm_wp d) own cc nL ret ini 125 Post X) (hd : decode cc pc = .ok (.invokevirtual ix, 3)) (hv : mm_CU own ix y 2 ci) (hl : mm_lay c = (0, ci))  {P : Int32 → mm_HI → Prop} (hc : wI d y [.ref c, a1, a2] hi τ P) (hs : (st.map fun v => v.category).sum ≤ 8) (k : ∀ (r : Int32) (hi2 : mm_HI), P r hi2 → X (pc + 3) ls (.int r :: st) hi2 τ 125) : X pc ls (a2 :: a1 :: .ref c :: st) hi τ 125 := r_callU G.1 _ _ _ _ _ _ _ _ [.ref c, a1, a2] _ _ _ _ _ _ [a1, a2] hd hv rfl rfl hl (ly_lt hl (by decide)) hc (Nat.le_refl _) rfl hs (fun v h2 t2 hp => by obtain ⟨rfl, r, rfl, hq⟩ := hp; exact k r h2 hq)
theorem q_cU2V {d : Nat} {own : String} {cc : ByteArray} {nL : Nat} {ret : Option FieldType} {ini : Bool} {Post : mm_Q} {X : mm_X} {pc : Nat} {ls : List (Option Value)} {st : List Value} {hi : mm_HI} {τ : mm_T} {ix : Nat} {y : MethodName} {ci c : Nat} {a1 a2 : Value}  (G : mm_G (mm_wp d) own cc nL ret ini 125 Post X) (hd : decode cc pc = .ok (.invokevirtual ix, 3)) (hv : mm_CU own ix y 2 ci) (hl : mm_lay c = (0, ci))  {P : mm_HI → Prop} (hc : wV d y [.ref c, a1, a2] hi τ P) (hs : (st.map fun v => v.category).sum ≤ 8) (k : ∀ (hi2 : mm_HI), P hi2 → X (pc + 3) ls st hi2 τ 125) : X pc ls (a2 :: a1 :: .ref c :: st) hi τ 125 := r_callU G.1 _ _ _ _ _ _ _ _ [.ref c, a1, a2] _ _ _ _ _ _ [a1, a2] hd hv rfl rfl hl (ly_lt hl (by decide)) hc (Nat.le_refl _) rfl hs (fun v h2 t2 hp => by obtain ⟨rfl, rfl, hq⟩ := hp; exact k h2 hq)
theorem q_cU2B {d : Nat} {own : String} {cc : ByteArray} {nL : Nat} {ret : Option FieldType} {ini : Bool} {Post : mm_Q} {X : mm_X} {pc : Nat} {ls : List (Option Value)} {st : List Value} {hi : mm_HI} {τ : mm_T} {ix : Nat} {y : MethodName} {ci c : Nat} {a1 a2 : Value}  (G : mm_G (mm_wp d) own cc nL ret ini 125 Post X) (hd : decode cc pc = .ok (.invokevirtual ix, 3)) (hv : mm_CU own ix y 2 ci) (hl : mm_lay c = (0, ci))  {p : Prop} (hc : wB d y [.ref c, a1, a2] hi τ p) (hs : (st.map fun v => v.category).sum ≤ 8) (kt : p → X (pc + 3) ls (.int (nI 1) :: st) hi τ 125) (kf : ¬ p → X (pc + 3) ls (.int (nI 0) :: st) hi τ 125) : X pc ls (a2 :: a1 :: .ref c :: st) hi τ 125 := r_callU G.1 _ _ _ _ _ _ _ _ [.ref c, a1, a2] _ _ _ _ _ _ [a1, a2] hd hv rfl rfl hl (ly_lt hl (by decide)) hc (Nat.le_refl _) rfl hs (fun v h2 t2 hp => by obtain ⟨rfl, rfl, ⟨hq, rfl⟩ | ⟨hq, rfl⟩⟩ := hp; exact kt hq; exact kf hq)
theorem q_cU2E {d : Nat} {own : String} {cc : ByteArray} {nL : Nat} {ret : Option FieldType} {ini : Bool} {Post : mm_Q} {X : mm_X} {pc : Nat} {ls : List (Option Value)} {st : List Value} {hi : mm_HI} {τ : mm_T} {ix : Nat} {y : MethodName} {ci c : Nat} {a1 a2 : Value}  (G : mm_G (mm_wp d) own cc nL ret ini 125 Post X) (hd : decode cc pc = .ok (.invokevirtual ix, 3)) (hv : mm_CU own ix y 2 ci) (hl : mm_lay c = (0, ci))  {r : Int32} (hc : wE d y [.ref c, a1, a2] hi τ r) (hs : (st.map fun v => v.category).sum ≤ 8) (k : X (pc + 3) ls (.int r :: st) hi τ 125) : X pc ls (a2 :: a1 :: .ref c :: st) hi τ 125 := r_callU G.1 _ _ _ _ _ _ _ _ [.ref c, a1, a2] _ _ _ _ _ _ [a1, a2] hd hv rfl rfl hl (ly_lt hl (by decide)) hc (Nat.le_refl _) rfl hs (fun v h2 t2 hp => by obtain ⟨rfl, rfl, rfl⟩ := hp; exact k)
theorem q_cU2A {d : Nat} {own : String} {cc : ByteArray} {nL : Nat} {ret : Option FieldType} {ini : Bool} {Post : mm_Q} {X : mm_X} {pc : Nat} {ls : List (Option Value)} {st : List Value} {hi : mm_HI} {τ : mm_T} {ix : Nat} {y : MethodName} {ci c : Nat} {a1 a2 : Value}  (G : mm_G (mm_wp d) own cc nL ret ini 125 Post X) (hd : decode cc pc = .ok (.invokevirtual ix, 3)) (hv : mm_CU own ix y 2 ci) (hl : mm_lay c = (0, ci))  {x : Nat} (hc : wA d y [.ref c, a1, a2] hi τ x) (hs : (st.map fun v => v.category).sum ≤ 8) (k : X (pc + 3) ls (.ref x :: st) hi τ 125) : X pc ls (a2 :: a1 :: .ref c :: st) hi τ 125 := r_callU G.1 _ _ _ _ _ _ _ _ [.ref c, a1, a2] _ _ _ _ _ _ [a1, a2] hd hv rfl rfl hl (ly_lt hl (by decide)) hc (Nat.le_refl _) rfl hs (fun v h2 t2 hp => by obtain ⟨rfl, rfl, rfl⟩ := hp; exact k)
theorem q_cU2R {d : Nat} {own : String} {cc : ByteArray} {nL : Nat} {ret : Option FieldType} {ini : Bool} {Post : mm_Q} {X : mm_X} {pc : Nat} {ls : List (Option Value)} {st : List Value} {hi : mm_HI} {τ : mm_T} {ix : Nat} {y : MethodName} {ci c : Nat} {a1 a2 : Value}  (G : mm_G (mm_wp d) own cc nL ret ini 125 Post X) (hd : decode cc pc = .ok (.invokevirtual ix, 3)) (hv : mm_CU own ix y 2 ci) (hl : mm_lay c = (0, ci))  {Q : mm_Q} (hc : wR d y [.ref c, a1, a2] hi τ Q) (hs : (st.map fun v => v.category).sum ≤ 8) (k : ∀ (v : Option Value) (hi2 : mm_HI) (τ2 : mm_T), Q v hi2 τ2 → X (pc + 3) ls (v.toList ++ st) hi2 τ2 125) : X pc ls (a2 :: a1 :: .ref c :: st) hi τ 125 := r_callU G.1 _ _ _ _ _ _ _ _ [.ref c, a1, a2] _ _ _ _ _ _ [a1, a2] hd hv rfl rfl hl (ly_lt hl (by decide)) hc (Nat.le_refl _) rfl hs k
theorem q_cU3I {d : Nat} {own : String} {cc : ByteArray} {nL : Nat} {ret : Option FieldType} {ini : Bool} {Post : mm_Q} {X : mm_X} {pc : Nat} {ls : List (Option Value)} {st : List Value} {hi : mm_HI} {τ : mm_T} {ix : Nat} {y : MethodName} {ci c : Nat} {a1 a2 a3 : Value}  (G : mm_G (mm_wp d) own cc nL ret ini 125 Post X) (hd : decode cc pc = .ok (.invokevirtual ix, 3)) (hv : mm_CU own ix y 3 ci) (hl : mm_lay c = (0, ci))  {P : Int32 → mm_HI → Prop} (hc : wI d y [.ref c, a1, a2, a3] hi τ P) (hs : (st.map fun v => v.category).sum ≤ 8) (k : ∀ (r : Int32) (hi2 : mm_HI), P r hi2 → X (pc + 3) ls (.int r :: st) hi2 τ 125) : X pc ls (a3 :: a2 :: a1 :: .ref c :: st) hi τ 125 := r_callU G.1 _ _ _ _ _ _ _ _ [.ref c, a1, a2, a3] _ _ _ _ _ _ [a1, a2, a3] hd hv rfl rfl hl (ly_lt hl (by decide)) hc (Nat.le_refl _) rfl hs (fun v h2 t2 hp => by obtain ⟨rfl, r, rfl, hq⟩ := hp; exact k r h2 hq)
theorem q_cU3V {d : Nat} {own : String} {cc : ByteArray} {nL : Nat} {ret : Option FieldType} {ini : Bool} {Post : mm_Q} {X : mm_X} {pc : Nat} {ls : List (Option Value)} {st : List Value} {hi : mm_HI} {τ : mm_T} {ix : Nat} {y : MethodName} {ci c : Nat} {a1 a2 a3 : Value}  (G : mm_G (mm_wp d) own cc nL ret ini 125 Post X) (hd : decode cc pc = .ok (.invokevirtual ix, 3)) (hv : mm_CU own ix y 3 ci) (hl : mm_lay c = (0, ci))  {P : mm_HI → Prop} (hc : wV d y [.ref c, a1, a2, a3] hi τ P) (hs : (st.map fun v => v.category).sum ≤ 8) (k : ∀ (hi2 : mm_HI), P hi2 → X (pc + 3) ls st hi2 τ 125) : X pc ls (a3 :: a2 :: a1 :: .ref c :: st) hi τ 125 := r_callU G.1 _ _ _ _ _ _ _ _ [.ref c, a1, a2, a3] _ _ _ _ _ _ [a1, a2, a3] hd hv rfl rfl hl (ly_lt hl (by decide)) hc (Nat.le_refl _) rfl hs (fun v h2 t2 hp => by obtain ⟨rfl, rfl, hq⟩ := hp; exact k h2 hq)
theorem q_cU3B {d : Nat} {own : String} {cc : ByteArray} {nL : Nat} {ret : Option FieldType} {ini : Bool} {Post : mm_Q} {X : mm_X} {pc : Nat} {ls : List (Option Value)} {st : List Value} {hi : mm_HI} {τ : mm_T} {ix : Nat} {y : MethodName} {ci c : Nat} {a1 a2 a3 : Value}  (G : mm_G (mm_wp d) own cc nL ret ini 125 Post X) (hd : decode cc pc = .ok (.invokevirtual ix, 3)) (hv : mm_CU own ix y 3 ci) (hl : mm_lay c = (0, ci))  {p : Prop} (hc : wB d y [.ref c, a1, a2, a3] hi τ p) (hs : (st.map fun v => v.category).sum ≤ 8) (kt : p → X (pc + 3) ls (.int (nI 1) :: st) hi τ 125) (kf : ¬ p → X (pc + 3) ls (.int (nI 0) :: st) hi τ 125) : X pc ls (a3 :: a2 :: a1 :: .ref c :: st) hi τ 125 := r_callU G.1 _ _ _ _ _ _ _ _ [.ref c, a1, a2, a3] _ _ _ _ _ _ [a1, a2, a3] hd hv rfl rfl hl (ly_lt hl (by decide)) hc (Nat.le_refl _) rfl hs (fun v h2 t2 hp => by obtain ⟨rfl, rfl, ⟨hq, rfl⟩ | ⟨hq, rfl⟩⟩ := hp; exact kt hq; exact kf hq)
theorem q_cU3E {d : Nat} {own : String} {cc : ByteArray} {nL : Nat} {ret : Option FieldType} {ini : Bool} {Post : mm_Q} {X : mm_X} {pc : Nat} {ls : List (Option Value)} {st : List Value} {hi : mm_HI} {τ : mm_T} {ix : Nat} {y : MethodName} {ci c : Nat} {a1 a2 a3 : Value}  (G : mm_G (mm_wp d) own cc nL ret ini 125 Post X) (hd : decode cc pc = .ok (.invokevirtual ix, 3)) (hv : mm_CU own ix y 3 ci) (hl : mm_lay c = (0, ci))  {r : Int32} (hc : wE d y [.ref c, a1, a2, a3] hi τ r) (hs : (st.map fun v => v.category).sum ≤ 8) (k : X (pc + 3) ls (.int r :: st) hi τ 125) : X pc ls (a3 :: a2 :: a1 :: .ref c :: st) hi τ 125 := r_callU G.1 _ _ _ _ _ _ _ _ [.ref c, a1, a2, a3] _ _ _ _ _ _ [a1, a2, a3] hd hv rfl rfl hl (ly_lt hl (by decide)) hc (Nat.le_refl _) rfl hs (fun v h2 t2 hp => by obtain ⟨rfl, rfl, rfl⟩ := hp; exact k)
theorem q_cU3A {d : Nat} {own : String} {cc : ByteArray} {nL : Nat} {ret : Option FieldType} {ini : Bool} {Post : mm_Q} {X : mm_X} {pc : Nat} {ls : List (Option Value)} {st : List Value} {hi : mm_HI} {τ : mm_T} {ix : Nat} {y : MethodName} {ci c : Nat} {a1 a2 a3 : Value}  (G : mm_G (mm_wp d) own cc nL ret ini 125 Post X) (hd : decode cc pc = .ok (.invokevirtual ix, 3)) (hv : mm_CU own ix y 3 ci) (hl : mm_lay c = (0, ci))  {x : Nat} (hc : wA d y [.ref c, a1, a2, a3] hi τ x) (hs : (st.map fun v => v.category).sum ≤ 8) (k : X (pc + 3) ls (.ref x :: st) hi τ 125) : X pc ls (a3 :: a2 :: a1 :: .ref c :: st) hi τ 125 := r_callU G.1 _ _ _ _ _ _ _ _ [.ref c, a1, a2, a3] _ _ _ _ _ _ [a1, a2, a3] hd hv rfl rfl hl (ly_lt hl (by decide)) hc (Nat.le_refl _) rfl hs (fun v h2 t2 hp => by obtain ⟨rfl, rfl, rfl⟩ := hp; exact k)
theorem q_cU3R {d : Nat} {own : String} {cc : ByteArray} {nL : Nat} {ret : Option FieldType} {ini : Bool} {Post : mm_Q} {X : mm_X} {pc : Nat} {ls : List (Option Value)} {st : List Value} {hi : mm_HI} {τ : mm_T} {ix : Nat} {y : MethodName} {ci c : Nat} {a1 a2 a3 : Value}  (G : mm_G (mm_wp d) own cc nL ret ini 125 Post X) (hd : decode cc pc = .ok (.invokevirtual ix, 3)) (hv : mm_CU own ix y 3 ci) (hl : mm_lay c = (0, ci))  {Q : mm_Q} (hc : wR d y [.ref c, a1, a2, a3] hi τ Q) (hs : (st.map fun v => v.category).sum ≤ 8) (k : ∀ (v : Option Value) (hi2 : mm_HI) (τ2 : mm_T), Q v hi2 τ2 → X (pc + 3) ls (v.toList ++ st) hi2 τ2 125) : X pc ls (a3 :: a2 :: a1 :: .ref c :: st) hi τ 125 := r_callU G.1 _ _ _ _ _ _ _ _ [.ref c, a1, a2, a3] _ _ _ _ _ _ [a1, a2, a3] hd hv rfl rfl hl (ly_lt hl (by decide)) hc (Nat.le_refl _) rfl hs k
theorem q_cU4I {d : Nat} {own : String} {cc : ByteArray} {nL : Nat} {ret : Option FieldType} {ini : Bool} {Post : mm_Q} {X : mm_X} {pc : Nat} {ls : List (Option Value)} {st : List Value} {hi : mm_HI} {τ : mm_T} {ix : Nat} {y : MethodName} {ci c : Nat} {a1 a2 a3 a4 : Value}  (G : mm_G (mm_wp d) own cc nL ret ini 125 Post X) (hd : decode cc pc = .ok (.invokevirtual ix, 3)) (hv : mm_CU own ix y 4 ci) (hl : mm_lay c = (0, ci))  {P : Int32 → mm_HI → Prop} (hc : wI d y [.ref c, a1, a2, a3, a4] hi τ P) (hs : (st.map fun v => v.category).sum ≤ 8) (k : ∀ (r : Int32) (hi2 : mm_HI), P r hi2 → X (pc + 3) ls (.int r :: st) hi2 τ 125) : X pc ls (a4 :: a3 :: a2 :: a1 :: .ref c :: st) hi τ 125 := r_callU G.1 _ _ _ _ _ _ _ _ [.ref c, a1, a2, a3, a4] _ _ _ _ _ _ [a1, a2, a3, a4] hd hv rfl rfl hl (ly_lt hl (by decide)) hc (Nat.le_refl _) rfl hs (fun v h2 t2 hp => by obtain ⟨rfl, r, rfl, hq⟩ := hp; exact k r h2 hq)
theorem q_cU4V {d : Nat} {own : String} {cc : ByteArray} {nL : Nat} {ret : Option FieldType} {ini : Bool} {Post : mm_Q} {X : mm_X} {pc : Nat} {ls : List (Option Value)} {st : List Value} {hi : mm_HI} {τ : mm_T} {ix : Nat} {y : MethodName} {ci c : Nat} {a1 a2 a3 a4 : Value}  (G : mm_G (mm_wp d) own cc nL ret ini 125 Post X) (hd : decode cc pc = .ok (.invokevirtual ix, 3)) (hv : mm_CU own ix y 4 ci) (hl : mm_lay c = (0, ci))  {P : mm_HI → Prop} (hc : wV d y [.ref c, a1, a2, a3, a4] hi τ P) (hs : (st.map fun v => v.category).sum ≤ 8) (k : ∀ (hi2 : mm_HI), P hi2 → X (pc + 3) ls st hi2 τ 125) : X pc ls (a4 :: a3 :: a2 :: a1 :: .ref c :: st) hi τ 125 := r_callU G.1 _ _ _ _ _ _ _ _ [.ref c, a1, a2, a3, a4] _ _ _ _ _ _ [a1, a2, a3, a4] hd hv rfl rfl hl (ly_lt hl (by decide)) hc (Nat.le_refl _) rfl hs (fun v h2 t2 hp => by obtain ⟨rfl, rfl, hq⟩ := hp; exact k h2 hq)
theorem q_cU4B {d : Nat} {own : String} {cc : ByteArray} {nL : Nat} {ret : Option FieldType} {ini : Bool} {Post : mm_Q} {X : mm_X} {pc : Nat} {ls : List (Option Value)} {st : List Value} {hi : mm_HI} {τ : mm_T} {ix : Nat} {y : MethodName} {ci c : Nat} {a1 a2 a3 a4 : Value}  (G : mm_G (mm_wp d) own cc nL ret ini 125 Post X) (hd : decode cc pc = .ok (.invokevirtual ix, 3)) (hv : mm_CU own ix y 4 ci) (hl : mm_lay c = (0, ci))  {p : Prop} (hc : wB d y [.ref c, a1, a2, a3, a4] hi τ p) (hs : (st.map fun v => v.category).sum ≤ 8) (kt : p → X (pc + 3) ls (.int (nI 1) :: st) hi τ 125) (kf : ¬ p → X (pc + 3) ls (.int (nI 0) :: st) hi τ 125) : X pc ls (a4 :: a3 :: a2 :: a1 :: .ref c :: st) hi τ 125 := r_callU G.1 _ _ _ _ _ _ _ _ [.ref c, a1, a2, a3, a4] _ _ _ _ _ _ [a1, a2, a3, a4] hd hv rfl rfl hl (ly_lt hl (by decide)) hc (Nat.le_refl _) rfl hs (fun v h2 t2 hp => by obtain ⟨rfl, rfl, ⟨hq, rfl⟩ | ⟨hq, rfl⟩⟩ := hp; exact kt hq; exact kf hq)
theorem q_cU4E {d : Nat} {own : String} {cc : ByteArray} {nL : Nat} {ret : Option FieldType} {ini : Bool} {Post : mm_Q} {X : mm_X} {pc : Nat} {ls : List (Option Value)} {st : List Value} {hi : mm_HI} {τ : mm_T} {ix : Nat} {y : MethodName} {ci c : Nat} {a1 a2 a3 a4 : Value}  (G : mm_G (mm_wp d) own cc nL ret ini 125 Post X) (hd : decode cc pc = .ok (.invokevirtual ix, 3)) (hv : mm_CU own ix y 4 ci) (hl : mm_lay c = (0, ci))  {r : Int32} (hc : wE d y [.ref c, a1, a2, a3, a4] hi τ r) (hs : (st.map fun v => v.category).sum ≤ 8) (k : X (pc + 3) ls (.int r :: st) hi τ 125) : X pc ls (a4 :: a3 :: a2 :: a1 :: .ref c :: st) hi τ 125 := r_callU G.1 _ _ _ _ _ _ _ _ [.ref c, a1, a2, a3, a4] _ _ _ _ _ _ [a1, a2, a3, a4] hd hv rfl rfl hl (ly_lt hl (by decide)) hc (Nat.le_refl _) rfl hs (fun v h2 t2 hp => by obtain ⟨rfl, rfl, rfl⟩ := hp; exact k)
theorem q_cU4A {d : Nat} {own : String} {cc : ByteArray} {nL : Nat} {ret : Option FieldType} {ini : Bool} {Post : mm_Q} {X : mm_X} {pc : Nat} {ls : List (Option Value)} {st : List Value} {hi : mm_HI} {τ : mm_T} {ix : Nat} {y : MethodName} {ci c : Nat} {a1 a2 a3 a4 : Value}  (G : mm_G (mm_wp d) own cc nL ret ini 125 Post X) (hd : decode cc pc = .ok (.invokevirtual ix, 3)) (hv : mm_CU own ix y 4 ci) (hl : mm_lay c = (0, ci))  {x : Nat} (hc : wA d y [.ref c, a1, a2, a3, a4] hi τ x) (hs : (st.map fun v => v.category).sum ≤ 8) (k : X (pc + 3) ls (.ref x :: st) hi τ 125) : X pc ls (a4 :: a3 :: a2 :: a1 :: .ref c :: st) hi τ 125 := r_callU G.1 _ _ _ _ _ _ _ _ [.ref c, a1, a2, a3, a4] _ _ _ _ _ _ [a1, a2, a3, a4] hd hv rfl rfl hl (ly_lt hl (by decide)) hc (Nat.le_refl _) rfl hs (fun v h2 t2 hp => by obtain ⟨rfl, rfl, rfl⟩ := hp; exact k)
theorem q_cU4R {d : Nat} {own : String} {cc : ByteArray} {nL : Nat} {ret : Option FieldType} {ini : Bool} {Post : mm_Q} {X : mm_X} {pc : Nat} {ls : List (Option Value)} {st : List Value} {hi : mm_HI} {τ : mm_T} {ix : Nat} {y : MethodName} {ci c : Nat} {a1 a2 a3 a4 : Value}  (G : mm_G (mm_wp d) own cc nL ret ini 125 Post X) (hd : decode cc pc = .ok (.invokevirtual ix, 3)) (hv : mm_CU own ix y 4 ci) (hl : mm_lay c = (0, ci))  {Q : mm_Q} (hc : wR d y [.ref c, a1, a2, a3, a4] hi τ Q) (hs : (st.map fun v => v.category).sum ≤ 8) (k : ∀ (v : Option Value) (hi2 : mm_HI) (τ2 : mm_T), Q v hi2 τ2 → X (pc + 3) ls (v.toList ++ st) hi2 τ2 125) : X pc ls (a4 :: a3 :: a2 :: a1 :: .ref c :: st) hi τ 125 := r_callU G.1 _ _ _ _ _ _ _ _ [.ref c, a1, a2, a3, a4] _ _ _ _ _ _ [a1, a2, a3, a4] hd hv rfl rfl hl (ly_lt hl (by decide)) hc (Nat.le_refl _) rfl hs k
theorem q_cU5I {d : Nat} {own : String} {cc : ByteArray} {nL : Nat} {ret : Option FieldType} {ini : Bool} {Post : mm_Q} {X : mm_X} {pc : Nat} {ls : List (Option Value)} {st : List Value} {hi : mm_HI} {τ : mm_T} {ix : Nat} {y : MethodName} {ci c : Nat} {a1 a2 a3 a4 a5 : Value}  (G : mm_G (mm_wp d) own cc nL ret ini 125 Post X) (hd : decode cc pc = .ok (.invokevirtual ix, 3)) (hv : mm_CU own ix y 5 ci) (hl : mm_lay c = (0, ci))  {P : Int32 → mm_HI → Prop} (hc : wI d y [.ref c, a1, a2, a3, a4, a5] hi τ P) (hs : (st.map fun v => v.category).sum ≤ 8) (k : ∀ (r : Int32) (hi2 : mm_HI), P r hi2 → X (pc + 3) ls (.int r :: st) hi2 τ 125) : X pc ls (a5 :: a4 :: a3 :: a2 :: a1 :: .ref c :: st) hi τ 125 := r_callU G.1 _ _ _ _ _ _ _ _ [.ref c, a1, a2, a3, a4, a5] _ _ _ _ _ _ [a1, a2, a3, a4, a5] hd hv rfl rfl hl (ly_lt hl (by decide)) hc (Nat.le_refl _) rfl hs (fun v h2 t2 hp => by obtain ⟨rfl, r, rfl, hq⟩ := hp; exact k r h2 hq)
theorem q_cU5V {d : Nat} {own : String} {cc : ByteArray} {nL : Nat} {ret : Option FieldType} {ini : Bool} {Post : mm_Q} {X : mm_X} {pc : Nat} {ls : List (Option Value)} {st : List Value} {hi : mm_HI} {τ : mm_T} {ix : Nat} {y : MethodName} {ci c : Nat} {a1 a2 a3 a4 a5 : Value}  (G : mm_G (mm_wp d) own cc nL ret ini 125 Post X) (hd : decode cc pc = .ok (.invokevirtual ix, 3)) (hv : mm_CU own ix y 5 ci) (hl : mm_lay c = (0, ci))  {P : mm_HI → Prop} (hc : wV d y [.ref c, a1, a2, a3, a4, a5] hi τ P) (hs : (st.map fun v => v.category).sum ≤ 8) (k : ∀ (hi2 : mm_HI), P hi2 → X (pc + 3) ls st hi2 τ 125) : X pc ls (a5 :: a4 :: a3 :: a2 :: a1 :: .ref c :: st) hi τ 125 := r_callU G.1 _ _ _ _ _ _ _ _ [.ref c, a1, a2, a3, a4, a5] _ _ _ _ _ _ [a1, a2, a3, a4, a5] hd hv rfl rfl hl (ly_lt hl (by decide)) hc (Nat.le_refl _) rfl hs (fun v h2 t2 hp => by obtain ⟨rfl, rfl, hq⟩ := hp; exact k h2 hq)
theorem q_cU5B {d : Nat} {own : String} {cc : ByteArray} {nL : Nat} {ret : Option FieldType} {ini : Bool} {Post : mm_Q} {X : mm_X} {pc : Nat} {ls : List (Option Value)} {st : List Value} {hi : mm_HI} {τ : mm_T} {ix : Nat} {y : MethodName} {ci c : Nat} {a1 a2 a3 a4 a5 : Value}  (G : mm_G (mm_wp d) own cc nL ret ini 125 Post X) (hd : decode cc pc = .ok (.invokevirtual ix, 3)) (hv : mm_CU own ix y 5 ci) (hl : mm_lay c = (0, ci))  {p : Prop} (hc : wB d y [.ref c, a1, a2, a3, a4, a5] hi τ p) (hs : (st.map fun v => v.category).sum ≤ 8) (kt : p → X (pc + 3) ls (.int (nI 1) :: st) hi τ 125) (kf : ¬ p → X (pc + 3) ls (.int (nI 0) :: st) hi τ 125) : X pc ls (a5 :: a4 :: a3 :: a2 :: a1 :: .ref c :: st) hi τ 125 := r_callU G.1 _ _ _ _ _ _ _ _ [.ref c, a1, a2, a3, a4, a5] _ _ _ _ _ _ [a1, a2, a3, a4, a5] hd hv rfl rfl hl (ly_lt hl (by decide)) hc (Nat.le_refl _) rfl hs (fun v h2 t2 hp => by obtain ⟨rfl, rfl, ⟨hq, rfl⟩ | ⟨hq, rfl⟩⟩ := hp; exact kt hq; exact kf hq)
theorem q_cU5E {d : Nat} {own : String} {cc : ByteArray} {nL : Nat} {ret : Option FieldType} {ini : Bool} {Post : mm_Q} {X : mm_X} {pc : Nat} {ls : List (Option Value)} {st : List Value} {hi : mm_HI} {τ : mm_T} {ix : Nat} {y : MethodName} {ci c : Nat} {a1 a2 a3 a4 a5 : Value}  (G : mm_G (mm_wp d) own cc nL ret ini 125 Post X) (hd : decode cc pc = .ok (.invokevirtual ix, 3)) (hv : mm_CU own ix y 5 ci) (hl : mm_lay c = (0, ci))  {r : Int32} (hc : wE d y [.ref c, a1, a2, a3, a4, a5] hi τ r) (hs : (st.map fun v => v.category).sum ≤ 8) (k : X (pc + 3) ls (.int r :: st) hi τ 125) : X pc ls (a5 :: a4 :: a3 :: a2 :: a1 :: .ref c :: st) hi τ 125 := r_callU G.1 _ _ _ _ _ _ _ _ [.ref c, a1, a2, a3, a4, a5] _ _ _ _ _ _ [a1, a2, a3, a4, a5] hd hv rfl rfl hl (ly_lt hl (by decide)) hc (Nat.le_refl _) rfl hs (fun v h2 t2 hp => by obtain ⟨rfl, rfl, rfl⟩ := hp; exact k)
theorem q_cU5A {d : Nat} {own : String} {cc : ByteArray} {nL : Nat} {ret : Option FieldType} {ini : Bool} {Post : mm_Q} {X : mm_X} {pc : Nat} {ls : List (Option Value)} {st : List Value} {hi : mm_HI} {τ : mm_T} {ix : Nat} {y : MethodName} {ci c : Nat} {a1 a2 a3 a4 a5 : Value}  (G : mm_G (mm_wp d) own cc nL ret ini 125 Post X) (hd : decode cc pc = .ok (.invokevirtual ix, 3)) (hv : mm_CU own ix y 5 ci) (hl : mm_lay c = (0, ci))  {x : Nat} (hc : wA d y [.ref c, a1, a2, a3, a4, a5] hi τ x) (hs : (st.map fun v => v.category).sum ≤ 8) (k : X (pc + 3) ls (.ref x :: st) hi τ 125) : X pc ls (a5 :: a4 :: a3 :: a2 :: a1 :: .ref c :: st) hi τ 125 := r_callU G.1 _ _ _ _ _ _ _ _ [.ref c, a1, a2, a3, a4, a5] _ _ _ _ _ _ [a1, a2, a3, a4, a5] hd hv rfl rfl hl (ly_lt hl (by decide)) hc (Nat.le_refl _) rfl hs (fun v h2 t2 hp => by obtain ⟨rfl, rfl, rfl⟩ := hp; exact k)
theorem q_cU5R {d : Nat} {own : String} {cc : ByteArray} {nL : Nat} {ret : Option FieldType} {ini : Bool} {Post : mm_Q} {X : mm_X} {pc : Nat} {ls : List (Option Value)} {st : List Value} {hi : mm_HI} {τ : mm_T} {ix : Nat} {y : MethodName} {ci c : Nat} {a1 a2 a3 a4 a5 : Value}  (G : mm_G (mm_wp d) own cc nL ret ini 125 Post X) (hd : decode cc pc = .ok (.invokevirtual ix, 3)) (hv : mm_CU own ix y 5 ci) (hl : mm_lay c = (0, ci))  {Q : mm_Q} (hc : wR d y [.ref c, a1, a2, a3, a4, a5] hi τ Q) (hs : (st.map fun v => v.category).sum ≤ 8) (k : ∀ (v : Option Value) (hi2 : mm_HI) (τ2 : mm_T), Q v hi2 τ2 → X (pc + 3) ls (v.toList ++ st) hi2 τ2 125) : X pc ls (a5 :: a4 :: a3 :: a2 :: a1 :: .ref c :: st) hi τ 125 := r_callU G.1 _ _ _ _ _ _ _ _ [.ref c, a1, a2, a3, a4, a5] _ _ _ _ _ _ [a1, a2, a3, a4, a5] hd hv rfl rfl hl (ly_lt hl (by decide)) hc (Nat.le_refl _) rfl hs k
theorem q_iret {d : Nat} {own : String} {cc : ByteArray} {nL : Nat} {ret : Option FieldType} {ini : Bool} {Post : mm_Q} {X : mm_X} {pc : Nat} {ls : List (Option Value)} {hi : mm_HI} {τ : mm_T} {x : Int32} (G : mm_G (mm_wp d) own cc nL ret ini 125 Post X) (hd : decode cc pc = .ok (.ireturn, 1)) (h0 : ret = some .int ∨ (ret = some .boolean ∧ (x = 0 ∨ x = 1))) (hq : Post (some (.int x)) hi τ) : X pc ls [.int x] hi τ 125 := r_iret G _ _ [] _ _ _ _ hd h0 rfl hq
theorem q_lret {d : Nat} {own : String} {cc : ByteArray} {nL : Nat} {ret : Option FieldType} {ini : Bool} {Post : mm_Q} {X : mm_X} {pc : Nat} {ls : List (Option Value)} {hi : mm_HI} {τ : mm_T} {x : Int64} (G : mm_G (mm_wp d) own cc nL ret ini 125 Post X) (hd : decode cc pc = .ok (.lreturn, 1)) (h0 : ret = some .long) (hq : Post (some (.long x)) hi τ) : X pc ls [.long x] hi τ 125 := r_lret G _ _ [] _ _ _ _ hd h0 rfl hq
theorem q_aret {d : Nat} {own : String} {cc : ByteArray} {nL : Nat} {ret : Option FieldType} {ini : Bool} {Post : mm_Q} {X : mm_X} {pc : Nat} {ls : List (Option Value)} {hi : mm_HI} {τ : mm_T} {x : Nat} {C : String} (G : mm_G (mm_wp d) own cc nL ret ini 125 Post X) (hd : decode cc pc = .ok (.areturn, 1)) (h0 : ret = some (.object C)) (hq : Post (some (.ref x)) hi τ) : X pc ls [.ref x] hi τ 125 := r_aret G _ _ [] _ _ _ _ C hd h0 rfl hq
theorem q_vret {d : Nat} {own : String} {cc : ByteArray} {nL : Nat} {ret : Option FieldType} {ini : Bool} {Post : mm_Q} {X : mm_X} {pc : Nat} {ls : List (Option Value)} {hi : mm_HI} {τ : mm_T} (G : mm_G (mm_wp d) own cc nL ret ini 125 Post X) (hd : decode cc pc = .ok (.return_, 1)) (h0 : ret = none) (hq : Post none hi τ) : X pc ls [] hi τ 125 := r_vret G _ _ [] _ _ _ hd h0 rfl hq
end
