section
-- ===== PART A: goes FIRST, ahead of the names: the tables' words, and 'selects' of the private methods out of them =====
/-- a private method of a class that the tables say can be made, by its rows of tables_1 -/
def lw_okq (q : MethodName × Nat) : Prop := (q.1.cls ≠ "java/lang/invoke/MethodHandle" ∧ q.1.cls ≠ "java/lang/invoke/VarHandle") ∧ Cond.instantiable q.1.cls q.2 ∈ tables_1 ∧ Cond.privateMethod q.1 ∈ tables_1 ∧ Cond.instanceMethod q.1 ∈ tables_1
theorem lw_p0 : lw_okq (⟨"BanLand", "bad", "(I)I"⟩, 10) := ⟨⟨by decide +kernel, by decide +kernel⟩, List.mem_of_getElem? (i := 18) (by decide +kernel), List.mem_of_getElem? (i := 127) (by decide +kernel), List.mem_of_getElem? (i := 128) (by decide +kernel)⟩
theorem lw_p1 : lw_okq (⟨"BanLand", "full", "()I"⟩, 10) := ⟨⟨by decide +kernel, by decide +kernel⟩, List.mem_of_getElem? (i := 18) (by decide +kernel), List.mem_of_getElem? (i := 131) (by decide +kernel), List.mem_of_getElem? (i := 132) (by decide +kernel)⟩
theorem lw_p2 : lw_okq (⟨"BanLand", "no", "()I"⟩, 10) := ⟨⟨by decide +kernel, by decide +kernel⟩, List.mem_of_getElem? (i := 18) (by decide +kernel), List.mem_of_getElem? (i := 286) (by decide +kernel), List.mem_of_getElem? (i := 287) (by decide +kernel)⟩
theorem lw_p3 : lw_okq (⟨"BanLand$Reader", "advance", "()V"⟩, 7) := ⟨⟨by decide +kernel, by decide +kernel⟩, List.mem_of_getElem? (i := 306) (by decide +kernel), List.mem_of_getElem? (i := 339) (by decide +kernel), List.mem_of_getElem? (i := 340) (by decide +kernel)⟩
theorem lw_p4 : lw_okq (⟨"BanLand$Reader", "isWord", "(Ljava/lang/String;)Z"⟩, 7) := ⟨⟨by decide +kernel, by decide +kernel⟩, List.mem_of_getElem? (i := 306) (by decide +kernel), List.mem_of_getElem? (i := 350) (by decide +kernel), List.mem_of_getElem? (i := 351) (by decide +kernel)⟩
theorem lw_p5 : lw_okq (⟨"BanLand$Reader", "closes", "()Z"⟩, 7) := ⟨⟨by decide +kernel, by decide +kernel⟩, List.mem_of_getElem? (i := 306) (by decide +kernel), List.mem_of_getElem? (i := 402) (by decide +kernel), List.mem_of_getElem? (i := 403) (by decide +kernel)⟩
theorem lw_p6 : lw_okq (⟨"BanLand$Reader", "readsItem", "()Z"⟩, 7) := ⟨⟨by decide +kernel, by decide +kernel⟩, List.mem_of_getElem? (i := 306) (by decide +kernel), List.mem_of_getElem? (i := 406) (by decide +kernel), List.mem_of_getElem? (i := 407) (by decide +kernel)⟩
theorem lw_p7 : lw_okq (⟨"BanLand$Reader", "readsTown", "()Z"⟩, 7) := ⟨⟨by decide +kernel, by decide +kernel⟩, List.mem_of_getElem? (i := 306) (by decide +kernel), List.mem_of_getElem? (i := 411) (by decide +kernel), List.mem_of_getElem? (i := 412) (by decide +kernel)⟩
theorem lw_p8 : lw_okq (⟨"BanLand$Reader", "takes", "(II)Z"⟩, 7) := ⟨⟨by decide +kernel, by decide +kernel⟩, List.mem_of_getElem? (i := 306) (by decide +kernel), List.mem_of_getElem? (i := 415) (by decide +kernel), List.mem_of_getElem? (i := 416) (by decide +kernel)⟩
theorem lw_p9 : lw_okq (⟨"BanLand$Reader", "readsRoad", "()Z"⟩, 7) := ⟨⟨by decide +kernel, by decide +kernel⟩, List.mem_of_getElem? (i := 306) (by decide +kernel), List.mem_of_getElem? (i := 422) (by decide +kernel), List.mem_of_getElem? (i := 423) (by decide +kernel)⟩
theorem lw_p10 : lw_okq (⟨"BanLand$Reader", "readsClause", "()Z"⟩, 7) := ⟨⟨by decide +kernel, by decide +kernel⟩, List.mem_of_getElem? (i := 306) (by decide +kernel), List.mem_of_getElem? (i := 428) (by decide +kernel), List.mem_of_getElem? (i := 429) (by decide +kernel)⟩
theorem lw_p11 : lw_okq (⟨"BanLand$Land", "shortenFrom", "(I)V"⟩, 12) := ⟨⟨by decide +kernel, by decide +kernel⟩, List.mem_of_getElem? (i := 26) (by decide +kernel), List.mem_of_getElem? (i := 474) (by decide +kernel), List.mem_of_getElem? (i := 475) (by decide +kernel)⟩
theorem lw_p12 : lw_okq (⟨"BanLand", "isAsked", "(IIIII)Z"⟩, 10) := ⟨⟨by decide +kernel, by decide +kernel⟩, List.mem_of_getElem? (i := 18) (by decide +kernel), List.mem_of_getElem? (i := 483) (by decide +kernel), List.mem_of_getElem? (i := 484) (by decide +kernel)⟩
theorem lw_p13 : lw_okq (⟨"BanLand$Land", "agreesIn", "(III)Z"⟩, 12) := ⟨⟨by decide +kernel, by decide +kernel⟩, List.mem_of_getElem? (i := 26) (by decide +kernel), List.mem_of_getElem? (i := 579) (by decide +kernel), List.mem_of_getElem? (i := 580) (by decide +kernel)⟩
theorem lw_p14 : lw_okq (⟨"BanLand", "firstDay", "(IIII)I"⟩, 10) := ⟨⟨by decide +kernel, by decide +kernel⟩, List.mem_of_getElem? (i := 18) (by decide +kernel), List.mem_of_getElem? (i := 596) (by decide +kernel), List.mem_of_getElem? (i := 597) (by decide +kernel)⟩
theorem lw_p15 : lw_okq (⟨"BanLand$Land", "forbidsOneOf", "(IIII)Z"⟩, 12) := ⟨⟨by decide +kernel, by decide +kernel⟩, List.mem_of_getElem? (i := 26) (by decide +kernel), List.mem_of_getElem? (i := 604) (by decide +kernel), List.mem_of_getElem? (i := 605) (by decide +kernel)⟩
def lw_privs_1 : List (MethodName × Nat) := [(⟨"BanLand", "bad", "(I)I"⟩, 10), (⟨"BanLand", "full", "()I"⟩, 10), (⟨"BanLand", "no", "()I"⟩, 10), (⟨"BanLand$Reader", "advance", "()V"⟩, 7), (⟨"BanLand$Reader", "isWord", "(Ljava/lang/String;)Z"⟩, 7), (⟨"BanLand$Reader", "closes", "()Z"⟩, 7), (⟨"BanLand$Reader", "readsItem", "()Z"⟩, 7), (⟨"BanLand$Reader", "readsTown", "()Z"⟩, 7), (⟨"BanLand$Reader", "takes", "(II)Z"⟩, 7), (⟨"BanLand$Reader", "readsRoad", "()Z"⟩, 7), (⟨"BanLand$Reader", "readsClause", "()Z"⟩, 7), (⟨"BanLand$Land", "shortenFrom", "(I)V"⟩, 12), (⟨"BanLand", "isAsked", "(IIIII)Z"⟩, 10), (⟨"BanLand$Land", "agreesIn", "(III)Z"⟩, 12), (⟨"BanLand", "firstDay", "(IIII)I"⟩, 10), (⟨"BanLand$Land", "forbidsOneOf", "(IIII)Z"⟩, 12)]
theorem lw_r1 : ∀ q ∈ lw_privs_1, lw_okq q := List.forall_mem_cons.mpr ⟨lw_p0, List.forall_mem_cons.mpr ⟨lw_p1, List.forall_mem_cons.mpr ⟨lw_p2, List.forall_mem_cons.mpr ⟨lw_p3, List.forall_mem_cons.mpr ⟨lw_p4, List.forall_mem_cons.mpr ⟨lw_p5, List.forall_mem_cons.mpr ⟨lw_p6, List.forall_mem_cons.mpr ⟨lw_p7, List.forall_mem_cons.mpr ⟨lw_p8, List.forall_mem_cons.mpr ⟨lw_p9, List.forall_mem_cons.mpr ⟨lw_p10, List.forall_mem_cons.mpr ⟨lw_p11, List.forall_mem_cons.mpr ⟨lw_p12, List.forall_mem_cons.mpr ⟨lw_p13, List.forall_mem_cons.mpr ⟨lw_p14, List.forall_mem_cons.mpr ⟨lw_p15, fun _ h => absurd h List.not_mem_nil⟩⟩⟩⟩⟩⟩⟩⟩⟩⟩⟩⟩⟩⟩⟩⟩
theorem lw_p16 : lw_okq (⟨"BanLand", "whoGivesIn", "(IIII)I"⟩, 10) := ⟨⟨by decide +kernel, by decide +kernel⟩, List.mem_of_getElem? (i := 18) (by decide +kernel), List.mem_of_getElem? (i := 608) (by decide +kernel), List.mem_of_getElem? (i := 609) (by decide +kernel)⟩
theorem lw_p17 : lw_okq (⟨"BanLandModel", "towns", "()I"⟩, 23) := ⟨⟨by decide +kernel, by decide +kernel⟩, List.mem_of_getElem? (i := 716) (by decide +kernel), List.mem_of_getElem? (i := 797) (by decide +kernel), List.mem_of_getElem? (i := 798) (by decide +kernel)⟩
theorem lw_p18 : lw_okq (⟨"BanLandModel", "bad", "(I)I"⟩, 23) := ⟨⟨by decide +kernel, by decide +kernel⟩, List.mem_of_getElem? (i := 716) (by decide +kernel), List.mem_of_getElem? (i := 812) (by decide +kernel), List.mem_of_getElem? (i := 813) (by decide +kernel)⟩
theorem lw_p19 : lw_okq (⟨"BanLandModel", "full", "()I"⟩, 23) := ⟨⟨by decide +kernel, by decide +kernel⟩, List.mem_of_getElem? (i := 716) (by decide +kernel), List.mem_of_getElem? (i := 816) (by decide +kernel), List.mem_of_getElem? (i := 817) (by decide +kernel)⟩
theorem lw_p20 : lw_okq (⟨"BanLandModel", "isTown", "(I)Z"⟩, 23) := ⟨⟨by decide +kernel, by decide +kernel⟩, List.mem_of_getElem? (i := 716) (by decide +kernel), List.mem_of_getElem? (i := 827) (by decide +kernel), List.mem_of_getElem? (i := 828) (by decide +kernel)⟩
theorem lw_p21 : lw_okq (⟨"BanLandModel", "clauses", "()I"⟩, 23) := ⟨⟨by decide +kernel, by decide +kernel⟩, List.mem_of_getElem? (i := 716) (by decide +kernel), List.mem_of_getElem? (i := 844) (by decide +kernel), List.mem_of_getElem? (i := 845) (by decide +kernel)⟩
theorem lw_p22 : lw_okq (⟨"BanLandModel", "keep", "()V"⟩, 23) := ⟨⟨by decide +kernel, by decide +kernel⟩, List.mem_of_getElem? (i := 716) (by decide +kernel), List.mem_of_getElem? (i := 848) (by decide +kernel), List.mem_of_getElem? (i := 849) (by decide +kernel)⟩
theorem lw_p23 : lw_okq (⟨"BanLandModel", "isClause", "(I)Z"⟩, 23) := ⟨⟨by decide +kernel, by decide +kernel⟩, List.mem_of_getElem? (i := 716) (by decide +kernel), List.mem_of_getElem? (i := 859) (by decide +kernel), List.mem_of_getElem? (i := 860) (by decide +kernel)⟩
theorem lw_p24 : lw_okq (⟨"BanLandModel", "no", "()I"⟩, 23) := ⟨⟨by decide +kernel, by decide +kernel⟩, List.mem_of_getElem? (i := 716) (by decide +kernel), List.mem_of_getElem? (i := 867) (by decide +kernel), List.mem_of_getElem? (i := 868) (by decide +kernel)⟩
theorem lw_p25 : lw_okq (⟨"BanLandModel", "has", "(II)I"⟩, 23) := ⟨⟨by decide +kernel, by decide +kernel⟩, List.mem_of_getElem? (i := 716) (by decide +kernel), List.mem_of_getElem? (i := 876) (by decide +kernel), List.mem_of_getElem? (i := 877) (by decide +kernel)⟩
theorem lw_p26 : lw_okq (⟨"BanLandModel", "speaksDays", "(I)I"⟩, 23) := ⟨⟨by decide +kernel, by decide +kernel⟩, List.mem_of_getElem? (i := 716) (by decide +kernel), List.mem_of_getElem? (i := 883) (by decide +kernel), List.mem_of_getElem? (i := 884) (by decide +kernel)⟩
theorem lw_p27 : lw_okq (⟨"BanLandModel", "decidesIn", "(IIIIII)I"⟩, 23) := ⟨⟨by decide +kernel, by decide +kernel⟩, List.mem_of_getElem? (i := 716) (by decide +kernel), List.mem_of_getElem? (i := 898) (by decide +kernel), List.mem_of_getElem? (i := 899) (by decide +kernel)⟩
theorem lw_p28 : lw_okq (⟨"BanLandModel", "hear", "(IIIIII)V"⟩, 23) := ⟨⟨by decide +kernel, by decide +kernel⟩, List.mem_of_getElem? (i := 716) (by decide +kernel), List.mem_of_getElem? (i := 902) (by decide +kernel), List.mem_of_getElem? (i := 903) (by decide +kernel)⟩
theorem lw_p29 : lw_okq (⟨"BanLandModel", "speaks", "(IIIIII)Z"⟩, 23) := ⟨⟨by decide +kernel, by decide +kernel⟩, List.mem_of_getElem? (i := 716) (by decide +kernel), List.mem_of_getElem? (i := 906) (by decide +kernel), List.mem_of_getElem? (i := 907) (by decide +kernel)⟩
theorem lw_p30 : lw_okq (⟨"BanLandModel", "decides", "(I)I"⟩, 23) := ⟨⟨by decide +kernel, by decide +kernel⟩, List.mem_of_getElem? (i := 716) (by decide +kernel), List.mem_of_getElem? (i := 910) (by decide +kernel), List.mem_of_getElem? (i := 911) (by decide +kernel)⟩
theorem lw_p31 : lw_okq (⟨"BanLandModel", "layFar", "(I)V"⟩, 23) := ⟨⟨by decide +kernel, by decide +kernel⟩, List.mem_of_getElem? (i := 716) (by decide +kernel), List.mem_of_getElem? (i := 918) (by decide +kernel), List.mem_of_getElem? (i := 919) (by decide +kernel)⟩
def lw_privs_2 : List (MethodName × Nat) := [(⟨"BanLand", "whoGivesIn", "(IIII)I"⟩, 10), (⟨"BanLandModel", "towns", "()I"⟩, 23), (⟨"BanLandModel", "bad", "(I)I"⟩, 23), (⟨"BanLandModel", "full", "()I"⟩, 23), (⟨"BanLandModel", "isTown", "(I)Z"⟩, 23), (⟨"BanLandModel", "clauses", "()I"⟩, 23), (⟨"BanLandModel", "keep", "()V"⟩, 23), (⟨"BanLandModel", "isClause", "(I)Z"⟩, 23), (⟨"BanLandModel", "no", "()I"⟩, 23), (⟨"BanLandModel", "has", "(II)I"⟩, 23), (⟨"BanLandModel", "speaksDays", "(I)I"⟩, 23), (⟨"BanLandModel", "decidesIn", "(IIIIII)I"⟩, 23), (⟨"BanLandModel", "hear", "(IIIIII)V"⟩, 23), (⟨"BanLandModel", "speaks", "(IIIIII)Z"⟩, 23), (⟨"BanLandModel", "decides", "(I)I"⟩, 23), (⟨"BanLandModel", "layFar", "(I)V"⟩, 23)]
theorem lw_r2 : ∀ q ∈ lw_privs_2, lw_okq q := List.forall_mem_cons.mpr ⟨lw_p16, List.forall_mem_cons.mpr ⟨lw_p17, List.forall_mem_cons.mpr ⟨lw_p18, List.forall_mem_cons.mpr ⟨lw_p19, List.forall_mem_cons.mpr ⟨lw_p20, List.forall_mem_cons.mpr ⟨lw_p21, List.forall_mem_cons.mpr ⟨lw_p22, List.forall_mem_cons.mpr ⟨lw_p23, List.forall_mem_cons.mpr ⟨lw_p24, List.forall_mem_cons.mpr ⟨lw_p25, List.forall_mem_cons.mpr ⟨lw_p26, List.forall_mem_cons.mpr ⟨lw_p27, List.forall_mem_cons.mpr ⟨lw_p28, List.forall_mem_cons.mpr ⟨lw_p29, List.forall_mem_cons.mpr ⟨lw_p30, List.forall_mem_cons.mpr ⟨lw_p31, fun _ h => absurd h List.not_mem_nil⟩⟩⟩⟩⟩⟩⟩⟩⟩⟩⟩⟩⟩⟩⟩⟩
theorem lw_p32 : lw_okq (⟨"BanLandModel", "isAllowed", "(IIIIII)Z"⟩, 23) := ⟨⟨by decide +kernel, by decide +kernel⟩, List.mem_of_getElem? (i := 716) (by decide +kernel), List.mem_of_getElem? (i := 928) (by decide +kernel), List.mem_of_getElem? (i := 929) (by decide +kernel)⟩
theorem lw_p33 : lw_okq (⟨"BanLandModel", "allAgree", "(III)Z"⟩, 23) := ⟨⟨by decide +kernel, by decide +kernel⟩, List.mem_of_getElem? (i := 716) (by decide +kernel), List.mem_of_getElem? (i := 947) (by decide +kernel), List.mem_of_getElem? (i := 948) (by decide +kernel)⟩
theorem lw_p34 : lw_okq (⟨"BanLandModel", "givesIn", "(IIII)I"⟩, 23) := ⟨⟨by decide +kernel, by decide +kernel⟩, List.mem_of_getElem? (i := 716) (by decide +kernel), List.mem_of_getElem? (i := 960) (by decide +kernel), List.mem_of_getElem? (i := 961) (by decide +kernel)⟩
theorem lw_p35 : lw_okq (⟨"BanLandModel", "forbidsSome", "(IIII)Z"⟩, 23) := ⟨⟨by decide +kernel, by decide +kernel⟩, List.mem_of_getElem? (i := 716) (by decide +kernel), List.mem_of_getElem? (i := 964) (by decide +kernel), List.mem_of_getElem? (i := 965) (by decide +kernel)⟩
theorem lw_p36 : lw_okq (⟨"BanLandModel", "fraction", "(II)V"⟩, 23) := ⟨⟨by decide +kernel, by decide +kernel⟩, List.mem_of_getElem? (i := 716) (by decide +kernel), List.mem_of_getElem? (i := 1000) (by decide +kernel), List.mem_of_getElem? (i := 1001) (by decide +kernel)⟩
theorem lw_p37 : lw_okq (⟨"BanLandModel", "draw", "(I)I"⟩, 23) := ⟨⟨by decide +kernel, by decide +kernel⟩, List.mem_of_getElem? (i := 716) (by decide +kernel), List.mem_of_getElem? (i := 1009) (by decide +kernel), List.mem_of_getElem? (i := 1010) (by decide +kernel)⟩
theorem lw_p38 : lw_okq (⟨"BanLandModel", "lookAt", "(I)V"⟩, 23) := ⟨⟨by decide +kernel, by decide +kernel⟩, List.mem_of_getElem? (i := 716) (by decide +kernel), List.mem_of_getElem? (i := 1030) (by decide +kernel), List.mem_of_getElem? (i := 1031) (by decide +kernel)⟩
theorem lw_p39 : lw_okq (⟨"BanLandModel", "isCalled", "(IIIIIII)Z"⟩, 23) := ⟨⟨by decide +kernel, by decide +kernel⟩, List.mem_of_getElem? (i := 716) (by decide +kernel), List.mem_of_getElem? (i := 1044) (by decide +kernel), List.mem_of_getElem? (i := 1045) (by decide +kernel)⟩
theorem lw_p40 : lw_okq (⟨"BanLandModel", "goOn", "()V"⟩, 23) := ⟨⟨by decide +kernel, by decide +kernel⟩, List.mem_of_getElem? (i := 716) (by decide +kernel), List.mem_of_getElem? (i := 1048) (by decide +kernel), List.mem_of_getElem? (i := 1049) (by decide +kernel)⟩
theorem lw_p41 : lw_okq (⟨"BanLandModel", "readsItem", "()Z"⟩, 23) := ⟨⟨by decide +kernel, by decide +kernel⟩, List.mem_of_getElem? (i := 716) (by decide +kernel), List.mem_of_getElem? (i := 1052) (by decide +kernel), List.mem_of_getElem? (i := 1053) (by decide +kernel)⟩
theorem lw_p42 : lw_okq (⟨"BanLandModel", "readsTown", "()Z"⟩, 23) := ⟨⟨by decide +kernel, by decide +kernel⟩, List.mem_of_getElem? (i := 716) (by decide +kernel), List.mem_of_getElem? (i := 1056) (by decide +kernel), List.mem_of_getElem? (i := 1057) (by decide +kernel)⟩
theorem lw_p43 : lw_okq (⟨"BanLandModel", "takes", "(III)Z"⟩, 23) := ⟨⟨by decide +kernel, by decide +kernel⟩, List.mem_of_getElem? (i := 716) (by decide +kernel), List.mem_of_getElem? (i := 1060) (by decide +kernel), List.mem_of_getElem? (i := 1061) (by decide +kernel)⟩
theorem lw_p44 : lw_okq (⟨"BanLandModel", "readsRoad", "()Z"⟩, 23) := ⟨⟨by decide +kernel, by decide +kernel⟩, List.mem_of_getElem? (i := 716) (by decide +kernel), List.mem_of_getElem? (i := 1064) (by decide +kernel), List.mem_of_getElem? (i := 1065) (by decide +kernel)⟩
theorem lw_p45 : lw_okq (⟨"BanLandModel", "readsClause", "()Z"⟩, 23) := ⟨⟨by decide +kernel, by decide +kernel⟩, List.mem_of_getElem? (i := 716) (by decide +kernel), List.mem_of_getElem? (i := 1068) (by decide +kernel), List.mem_of_getElem? (i := 1069) (by decide +kernel)⟩
theorem lw_p46 : lw_okq (⟨"BanLandModel", "counted", "(I)I"⟩, 23) := ⟨⟨by decide +kernel, by decide +kernel⟩, List.mem_of_getElem? (i := 716) (by decide +kernel), List.mem_of_getElem? (i := 1092) (by decide +kernel), List.mem_of_getElem? (i := 1093) (by decide +kernel)⟩
theorem lw_p47 : lw_okq (⟨"BanLandModel", "roads", "()I"⟩, 23) := ⟨⟨by decide +kernel, by decide +kernel⟩, List.mem_of_getElem? (i := 716) (by decide +kernel), List.mem_of_getElem? (i := 1096) (by decide +kernel), List.mem_of_getElem? (i := 1097) (by decide +kernel)⟩
def lw_privs_3 : List (MethodName × Nat) := [(⟨"BanLandModel", "isAllowed", "(IIIIII)Z"⟩, 23), (⟨"BanLandModel", "allAgree", "(III)Z"⟩, 23), (⟨"BanLandModel", "givesIn", "(IIII)I"⟩, 23), (⟨"BanLandModel", "forbidsSome", "(IIII)Z"⟩, 23), (⟨"BanLandModel", "fraction", "(II)V"⟩, 23), (⟨"BanLandModel", "draw", "(I)I"⟩, 23), (⟨"BanLandModel", "lookAt", "(I)V"⟩, 23), (⟨"BanLandModel", "isCalled", "(IIIIIII)Z"⟩, 23), (⟨"BanLandModel", "goOn", "()V"⟩, 23), (⟨"BanLandModel", "readsItem", "()Z"⟩, 23), (⟨"BanLandModel", "readsTown", "()Z"⟩, 23), (⟨"BanLandModel", "takes", "(III)Z"⟩, 23), (⟨"BanLandModel", "readsRoad", "()Z"⟩, 23), (⟨"BanLandModel", "readsClause", "()Z"⟩, 23), (⟨"BanLandModel", "counted", "(I)I"⟩, 23), (⟨"BanLandModel", "roads", "()I"⟩, 23)]
theorem lw_r3 : ∀ q ∈ lw_privs_3, lw_okq q := List.forall_mem_cons.mpr ⟨lw_p32, List.forall_mem_cons.mpr ⟨lw_p33, List.forall_mem_cons.mpr ⟨lw_p34, List.forall_mem_cons.mpr ⟨lw_p35, List.forall_mem_cons.mpr ⟨lw_p36, List.forall_mem_cons.mpr ⟨lw_p37, List.forall_mem_cons.mpr ⟨lw_p38, List.forall_mem_cons.mpr ⟨lw_p39, List.forall_mem_cons.mpr ⟨lw_p40, List.forall_mem_cons.mpr ⟨lw_p41, List.forall_mem_cons.mpr ⟨lw_p42, List.forall_mem_cons.mpr ⟨lw_p43, List.forall_mem_cons.mpr ⟨lw_p44, List.forall_mem_cons.mpr ⟨lw_p45, List.forall_mem_cons.mpr ⟨lw_p46, List.forall_mem_cons.mpr ⟨lw_p47, fun _ h => absurd h List.not_mem_nil⟩⟩⟩⟩⟩⟩⟩⟩⟩⟩⟩⟩⟩⟩⟩⟩
theorem lw_p48 : lw_okq (⟨"BanLandModel", "sums", "(JII)J"⟩, 23) := ⟨⟨by decide +kernel, by decide +kernel⟩, List.mem_of_getElem? (i := 716) (by decide +kernel), List.mem_of_getElem? (i := 1106) (by decide +kernel), List.mem_of_getElem? (i := 1107) (by decide +kernel)⟩
def lw_privs_4 : List (MethodName × Nat) := [(⟨"BanLandModel", "sums", "(JII)J"⟩, 23)]
theorem lw_r4 : ∀ q ∈ lw_privs_4, lw_okq q := List.forall_mem_cons.mpr ⟨lw_p48, fun _ h => absurd h List.not_mem_nil⟩
def lw_privs : List (MethodName × Nat) := lw_privs_1 ++ (lw_privs_2 ++ (lw_privs_3 ++ (lw_privs_4)))
def lw_tbl : List Cond := k2_sels lw_privs ++ tables_1
theorem lw_privs_ok : ∀ q ∈ lw_privs, lw_okq q := by
  show ∀ q ∈ lw_privs_1 ++ (lw_privs_2 ++ (lw_privs_3 ++ (lw_privs_4))), lw_okq q
  exact List.forall_mem_append.mpr ⟨lw_r1, List.forall_mem_append.mpr ⟨lw_r2, List.forall_mem_append.mpr ⟨lw_r3, lw_r4⟩⟩⟩
-- ===== end of PART A; then your names; then what follows =====
end
section
def RX0 : String := "BanLand$Ban"
def TX0 : u_T := fun k => match k with
  | 0 => ("BanLand$Ban", "kind", "I", true)
  | 1 => ("BanLand$Ban", "act", "I", true)
  | 2 => ("BanLand$Ban", "from", "I", true)
  | 3 => ("BanLand$Ban", "till", "I", true)
  | _ => ("BanLand$Ban", "town", "I", true)
def tyX0 : Nat → FieldType := fun k => match k with
  | 0 => .int
  | 1 => .int
  | 2 => .int
  | 3 => .int
  | _ => .int
abbrev wsX00 : List Cond := u_ws RX0 TX0 5
theorem nmX0 : ∀ a, a < 5 → ∀ b, b < 5 → a ≠ b → (TX0 a).2.1 ≠ (TX0 b).2.1 := by decide +kernel
theorem tyX0_ok : ∀ k, k < 5 → parseFieldDescriptor (TX0 k).2.2.1 = some (tyX0 k) := by decide +kernel
abbrev cX0_init : ByteArray := prog_2_method_1_code
def yX0_init : MethodName := ⟨RX0, "<init>", "(IIIII)V"⟩
abbrev cX0_speaksIn : ByteArray := prog_2_method_2_code
def yX0_speaksIn : MethodName := ⟨RX0, "speaksIn", "(I)Z"⟩
abbrev cX0_end : ByteArray := prog_2_method_3_code
def yX0_end : MethodName := ⟨RX0, "end", "()I"⟩
abbrev cX0_speaksTo : ByteArray := prog_2_method_4_code
def yX0_speaksTo : MethodName := ⟨RX0, "speaksTo", "(I)Z"⟩
abbrev cX0_allows : ByteArray := prog_2_method_5_code
def yX0_allows : MethodName := ⟨RX0, "allows", "()Z"⟩
def RX1 : String := "BanLand$Dying"
def TX1 : u_T := fun k => match k with
  | 0 => ("BanLand$Ban", "kind", "I", true)
  | 1 => ("BanLand$Ban", "act", "I", true)
  | 2 => ("BanLand$Ban", "from", "I", true)
  | 3 => ("BanLand$Ban", "till", "I", true)
  | _ => ("BanLand$Ban", "town", "I", true)
def tyX1 : Nat → FieldType := fun k => match k with
  | 0 => .int
  | 1 => .int
  | 2 => .int
  | 3 => .int
  | _ => .int
abbrev wsX10 : List Cond := u_ws RX1 TX1 5
theorem nmX1 : ∀ a, a < 5 → ∀ b, b < 5 → a ≠ b → (TX1 a).2.1 ≠ (TX1 b).2.1 := by decide +kernel
theorem tyX1_ok : ∀ k, k < 5 → parseFieldDescriptor (TX1 k).2.2.1 = some (tyX1 k) := by decide +kernel
abbrev cX1_init : ByteArray := prog_3_method_1_code
def yX1_init : MethodName := ⟨RX1, "<init>", "(IIIII)V"⟩
abbrev cX1_speaksTo : ByteArray := prog_3_method_2_code
def yX1_speaksTo : MethodName := ⟨RX1, "speaksTo", "(I)Z"⟩
def RX2 : String := "BanLand$Grace"
def TX2 : u_T := fun k => match k with
  | 0 => ("BanLand$Ban", "kind", "I", true)
  | 1 => ("BanLand$Ban", "act", "I", true)
  | 2 => ("BanLand$Ban", "from", "I", true)
  | 3 => ("BanLand$Ban", "till", "I", true)
  | _ => ("BanLand$Ban", "town", "I", true)
def tyX2 : Nat → FieldType := fun k => match k with
  | 0 => .int
  | 1 => .int
  | 2 => .int
  | 3 => .int
  | _ => .int
abbrev wsX20 : List Cond := u_ws RX2 TX2 5
theorem nmX2 : ∀ a, a < 5 → ∀ b, b < 5 → a ≠ b → (TX2 a).2.1 ≠ (TX2 b).2.1 := by decide +kernel
theorem tyX2_ok : ∀ k, k < 5 → parseFieldDescriptor (TX2 k).2.2.1 = some (tyX2 k) := by decide +kernel
abbrev cX2_init : ByteArray := prog_4_method_1_code
def yX2_init : MethodName := ⟨RX2, "<init>", "(IIIII)V"⟩
abbrev cX2_allows : ByteArray := prog_4_method_2_code
def yX2_allows : MethodName := ⟨RX2, "allows", "()Z"⟩
def RX3 : String := "BanLand$House"
def TX3 : u_T := fun k => match k with
  | 0 => ("BanLand$Ban", "kind", "I", true)
  | 1 => ("BanLand$Ban", "act", "I", true)
  | 2 => ("BanLand$Ban", "from", "I", true)
  | 3 => ("BanLand$Ban", "till", "I", true)
  | _ => ("BanLand$Ban", "town", "I", true)
def tyX3 : Nat → FieldType := fun k => match k with
  | 0 => .int
  | 1 => .int
  | 2 => .int
  | 3 => .int
  | _ => .int
abbrev wsX30 : List Cond := u_ws RX3 TX3 5
theorem nmX3 : ∀ a, a < 5 → ∀ b, b < 5 → a ≠ b → (TX3 a).2.1 ≠ (TX3 b).2.1 := by decide +kernel
theorem tyX3_ok : ∀ k, k < 5 → parseFieldDescriptor (TX3 k).2.2.1 = some (tyX3 k) := by decide +kernel
abbrev cX3_init : ByteArray := prog_5_method_1_code
def yX3_init : MethodName := ⟨RX3, "<init>", "(IIIII)V"⟩
abbrev cX3_speaksIn : ByteArray := prog_5_method_2_code
def yX3_speaksIn : MethodName := ⟨RX3, "speaksIn", "(I)Z"⟩
def RX4 : String := "BanLand$Land"
def TX4 : u_T := fun k => match k with
  | 0 => ("BanLand$Land", "towns", "I", false)
  | 1 => ("BanLand$Land", "clauses", "I", false)
  | 2 => ("BanLand$Land", "undoable", "I", false)
  | 3 => ("BanLand$Land", "leaves", "I", false)
  | 4 => ("BanLand$Land", "readings", "[I", true)
  | 5 => ("BanLand$Land", "roads", "[I", true)
  | 6 => ("BanLand$Land", "law", "[LBanLand$Ban;", true)
  | 7 => ("BanLand$Land", "pastLaw", "[LBanLand$Ban;", true)
  | 8 => ("BanLand$Land", "pastClauses", "[I", true)
  | 9 => ("BanLand$Land", "given", "[I", true)
  | 10 => ("BanLand$Land", "away", "[I", true)
  | _ => ("BanLand$Land", "noted", "[I", true)
def tyX4 : Nat → FieldType := fun k => match k with
  | 0 => .int
  | 1 => .int
  | 2 => .int
  | 3 => .int
  | 4 => .array .int
  | 5 => .array .int
  | 6 => .array (.object "BanLand$Ban")
  | 7 => .array (.object "BanLand$Ban")
  | 8 => .array .int
  | 9 => .array .int
  | 10 => .array .int
  | _ => .array .int
abbrev wsX40 : List Cond := u_ws RX4 TX4 12
theorem nmX4 : ∀ a, a < 12 → ∀ b, b < 12 → a ≠ b → (TX4 a).2.1 ≠ (TX4 b).2.1 := by decide +kernel
theorem tyX4_ok : ∀ k, k < 12 → parseFieldDescriptor (TX4 k).2.2.1 = some (tyX4 k) := by decide +kernel
abbrev cX4_init : ByteArray := prog_6_method_1_code
def yX4_init : MethodName := ⟨RX4, "<init>", "()V"⟩
abbrev cX4_empty : ByteArray := prog_6_method_2_code
def yX4_empty : MethodName := ⟨RX4, "empty", "()V"⟩
abbrev cX4_becomeLike : ByteArray := prog_6_method_3_code
def yX4_becomeLike : MethodName := ⟨RX4, "becomeLike", "(LBanLand$Land;)V"⟩
abbrev cX4_moveClauses : ByteArray := prog_6_method_4_code
def yX4_moveClauses : MethodName := ⟨RX4, "moveClauses", "([LBanLand$Ban;I[LBanLand$Ban;II)V"⟩
abbrev cX4_hasTown : ByteArray := prog_6_method_5_code
def yX4_hasTown : MethodName := ⟨RX4, "hasTown", "(I)Z"⟩
abbrev cX4_addTown : ByteArray := prog_6_method_6_code
def yX4_addTown : MethodName := ⟨RX4, "addTown", "(I)V"⟩
abbrev cX4_roadDays : ByteArray := prog_6_method_7_code
def yX4_roadDays : MethodName := ⟨RX4, "roadDays", "(II)I"⟩
abbrev cX4_setRoad : ByteArray := prog_6_method_8_code
def yX4_setRoad : MethodName := ⟨RX4, "setRoad", "(III)V"⟩
abbrev cX4_roadsBuilt : ByteArray := prog_6_method_9_code
def yX4_roadsBuilt : MethodName := ⟨RX4, "roadsBuilt", "()I"⟩
abbrev cX4_clauseAt : ByteArray := prog_6_method_10_code
def yX4_clauseAt : MethodName := ⟨RX4, "clauseAt", "(I)LBanLand$Ban;"⟩
abbrev cX4_addClause : ByteArray := prog_6_method_11_code
def yX4_addClause : MethodName := ⟨RX4, "addClause", "(LBanLand$Ban;)V"⟩
abbrev cX4_dropClause : ByteArray := prog_6_method_12_code
def yX4_dropClause : MethodName := ⟨RX4, "dropClause", "(I)V"⟩
abbrev cX4_remember : ByteArray := prog_6_method_13_code
def yX4_remember : MethodName := ⟨RX4, "remember", "()V"⟩
abbrev cX4_goBack : ByteArray := prog_6_method_14_code
def yX4_goBack : MethodName := ⟨RX4, "goBack", "()V"⟩
abbrev cX4_addLeave : ByteArray := prog_6_method_15_code
def yX4_addLeave : MethodName := ⟨RX4, "addLeave", "(IIIII)V"⟩
abbrev cX4_isForged : ByteArray := prog_6_method_16_code
def yX4_isForged : MethodName := ⟨RX4, "isForged", "(I)Z"⟩
abbrev cX4_measure : ByteArray := prog_6_method_17_code
def yX4_measure : MethodName := ⟨RX4, "measure", "(I)V"⟩
abbrev cX4_shortenFrom : ByteArray := prog_6_method_18_code
def yX4_shortenFrom : MethodName := ⟨RX4, "shortenFrom", "(I)V"⟩
abbrev cX4_nearestThatAllows : ByteArray := prog_6_method_19_code
def yX4_nearestThatAllows : MethodName := ⟨RX4, "nearestThatAllows", "(IIII)I"⟩
abbrev cX4_speaking : ByteArray := prog_6_method_20_code
def yX4_speaking : MethodName := ⟨RX4, "speaking", "(IIII)I"⟩
abbrev cX4_allowing : ByteArray := prog_6_method_21_code
def yX4_allowing : MethodName := ⟨RX4, "allowing", "()I"⟩
abbrev cX4_decider : ByteArray := prog_6_method_22_code
def yX4_decider : MethodName := ⟨RX4, "decider", "(IIII)I"⟩
abbrev cX4_forbids : ByteArray := prog_6_method_23_code
def yX4_forbids : MethodName := ⟨RX4, "forbids", "(IIII)Z"⟩
abbrev cX4_forbidsOneOf : ByteArray := prog_6_method_24_code
def yX4_forbidsOneOf : MethodName := ⟨RX4, "forbidsOneOf", "(IIII)Z"⟩
abbrev cX4_townsPressing : ByteArray := prog_6_method_25_code
def yX4_townsPressing : MethodName := ⟨RX4, "townsPressing", "(III)I"⟩
abbrev cX4_daysPressed : ByteArray := prog_6_method_26_code
def yX4_daysPressed : MethodName := ⟨RX4, "daysPressed", "(II)I"⟩
abbrev cX4_noteSpeaking : ByteArray := prog_6_method_27_code
def yX4_noteSpeaking : MethodName := ⟨RX4, "noteSpeaking", "(II)V"⟩
abbrev cX4_agrees : ByteArray := prog_6_method_28_code
def yX4_agrees : MethodName := ⟨RX4, "agrees", "(III)Z"⟩
abbrev cX4_agreesIn : ByteArray := prog_6_method_29_code
def yX4_agreesIn : MethodName := ⟨RX4, "agreesIn", "(III)Z"⟩
abbrev cX4_mixedIn : ByteArray := prog_6_method_30_code
def yX4_mixedIn : MethodName := ⟨RX4, "mixedIn", "(J)J"⟩
abbrev cX4_mixedClause : ByteArray := prog_6_method_31_code
def yX4_mixedClause : MethodName := ⟨RX4, "mixedClause", "(JLBanLand$Ban;)J"⟩
def RX5 : String := "BanLand$Lapsed"
def TX5 : u_T := fun k => match k with
  | 0 => ("BanLand$Ban", "kind", "I", true)
  | 1 => ("BanLand$Ban", "act", "I", true)
  | 2 => ("BanLand$Ban", "from", "I", true)
  | 3 => ("BanLand$Ban", "till", "I", true)
  | _ => ("BanLand$Ban", "town", "I", true)
def tyX5 : Nat → FieldType := fun k => match k with
  | 0 => .int
  | 1 => .int
  | 2 => .int
  | 3 => .int
  | _ => .int
abbrev wsX50 : List Cond := u_ws RX5 TX5 5
theorem nmX5 : ∀ a, a < 5 → ∀ b, b < 5 → a ≠ b → (TX5 a).2.1 ≠ (TX5 b).2.1 := by decide +kernel
theorem tyX5_ok : ∀ k, k < 5 → parseFieldDescriptor (TX5 k).2.2.1 = some (tyX5 k) := by decide +kernel
abbrev cX5_init : ByteArray := prog_7_method_1_code
def yX5_init : MethodName := ⟨RX5, "<init>", "(IIIII)V"⟩
abbrev cX5_end : ByteArray := prog_7_method_2_code
def yX5_end : MethodName := ⟨RX5, "end", "()I"⟩
def RX6 : String := "BanLand$Reader"
def TX6 : u_T := fun k => match k with
  | 0 => ("BanLand$Reader", "bytes", "[B", true)
  | 1 => ("BanLand$Reader", "size", "I", true)
  | 2 => ("BanLand$Reader", "target", "LBanLand$Land;", true)
  | 3 => ("BanLand$Reader", "start", "I", false)
  | 4 => ("BanLand$Reader", "end", "I", false)
  | 5 => ("BanLand$Reader", "token", "I", false)
  | _ => ("BanLand$Reader", "number", "I", false)
def tyX6 : Nat → FieldType := fun k => match k with
  | 0 => .array .byte
  | 1 => .int
  | 2 => .object "BanLand$Land"
  | 3 => .int
  | 4 => .int
  | 5 => .int
  | _ => .int
abbrev wsX60 : List Cond := u_ws RX6 TX6 7
theorem nmX6 : ∀ a, a < 7 → ∀ b, b < 7 → a ≠ b → (TX6 a).2.1 ≠ (TX6 b).2.1 := by decide +kernel
theorem tyX6_ok : ∀ k, k < 7 → parseFieldDescriptor (TX6 k).2.2.1 = some (tyX6 k) := by decide +kernel
abbrev cX6_init : ByteArray := prog_8_method_1_code
def yX6_init : MethodName := ⟨RX6, "<init>", "([BILBanLand$Land;)V"⟩
abbrev cX6_items : ByteArray := prog_8_method_2_code
def yX6_items : MethodName := ⟨RX6, "items", "()I"⟩
abbrev cX6_readsItem : ByteArray := prog_8_method_3_code
def yX6_readsItem : MethodName := ⟨RX6, "readsItem", "()Z"⟩
abbrev cX6_readsTown : ByteArray := prog_8_method_4_code
def yX6_readsTown : MethodName := ⟨RX6, "readsTown", "()Z"⟩
abbrev cX6_readsRoad : ByteArray := prog_8_method_5_code
def yX6_readsRoad : MethodName := ⟨RX6, "readsRoad", "()Z"⟩
abbrev cX6_readsClause : ByteArray := prog_8_method_6_code
def yX6_readsClause : MethodName := ⟨RX6, "readsClause", "()Z"⟩
abbrev cX6_takes : ByteArray := prog_8_method_7_code
def yX6_takes : MethodName := ⟨RX6, "takes", "(II)Z"⟩
abbrev cX6_closes : ByteArray := prog_8_method_8_code
def yX6_closes : MethodName := ⟨RX6, "closes", "()Z"⟩
abbrev cX6_advance : ByteArray := prog_8_method_9_code
def yX6_advance : MethodName := ⟨RX6, "advance", "()V"⟩
abbrev cX6_isWord : ByteArray := prog_8_method_10_code
def yX6_isWord : MethodName := ⟨RX6, "isWord", "(Ljava/lang/String;)Z"⟩
abbrev cX6_isLetter : ByteArray := prog_8_method_11_code
def yX6_isLetter : MethodName := ⟨RX6, "isLetter", "(B)Z"⟩
abbrev cX6_isFigure : ByteArray := prog_8_method_12_code
def yX6_isFigure : MethodName := ⟨RX6, "isFigure", "(B)Z"⟩
def RX7 : String := "BanLand$Secret"
def TX7 : u_T := fun k => match k with
  | 0 => ("BanLand$Ban", "kind", "I", true)
  | 1 => ("BanLand$Ban", "act", "I", true)
  | 2 => ("BanLand$Ban", "from", "I", true)
  | 3 => ("BanLand$Ban", "till", "I", true)
  | _ => ("BanLand$Ban", "town", "I", true)
def tyX7 : Nat → FieldType := fun k => match k with
  | 0 => .int
  | 1 => .int
  | 2 => .int
  | 3 => .int
  | _ => .int
abbrev wsX70 : List Cond := u_ws RX7 TX7 5
theorem nmX7 : ∀ a, a < 5 → ∀ b, b < 5 → a ≠ b → (TX7 a).2.1 ≠ (TX7 b).2.1 := by decide +kernel
theorem tyX7_ok : ∀ k, k < 5 → parseFieldDescriptor (TX7 k).2.2.1 = some (tyX7 k) := by decide +kernel
abbrev cX7_init : ByteArray := prog_9_method_1_code
def yX7_init : MethodName := ⟨RX7, "<init>", "(IIIII)V"⟩
abbrev cX7_speaksTo : ByteArray := prog_9_method_2_code
def yX7_speaksTo : MethodName := ⟨RX7, "speaksTo", "(I)Z"⟩
def RX8 : String := "BanLand"
def TX8 : u_T := fun k => match k with
  | 0 => ("BanLand", "land", "LBanLand$Land;", false)
  | 1 => ("BanLand", "draft", "LBanLand$Land;", false)
  | 2 => ("BanLand", "images", "[LBanLand$Land;", true)
  | 3 => ("BanLand", "text", "[B", true)
  | 4 => ("BanLand", "length", "I", false)
  | 5 => ("BanLand", "above", "I", false)
  | 6 => ("BanLand", "below", "I", false)
  | 7 => ("BanLand", "bads", "I", false)
  | 8 => ("BanLand", "nos", "I", false)
  | _ => ("BanLand", "fulls", "I", false)
def tyX8 : Nat → FieldType := fun k => match k with
  | 0 => .object "BanLand$Land"
  | 1 => .object "BanLand$Land"
  | 2 => .array (.object "BanLand$Land")
  | 3 => .array .byte
  | 4 => .int
  | 5 => .int
  | 6 => .int
  | 7 => .int
  | 8 => .int
  | _ => .int
abbrev wsX80 : List Cond := u_ws RX8 TX8 10
theorem nmX8 : ∀ a, a < 10 → ∀ b, b < 10 → a ≠ b → (TX8 a).2.1 ≠ (TX8 b).2.1 := by decide +kernel
theorem tyX8_ok : ∀ k, k < 10 → parseFieldDescriptor (TX8 k).2.2.1 = some (tyX8 k) := by decide +kernel
abbrev cX8_init : ByteArray := prog_1_method_1_code
def yX8_init : MethodName := ⟨RX8, "<init>", "()V"⟩
abbrev cX8_land : ByteArray := prog_1_method_2_code
def yX8_land : MethodName := ⟨RX8, "land", "()I"⟩
abbrev cX8_town : ByteArray := prog_1_method_3_code
def yX8_town : MethodName := ⟨RX8, "town", "(I)I"⟩
abbrev cX8_road : ByteArray := prog_1_method_4_code
def yX8_road : MethodName := ⟨RX8, "road", "(III)I"⟩
abbrev cX8_clause : ByteArray := prog_1_method_5_code
def yX8_clause : MethodName := ⟨RX8, "clause", "(IIIII)I"⟩
abbrev cX8_strike : ByteArray := prog_1_method_6_code
def yX8_strike : MethodName := ⟨RX8, "strike", "(I)I"⟩
abbrev cX8_undo : ByteArray := prog_1_method_7_code
def yX8_undo : MethodName := ⟨RX8, "undo", "()I"⟩
abbrev cX8_type : ByteArray := prog_1_method_8_code
def yX8_type : MethodName := ⟨RX8, "type", "(I)I"⟩
abbrev cX8_clear : ByteArray := prog_1_method_9_code
def yX8_clear : MethodName := ⟨RX8, "clear", "()I"⟩
abbrev cX8_read : ByteArray := prog_1_method_10_code
def yX8_read : MethodName := ⟨RX8, "read", "()I"⟩
abbrev cX8_of : ByteArray := prog_1_method_11_code
def yX8_of : MethodName := ⟨RX8, "of", "(II)I"⟩
abbrev cX8_far : ByteArray := prog_1_method_12_code
def yX8_far : MethodName := ⟨RX8, "far", "(II)I"⟩
abbrev cX8_allowed : ByteArray := prog_1_method_13_code
def yX8_allowed : MethodName := ⟨RX8, "allowed", "(IIIIII)I"⟩
abbrev cX8_nearest : ByteArray := prog_1_method_14_code
def yX8_nearest : MethodName := ⟨RX8, "nearest", "(IIIIII)I"⟩
abbrev cX8_contradict : ByteArray := prog_1_method_15_code
def yX8_contradict : MethodName := ⟨RX8, "contradict", "(III)I"⟩
abbrev cX8_settle : ByteArray := prog_1_method_16_code
def yX8_settle : MethodName := ⟨RX8, "settle", "(II)I"⟩
abbrev cX8_reads : ByteArray := prog_1_method_17_code
def yX8_reads : MethodName := ⟨RX8, "reads", "(IIIII)I"⟩
abbrev cX8_patience : ByteArray := prog_1_method_18_code
def yX8_patience : MethodName := ⟨RX8, "patience", "(IIII)I"⟩
abbrev cX8_concede : ByteArray := prog_1_method_19_code
def yX8_concede : MethodName := ⟨RX8, "concede", "(IIII)I"⟩
abbrev cX8_presses : ByteArray := prog_1_method_20_code
def yX8_presses : MethodName := ⟨RX8, "presses", "(II)I"⟩
abbrev cX8_leave : ByteArray := prog_1_method_21_code
def yX8_leave : MethodName := ⟨RX8, "leave", "(IIIII)I"⟩
abbrev cX8_burn : ByteArray := prog_1_method_22_code
def yX8_burn : MethodName := ⟨RX8, "burn", "()I"⟩
abbrev cX8_forged : ByteArray := prog_1_method_23_code
def yX8_forged : MethodName := ⟨RX8, "forged", "()I"⟩
abbrev cX8_whose : ByteArray := prog_1_method_24_code
def yX8_whose : MethodName := ⟨RX8, "whose", "(IIIIII)I"⟩
abbrev cX8_odds : ByteArray := prog_1_method_25_code
def yX8_odds : MethodName := ⟨RX8, "odds", "(IIIIII)I"⟩
abbrev cX8_drawn : ByteArray := prog_1_method_26_code
def yX8_drawn : MethodName := ⟨RX8, "drawn", "(II)I"⟩
abbrev cX8_part : ByteArray := prog_1_method_27_code
def yX8_part : MethodName := ⟨RX8, "part", "(I)J"⟩
abbrev cX8_image : ByteArray := prog_1_method_28_code
def yX8_image : MethodName := ⟨RX8, "image", "(I)I"⟩
abbrev cX8_from : ByteArray := prog_1_method_29_code
def yX8_from : MethodName := ⟨RX8, "from", "(I)I"⟩
abbrev cX8_status : ByteArray := prog_1_method_30_code
def yX8_status : MethodName := ⟨RX8, "status", "(I)I"⟩
abbrev cX8_count : ByteArray := prog_1_method_31_code
def yX8_count : MethodName := ⟨RX8, "count", "(I)I"⟩
abbrev cX8_digest : ByteArray := prog_1_method_32_code
def yX8_digest : MethodName := ⟨RX8, "digest", "()J"⟩
abbrev cX8_bad : ByteArray := prog_1_method_33_code
def yX8_bad : MethodName := ⟨RX8, "bad", "(I)I"⟩
abbrev cX8_no : ByteArray := prog_1_method_34_code
def yX8_no : MethodName := ⟨RX8, "no", "()I"⟩
abbrev cX8_full : ByteArray := prog_1_method_35_code
def yX8_full : MethodName := ⟨RX8, "full", "()I"⟩
abbrev cX8_within : ByteArray := prog_1_method_36_code
def yX8_within : MethodName := ⟨RX8, "within", "(III)Z"⟩
abbrev cX8_isAsked : ByteArray := prog_1_method_37_code
def yX8_isAsked : MethodName := ⟨RX8, "isAsked", "(IIIII)Z"⟩
abbrev cX8_arePatient : ByteArray := prog_1_method_38_code
def yX8_arePatient : MethodName := ⟨RX8, "arePatient", "(III)Z"⟩
abbrev cX8_asker : ByteArray := prog_1_method_39_code
def yX8_asker : MethodName := ⟨RX8, "asker", "(II)I"⟩
abbrev cX8_firstDay : ByteArray := prog_1_method_40_code
def yX8_firstDay : MethodName := ⟨RX8, "firstDay", "(IIII)I"⟩
abbrev cX8_whoGivesIn : ByteArray := prog_1_method_41_code
def yX8_whoGivesIn : MethodName := ⟨RX8, "whoGivesIn", "(IIII)I"⟩
abbrev cX8_nextDrawn : ByteArray := prog_1_method_42_code
def yX8_nextDrawn : MethodName := ⟨RX8, "nextDrawn", "(J)J"⟩
abbrev cX8_leftOver : ByteArray := prog_1_method_43_code
def yX8_leftOver : MethodName := ⟨RX8, "leftOver", "(JI)I"⟩
abbrev cX8_commonDivisor : ByteArray := prog_1_method_44_code
def yX8_commonDivisor : MethodName := ⟨RX8, "commonDivisor", "(II)I"⟩
abbrev cX8_mixed : ByteArray := prog_1_method_45_code
def yX8_mixed : MethodName := ⟨RX8, "mixed", "(JJ)J"⟩
abbrev cX8_firstOf : ByteArray := prog_1_method_46_code
def yX8_firstOf : MethodName := ⟨RX8, "firstOf", "(I)I"⟩
abbrev cX8_lastOf : ByteArray := prog_1_method_47_code
def yX8_lastOf : MethodName := ⟨RX8, "lastOf", "(I)I"⟩
abbrev cX8_deciding : ByteArray := prog_1_method_48_code
def yX8_deciding : MethodName := ⟨RX8, "deciding", "(III)I"⟩
abbrev cX8_forbidden : ByteArray := prog_1_method_49_code
def yX8_forbidden : MethodName := ⟨RX8, "forbidden", "(III)Z"⟩
abbrev cX8_told : ByteArray := prog_1_method_50_code
def yX8_told : MethodName := ⟨RX8, "told", "(IIIII)LBanLand$Ban;"⟩
def RX9 : String := "BanLandModel"
def TX9 : u_T := fun k => match k with
  | 0 => ("BanLandModel", "now", "[I", true)
  | 1 => ("BanLandModel", "kept", "[I", true)
  | 2 => ("BanLandModel", "isKept", "[Z", true)
  | 3 => ("BanLandModel", "refused", "[I", true)
  | 4 => ("BanLandModel", "above", "J", false)
  | 5 => ("BanLandModel", "below", "J", false)
  | 6 => ("BanLandModel", "firstOf", "I", false)
  | 7 => ("BanLandModel", "lastOf", "I", false)
  | 8 => ("BanLandModel", "firstAllows", "I", false)
  | 9 => ("BanLandModel", "firstForbids", "I", false)
  | 10 => ("BanLandModel", "manyAllow", "I", false)
  | 11 => ("BanLandModel", "manyForbid", "I", false)
  | 12 => ("BanLandModel", "farOf", "[I", true)
  | 13 => ("BanLandModel", "whoGives", "I", false)
  | 14 => ("BanLandModel", "x", "J", false)
  | 15 => ("BanLandModel", "bytes", "[I", true)
  | 16 => ("BanLandModel", "bytesLong", "I", false)
  | 17 => ("BanLandModel", "tokenAt", "I", false)
  | 18 => ("BanLandModel", "tokenLong", "I", false)
  | 19 => ("BanLandModel", "token", "I", false)
  | 20 => ("BanLandModel", "value", "I", false)
  | 21 => ("BanLandModel", "next", "[I", true)
  | _ => ("BanLandModel", "values", "[I", true)
def tyX9 : Nat → FieldType := fun k => match k with
  | 0 => .array .int
  | 1 => .array .int
  | 2 => .array .boolean
  | 3 => .array .int
  | 4 => .long
  | 5 => .long
  | 6 => .int
  | 7 => .int
  | 8 => .int
  | 9 => .int
  | 10 => .int
  | 11 => .int
  | 12 => .array .int
  | 13 => .int
  | 14 => .long
  | 15 => .array .int
  | 16 => .int
  | 17 => .int
  | 18 => .int
  | 19 => .int
  | 20 => .int
  | 21 => .array .int
  | _ => .array .int
abbrev wsX90 : List Cond := u_ws RX9 TX9 23
theorem nmX9 : ∀ a, a < 23 → ∀ b, b < 23 → a ≠ b → (TX9 a).2.1 ≠ (TX9 b).2.1 := by decide +kernel
theorem tyX9_ok : ∀ k, k < 23 → parseFieldDescriptor (TX9 k).2.2.1 = some (tyX9 k) := by decide +kernel
abbrev cX9_init : ByteArray := prog_11_method_1_code
def yX9_init : MethodName := ⟨RX9, "<init>", "()V"⟩
abbrev cX9_in : ByteArray := prog_11_method_3_code
def yX9_in : MethodName := ⟨RX9, "in", "(JJJ)Z"⟩
abbrev cX9_bad : ByteArray := prog_11_method_4_code
def yX9_bad : MethodName := ⟨RX9, "bad", "(I)I"⟩
abbrev cX9_no : ByteArray := prog_11_method_5_code
def yX9_no : MethodName := ⟨RX9, "no", "()I"⟩
abbrev cX9_full : ByteArray := prog_11_method_6_code
def yX9_full : MethodName := ⟨RX9, "full", "()I"⟩
abbrev cX9_bits : ByteArray := prog_11_method_7_code
def yX9_bits : MethodName := ⟨RX9, "bits", "(I)I"⟩
abbrev cX9_begin : ByteArray := prog_11_method_8_code
def yX9_begin : MethodName := ⟨RX9, "begin", "([I)V"⟩
abbrev cX9_towns : ByteArray := prog_11_method_9_code
def yX9_towns : MethodName := ⟨RX9, "towns", "()I"⟩
abbrev cX9_clauses : ByteArray := prog_11_method_10_code
def yX9_clauses : MethodName := ⟨RX9, "clauses", "()I"⟩
abbrev cX9_isTown : ByteArray := prog_11_method_11_code
def yX9_isTown : MethodName := ⟨RX9, "isTown", "(I)Z"⟩
abbrev cX9_isClause : ByteArray := prog_11_method_12_code
def yX9_isClause : MethodName := ⟨RX9, "isClause", "(I)Z"⟩
abbrev cX9_isAct : ByteArray := prog_11_method_13_code
def yX9_isAct : MethodName := ⟨RX9, "isAct", "(I)Z"⟩
abbrev cX9_isDay : ByteArray := prog_11_method_14_code
def yX9_isDay : MethodName := ⟨RX9, "isDay", "(I)Z"⟩
abbrev cX9_isAsker : ByteArray := prog_11_method_15_code
def yX9_isAsker : MethodName := ⟨RX9, "isAsker", "(II)Z"⟩
abbrev cX9_areActs : ByteArray := prog_11_method_16_code
def yX9_areActs : MethodName := ⟨RX9, "areActs", "(I)Z"⟩
abbrev cX9_has : ByteArray := prog_11_method_17_code
def yX9_has : MethodName := ⟨RX9, "has", "(II)I"⟩
abbrev cX9_land : ByteArray := prog_11_method_18_code
def yX9_land : MethodName := ⟨RX9, "land", "()I"⟩
abbrev cX9_layTown : ByteArray := prog_11_method_19_code
def yX9_layTown : MethodName := ⟨RX9, "layTown", "([II)V"⟩
abbrev cX9_town : ByteArray := prog_11_method_20_code
def yX9_town : MethodName := ⟨RX9, "town", "(I)I"⟩
abbrev cX9_layRoad : ByteArray := prog_11_method_21_code
def yX9_layRoad : MethodName := ⟨RX9, "layRoad", "([IIII)V"⟩
abbrev cX9_road : ByteArray := prog_11_method_22_code
def yX9_road : MethodName := ⟨RX9, "road", "(III)I"⟩
abbrev cX9_layClause : ByteArray := prog_11_method_23_code
def yX9_layClause : MethodName := ⟨RX9, "layClause", "([IIIIII)V"⟩
abbrev cX9_keep : ByteArray := prog_11_method_24_code
def yX9_keep : MethodName := ⟨RX9, "keep", "()V"⟩
abbrev cX9_clause : ByteArray := prog_11_method_25_code
def yX9_clause : MethodName := ⟨RX9, "clause", "(IIIII)I"⟩
abbrev cX9_strike : ByteArray := prog_11_method_26_code
def yX9_strike : MethodName := ⟨RX9, "strike", "(I)I"⟩
abbrev cX9_undo : ByteArray := prog_11_method_27_code
def yX9_undo : MethodName := ⟨RX9, "undo", "()I"⟩
abbrev cX9_allows : ByteArray := prog_11_method_28_code
def yX9_allows : MethodName := ⟨RX9, "allows", "(I)Z"⟩
abbrev cX9_speaksDays : ByteArray := prog_11_method_29_code
def yX9_speaksDays : MethodName := ⟨RX9, "speaksDays", "(I)I"⟩
abbrev cX9_speaks : ByteArray := prog_11_method_30_code
def yX9_speaks : MethodName := ⟨RX9, "speaks", "(IIIIII)Z"⟩
abbrev cX9_of : ByteArray := prog_11_method_31_code
def yX9_of : MethodName := ⟨RX9, "of", "(II)I"⟩
abbrev cX9_hear : ByteArray := prog_11_method_32_code
def yX9_hear : MethodName := ⟨RX9, "hear", "(IIIIII)V"⟩
abbrev cX9_decides : ByteArray := prog_11_method_33_code
def yX9_decides : MethodName := ⟨RX9, "decides", "(I)I"⟩
abbrev cX9_decidesIn : ByteArray := prog_11_method_34_code
def yX9_decidesIn : MethodName := ⟨RX9, "decidesIn", "(IIIIII)I"⟩
abbrev cX9_isAllowed : ByteArray := prog_11_method_35_code
def yX9_isAllowed : MethodName := ⟨RX9, "isAllowed", "(IIIIII)Z"⟩
abbrev cX9_allowed : ByteArray := prog_11_method_36_code
def yX9_allowed : MethodName := ⟨RX9, "allowed", "(IIIIII)I"⟩
abbrev cX9_layFar : ByteArray := prog_11_method_37_code
def yX9_layFar : MethodName := ⟨RX9, "layFar", "(I)V"⟩
abbrev cX9_far : ByteArray := prog_11_method_38_code
def yX9_far : MethodName := ⟨RX9, "far", "(II)I"⟩
abbrev cX9_nearest : ByteArray := prog_11_method_39_code
def yX9_nearest : MethodName := ⟨RX9, "nearest", "(IIIIII)I"⟩
abbrev cX9_contradict : ByteArray := prog_11_method_40_code
def yX9_contradict : MethodName := ⟨RX9, "contradict", "(III)I"⟩
abbrev cX9_allAgree : ByteArray := prog_11_method_41_code
def yX9_allAgree : MethodName := ⟨RX9, "allAgree", "(III)Z"⟩
abbrev cX9_settle : ByteArray := prog_11_method_42_code
def yX9_settle : MethodName := ⟨RX9, "settle", "(II)I"⟩
abbrev cX9_reads : ByteArray := prog_11_method_43_code
def yX9_reads : MethodName := ⟨RX9, "reads", "(IIIII)I"⟩
abbrev cX9_forbidsSome : ByteArray := prog_11_method_44_code
def yX9_forbidsSome : MethodName := ⟨RX9, "forbidsSome", "(IIII)Z"⟩
abbrev cX9_givesIn : ByteArray := prog_11_method_45_code
def yX9_givesIn : MethodName := ⟨RX9, "givesIn", "(IIII)I"⟩
abbrev cX9_patience : ByteArray := prog_11_method_46_code
def yX9_patience : MethodName := ⟨RX9, "patience", "(IIII)I"⟩
abbrev cX9_orNever : ByteArray := prog_11_method_47_code
def yX9_orNever : MethodName := ⟨RX9, "orNever", "(I)I"⟩
abbrev cX9_concede : ByteArray := prog_11_method_48_code
def yX9_concede : MethodName := ⟨RX9, "concede", "(IIII)I"⟩
abbrev cX9_presses : ByteArray := prog_11_method_49_code
def yX9_presses : MethodName := ⟨RX9, "presses", "(II)I"⟩
abbrev cX9_leave : ByteArray := prog_11_method_50_code
def yX9_leave : MethodName := ⟨RX9, "leave", "(IIIII)I"⟩
abbrev cX9_burn : ByteArray := prog_11_method_51_code
def yX9_burn : MethodName := ⟨RX9, "burn", "()I"⟩
abbrev cX9_forged : ByteArray := prog_11_method_52_code
def yX9_forged : MethodName := ⟨RX9, "forged", "()I"⟩
abbrev cX9_whose : ByteArray := prog_11_method_53_code
def yX9_whose : MethodName := ⟨RX9, "whose", "(IIIIII)I"⟩
abbrev cX9_fraction : ByteArray := prog_11_method_54_code
def yX9_fraction : MethodName := ⟨RX9, "fraction", "(II)V"⟩
abbrev cX9_odds : ByteArray := prog_11_method_55_code
def yX9_odds : MethodName := ⟨RX9, "odds", "(IIIIII)I"⟩
abbrev cX9_draw : ByteArray := prog_11_method_56_code
def yX9_draw : MethodName := ⟨RX9, "draw", "(I)I"⟩
abbrev cX9_drawn : ByteArray := prog_11_method_57_code
def yX9_drawn : MethodName := ⟨RX9, "drawn", "(II)I"⟩
abbrev cX9_type : ByteArray := prog_11_method_58_code
def yX9_type : MethodName := ⟨RX9, "type", "(I)I"⟩
abbrev cX9_clear : ByteArray := prog_11_method_59_code
def yX9_clear : MethodName := ⟨RX9, "clear", "()I"⟩
abbrev cX9_isSmall : ByteArray := prog_11_method_60_code
def yX9_isSmall : MethodName := ⟨RX9, "isSmall", "(I)Z"⟩
abbrev cX9_isFigure : ByteArray := prog_11_method_61_code
def yX9_isFigure : MethodName := ⟨RX9, "isFigure", "(I)Z"⟩
abbrev cX9_lookAt : ByteArray := prog_11_method_62_code
def yX9_lookAt : MethodName := ⟨RX9, "lookAt", "(I)V"⟩
abbrev cX9_goOn : ByteArray := prog_11_method_63_code
def yX9_goOn : MethodName := ⟨RX9, "goOn", "()V"⟩
abbrev cX9_isCalled : ByteArray := prog_11_method_64_code
def yX9_isCalled : MethodName := ⟨RX9, "isCalled", "(IIIIIII)Z"⟩
abbrev cX9_takes : ByteArray := prog_11_method_65_code
def yX9_takes : MethodName := ⟨RX9, "takes", "(III)Z"⟩
abbrev cX9_readsTown : ByteArray := prog_11_method_66_code
def yX9_readsTown : MethodName := ⟨RX9, "readsTown", "()Z"⟩
abbrev cX9_readsRoad : ByteArray := prog_11_method_67_code
def yX9_readsRoad : MethodName := ⟨RX9, "readsRoad", "()Z"⟩
abbrev cX9_readsClause : ByteArray := prog_11_method_68_code
def yX9_readsClause : MethodName := ⟨RX9, "readsClause", "()Z"⟩
abbrev cX9_readsItem : ByteArray := prog_11_method_69_code
def yX9_readsItem : MethodName := ⟨RX9, "readsItem", "()Z"⟩
abbrev cX9_read : ByteArray := prog_11_method_70_code
def yX9_read : MethodName := ⟨RX9, "read", "()I"⟩
abbrev cX9_part : ByteArray := prog_11_method_71_code
def yX9_part : MethodName := ⟨RX9, "part", "(I)J"⟩
abbrev cX9_image : ByteArray := prog_11_method_72_code
def yX9_image : MethodName := ⟨RX9, "image", "(I)I"⟩
abbrev cX9_from : ByteArray := prog_11_method_73_code
def yX9_from : MethodName := ⟨RX9, "from", "(I)I"⟩
abbrev cX9_status : ByteArray := prog_11_method_74_code
def yX9_status : MethodName := ⟨RX9, "status", "(I)I"⟩
abbrev cX9_roads : ByteArray := prog_11_method_75_code
def yX9_roads : MethodName := ⟨RX9, "roads", "()I"⟩
abbrev cX9_counted : ByteArray := prog_11_method_76_code
def yX9_counted : MethodName := ⟨RX9, "counted", "(I)I"⟩
abbrev cX9_count : ByteArray := prog_11_method_77_code
def yX9_count : MethodName := ⟨RX9, "count", "(I)I"⟩
abbrev cX9_sums : ByteArray := prog_11_method_78_code
def yX9_sums : MethodName := ⟨RX9, "sums", "(JII)J"⟩
abbrev cX9_digest : ByteArray := prog_11_method_79_code
def yX9_digest : MethodName := ⟨RX9, "digest", "()J"⟩
def RJ6 : String := "java/lang/Integer"
abbrev cJ6_bitCount_0f7a4 : ByteArray := prog_12_method_49_code
def yJ6_bitCount_0f7a4 : MethodName := ⟨RJ6, "bitCount", "(I)I"⟩
def RJ0 : String := "java/lang/String"
abbrev cJ0_length_8abf5 : ByteArray := prog_13_method_54_code
def yJ0_length_8abf5 : MethodName := ⟨RJ0, "length", "()I"⟩
abbrev cJ0_charAt_5068e : ByteArray := prog_13_method_56_code
def yJ0_charAt_5068e : MethodName := ⟨RJ0, "charAt", "(I)C"⟩
abbrev cJ0_coder_7d493 : ByteArray := prog_13_method_152_code
def yJ0_coder_7d493 : MethodName := ⟨RJ0, "coder", "()B"⟩
abbrev cJ0_isLatin1_aae02 : ByteArray := prog_13_method_154_code
def yJ0_isLatin1_aae02 : MethodName := ⟨RJ0, "isLatin1", "()Z"⟩
abbrev cJ0_checkIndex_df160 : ByteArray := prog_13_method_155_code
def yJ0_checkIndex_df160 : MethodName := ⟨RJ0, "checkIndex", "(II)V"⟩
def RJ1 : String := "java/lang/StringLatin1"
abbrev cJ1_charAt_3b067 : ByteArray := prog_14_method_2_code
def yJ1_charAt_3b067 : MethodName := ⟨RJ1, "charAt", "([BI)C"⟩
def RJ2 : String := "java/lang/StringUTF16"
abbrev cJ2_getChar_3b067 : ByteArray := prog_15_method_5_code
def yJ2_getChar_3b067 : MethodName := ⟨RJ2, "getChar", "([BI)C"⟩
abbrev cJ2_length_9d52b : ByteArray := prog_15_method_6_code
def yJ2_length_9d52b : MethodName := ⟨RJ2, "length", "([B)I"⟩
abbrev cJ2_charAt_3b067 : ByteArray := prog_15_method_83_code
def yJ2_charAt_3b067 : MethodName := ⟨RJ2, "charAt", "([BI)C"⟩
abbrev cJ2_checkIndex_2214a : ByteArray := prog_15_method_91_code
def yJ2_checkIndex_2214a : MethodName := ⟨RJ2, "checkIndex", "(I[B)V"⟩
def RJ10 : String := "java/lang/System"
def RJ3 : String := "jdk/internal/util/Preconditions"
abbrev cJ3_checkIndex_8e157 : ByteArray := prog_17_method_11_code
def yJ3_checkIndex_8e157 : MethodName := ⟨RJ3, "checkIndex", "(IILjava/util/function/BiFunction;)I"⟩
def RL : String := "BanLandLaw"
abbrev cL_law : ByteArray := code
def yL_law : MethodName := ⟨RL, "law", "([I)Z"⟩
abbrev vwCl : List vw_C := [(RX0, TX0, 5), (RX1, TX1, 5), (RX2, TX2, 5), (RX3, TX3, 5), (RX4, TX4, 12), (RX5, TX5, 5), (RX6, TX6, 7), (RX7, TX7, 5), (RX8, TX8, 10), (RX9, TX9, 23)]
end
section
/-- all words of the tables that a method may hand on -/
def TBL : List Cond := lw_tbl.filter goodWord
theorem TBL_of {w : Cond} (h : w ∈ lw_tbl) (g : goodWord w = true) : w ∈ TBL := List.mem_filter.mpr ⟨h, g⟩
theorem TBL_good : GoodIn TBL TBL := fun _ h => ⟨h, good_of_word (List.mem_filter.mp h).2⟩
theorem TBL_lw {w : Cond} (h : w ∈ TBL) : w ∈ lw_tbl := (List.mem_filter.mp h).1
theorem tl1 (i : Nat) {w : Cond} (h : tables_1_1[i]? = some w) : w ∈ lw_tbl := List.mem_append_right _ (List.mem_append_left _ (List.mem_of_getElem? h))
theorem tl2 (i : Nat) {w : Cond} (h : tables_1_2[i]? = some w) : w ∈ lw_tbl := List.mem_append_right _ (List.mem_append_right _ (List.mem_append_left _ (List.mem_of_getElem? h)))
theorem tl3 (i : Nat) {w : Cond} (h : tables_1_3[i]? = some w) : w ∈ lw_tbl := List.mem_append_right _ (List.mem_append_right _ (List.mem_append_right _ (List.mem_append_left _ (List.mem_of_getElem? h))))
theorem tl4 (i : Nat) {w : Cond} (h : tables_1_4[i]? = some w) : w ∈ lw_tbl := List.mem_append_right _ (List.mem_append_right _ (List.mem_append_right _ (List.mem_append_right _ (List.mem_append_left _ (List.mem_of_getElem? h)))))
theorem tl5 (i : Nat) {w : Cond} (h : tables_1_5[i]? = some w) : w ∈ lw_tbl := List.mem_append_right _ (List.mem_append_right _ (List.mem_append_right _ (List.mem_append_right _ (List.mem_append_right _ (List.mem_of_getElem? h)))))
theorem tb1 (i : Nat) {w : Cond} (h : tables_1_1[i]? = some w) (g : goodWord w = true) : w ∈ TBL := TBL_of (tl1 i h) g
theorem tb2 (i : Nat) {w : Cond} (h : tables_1_2[i]? = some w) (g : goodWord w = true) : w ∈ TBL := TBL_of (tl2 i h) g
theorem tb3 (i : Nat) {w : Cond} (h : tables_1_3[i]? = some w) (g : goodWord w = true) : w ∈ TBL := TBL_of (tl3 i h) g
theorem tb4 (i : Nat) {w : Cond} (h : tables_1_4[i]? = some w) (g : goodWord w = true) : w ∈ TBL := TBL_of (tl4 i h) g
theorem tb5 (i : Nat) {w : Cond} (h : tables_1_5[i]? = some w) (g : goodWord w = true) : w ∈ TBL := TBL_of (tl5 i h) g
theorem tbp (i : Nat) {w : Cond} (h : (k2_sels lw_privs)[i]? = some w) (g : goodWord w = true) : w ∈ TBL := TBL_of (List.mem_append_left _ (List.mem_of_getElem? h)) g
theorem q1_0 : Cond.initialized RL ∈ TBL := tb1 0 (by decide +kernel) rfl
theorem q1_1 : Cond.initialized RX8 ∈ TBL := tb1 1 (by decide +kernel) rfl
theorem q1_2 : Cond.initialized RX4 ∈ TBL := tb1 2 (by decide +kernel) rfl
theorem q1_3 : Cond.initialized RX9 ∈ TBL := tb1 3 (by decide +kernel) rfl
theorem q1_4 : Cond.initialized RJ10 ∈ TBL := tb1 4 (by decide +kernel) rfl
theorem q1_5 : Cond.initialized RX0 ∈ TBL := tb1 5 (by decide +kernel) rfl
theorem q1_6 : Cond.initialized RX2 ∈ TBL := tb1 6 (by decide +kernel) rfl
theorem q1_7 : Cond.initialized RX5 ∈ TBL := tb1 7 (by decide +kernel) rfl
theorem q1_8 : Cond.initialized RX3 ∈ TBL := tb1 8 (by decide +kernel) rfl
theorem q1_9 : Cond.initialized RX1 ∈ TBL := tb1 9 (by decide +kernel) rfl
theorem q1_10 : Cond.initialized RX7 ∈ TBL := tb1 10 (by decide +kernel) rfl
theorem q1_11 : Cond.initialized RX6 ∈ TBL := tb1 11 (by decide +kernel) rfl
theorem q1_12 : Cond.initialized RJ0 ∈ TBL := tb1 12 (by decide +kernel) rfl
theorem q1_13 : Cond.initialized RJ1 ∈ TBL := tb1 13 (by decide +kernel) rfl
theorem q1_14 : Cond.initialized RJ3 ∈ TBL := tb1 14 (by decide +kernel) rfl
theorem q1_15 : Cond.initialized RJ2 ∈ TBL := tb1 15 (by decide +kernel) rfl
theorem q1_16 : Cond.initialized RJ6 ∈ TBL := tb1 16 (by decide +kernel) rfl
theorem q1_17 : Cond.classLink RL 7 RX8 ∈ TBL := tb1 17 (by decide +kernel) rfl
theorem q1_18 : Cond.instantiable RX8 10 ∈ TBL := tb1 18 (by decide +kernel) rfl
theorem q1_19 : Cond.methodLink RL 9 yX8_init ∈ TBL := tb1 19 (by decide +kernel) rfl
theorem q1_20 : Cond.instanceMethod yX8_init ∈ TBL := tb1 20 (by decide +kernel) rfl
theorem q1_21 : Cond.code yX8_init cX8_init 1 none ∈ TBL := tb1 21 (by decide +kernel) rfl
theorem q1_22 : Cond.methodLink RX8 1 objectInit ∈ TBL := tb1 22 (by decide +kernel) rfl
theorem q1_23 : Cond.instanceMethod objectInit ∈ TBL := tb1 23 (by decide +kernel) rfl
theorem q1_24 : Cond.code objectInit object_method_1_code 1 none ∈ TBL := tb1 24 (by decide +kernel) rfl
theorem q1_25 : Cond.classLink RX8 7 RX4 ∈ TBL := tb1 25 (by decide +kernel) rfl
theorem q1_26 : Cond.instantiable RX4 12 ∈ TBL := tb1 26 (by decide +kernel) rfl
theorem q1_27 : Cond.methodLinkNest RX8 9 yX4_init RX8 ∈ lw_tbl := tl1 27 (by decide +kernel)
theorem q1_28 : Cond.instanceMethod yX4_init ∈ TBL := tb1 28 (by decide +kernel) rfl
theorem q1_29 : Cond.code yX4_init cX4_init 1 none ∈ TBL := tb1 29 (by decide +kernel) rfl
theorem q1_30 : Cond.methodLink RX4 3 objectInit ∈ TBL := tb1 30 (by decide +kernel) rfl
theorem q1_31 : Cond.classLink RX4 18 RX0 ∈ TBL := tb1 31 (by decide +kernel) rfl
theorem q1_32 : Cond.arrayOver (.object "BanLand$Ban") ∈ lw_tbl := tl1 32 (by decide +kernel)
theorem q1_33 : Cond.fieldLink RX4 39 "BanLand$Land" "towns" "I" ∈ TBL := tb1 33 (by decide +kernel) rfl
theorem q1_34 : Cond.fieldLink RX8 46 "BanLand$Land" "towns" "I" ∈ TBL := tb1 34 (by decide +kernel) rfl
theorem q1_35 : Cond.fieldLink RX6 66 "BanLand$Land" "towns" "I" ∈ TBL := tb1 35 (by decide +kernel) rfl
theorem q1_36 : Cond.fieldLink RX4 43 "BanLand$Land" "clauses" "I" ∈ TBL := tb1 36 (by decide +kernel) rfl
theorem q1_37 : Cond.fieldLink RX8 80 "BanLand$Land" "clauses" "I" ∈ TBL := tb1 37 (by decide +kernel) rfl
theorem q1_38 : Cond.fieldLink RX6 83 "BanLand$Land" "clauses" "I" ∈ TBL := tb1 38 (by decide +kernel) rfl
theorem q1_39 : Cond.fieldLink RX4 46 "BanLand$Land" "undoable" "I" ∈ TBL := tb1 39 (by decide +kernel) rfl
theorem q1_40 : Cond.fieldLink RX8 97 "BanLand$Land" "undoable" "I" ∈ TBL := tb1 40 (by decide +kernel) rfl
theorem q1_41 : Cond.fieldLink RX4 49 "BanLand$Land" "leaves" "I" ∈ TBL := tb1 41 (by decide +kernel) rfl
theorem q1_42 : Cond.fieldLink RX8 203 "BanLand$Land" "leaves" "I" ∈ TBL := tb1 42 (by decide +kernel) rfl
theorem q1_43 : Cond.fieldLink RX4 9 "BanLand$Land" "readings" "[I" ∈ TBL := tb1 43 (by decide +kernel) rfl
theorem q1_44 : Cond.fieldLink RX4 15 "BanLand$Land" "roads" "[I" ∈ TBL := tb1 44 (by decide +kernel) rfl
theorem q1_45 : Cond.fieldLink RX4 20 "BanLand$Land" "law" "[LBanLand$Ban;" ∈ TBL := tb1 45 (by decide +kernel) rfl
theorem q1_46 : Cond.fieldLink RX4 24 "BanLand$Land" "pastLaw" "[LBanLand$Ban;" ∈ TBL := tb1 46 (by decide +kernel) rfl
theorem q1_47 : Cond.fieldLink RX4 27 "BanLand$Land" "pastClauses" "[I" ∈ TBL := tb1 47 (by decide +kernel) rfl
theorem q1_48 : Cond.fieldLink RX4 30 "BanLand$Land" "given" "[I" ∈ TBL := tb1 48 (by decide +kernel) rfl
theorem q1_49 : Cond.fieldLink RX4 33 "BanLand$Land" "away" "[I" ∈ TBL := tb1 49 (by decide +kernel) rfl
theorem q1_50 : Cond.fieldLink RX8 148 "BanLand$Land" "away" "[I" ∈ TBL := tb1 50 (by decide +kernel) rfl
theorem q1_51 : Cond.fieldLink RX4 36 "BanLand$Land" "noted" "[I" ∈ TBL := tb1 51 (by decide +kernel) rfl
theorem q1_52 : Cond.lays RX4 "BanLand$Land" "towns" "I" ∈ TBL := tb1 52 (by decide +kernel) rfl
theorem q1_54 : Cond.lays RX4 "BanLand$Land" "clauses" "I" ∈ TBL := tb1 54 (by decide +kernel) rfl
theorem q1_56 : Cond.lays RX4 "BanLand$Land" "undoable" "I" ∈ TBL := tb1 56 (by decide +kernel) rfl
theorem q1_58 : Cond.lays RX4 "BanLand$Land" "leaves" "I" ∈ TBL := tb1 58 (by decide +kernel) rfl
theorem q1_60 : Cond.laysFinal RX4 "BanLand$Land" "readings" "[I" ∈ TBL := tb1 60 (by decide +kernel) rfl
theorem q1_62 : Cond.laysFinal RX4 "BanLand$Land" "roads" "[I" ∈ TBL := tb1 62 (by decide +kernel) rfl
theorem q1_64 : Cond.laysFinal RX4 "BanLand$Land" "law" "[LBanLand$Ban;" ∈ TBL := tb1 64 (by decide +kernel) rfl
theorem q1_66 : Cond.laysFinal RX4 "BanLand$Land" "pastLaw" "[LBanLand$Ban;" ∈ TBL := tb1 66 (by decide +kernel) rfl
theorem q1_68 : Cond.laysFinal RX4 "BanLand$Land" "pastClauses" "[I" ∈ TBL := tb1 68 (by decide +kernel) rfl
theorem q1_70 : Cond.laysFinal RX4 "BanLand$Land" "given" "[I" ∈ TBL := tb1 70 (by decide +kernel) rfl
theorem q1_72 : Cond.laysFinal RX4 "BanLand$Land" "away" "[I" ∈ TBL := tb1 72 (by decide +kernel) rfl
theorem q1_74 : Cond.laysFinal RX4 "BanLand$Land" "noted" "[I" ∈ TBL := tb1 74 (by decide +kernel) rfl
theorem q1_77 : Cond.arrayClass .int ∈ TBL := tb1 77 (by decide +kernel) rfl
theorem q1_78 : Cond.arrayOver (.object "BanLand$Land") ∈ lw_tbl := tl1 78 (by decide +kernel)
theorem q1_79 : Cond.fieldLink RX8 10 "BanLand" "land" "LBanLand$Land;" ∈ TBL := tb1 79 (by decide +kernel) rfl
theorem q1_80 : Cond.fieldLink RX8 16 "BanLand" "draft" "LBanLand$Land;" ∈ TBL := tb1 80 (by decide +kernel) rfl
theorem q1_81 : Cond.fieldLink RX8 19 "BanLand" "images" "[LBanLand$Land;" ∈ TBL := tb1 81 (by decide +kernel) rfl
theorem q1_82 : Cond.fieldLink RX8 23 "BanLand" "text" "[B" ∈ TBL := tb1 82 (by decide +kernel) rfl
theorem q1_83 : Cond.fieldLink RX8 27 "BanLand" "length" "I" ∈ TBL := tb1 83 (by decide +kernel) rfl
theorem q1_84 : Cond.fieldLink RX8 31 "BanLand" "above" "I" ∈ TBL := tb1 84 (by decide +kernel) rfl
theorem q1_85 : Cond.fieldLink RX8 34 "BanLand" "below" "I" ∈ TBL := tb1 85 (by decide +kernel) rfl
theorem q1_86 : Cond.fieldLink RX8 37 "BanLand" "bads" "I" ∈ TBL := tb1 86 (by decide +kernel) rfl
theorem q1_87 : Cond.fieldLink RX8 40 "BanLand" "nos" "I" ∈ TBL := tb1 87 (by decide +kernel) rfl
theorem q1_88 : Cond.fieldLink RX8 43 "BanLand" "fulls" "I" ∈ TBL := tb1 88 (by decide +kernel) rfl
theorem q1_89 : Cond.lays RX8 "BanLand" "land" "LBanLand$Land;" ∈ TBL := tb1 89 (by decide +kernel) rfl
theorem q1_91 : Cond.lays RX8 "BanLand" "draft" "LBanLand$Land;" ∈ TBL := tb1 91 (by decide +kernel) rfl
theorem q1_93 : Cond.laysFinal RX8 "BanLand" "images" "[LBanLand$Land;" ∈ TBL := tb1 93 (by decide +kernel) rfl
theorem q1_95 : Cond.laysFinal RX8 "BanLand" "text" "[B" ∈ TBL := tb1 95 (by decide +kernel) rfl
theorem q1_97 : Cond.lays RX8 "BanLand" "length" "I" ∈ TBL := tb1 97 (by decide +kernel) rfl
theorem q1_99 : Cond.lays RX8 "BanLand" "above" "I" ∈ TBL := tb1 99 (by decide +kernel) rfl
theorem q1_101 : Cond.lays RX8 "BanLand" "below" "I" ∈ TBL := tb1 101 (by decide +kernel) rfl
theorem q1_103 : Cond.lays RX8 "BanLand" "bads" "I" ∈ TBL := tb1 103 (by decide +kernel) rfl
theorem q1_105 : Cond.lays RX8 "BanLand" "nos" "I" ∈ TBL := tb1 105 (by decide +kernel) rfl
theorem q1_107 : Cond.lays RX8 "BanLand" "fulls" "I" ∈ TBL := tb1 107 (by decide +kernel) rfl
theorem q1_110 : Cond.arrayClass .byte ∈ TBL := tb1 110 (by decide +kernel) rfl
theorem q1_111 : Cond.methodLink RL 13 yX8_land ∈ TBL := tb1 111 (by decide +kernel) rfl
theorem q1_112 : Cond.instanceMethod yX8_land ∈ TBL := tb1 112 (by decide +kernel) rfl
theorem q1_113 : Cond.selects RX8 yX8_land yX8_land ∈ TBL := tb1 113 (by decide +kernel) rfl
theorem q1_114 : Cond.code yX8_land cX8_land 2 (some .int) ∈ TBL := tb1 114 (by decide +kernel) rfl
theorem q1_115 : Cond.methodLink RX8 49 yX4_empty ∈ TBL := tb1 115 (by decide +kernel) rfl
theorem q1_116 : Cond.instanceMethod yX4_empty ∈ TBL := tb1 116 (by decide +kernel) rfl
theorem q1_117 : Cond.selects RX4 yX4_empty yX4_empty ∈ TBL := tb1 117 (by decide +kernel) rfl
theorem q1_118 : Cond.code yX4_empty cX4_empty 2 none ∈ TBL := tb1 118 (by decide +kernel) rfl
theorem q1_119 : Cond.methodLink RL 18 yX8_town ∈ TBL := tb1 119 (by decide +kernel) rfl
theorem q1_120 : Cond.instanceMethod yX8_town ∈ TBL := tb1 120 (by decide +kernel) rfl
theorem q1_121 : Cond.selects RX8 yX8_town yX8_town ∈ TBL := tb1 121 (by decide +kernel) rfl
theorem q1_122 : Cond.code yX8_town cX8_town 2 (some .int) ∈ TBL := tb1 122 (by decide +kernel) rfl
theorem q1_123 : Cond.methodLink RX8 52 yX8_within ∈ TBL := tb1 123 (by decide +kernel) rfl
theorem q1_124 : Cond.static yX8_within ∈ TBL := tb1 124 (by decide +kernel) rfl
theorem q1_125 : Cond.code yX8_within cX8_within 3 (some .boolean) ∈ TBL := tb1 125 (by decide +kernel) rfl
theorem q1_126 : Cond.methodLink RX8 56 yX8_bad ∈ TBL := tb1 126 (by decide +kernel) rfl
theorem q1_128 : Cond.instanceMethod yX8_bad ∈ TBL := tb1 128 (by decide +kernel) rfl
theorem q1_129 : Cond.code yX8_bad cX8_bad 2 (some .int) ∈ TBL := tb1 129 (by decide +kernel) rfl
theorem q1_130 : Cond.methodLink RX8 60 yX8_full ∈ TBL := tb1 130 (by decide +kernel) rfl
theorem q1_132 : Cond.instanceMethod yX8_full ∈ TBL := tb1 132 (by decide +kernel) rfl
theorem q1_133 : Cond.code yX8_full cX8_full 1 (some .int) ∈ TBL := tb1 133 (by decide +kernel) rfl
theorem q1_134 : Cond.methodLink RX8 64 yX4_addTown ∈ TBL := tb1 134 (by decide +kernel) rfl
theorem q1_135 : Cond.instanceMethod yX4_addTown ∈ TBL := tb1 135 (by decide +kernel) rfl
theorem q1_136 : Cond.selects RX4 yX4_addTown yX4_addTown ∈ TBL := tb1 136 (by decide +kernel) rfl
theorem q1_137 : Cond.code yX4_addTown cX4_addTown 2 none ∈ TBL := tb1 137 (by decide +kernel) rfl
theorem q1_138 : Cond.methodLink RL 23 yX8_road ∈ TBL := tb1 138 (by decide +kernel) rfl
theorem q1_139 : Cond.instanceMethod yX8_road ∈ TBL := tb1 139 (by decide +kernel) rfl
theorem q1_140 : Cond.selects RX8 yX8_road yX8_road ∈ TBL := tb1 140 (by decide +kernel) rfl
theorem q1_141 : Cond.code yX8_road cX8_road 5 (some .int) ∈ TBL := tb1 141 (by decide +kernel) rfl
theorem q1_142 : Cond.methodLink RX8 68 yX4_hasTown ∈ TBL := tb1 142 (by decide +kernel) rfl
theorem q1_143 : Cond.instanceMethod yX4_hasTown ∈ TBL := tb1 143 (by decide +kernel) rfl
theorem q1_144 : Cond.selects RX4 yX4_hasTown yX4_hasTown ∈ TBL := tb1 144 (by decide +kernel) rfl
theorem q1_145 : Cond.code yX4_hasTown cX4_hasTown 2 (some .boolean) ∈ TBL := tb1 145 (by decide +kernel) rfl
theorem q1_146 : Cond.methodLink RX8 72 yX4_roadDays ∈ TBL := tb1 146 (by decide +kernel) rfl
theorem q1_147 : Cond.instanceMethod yX4_roadDays ∈ TBL := tb1 147 (by decide +kernel) rfl
theorem q1_148 : Cond.selects RX4 yX4_roadDays yX4_roadDays ∈ TBL := tb1 148 (by decide +kernel) rfl
theorem q1_149 : Cond.code yX4_roadDays cX4_roadDays 3 (some .int) ∈ TBL := tb1 149 (by decide +kernel) rfl
theorem q1_150 : Cond.methodLink RX8 76 yX4_setRoad ∈ TBL := tb1 150 (by decide +kernel) rfl
theorem q1_151 : Cond.instanceMethod yX4_setRoad ∈ TBL := tb1 151 (by decide +kernel) rfl
theorem q1_152 : Cond.selects RX4 yX4_setRoad yX4_setRoad ∈ TBL := tb1 152 (by decide +kernel) rfl
theorem q1_153 : Cond.code yX4_setRoad cX4_setRoad 4 none ∈ TBL := tb1 153 (by decide +kernel) rfl
theorem q1_154 : Cond.methodLink RL 28 yX8_clause ∈ TBL := tb1 154 (by decide +kernel) rfl
theorem q1_155 : Cond.instanceMethod yX8_clause ∈ TBL := tb1 155 (by decide +kernel) rfl
theorem q1_156 : Cond.selects RX8 yX8_clause yX8_clause ∈ TBL := tb1 156 (by decide +kernel) rfl
theorem q1_157 : Cond.code yX8_clause cX8_clause 6 (some .int) ∈ TBL := tb1 157 (by decide +kernel) rfl
theorem q1_158 : Cond.methodLink RX8 83 yX4_remember ∈ TBL := tb1 158 (by decide +kernel) rfl
theorem q1_159 : Cond.instanceMethod yX4_remember ∈ TBL := tb1 159 (by decide +kernel) rfl
theorem q1_160 : Cond.selects RX4 yX4_remember yX4_remember ∈ TBL := tb1 160 (by decide +kernel) rfl
theorem q1_161 : Cond.code yX4_remember cX4_remember 1 none ∈ TBL := tb1 161 (by decide +kernel) rfl
theorem q1_162 : Cond.methodLink RX4 58 yX4_moveClauses ∈ TBL := tb1 162 (by decide +kernel) rfl
theorem q1_163 : Cond.static yX4_moveClauses ∈ TBL := tb1 163 (by decide +kernel) rfl
theorem q1_164 : Cond.code yX4_moveClauses cX4_moveClauses 6 none ∈ TBL := tb1 164 (by decide +kernel) rfl
theorem q1_165 : Cond.methodLink RX4 52 ⟨"java/lang/System", "arraycopy", "(Ljava/lang/Object;ILjava/lang/Object;II)V"⟩ ∈ TBL := tb1 165 (by decide +kernel) rfl
theorem q1_166 : Cond.static ⟨"java/lang/System", "arraycopy", "(Ljava/lang/Object;ILjava/lang/Object;II)V"⟩ ∈ TBL := tb1 166 (by decide +kernel) rfl
theorem q1_167 : Cond.native ⟨"java/lang/System", "arraycopy", "(Ljava/lang/Object;ILjava/lang/Object;II)V"⟩ ∈ TBL := tb1 167 (by decide +kernel) rfl
theorem q1_168 : Cond.methodLink RX8 86 yX8_told ∈ TBL := tb1 168 (by decide +kernel) rfl
theorem q1_169 : Cond.static yX8_told ∈ TBL := tb1 169 (by decide +kernel) rfl
theorem q1_170 : Cond.code yX8_told cX8_told 5 (some (.object "BanLand$Ban")) ∈ TBL := tb1 170 (by decide +kernel) rfl
theorem q1_171 : Cond.classLink RX8 264 RX2 ∈ TBL := tb1 171 (by decide +kernel) rfl
theorem q1_172 : Cond.instantiable RX2 5 ∈ TBL := tb1 172 (by decide +kernel) rfl
theorem q1_173 : Cond.methodLink RX8 266 yX2_init ∈ TBL := tb1 173 (by decide +kernel) rfl
theorem q1_174 : Cond.instanceMethod yX2_init ∈ TBL := tb1 174 (by decide +kernel) rfl
theorem q1_175 : Cond.code yX2_init cX2_init 6 none ∈ TBL := tb1 175 (by decide +kernel) rfl
theorem q1_176 : Cond.methodLink RX2 1 yX0_init ∈ TBL := tb1 176 (by decide +kernel) rfl
theorem q1_177 : Cond.instanceMethod yX0_init ∈ TBL := tb1 177 (by decide +kernel) rfl
theorem q1_178 : Cond.code yX0_init cX0_init 6 none ∈ TBL := tb1 178 (by decide +kernel) rfl
theorem q1_179 : Cond.methodLink RX0 1 objectInit ∈ TBL := tb1 179 (by decide +kernel) rfl
theorem q1_180 : Cond.fieldLink RX0 7 "BanLand$Ban" "kind" "I" ∈ TBL := tb1 180 (by decide +kernel) rfl
theorem q1_181 : Cond.fieldLink RX8 121 "BanLand$Ban" "kind" "I" ∈ TBL := tb1 181 (by decide +kernel) rfl
theorem q1_182 : Cond.fieldLink RX4 127 "BanLand$Ban" "kind" "I" ∈ TBL := tb1 182 (by decide +kernel) rfl
theorem q1_183 : Cond.fieldLink RX0 13 "BanLand$Ban" "act" "I" ∈ TBL := tb1 183 (by decide +kernel) rfl
theorem q1_184 : Cond.fieldLink RX8 126 "BanLand$Ban" "act" "I" ∈ TBL := tb1 184 (by decide +kernel) rfl
theorem q1_185 : Cond.fieldLink RX4 77 "BanLand$Ban" "act" "I" ∈ TBL := tb1 185 (by decide +kernel) rfl
theorem q1_186 : Cond.fieldLink RX0 16 "BanLand$Ban" "from" "I" ∈ TBL := tb1 186 (by decide +kernel) rfl
theorem q1_187 : Cond.fieldLink RX5 7 "BanLand$Lapsed" "from" "I" ∈ TBL := tb1 187 (by decide +kernel) rfl
theorem q1_188 : Cond.sameField "BanLand$Lapsed" "BanLand$Ban" "from" "I" ∈ TBL := tb1 188 (by decide +kernel) rfl
theorem q1_189 : Cond.fieldLink RX8 129 "BanLand$Ban" "from" "I" ∈ TBL := tb1 189 (by decide +kernel) rfl
theorem q1_190 : Cond.fieldLink RX4 80 "BanLand$Ban" "from" "I" ∈ TBL := tb1 190 (by decide +kernel) rfl
theorem q1_191 : Cond.fieldLink RX0 19 "BanLand$Ban" "till" "I" ∈ TBL := tb1 191 (by decide +kernel) rfl
theorem q1_192 : Cond.fieldLink RX5 13 "BanLand$Lapsed" "till" "I" ∈ TBL := tb1 192 (by decide +kernel) rfl
theorem q1_193 : Cond.sameField "BanLand$Lapsed" "BanLand$Ban" "till" "I" ∈ TBL := tb1 193 (by decide +kernel) rfl
theorem q1_194 : Cond.fieldLink RX8 132 "BanLand$Ban" "till" "I" ∈ TBL := tb1 194 (by decide +kernel) rfl
theorem q1_195 : Cond.fieldLink RX4 130 "BanLand$Ban" "till" "I" ∈ TBL := tb1 195 (by decide +kernel) rfl
theorem q1_196 : Cond.fieldLink RX0 22 "BanLand$Ban" "town" "I" ∈ TBL := tb1 196 (by decide +kernel) rfl
theorem q1_197 : Cond.fieldLink RX3 7 "BanLand$House" "town" "I" ∈ TBL := tb1 197 (by decide +kernel) rfl
theorem q1_198 : Cond.sameField "BanLand$House" "BanLand$Ban" "town" "I" ∈ TBL := tb1 198 (by decide +kernel) rfl
theorem q1_199 : Cond.fieldLink RX8 135 "BanLand$Ban" "town" "I" ∈ TBL := tb1 199 (by decide +kernel) rfl
theorem q1_200 : Cond.fieldLink RX4 133 "BanLand$Ban" "town" "I" ∈ TBL := tb1 200 (by decide +kernel) rfl
theorem q1_201 : Cond.laysFinal RX2 "BanLand$Ban" "kind" "I" ∈ TBL := tb1 201 (by decide +kernel) rfl
theorem q1_203 : Cond.laysFinal RX2 "BanLand$Ban" "act" "I" ∈ TBL := tb1 203 (by decide +kernel) rfl
theorem q1_205 : Cond.laysFinal RX2 "BanLand$Ban" "from" "I" ∈ TBL := tb1 205 (by decide +kernel) rfl
theorem q1_207 : Cond.laysFinal RX2 "BanLand$Ban" "till" "I" ∈ TBL := tb1 207 (by decide +kernel) rfl
theorem q1_209 : Cond.laysFinal RX2 "BanLand$Ban" "town" "I" ∈ TBL := tb1 209 (by decide +kernel) rfl
theorem q1_212 : Cond.classLink RX8 268 RX5 ∈ TBL := tb1 212 (by decide +kernel) rfl
theorem q1_213 : Cond.instantiable RX5 5 ∈ TBL := tb1 213 (by decide +kernel) rfl
theorem q1_214 : Cond.methodLink RX8 270 yX5_init ∈ TBL := tb1 214 (by decide +kernel) rfl
theorem q1_215 : Cond.instanceMethod yX5_init ∈ TBL := tb1 215 (by decide +kernel) rfl
theorem q1_216 : Cond.code yX5_init cX5_init 6 none ∈ TBL := tb1 216 (by decide +kernel) rfl
theorem q1_217 : Cond.methodLink RX5 1 yX0_init ∈ TBL := tb1 217 (by decide +kernel) rfl
theorem q1_218 : Cond.laysFinal RX5 "BanLand$Ban" "kind" "I" ∈ TBL := tb1 218 (by decide +kernel) rfl
theorem q1_219 : Cond.laysFinal RX5 "BanLand$Ban" "act" "I" ∈ TBL := tb1 219 (by decide +kernel) rfl
theorem q1_220 : Cond.laysFinal RX5 "BanLand$Ban" "from" "I" ∈ TBL := tb1 220 (by decide +kernel) rfl
theorem q1_221 : Cond.laysFinal RX5 "BanLand$Ban" "till" "I" ∈ TBL := tb1 221 (by decide +kernel) rfl
theorem q1_222 : Cond.laysFinal RX5 "BanLand$Ban" "town" "I" ∈ TBL := tb1 222 (by decide +kernel) rfl
theorem q1_224 : Cond.classLink RX8 271 RX3 ∈ TBL := tb1 224 (by decide +kernel) rfl
theorem q1_225 : Cond.instantiable RX3 5 ∈ TBL := tb1 225 (by decide +kernel) rfl
theorem q1_226 : Cond.methodLink RX8 273 yX3_init ∈ TBL := tb1 226 (by decide +kernel) rfl
theorem q1_227 : Cond.instanceMethod yX3_init ∈ TBL := tb1 227 (by decide +kernel) rfl
theorem q1_228 : Cond.code yX3_init cX3_init 6 none ∈ TBL := tb1 228 (by decide +kernel) rfl
theorem q1_229 : Cond.methodLink RX3 1 yX2_init ∈ TBL := tb1 229 (by decide +kernel) rfl
theorem q1_230 : Cond.laysFinal RX3 "BanLand$Ban" "kind" "I" ∈ TBL := tb1 230 (by decide +kernel) rfl
theorem q1_231 : Cond.laysFinal RX3 "BanLand$Ban" "act" "I" ∈ TBL := tb1 231 (by decide +kernel) rfl
theorem q1_232 : Cond.laysFinal RX3 "BanLand$Ban" "from" "I" ∈ TBL := tb1 232 (by decide +kernel) rfl
theorem q1_233 : Cond.laysFinal RX3 "BanLand$Ban" "till" "I" ∈ TBL := tb1 233 (by decide +kernel) rfl
theorem q1_234 : Cond.laysFinal RX3 "BanLand$Ban" "town" "I" ∈ TBL := tb1 234 (by decide +kernel) rfl
theorem q1_236 : Cond.classLink RX8 274 RX1 ∈ TBL := tb1 236 (by decide +kernel) rfl
theorem q1_237 : Cond.instantiable RX1 5 ∈ TBL := tb1 237 (by decide +kernel) rfl
theorem q1_238 : Cond.methodLink RX8 276 yX1_init ∈ TBL := tb1 238 (by decide +kernel) rfl
theorem q1_239 : Cond.instanceMethod yX1_init ∈ TBL := tb1 239 (by decide +kernel) rfl
theorem q2_0 : Cond.code yX1_init cX1_init 6 none ∈ TBL := tb2 0 (by decide +kernel) rfl
theorem q2_1 : Cond.methodLink RX1 1 yX2_init ∈ TBL := tb2 1 (by decide +kernel) rfl
theorem q2_2 : Cond.laysFinal RX1 "BanLand$Ban" "kind" "I" ∈ TBL := tb2 2 (by decide +kernel) rfl
theorem q2_3 : Cond.laysFinal RX1 "BanLand$Ban" "act" "I" ∈ TBL := tb2 3 (by decide +kernel) rfl
theorem q2_4 : Cond.laysFinal RX1 "BanLand$Ban" "from" "I" ∈ TBL := tb2 4 (by decide +kernel) rfl
theorem q2_5 : Cond.laysFinal RX1 "BanLand$Ban" "till" "I" ∈ TBL := tb2 5 (by decide +kernel) rfl
theorem q2_6 : Cond.laysFinal RX1 "BanLand$Ban" "town" "I" ∈ TBL := tb2 6 (by decide +kernel) rfl
theorem q2_8 : Cond.classLink RX8 277 RX7 ∈ TBL := tb2 8 (by decide +kernel) rfl
theorem q2_9 : Cond.instantiable RX7 5 ∈ TBL := tb2 9 (by decide +kernel) rfl
theorem q2_10 : Cond.methodLink RX8 279 yX7_init ∈ TBL := tb2 10 (by decide +kernel) rfl
theorem q2_11 : Cond.instanceMethod yX7_init ∈ TBL := tb2 11 (by decide +kernel) rfl
theorem q2_12 : Cond.code yX7_init cX7_init 6 none ∈ TBL := tb2 12 (by decide +kernel) rfl
theorem q2_13 : Cond.methodLink RX7 1 yX3_init ∈ TBL := tb2 13 (by decide +kernel) rfl
theorem q2_14 : Cond.laysFinal RX7 "BanLand$Ban" "kind" "I" ∈ TBL := tb2 14 (by decide +kernel) rfl
theorem q2_15 : Cond.laysFinal RX7 "BanLand$Ban" "act" "I" ∈ TBL := tb2 15 (by decide +kernel) rfl
theorem q2_16 : Cond.laysFinal RX7 "BanLand$Ban" "from" "I" ∈ TBL := tb2 16 (by decide +kernel) rfl
theorem q2_17 : Cond.laysFinal RX7 "BanLand$Ban" "till" "I" ∈ TBL := tb2 17 (by decide +kernel) rfl
theorem q2_18 : Cond.laysFinal RX7 "BanLand$Ban" "town" "I" ∈ TBL := tb2 18 (by decide +kernel) rfl
theorem q2_20 : Cond.classLink RX8 122 RX0 ∈ TBL := tb2 20 (by decide +kernel) rfl
theorem q2_21 : Cond.instantiable RX0 5 ∈ TBL := tb2 21 (by decide +kernel) rfl
theorem q2_22 : Cond.methodLink RX8 280 yX0_init ∈ TBL := tb2 22 (by decide +kernel) rfl
theorem q2_23 : Cond.laysFinal RX0 "BanLand$Ban" "kind" "I" ∈ TBL := tb2 23 (by decide +kernel) rfl
theorem q2_24 : Cond.laysFinal RX0 "BanLand$Ban" "act" "I" ∈ TBL := tb2 24 (by decide +kernel) rfl
theorem q2_25 : Cond.laysFinal RX0 "BanLand$Ban" "from" "I" ∈ TBL := tb2 25 (by decide +kernel) rfl
theorem q2_26 : Cond.laysFinal RX0 "BanLand$Ban" "till" "I" ∈ TBL := tb2 26 (by decide +kernel) rfl
theorem q2_27 : Cond.laysFinal RX0 "BanLand$Ban" "town" "I" ∈ TBL := tb2 27 (by decide +kernel) rfl
theorem q2_29 : Cond.methodLink RX8 90 yX4_addClause ∈ TBL := tb2 29 (by decide +kernel) rfl
theorem q2_30 : Cond.instanceMethod yX4_addClause ∈ TBL := tb2 30 (by decide +kernel) rfl
theorem q2_31 : Cond.selects RX4 yX4_addClause yX4_addClause ∈ TBL := tb2 31 (by decide +kernel) rfl
theorem q2_32 : Cond.code yX4_addClause cX4_addClause 2 none ∈ TBL := tb2 32 (by decide +kernel) rfl
theorem q2_33 : Cond.methodLink RL 33 yX8_strike ∈ TBL := tb2 33 (by decide +kernel) rfl
theorem q2_34 : Cond.instanceMethod yX8_strike ∈ TBL := tb2 34 (by decide +kernel) rfl
theorem q2_35 : Cond.selects RX8 yX8_strike yX8_strike ∈ TBL := tb2 35 (by decide +kernel) rfl
theorem q2_36 : Cond.code yX8_strike cX8_strike 2 (some .int) ∈ TBL := tb2 36 (by decide +kernel) rfl
theorem q2_37 : Cond.methodLink RX8 94 yX4_dropClause ∈ TBL := tb2 37 (by decide +kernel) rfl
theorem q2_38 : Cond.instanceMethod yX4_dropClause ∈ TBL := tb2 38 (by decide +kernel) rfl
theorem q2_39 : Cond.selects RX4 yX4_dropClause yX4_dropClause ∈ TBL := tb2 39 (by decide +kernel) rfl
theorem q2_40 : Cond.code yX4_dropClause cX4_dropClause 2 none ∈ TBL := tb2 40 (by decide +kernel) rfl
theorem q2_41 : Cond.methodLink RL 37 yX8_undo ∈ TBL := tb2 41 (by decide +kernel) rfl
theorem q2_42 : Cond.instanceMethod yX8_undo ∈ TBL := tb2 42 (by decide +kernel) rfl
theorem q2_43 : Cond.selects RX8 yX8_undo yX8_undo ∈ TBL := tb2 43 (by decide +kernel) rfl
theorem q2_44 : Cond.code yX8_undo cX8_undo 1 (some .int) ∈ TBL := tb2 44 (by decide +kernel) rfl
theorem q2_45 : Cond.methodLink RX8 100 yX8_no ∈ TBL := tb2 45 (by decide +kernel) rfl
theorem q2_47 : Cond.instanceMethod yX8_no ∈ TBL := tb2 47 (by decide +kernel) rfl
theorem q2_48 : Cond.code yX8_no cX8_no 1 (some .int) ∈ TBL := tb2 48 (by decide +kernel) rfl
theorem q2_49 : Cond.methodLink RX8 103 yX4_goBack ∈ TBL := tb2 49 (by decide +kernel) rfl
theorem q2_50 : Cond.instanceMethod yX4_goBack ∈ TBL := tb2 50 (by decide +kernel) rfl
theorem q2_51 : Cond.selects RX4 yX4_goBack yX4_goBack ∈ TBL := tb2 51 (by decide +kernel) rfl
theorem q2_52 : Cond.code yX4_goBack cX4_goBack 1 none ∈ TBL := tb2 52 (by decide +kernel) rfl
theorem q2_53 : Cond.methodLink RL 41 yX8_type ∈ TBL := tb2 53 (by decide +kernel) rfl
theorem q2_54 : Cond.instanceMethod yX8_type ∈ TBL := tb2 54 (by decide +kernel) rfl
theorem q2_55 : Cond.selects RX8 yX8_type yX8_type ∈ TBL := tb2 55 (by decide +kernel) rfl
theorem q2_56 : Cond.code yX8_type cX8_type 2 (some .int) ∈ TBL := tb2 56 (by decide +kernel) rfl
theorem q2_57 : Cond.methodLink RL 45 yX8_clear ∈ TBL := tb2 57 (by decide +kernel) rfl
theorem q2_58 : Cond.instanceMethod yX8_clear ∈ TBL := tb2 58 (by decide +kernel) rfl
theorem q2_59 : Cond.selects RX8 yX8_clear yX8_clear ∈ TBL := tb2 59 (by decide +kernel) rfl
theorem q2_60 : Cond.code yX8_clear cX8_clear 2 (some .int) ∈ TBL := tb2 60 (by decide +kernel) rfl
theorem q2_61 : Cond.methodLink RL 49 yX8_read ∈ TBL := tb2 61 (by decide +kernel) rfl
theorem q2_62 : Cond.instanceMethod yX8_read ∈ TBL := tb2 62 (by decide +kernel) rfl
theorem q2_63 : Cond.selects RX8 yX8_read yX8_read ∈ TBL := tb2 63 (by decide +kernel) rfl
theorem q2_64 : Cond.code yX8_read cX8_read 4 (some .int) ∈ TBL := tb2 64 (by decide +kernel) rfl
theorem q2_65 : Cond.classLink RX8 106 RX6 ∈ TBL := tb2 65 (by decide +kernel) rfl
theorem q2_66 : Cond.instantiable RX6 7 ∈ TBL := tb2 66 (by decide +kernel) rfl
theorem q2_67 : Cond.methodLink RX8 108 yX6_init ∈ TBL := tb2 67 (by decide +kernel) rfl
theorem q2_68 : Cond.instanceMethod yX6_init ∈ TBL := tb2 68 (by decide +kernel) rfl
theorem q2_69 : Cond.code yX6_init cX6_init 4 none ∈ TBL := tb2 69 (by decide +kernel) rfl
theorem q2_70 : Cond.methodLink RX6 3 objectInit ∈ TBL := tb2 70 (by decide +kernel) rfl
theorem q2_71 : Cond.fieldLink RX6 9 "BanLand$Reader" "bytes" "[B" ∈ TBL := tb2 71 (by decide +kernel) rfl
theorem q2_72 : Cond.fieldLink RX6 15 "BanLand$Reader" "size" "I" ∈ TBL := tb2 72 (by decide +kernel) rfl
theorem q2_73 : Cond.fieldLink RX6 19 "BanLand$Reader" "target" "LBanLand$Land;" ∈ TBL := tb2 73 (by decide +kernel) rfl
theorem q2_74 : Cond.fieldLink RX6 23 "BanLand$Reader" "start" "I" ∈ TBL := tb2 74 (by decide +kernel) rfl
theorem q2_75 : Cond.fieldLink RX8 114 "BanLand$Reader" "start" "I" ∈ TBL := tb2 75 (by decide +kernel) rfl
theorem q2_76 : Cond.fieldLink RX6 26 "BanLand$Reader" "end" "I" ∈ TBL := tb2 76 (by decide +kernel) rfl
theorem q2_77 : Cond.fieldLink RX6 29 "BanLand$Reader" "token" "I" ∈ TBL := tb2 77 (by decide +kernel) rfl
theorem q2_78 : Cond.fieldLink RX6 32 "BanLand$Reader" "number" "I" ∈ TBL := tb2 78 (by decide +kernel) rfl
theorem q2_79 : Cond.laysFinal RX6 "BanLand$Reader" "bytes" "[B" ∈ TBL := tb2 79 (by decide +kernel) rfl
theorem q2_81 : Cond.laysFinal RX6 "BanLand$Reader" "size" "I" ∈ TBL := tb2 81 (by decide +kernel) rfl
theorem q2_83 : Cond.laysFinal RX6 "BanLand$Reader" "target" "LBanLand$Land;" ∈ TBL := tb2 83 (by decide +kernel) rfl
theorem q2_85 : Cond.lays RX6 "BanLand$Reader" "start" "I" ∈ TBL := tb2 85 (by decide +kernel) rfl
theorem q2_87 : Cond.lays RX6 "BanLand$Reader" "end" "I" ∈ TBL := tb2 87 (by decide +kernel) rfl
theorem q2_89 : Cond.lays RX6 "BanLand$Reader" "token" "I" ∈ TBL := tb2 89 (by decide +kernel) rfl
theorem q2_91 : Cond.lays RX6 "BanLand$Reader" "number" "I" ∈ TBL := tb2 91 (by decide +kernel) rfl
theorem q2_94 : Cond.methodLink RX8 111 yX6_items ∈ TBL := tb2 94 (by decide +kernel) rfl
theorem q2_95 : Cond.instanceMethod yX6_items ∈ TBL := tb2 95 (by decide +kernel) rfl
theorem q2_96 : Cond.selects RX6 yX6_items yX6_items ∈ TBL := tb2 96 (by decide +kernel) rfl
theorem q2_97 : Cond.code yX6_items cX6_items 2 (some .int) ∈ TBL := tb2 97 (by decide +kernel) rfl
theorem q2_98 : Cond.methodLink RX6 35 yX6_advance ∈ TBL := tb2 98 (by decide +kernel) rfl
theorem q2_100 : Cond.instanceMethod yX6_advance ∈ TBL := tb2 100 (by decide +kernel) rfl
theorem q2_101 : Cond.code yX6_advance cX6_advance 1 none ∈ TBL := tb2 101 (by decide +kernel) rfl
theorem q2_102 : Cond.methodLink RX6 98 yX6_isLetter ∈ TBL := tb2 102 (by decide +kernel) rfl
theorem q2_103 : Cond.static yX6_isLetter ∈ TBL := tb2 103 (by decide +kernel) rfl
theorem q2_104 : Cond.code yX6_isLetter cX6_isLetter 1 (some .boolean) ∈ TBL := tb2 104 (by decide +kernel) rfl
theorem q2_105 : Cond.methodLink RX6 102 yX6_isFigure ∈ TBL := tb2 105 (by decide +kernel) rfl
theorem q2_106 : Cond.static yX6_isFigure ∈ TBL := tb2 106 (by decide +kernel) rfl
theorem q2_107 : Cond.code yX6_isFigure cX6_isFigure 1 (some .boolean) ∈ TBL := tb2 107 (by decide +kernel) rfl
theorem q2_108 : Cond.stringRef RX6 38 "land" ∈ lw_tbl := tl2 108 (by decide +kernel)
theorem q2_109 : Cond.methodLink RX6 40 yX6_isWord ∈ TBL := tb2 109 (by decide +kernel) rfl
theorem q2_111 : Cond.instanceMethod yX6_isWord ∈ TBL := tb2 111 (by decide +kernel) rfl
theorem q2_112 : Cond.code yX6_isWord cX6_isWord 3 (some .boolean) ∈ TBL := tb2 112 (by decide +kernel) rfl
theorem q2_113 : Cond.methodLink RX6 105 yJ0_length_8abf5 ∈ TBL := tb2 113 (by decide +kernel) rfl
theorem q2_114 : Cond.instanceMethod yJ0_length_8abf5 ∈ TBL := tb2 114 (by decide +kernel) rfl
theorem q2_115 : Cond.selects RJ0 yJ0_length_8abf5 yJ0_length_8abf5 ∈ TBL := tb2 115 (by decide +kernel) rfl
theorem q2_116 : Cond.code yJ0_length_8abf5 cJ0_length_8abf5 1 (some .int) ∈ TBL := tb2 116 (by decide +kernel) rfl
theorem q2_117 : Cond.methodLink RJ0 335 yJ0_coder_7d493 ∈ TBL := tb2 117 (by decide +kernel) rfl
theorem q2_118 : Cond.instanceMethod yJ0_coder_7d493 ∈ TBL := tb2 118 (by decide +kernel) rfl
theorem q2_119 : Cond.selects RJ0 yJ0_coder_7d493 yJ0_coder_7d493 ∈ TBL := tb2 119 (by decide +kernel) rfl
theorem q2_120 : Cond.code yJ0_coder_7d493 cJ0_coder_7d493 1 (some .byte) ∈ TBL := tb2 120 (by decide +kernel) rfl
theorem q2_121 : Cond.fieldLink RJ0 38 "java/lang/String" "COMPACT_STRINGS" "Z" ∈ TBL := tb2 121 (by decide +kernel) rfl
theorem q2_122 : Cond.laysStatic RJ0 "COMPACT_STRINGS" "Z" ∈ lw_tbl := tl2 122 (by decide +kernel)
theorem q2_123 : Cond.methodLink RX6 111 yJ0_charAt_5068e ∈ TBL := tb2 123 (by decide +kernel) rfl
theorem q2_124 : Cond.instanceMethod yJ0_charAt_5068e ∈ TBL := tb2 124 (by decide +kernel) rfl
theorem q2_125 : Cond.selects RJ0 yJ0_charAt_5068e yJ0_charAt_5068e ∈ TBL := tb2 125 (by decide +kernel) rfl
theorem q2_126 : Cond.code yJ0_charAt_5068e cJ0_charAt_5068e 2 (some .char) ∈ TBL := tb2 126 (by decide +kernel) rfl
theorem q2_127 : Cond.methodLink RJ0 492 yJ0_isLatin1_aae02 ∈ TBL := tb2 127 (by decide +kernel) rfl
theorem q2_128 : Cond.instanceMethod yJ0_isLatin1_aae02 ∈ TBL := tb2 128 (by decide +kernel) rfl
theorem q2_129 : Cond.selects RJ0 yJ0_isLatin1_aae02 yJ0_isLatin1_aae02 ∈ TBL := tb2 129 (by decide +kernel) rfl
theorem q2_130 : Cond.code yJ0_isLatin1_aae02 cJ0_isLatin1_aae02 1 (some .boolean) ∈ TBL := tb2 130 (by decide +kernel) rfl
theorem q2_131 : Cond.methodLink RJ0 495 yJ1_charAt_3b067 ∈ TBL := tb2 131 (by decide +kernel) rfl
theorem q2_132 : Cond.static yJ1_charAt_3b067 ∈ TBL := tb2 132 (by decide +kernel) rfl
theorem q2_133 : Cond.code yJ1_charAt_3b067 cJ1_charAt_3b067 2 (some .char) ∈ TBL := tb2 133 (by decide +kernel) rfl
theorem q2_134 : Cond.methodLink RJ1 9 yJ0_checkIndex_df160 ∈ TBL := tb2 134 (by decide +kernel) rfl
theorem q2_135 : Cond.static yJ0_checkIndex_df160 ∈ TBL := tb2 135 (by decide +kernel) rfl
theorem q2_136 : Cond.code yJ0_checkIndex_df160 cJ0_checkIndex_df160 2 none ∈ TBL := tb2 136 (by decide +kernel) rfl
theorem q2_137 : Cond.fieldLink RJ0 1053 "jdk/internal/util/Preconditions" "SIOOBE_FORMATTER" "Ljava/util/function/BiFunction;" ∈ TBL := tb2 137 (by decide +kernel) rfl
theorem q2_138 : Cond.laysStatic RJ3 "SIOOBE_FORMATTER" "Ljava/util/function/BiFunction;" ∈ lw_tbl := tl2 138 (by decide +kernel)
theorem q2_139 : Cond.methodLink RJ0 1059 yJ3_checkIndex_8e157 ∈ TBL := tb2 139 (by decide +kernel) rfl
theorem q2_140 : Cond.static yJ3_checkIndex_8e157 ∈ TBL := tb2 140 (by decide +kernel) rfl
theorem q2_141 : Cond.code yJ3_checkIndex_8e157 cJ3_checkIndex_8e157 3 (some .int) ∈ TBL := tb2 141 (by decide +kernel) rfl
theorem q2_142 : Cond.methodLink RJ0 498 yJ2_charAt_3b067 ∈ TBL := tb2 142 (by decide +kernel) rfl
theorem q2_143 : Cond.static yJ2_charAt_3b067 ∈ TBL := tb2 143 (by decide +kernel) rfl
theorem q2_144 : Cond.code yJ2_charAt_3b067 cJ2_charAt_3b067 2 (some .char) ∈ TBL := tb2 144 (by decide +kernel) rfl
theorem q2_145 : Cond.methodLink RJ2 67 yJ2_checkIndex_2214a ∈ TBL := tb2 145 (by decide +kernel) rfl
theorem q2_146 : Cond.static yJ2_checkIndex_2214a ∈ TBL := tb2 146 (by decide +kernel) rfl
theorem q2_147 : Cond.code yJ2_checkIndex_2214a cJ2_checkIndex_2214a 2 none ∈ TBL := tb2 147 (by decide +kernel) rfl
theorem q2_148 : Cond.methodLink RJ2 48 yJ2_length_9d52b ∈ TBL := tb2 148 (by decide +kernel) rfl
theorem q2_149 : Cond.static yJ2_length_9d52b ∈ TBL := tb2 149 (by decide +kernel) rfl
theorem q2_150 : Cond.code yJ2_length_9d52b cJ2_length_9d52b 1 (some .int) ∈ TBL := tb2 150 (by decide +kernel) rfl
theorem q2_151 : Cond.methodLink RJ2 414 yJ0_checkIndex_df160 ∈ TBL := tb2 151 (by decide +kernel) rfl
theorem q2_152 : Cond.methodLink RJ2 71 yJ2_getChar_3b067 ∈ TBL := tb2 152 (by decide +kernel) rfl
theorem q2_153 : Cond.static yJ2_getChar_3b067 ∈ TBL := tb2 153 (by decide +kernel) rfl
theorem q2_154 : Cond.code yJ2_getChar_3b067 cJ2_getChar_3b067 2 (some .char) ∈ TBL := tb2 154 (by decide +kernel) rfl
theorem q2_155 : Cond.fieldLink RJ2 44 "java/lang/StringUTF16" "$assertionsDisabled" "Z" ∈ TBL := tb2 155 (by decide +kernel) rfl
theorem q2_156 : Cond.laysStatic RJ2 "$assertionsDisabled" "Z" ∈ lw_tbl := tl2 156 (by decide +kernel)
theorem q2_157 : Cond.fieldLink RJ2 59 "java/lang/StringUTF16" "HI_BYTE_SHIFT" "I" ∈ TBL := tb2 157 (by decide +kernel) rfl
theorem q2_158 : Cond.laysStatic RJ2 "HI_BYTE_SHIFT" "I" ∈ lw_tbl := tl2 158 (by decide +kernel)
theorem q2_159 : Cond.fieldLink RJ2 63 "java/lang/StringUTF16" "LO_BYTE_SHIFT" "I" ∈ TBL := tb2 159 (by decide +kernel) rfl
theorem q2_160 : Cond.laysStatic RJ2 "LO_BYTE_SHIFT" "I" ∈ lw_tbl := tl2 160 (by decide +kernel)
theorem q2_161 : Cond.methodLink RX6 44 yX6_closes ∈ TBL := tb2 161 (by decide +kernel) rfl
theorem q2_163 : Cond.instanceMethod yX6_closes ∈ TBL := tb2 163 (by decide +kernel) rfl
theorem q2_164 : Cond.code yX6_closes cX6_closes 1 (some .boolean) ∈ TBL := tb2 164 (by decide +kernel) rfl
theorem q2_165 : Cond.methodLink RX6 48 yX6_readsItem ∈ TBL := tb2 165 (by decide +kernel) rfl
theorem q2_167 : Cond.instanceMethod yX6_readsItem ∈ TBL := tb2 167 (by decide +kernel) rfl
theorem q2_168 : Cond.code yX6_readsItem cX6_readsItem 1 (some .boolean) ∈ TBL := tb2 168 (by decide +kernel) rfl
theorem q2_169 : Cond.stringRef RX6 51 "town" ∈ lw_tbl := tl2 169 (by decide +kernel)
theorem q2_170 : Cond.methodLink RX6 53 yX6_readsTown ∈ TBL := tb2 170 (by decide +kernel) rfl
theorem q2_172 : Cond.instanceMethod yX6_readsTown ∈ TBL := tb2 172 (by decide +kernel) rfl
theorem q2_173 : Cond.code yX6_readsTown cX6_readsTown 2 (some .boolean) ∈ TBL := tb2 173 (by decide +kernel) rfl
theorem q2_174 : Cond.methodLink RX6 71 yX6_takes ∈ TBL := tb2 174 (by decide +kernel) rfl
theorem q2_176 : Cond.instanceMethod yX6_takes ∈ TBL := tb2 176 (by decide +kernel) rfl
theorem q2_177 : Cond.code yX6_takes cX6_takes 3 (some .boolean) ∈ TBL := tb2 177 (by decide +kernel) rfl
theorem q2_178 : Cond.methodLinkNest RX6 94 yX8_within RX8 ∈ lw_tbl := tl2 178 (by decide +kernel)
theorem q2_179 : Cond.methodLink RX6 75 yX4_addTown ∈ TBL := tb2 179 (by decide +kernel) rfl
theorem q2_180 : Cond.stringRef RX6 56 "road" ∈ lw_tbl := tl2 180 (by decide +kernel)
theorem q2_181 : Cond.methodLink RX6 58 yX6_readsRoad ∈ TBL := tb2 181 (by decide +kernel) rfl
theorem q2_183 : Cond.instanceMethod yX6_readsRoad ∈ TBL := tb2 183 (by decide +kernel) rfl
theorem q2_184 : Cond.code yX6_readsRoad cX6_readsRoad 4 (some .boolean) ∈ TBL := tb2 184 (by decide +kernel) rfl
theorem q2_185 : Cond.methodLink RX6 79 yX4_setRoad ∈ TBL := tb2 185 (by decide +kernel) rfl
theorem q2_186 : Cond.stringRef RX6 61 "clause" ∈ lw_tbl := tl2 186 (by decide +kernel)
theorem q2_187 : Cond.methodLink RX6 63 yX6_readsClause ∈ TBL := tb2 187 (by decide +kernel) rfl
theorem q2_189 : Cond.instanceMethod yX6_readsClause ∈ TBL := tb2 189 (by decide +kernel) rfl
theorem q2_190 : Cond.code yX6_readsClause cX6_readsClause 6 (some .boolean) ∈ TBL := tb2 190 (by decide +kernel) rfl
theorem q2_191 : Cond.methodLinkNest RX6 86 yX8_told RX8 ∈ lw_tbl := tl2 191 (by decide +kernel)
theorem q2_192 : Cond.methodLink RX6 90 yX4_addClause ∈ TBL := tb2 192 (by decide +kernel) rfl
theorem q2_193 : Cond.methodLink RL 53 yX8_of ∈ TBL := tb2 193 (by decide +kernel) rfl
theorem q2_194 : Cond.instanceMethod yX8_of ∈ TBL := tb2 194 (by decide +kernel) rfl
theorem q2_195 : Cond.selects RX8 yX8_of yX8_of ∈ TBL := tb2 195 (by decide +kernel) rfl
theorem q2_196 : Cond.code yX8_of cX8_of 4 (some .int) ∈ TBL := tb2 196 (by decide +kernel) rfl
theorem q2_197 : Cond.methodLink RX8 117 yX4_clauseAt ∈ TBL := tb2 197 (by decide +kernel) rfl
theorem q2_198 : Cond.instanceMethod yX4_clauseAt ∈ TBL := tb2 198 (by decide +kernel) rfl
theorem q2_199 : Cond.selects RX4 yX4_clauseAt yX4_clauseAt ∈ TBL := tb2 199 (by decide +kernel) rfl
theorem q2_200 : Cond.code yX4_clauseAt cX4_clauseAt 2 (some (.object "BanLand$Ban")) ∈ TBL := tb2 200 (by decide +kernel) rfl
theorem q2_201 : Cond.methodLink RX8 138 yX0_allows ∈ TBL := tb2 201 (by decide +kernel) rfl
theorem q2_202 : Cond.instanceMethod yX0_allows ∈ TBL := tb2 202 (by decide +kernel) rfl
theorem q2_203 : Cond.selects RX0 yX0_allows yX0_allows ∈ TBL := tb2 203 (by decide +kernel) rfl
theorem q2_204 : Cond.sameMethod "BanLand$Ban" "BanLand$Ban" "allows" "()Z" ∈ TBL := tb2 204 (by decide +kernel) rfl
theorem q2_205 : Cond.selects RX1 yX0_allows yX2_allows ∈ TBL := tb2 205 (by decide +kernel) rfl
theorem q2_206 : Cond.instanceMethod yX2_allows ∈ TBL := tb2 206 (by decide +kernel) rfl
theorem q2_207 : Cond.code yX2_allows cX2_allows 1 (some .boolean) ∈ TBL := tb2 207 (by decide +kernel) rfl
theorem q2_208 : Cond.selects RX2 yX0_allows yX2_allows ∈ TBL := tb2 208 (by decide +kernel) rfl
theorem q2_209 : Cond.selects RX3 yX0_allows yX2_allows ∈ TBL := tb2 209 (by decide +kernel) rfl
theorem q2_210 : Cond.selects RX5 yX0_allows yX0_allows ∈ TBL := tb2 210 (by decide +kernel) rfl
theorem q2_211 : Cond.selects RX7 yX0_allows yX2_allows ∈ TBL := tb2 211 (by decide +kernel) rfl
theorem q2_212 : Cond.code yX0_allows cX0_allows 1 (some .boolean) ∈ TBL := tb2 212 (by decide +kernel) rfl
theorem q2_213 : Cond.methodLink RX8 142 yX0_end ∈ TBL := tb2 213 (by decide +kernel) rfl
theorem q2_214 : Cond.instanceMethod yX0_end ∈ TBL := tb2 214 (by decide +kernel) rfl
theorem q2_215 : Cond.selects RX0 yX0_end yX0_end ∈ TBL := tb2 215 (by decide +kernel) rfl
theorem q2_216 : Cond.sameMethod "BanLand$Ban" "BanLand$Ban" "end" "()I" ∈ TBL := tb2 216 (by decide +kernel) rfl
theorem q2_217 : Cond.selects RX1 yX0_end yX0_end ∈ TBL := tb2 217 (by decide +kernel) rfl
theorem q2_218 : Cond.selects RX2 yX0_end yX0_end ∈ TBL := tb2 218 (by decide +kernel) rfl
theorem q2_219 : Cond.selects RX3 yX0_end yX0_end ∈ TBL := tb2 219 (by decide +kernel) rfl
theorem q2_220 : Cond.selects RX5 yX0_end yX5_end ∈ TBL := tb2 220 (by decide +kernel) rfl
theorem q2_221 : Cond.instanceMethod yX5_end ∈ TBL := tb2 221 (by decide +kernel) rfl
theorem q2_222 : Cond.code yX5_end cX5_end 1 (some .int) ∈ TBL := tb2 222 (by decide +kernel) rfl
theorem q2_223 : Cond.selects RX7 yX0_end yX0_end ∈ TBL := tb2 223 (by decide +kernel) rfl
theorem q2_224 : Cond.code yX0_end cX0_end 1 (some .int) ∈ TBL := tb2 224 (by decide +kernel) rfl
theorem q2_225 : Cond.methodLink RL 58 yX8_far ∈ TBL := tb2 225 (by decide +kernel) rfl
theorem q2_226 : Cond.instanceMethod yX8_far ∈ TBL := tb2 226 (by decide +kernel) rfl
theorem q2_227 : Cond.selects RX8 yX8_far yX8_far ∈ TBL := tb2 227 (by decide +kernel) rfl
theorem q2_228 : Cond.code yX8_far cX8_far 4 (some .int) ∈ TBL := tb2 228 (by decide +kernel) rfl
theorem q2_229 : Cond.methodLink RX8 145 yX4_measure ∈ TBL := tb2 229 (by decide +kernel) rfl
theorem q2_230 : Cond.instanceMethod yX4_measure ∈ TBL := tb2 230 (by decide +kernel) rfl
theorem q2_231 : Cond.selects RX4 yX4_measure yX4_measure ∈ TBL := tb2 231 (by decide +kernel) rfl
theorem q2_232 : Cond.code yX4_measure cX4_measure 4 none ∈ TBL := tb2 232 (by decide +kernel) rfl
theorem q2_233 : Cond.methodLink RX4 73 yX4_shortenFrom ∈ TBL := tb2 233 (by decide +kernel) rfl
theorem q2_235 : Cond.instanceMethod yX4_shortenFrom ∈ TBL := tb2 235 (by decide +kernel) rfl
theorem q2_236 : Cond.code yX4_shortenFrom cX4_shortenFrom 4 none ∈ TBL := tb2 236 (by decide +kernel) rfl
theorem q2_237 : Cond.methodLink RX4 62 yX4_roadDays ∈ TBL := tb2 237 (by decide +kernel) rfl
theorem q2_238 : Cond.methodLink RL 62 yX8_allowed ∈ TBL := tb2 238 (by decide +kernel) rfl
theorem q2_239 : Cond.instanceMethod yX8_allowed ∈ TBL := tb2 239 (by decide +kernel) rfl
theorem q3_0 : Cond.selects RX8 yX8_allowed yX8_allowed ∈ TBL := tb3 0 (by decide +kernel) rfl
theorem q3_1 : Cond.code yX8_allowed cX8_allowed 8 (some .int) ∈ TBL := tb3 1 (by decide +kernel) rfl
theorem q3_2 : Cond.methodLink RX8 152 yX8_isAsked ∈ TBL := tb3 2 (by decide +kernel) rfl
theorem q3_4 : Cond.instanceMethod yX8_isAsked ∈ TBL := tb3 4 (by decide +kernel) rfl
theorem q3_5 : Cond.code yX8_isAsked cX8_isAsked 6 (some .boolean) ∈ TBL := tb3 5 (by decide +kernel) rfl
theorem q3_6 : Cond.methodLink RX8 156 yX8_asker ∈ TBL := tb3 6 (by decide +kernel) rfl
theorem q3_7 : Cond.static yX8_asker ∈ TBL := tb3 7 (by decide +kernel) rfl
theorem q3_8 : Cond.code yX8_asker cX8_asker 2 (some .int) ∈ TBL := tb3 8 (by decide +kernel) rfl
theorem q3_9 : Cond.methodLink RX8 159 yX4_decider ∈ TBL := tb3 9 (by decide +kernel) rfl
theorem q3_10 : Cond.instanceMethod yX4_decider ∈ TBL := tb3 10 (by decide +kernel) rfl
theorem q3_11 : Cond.selects RX4 yX4_decider yX4_decider ∈ TBL := tb3 11 (by decide +kernel) rfl
theorem q3_12 : Cond.code yX4_decider cX4_decider 5 (some .int) ∈ TBL := tb3 12 (by decide +kernel) rfl
theorem q3_13 : Cond.methodLink RX4 98 yX4_speaking ∈ TBL := tb3 13 (by decide +kernel) rfl
theorem q3_14 : Cond.instanceMethod yX4_speaking ∈ TBL := tb3 14 (by decide +kernel) rfl
theorem q3_15 : Cond.selects RX4 yX4_speaking yX4_speaking ∈ TBL := tb3 15 (by decide +kernel) rfl
theorem q3_16 : Cond.code yX4_speaking cX4_speaking 8 (some .int) ∈ TBL := tb3 16 (by decide +kernel) rfl
theorem q3_17 : Cond.methodLink RX4 83 yX0_end ∈ TBL := tb3 17 (by decide +kernel) rfl
theorem q3_18 : Cond.methodLink RX4 87 yX0_speaksIn ∈ TBL := tb3 18 (by decide +kernel) rfl
theorem q3_19 : Cond.instanceMethod yX0_speaksIn ∈ TBL := tb3 19 (by decide +kernel) rfl
theorem q3_20 : Cond.selects RX0 yX0_speaksIn yX0_speaksIn ∈ TBL := tb3 20 (by decide +kernel) rfl
theorem q3_21 : Cond.sameMethod "BanLand$Ban" "BanLand$Ban" "speaksIn" "(I)Z" ∈ TBL := tb3 21 (by decide +kernel) rfl
theorem q3_22 : Cond.selects RX1 yX0_speaksIn yX0_speaksIn ∈ TBL := tb3 22 (by decide +kernel) rfl
theorem q3_23 : Cond.selects RX2 yX0_speaksIn yX0_speaksIn ∈ TBL := tb3 23 (by decide +kernel) rfl
theorem q3_24 : Cond.selects RX3 yX0_speaksIn yX3_speaksIn ∈ TBL := tb3 24 (by decide +kernel) rfl
theorem q3_25 : Cond.instanceMethod yX3_speaksIn ∈ TBL := tb3 25 (by decide +kernel) rfl
theorem q3_26 : Cond.code yX3_speaksIn cX3_speaksIn 2 (some .boolean) ∈ TBL := tb3 26 (by decide +kernel) rfl
theorem q3_27 : Cond.selects RX5 yX0_speaksIn yX0_speaksIn ∈ TBL := tb3 27 (by decide +kernel) rfl
theorem q3_28 : Cond.selects RX7 yX0_speaksIn yX3_speaksIn ∈ TBL := tb3 28 (by decide +kernel) rfl
theorem q3_29 : Cond.code yX0_speaksIn cX0_speaksIn 2 (some .boolean) ∈ TBL := tb3 29 (by decide +kernel) rfl
theorem q3_30 : Cond.methodLink RX4 91 yX0_speaksTo ∈ TBL := tb3 30 (by decide +kernel) rfl
theorem q3_31 : Cond.instanceMethod yX0_speaksTo ∈ TBL := tb3 31 (by decide +kernel) rfl
theorem q3_32 : Cond.selects RX0 yX0_speaksTo yX0_speaksTo ∈ TBL := tb3 32 (by decide +kernel) rfl
theorem q3_33 : Cond.sameMethod "BanLand$Ban" "BanLand$Ban" "speaksTo" "(I)Z" ∈ TBL := tb3 33 (by decide +kernel) rfl
theorem q3_34 : Cond.selects RX1 yX0_speaksTo yX1_speaksTo ∈ TBL := tb3 34 (by decide +kernel) rfl
theorem q3_35 : Cond.instanceMethod yX1_speaksTo ∈ TBL := tb3 35 (by decide +kernel) rfl
theorem q3_36 : Cond.code yX1_speaksTo cX1_speaksTo 2 (some .boolean) ∈ TBL := tb3 36 (by decide +kernel) rfl
theorem q3_37 : Cond.selects RX2 yX0_speaksTo yX0_speaksTo ∈ TBL := tb3 37 (by decide +kernel) rfl
theorem q3_38 : Cond.selects RX3 yX0_speaksTo yX0_speaksTo ∈ TBL := tb3 38 (by decide +kernel) rfl
theorem q3_39 : Cond.selects RX5 yX0_speaksTo yX0_speaksTo ∈ TBL := tb3 39 (by decide +kernel) rfl
theorem q3_40 : Cond.selects RX7 yX0_speaksTo yX7_speaksTo ∈ TBL := tb3 40 (by decide +kernel) rfl
theorem q3_41 : Cond.instanceMethod yX7_speaksTo ∈ TBL := tb3 41 (by decide +kernel) rfl
theorem q3_42 : Cond.code yX7_speaksTo cX7_speaksTo 2 (some .boolean) ∈ TBL := tb3 42 (by decide +kernel) rfl
theorem q3_43 : Cond.code yX0_speaksTo cX0_speaksTo 2 (some .boolean) ∈ TBL := tb3 43 (by decide +kernel) rfl
theorem q3_44 : Cond.methodLink RX4 102 yX4_allowing ∈ TBL := tb3 44 (by decide +kernel) rfl
theorem q3_45 : Cond.instanceMethod yX4_allowing ∈ TBL := tb3 45 (by decide +kernel) rfl
theorem q3_46 : Cond.selects RX4 yX4_allowing yX4_allowing ∈ TBL := tb3 46 (by decide +kernel) rfl
theorem q3_47 : Cond.code yX4_allowing cX4_allowing 4 (some .int) ∈ TBL := tb3 47 (by decide +kernel) rfl
theorem q3_48 : Cond.methodLink RX4 94 yX0_allows ∈ TBL := tb3 48 (by decide +kernel) rfl
theorem q3_49 : Cond.methodLinkNest RX4 105 yX8_deciding RX8 ∈ lw_tbl := tl3 49 (by decide +kernel)
theorem q3_50 : Cond.static yX8_deciding ∈ TBL := tb3 50 (by decide +kernel) rfl
theorem q3_51 : Cond.code yX8_deciding cX8_deciding 5 (some .int) ∈ TBL := tb3 51 (by decide +kernel) rfl
theorem q3_52 : Cond.methodLink RX8 255 yX8_firstOf ∈ TBL := tb3 52 (by decide +kernel) rfl
theorem q3_53 : Cond.static yX8_firstOf ∈ TBL := tb3 53 (by decide +kernel) rfl
theorem q3_54 : Cond.code yX8_firstOf cX8_firstOf 2 (some .int) ∈ TBL := tb3 54 (by decide +kernel) rfl
theorem q3_55 : Cond.methodLink RX8 258 yX8_lastOf ∈ TBL := tb3 55 (by decide +kernel) rfl
theorem q3_56 : Cond.static yX8_lastOf ∈ TBL := tb3 56 (by decide +kernel) rfl
theorem q3_57 : Cond.code yX8_lastOf cX8_lastOf 2 (some .int) ∈ TBL := tb3 57 (by decide +kernel) rfl
theorem q3_58 : Cond.methodLink RX8 177 yJ6_bitCount_0f7a4 ∈ TBL := tb3 58 (by decide +kernel) rfl
theorem q3_59 : Cond.static yJ6_bitCount_0f7a4 ∈ TBL := tb3 59 (by decide +kernel) rfl
theorem q3_60 : Cond.code yJ6_bitCount_0f7a4 cJ6_bitCount_0f7a4 1 (some .int) ∈ TBL := tb3 60 (by decide +kernel) rfl
theorem q3_61 : Cond.constant RJ6 265 (1431655765) ∈ TBL := tb3 61 (by decide +kernel) rfl
theorem q3_62 : Cond.constant RJ6 266 (858993459) ∈ TBL := tb3 62 (by decide +kernel) rfl
theorem q3_63 : Cond.constant RJ6 267 (252645135) ∈ TBL := tb3 63 (by decide +kernel) rfl
theorem q3_64 : Cond.methodLink RX8 163 yX4_forbids ∈ TBL := tb3 64 (by decide +kernel) rfl
theorem q3_65 : Cond.instanceMethod yX4_forbids ∈ TBL := tb3 65 (by decide +kernel) rfl
theorem q3_66 : Cond.selects RX4 yX4_forbids yX4_forbids ∈ TBL := tb3 66 (by decide +kernel) rfl
theorem q3_67 : Cond.code yX4_forbids cX4_forbids 5 (some .boolean) ∈ TBL := tb3 67 (by decide +kernel) rfl
theorem q3_68 : Cond.methodLinkNest RX4 109 yX8_forbidden RX8 ∈ lw_tbl := tl3 68 (by decide +kernel)
theorem q3_69 : Cond.static yX8_forbidden ∈ TBL := tb3 69 (by decide +kernel) rfl
theorem q3_70 : Cond.code yX8_forbidden cX8_forbidden 4 (some .boolean) ∈ TBL := tb3 70 (by decide +kernel) rfl
theorem q3_71 : Cond.methodLink RX8 261 yX8_deciding ∈ TBL := tb3 71 (by decide +kernel) rfl
theorem q3_72 : Cond.methodLink RL 67 yX8_nearest ∈ TBL := tb3 72 (by decide +kernel) rfl
theorem q3_73 : Cond.instanceMethod yX8_nearest ∈ TBL := tb3 73 (by decide +kernel) rfl
theorem q3_74 : Cond.selects RX8 yX8_nearest yX8_nearest ∈ TBL := tb3 74 (by decide +kernel) rfl
theorem q3_75 : Cond.code yX8_nearest cX8_nearest 10 (some .int) ∈ TBL := tb3 75 (by decide +kernel) rfl
theorem q3_76 : Cond.methodLink RX8 167 yX4_nearestThatAllows ∈ TBL := tb3 76 (by decide +kernel) rfl
theorem q3_77 : Cond.instanceMethod yX4_nearestThatAllows ∈ TBL := tb3 77 (by decide +kernel) rfl
theorem q3_78 : Cond.selects RX4 yX4_nearestThatAllows yX4_nearestThatAllows ∈ TBL := tb3 78 (by decide +kernel) rfl
theorem q3_79 : Cond.code yX4_nearestThatAllows cX4_nearestThatAllows 7 (some .int) ∈ TBL := tb3 79 (by decide +kernel) rfl
theorem q3_80 : Cond.methodLink RX4 69 yX4_forbids ∈ TBL := tb3 80 (by decide +kernel) rfl
theorem q3_81 : Cond.methodLink RL 71 yX8_contradict ∈ TBL := tb3 81 (by decide +kernel) rfl
theorem q3_82 : Cond.instanceMethod yX8_contradict ∈ TBL := tb3 82 (by decide +kernel) rfl
theorem q3_83 : Cond.selects RX8 yX8_contradict yX8_contradict ∈ TBL := tb3 83 (by decide +kernel) rfl
theorem q3_84 : Cond.code yX8_contradict cX8_contradict 8 (some .int) ∈ TBL := tb3 84 (by decide +kernel) rfl
theorem q3_85 : Cond.methodLink RL 75 yX8_settle ∈ TBL := tb3 85 (by decide +kernel) rfl
theorem q3_86 : Cond.instanceMethod yX8_settle ∈ TBL := tb3 86 (by decide +kernel) rfl
theorem q3_87 : Cond.selects RX8 yX8_settle yX8_settle ∈ TBL := tb3 87 (by decide +kernel) rfl
theorem q3_88 : Cond.code yX8_settle cX8_settle 7 (some .int) ∈ TBL := tb3 88 (by decide +kernel) rfl
theorem q3_89 : Cond.methodLink RX8 170 yX4_noteSpeaking ∈ TBL := tb3 89 (by decide +kernel) rfl
theorem q3_90 : Cond.instanceMethod yX4_noteSpeaking ∈ TBL := tb3 90 (by decide +kernel) rfl
theorem q3_91 : Cond.selects RX4 yX4_noteSpeaking yX4_noteSpeaking ∈ TBL := tb3 91 (by decide +kernel) rfl
theorem q3_92 : Cond.code yX4_noteSpeaking cX4_noteSpeaking 6 none ∈ TBL := tb3 92 (by decide +kernel) rfl
theorem q3_93 : Cond.methodLink RX8 174 yX4_allowing ∈ TBL := tb3 93 (by decide +kernel) rfl
theorem q3_94 : Cond.methodLink RX8 182 yX4_agrees ∈ TBL := tb3 94 (by decide +kernel) rfl
theorem q3_95 : Cond.instanceMethod yX4_agrees ∈ TBL := tb3 95 (by decide +kernel) rfl
theorem q3_96 : Cond.selects RX4 yX4_agrees yX4_agrees ∈ TBL := tb3 96 (by decide +kernel) rfl
theorem q3_97 : Cond.code yX4_agrees cX4_agrees 5 (some .boolean) ∈ TBL := tb3 97 (by decide +kernel) rfl
theorem q3_98 : Cond.methodLink RX4 116 yX4_agreesIn ∈ TBL := tb3 98 (by decide +kernel) rfl
theorem q3_100 : Cond.instanceMethod yX4_agreesIn ∈ TBL := tb3 100 (by decide +kernel) rfl
theorem q3_101 : Cond.code yX4_agreesIn cX4_agreesIn 8 (some .boolean) ∈ TBL := tb3 101 (by decide +kernel) rfl
theorem q3_102 : Cond.methodLink RL 79 yX8_reads ∈ TBL := tb3 102 (by decide +kernel) rfl
theorem q3_103 : Cond.instanceMethod yX8_reads ∈ TBL := tb3 103 (by decide +kernel) rfl
theorem q3_104 : Cond.selects RX8 yX8_reads yX8_reads ∈ TBL := tb3 104 (by decide +kernel) rfl
theorem q3_105 : Cond.code yX8_reads cX8_reads 10 (some .int) ∈ TBL := tb3 105 (by decide +kernel) rfl
theorem q3_106 : Cond.methodLink RX8 185 yX4_speaking ∈ TBL := tb3 106 (by decide +kernel) rfl
theorem q3_107 : Cond.methodLink RX8 188 yX8_forbidden ∈ TBL := tb3 107 (by decide +kernel) rfl
theorem q3_108 : Cond.methodLink RL 83 yX8_patience ∈ TBL := tb3 108 (by decide +kernel) rfl
theorem q3_109 : Cond.instanceMethod yX8_patience ∈ TBL := tb3 109 (by decide +kernel) rfl
theorem q3_110 : Cond.selects RX8 yX8_patience yX8_patience ∈ TBL := tb3 110 (by decide +kernel) rfl
theorem q3_111 : Cond.code yX8_patience cX8_patience 6 (some .int) ∈ TBL := tb3 111 (by decide +kernel) rfl
theorem q3_112 : Cond.methodLink RX8 191 yX8_arePatient ∈ TBL := tb3 112 (by decide +kernel) rfl
theorem q3_113 : Cond.static yX8_arePatient ∈ TBL := tb3 113 (by decide +kernel) rfl
theorem q3_114 : Cond.code yX8_arePatient cX8_arePatient 3 (some .boolean) ∈ TBL := tb3 114 (by decide +kernel) rfl
theorem q3_115 : Cond.methodLink RX8 194 yX8_firstDay ∈ TBL := tb3 115 (by decide +kernel) rfl
theorem q3_117 : Cond.instanceMethod yX8_firstDay ∈ TBL := tb3 117 (by decide +kernel) rfl
theorem q3_118 : Cond.code yX8_firstDay cX8_firstDay 9 (some .int) ∈ TBL := tb3 118 (by decide +kernel) rfl
theorem q3_119 : Cond.methodLink RX8 241 yX4_townsPressing ∈ TBL := tb3 119 (by decide +kernel) rfl
theorem q3_120 : Cond.instanceMethod yX4_townsPressing ∈ TBL := tb3 120 (by decide +kernel) rfl
theorem q3_121 : Cond.selects RX4 yX4_townsPressing yX4_townsPressing ∈ TBL := tb3 121 (by decide +kernel) rfl
theorem q3_122 : Cond.code yX4_townsPressing cX4_townsPressing 6 (some .int) ∈ TBL := tb3 122 (by decide +kernel) rfl
theorem q3_123 : Cond.methodLink RX4 113 yX4_forbidsOneOf ∈ TBL := tb3 123 (by decide +kernel) rfl
theorem q3_125 : Cond.instanceMethod yX4_forbidsOneOf ∈ TBL := tb3 125 (by decide +kernel) rfl
theorem q3_126 : Cond.code yX4_forbidsOneOf cX4_forbidsOneOf 8 (some .boolean) ∈ TBL := tb3 126 (by decide +kernel) rfl
theorem q3_127 : Cond.methodLink RX8 197 yX8_whoGivesIn ∈ TBL := tb3 127 (by decide +kernel) rfl
theorem q3_129 : Cond.instanceMethod yX8_whoGivesIn ∈ TBL := tb3 129 (by decide +kernel) rfl
theorem q3_130 : Cond.code yX8_whoGivesIn cX8_whoGivesIn 9 (some .int) ∈ TBL := tb3 130 (by decide +kernel) rfl
theorem q3_131 : Cond.methodLink RL 88 yX8_concede ∈ TBL := tb3 131 (by decide +kernel) rfl
theorem q3_132 : Cond.instanceMethod yX8_concede ∈ TBL := tb3 132 (by decide +kernel) rfl
theorem q3_133 : Cond.selects RX8 yX8_concede yX8_concede ∈ TBL := tb3 133 (by decide +kernel) rfl
theorem q3_134 : Cond.code yX8_concede cX8_concede 5 (some .int) ∈ TBL := tb3 134 (by decide +kernel) rfl
theorem q3_135 : Cond.methodLink RL 92 yX8_presses ∈ TBL := tb3 135 (by decide +kernel) rfl
theorem q3_136 : Cond.instanceMethod yX8_presses ∈ TBL := tb3 136 (by decide +kernel) rfl
theorem q3_137 : Cond.selects RX8 yX8_presses yX8_presses ∈ TBL := tb3 137 (by decide +kernel) rfl
theorem q3_138 : Cond.code yX8_presses cX8_presses 7 (some .int) ∈ TBL := tb3 138 (by decide +kernel) rfl
theorem q3_139 : Cond.methodLink RX8 200 yX4_daysPressed ∈ TBL := tb3 139 (by decide +kernel) rfl
theorem q3_140 : Cond.instanceMethod yX4_daysPressed ∈ TBL := tb3 140 (by decide +kernel) rfl
theorem q3_141 : Cond.selects RX4 yX4_daysPressed yX4_daysPressed ∈ TBL := tb3 141 (by decide +kernel) rfl
theorem q3_142 : Cond.code yX4_daysPressed cX4_daysPressed 5 (some .int) ∈ TBL := tb3 142 (by decide +kernel) rfl
theorem q3_143 : Cond.methodLink RL 96 yX8_leave ∈ TBL := tb3 143 (by decide +kernel) rfl
theorem q3_144 : Cond.instanceMethod yX8_leave ∈ TBL := tb3 144 (by decide +kernel) rfl
theorem q3_145 : Cond.selects RX8 yX8_leave yX8_leave ∈ TBL := tb3 145 (by decide +kernel) rfl
theorem q3_146 : Cond.code yX8_leave cX8_leave 6 (some .int) ∈ TBL := tb3 146 (by decide +kernel) rfl
theorem q3_147 : Cond.methodLink RX8 206 yX4_addLeave ∈ TBL := tb3 147 (by decide +kernel) rfl
theorem q3_148 : Cond.instanceMethod yX4_addLeave ∈ TBL := tb3 148 (by decide +kernel) rfl
theorem q3_149 : Cond.selects RX4 yX4_addLeave yX4_addLeave ∈ TBL := tb3 149 (by decide +kernel) rfl
theorem q3_150 : Cond.code yX4_addLeave cX4_addLeave 7 none ∈ TBL := tb3 150 (by decide +kernel) rfl
theorem q3_151 : Cond.methodLink RL 100 yX8_burn ∈ TBL := tb3 151 (by decide +kernel) rfl
theorem q3_152 : Cond.instanceMethod yX8_burn ∈ TBL := tb3 152 (by decide +kernel) rfl
theorem q3_153 : Cond.selects RX8 yX8_burn yX8_burn ∈ TBL := tb3 153 (by decide +kernel) rfl
theorem q3_154 : Cond.code yX8_burn cX8_burn 2 (some .int) ∈ TBL := tb3 154 (by decide +kernel) rfl
theorem q3_155 : Cond.methodLink RL 104 yX8_forged ∈ TBL := tb3 155 (by decide +kernel) rfl
theorem q3_156 : Cond.instanceMethod yX8_forged ∈ TBL := tb3 156 (by decide +kernel) rfl
theorem q3_157 : Cond.selects RX8 yX8_forged yX8_forged ∈ TBL := tb3 157 (by decide +kernel) rfl
theorem q3_158 : Cond.code yX8_forged cX8_forged 3 (some .int) ∈ TBL := tb3 158 (by decide +kernel) rfl
theorem q3_159 : Cond.methodLink RX8 210 yX4_isForged ∈ TBL := tb3 159 (by decide +kernel) rfl
theorem q3_160 : Cond.instanceMethod yX4_isForged ∈ TBL := tb3 160 (by decide +kernel) rfl
theorem q3_161 : Cond.selects RX4 yX4_isForged yX4_isForged ∈ TBL := tb3 161 (by decide +kernel) rfl
theorem q3_162 : Cond.code yX4_isForged cX4_isForged 4 (some .boolean) ∈ TBL := tb3 162 (by decide +kernel) rfl
theorem q3_163 : Cond.methodLinkNest RX4 66 yX8_asker RX8 ∈ lw_tbl := tl3 163 (by decide +kernel)
theorem q3_164 : Cond.methodLink RL 108 yX8_whose ∈ TBL := tb3 164 (by decide +kernel) rfl
theorem q3_165 : Cond.instanceMethod yX8_whose ∈ TBL := tb3 165 (by decide +kernel) rfl
theorem q3_166 : Cond.selects RX8 yX8_whose yX8_whose ∈ TBL := tb3 166 (by decide +kernel) rfl
theorem q3_167 : Cond.code yX8_whose cX8_whose 10 (some .int) ∈ TBL := tb3 167 (by decide +kernel) rfl
theorem q3_168 : Cond.methodLink RL 112 yX8_odds ∈ TBL := tb3 168 (by decide +kernel) rfl
theorem q3_169 : Cond.instanceMethod yX8_odds ∈ TBL := tb3 169 (by decide +kernel) rfl
theorem q3_170 : Cond.selects RX8 yX8_odds yX8_odds ∈ TBL := tb3 170 (by decide +kernel) rfl
theorem q3_171 : Cond.code yX8_odds cX8_odds 11 (some .int) ∈ TBL := tb3 171 (by decide +kernel) rfl
theorem q3_172 : Cond.methodLink RX8 213 yX8_commonDivisor ∈ TBL := tb3 172 (by decide +kernel) rfl
theorem q3_173 : Cond.static yX8_commonDivisor ∈ TBL := tb3 173 (by decide +kernel) rfl
theorem q3_174 : Cond.code yX8_commonDivisor cX8_commonDivisor 6 (some .int) ∈ TBL := tb3 174 (by decide +kernel) rfl
theorem q3_175 : Cond.methodLink RL 116 yX8_drawn ∈ TBL := tb3 175 (by decide +kernel) rfl
theorem q3_176 : Cond.instanceMethod yX8_drawn ∈ TBL := tb3 176 (by decide +kernel) rfl
theorem q3_177 : Cond.selects RX8 yX8_drawn yX8_drawn ∈ TBL := tb3 177 (by decide +kernel) rfl
theorem q3_178 : Cond.code yX8_drawn cX8_drawn 11 (some .int) ∈ TBL := tb3 178 (by decide +kernel) rfl
theorem q3_179 : Cond.constant RX8 216 (999999) ∈ TBL := tb3 179 (by decide +kernel) rfl
theorem q3_180 : Cond.methodLink RX8 217 yX8_nextDrawn ∈ TBL := tb3 180 (by decide +kernel) rfl
theorem q3_181 : Cond.static yX8_nextDrawn ∈ TBL := tb3 181 (by decide +kernel) rfl
theorem q3_182 : Cond.code yX8_nextDrawn cX8_nextDrawn 2 (some .long) ∈ TBL := tb3 182 (by decide +kernel) rfl
theorem q3_183 : Cond.constantLong RX8 245 (1103515245) ∈ TBL := tb3 183 (by decide +kernel) rfl
theorem q3_184 : Cond.constantLong RX8 247 (12345) ∈ TBL := tb3 184 (by decide +kernel) rfl
theorem q3_185 : Cond.constantLong RX8 249 (2147483648) ∈ TBL := tb3 185 (by decide +kernel) rfl
theorem q3_186 : Cond.methodLink RX8 221 yX8_leftOver ∈ TBL := tb3 186 (by decide +kernel) rfl
theorem q3_187 : Cond.static yX8_leftOver ∈ TBL := tb3 187 (by decide +kernel) rfl
theorem q3_188 : Cond.code yX8_leftOver cX8_leftOver 3 (some .int) ∈ TBL := tb3 188 (by decide +kernel) rfl
theorem q3_189 : Cond.constantLong RX8 251 (65536) ∈ TBL := tb3 189 (by decide +kernel) rfl
theorem q3_190 : Cond.methodLink RL 120 yX8_part ∈ TBL := tb3 190 (by decide +kernel) rfl
theorem q3_191 : Cond.instanceMethod yX8_part ∈ TBL := tb3 191 (by decide +kernel) rfl
theorem q3_192 : Cond.selects RX8 yX8_part yX8_part ∈ TBL := tb3 192 (by decide +kernel) rfl
theorem q3_193 : Cond.code yX8_part cX8_part 2 (some .long) ∈ TBL := tb3 193 (by decide +kernel) rfl
theorem q3_194 : Cond.methodLink RL 125 yX8_image ∈ TBL := tb3 194 (by decide +kernel) rfl
theorem q3_195 : Cond.instanceMethod yX8_image ∈ TBL := tb3 195 (by decide +kernel) rfl
theorem q3_196 : Cond.selects RX8 yX8_image yX8_image ∈ TBL := tb3 196 (by decide +kernel) rfl
theorem q3_197 : Cond.code yX8_image cX8_image 3 (some .int) ∈ TBL := tb3 197 (by decide +kernel) rfl
theorem q3_198 : Cond.methodLink RX8 225 yX4_becomeLike ∈ TBL := tb3 198 (by decide +kernel) rfl
theorem q3_199 : Cond.instanceMethod yX4_becomeLike ∈ TBL := tb3 199 (by decide +kernel) rfl
theorem q3_200 : Cond.selects RX4 yX4_becomeLike yX4_becomeLike ∈ TBL := tb3 200 (by decide +kernel) rfl
theorem q3_201 : Cond.code yX4_becomeLike cX4_becomeLike 2 none ∈ TBL := tb3 201 (by decide +kernel) rfl
theorem q3_202 : Cond.methodLink RL 129 yX8_from ∈ TBL := tb3 202 (by decide +kernel) rfl
theorem q3_203 : Cond.instanceMethod yX8_from ∈ TBL := tb3 203 (by decide +kernel) rfl
theorem q3_204 : Cond.selects RX8 yX8_from yX8_from ∈ TBL := tb3 204 (by decide +kernel) rfl
theorem q3_205 : Cond.code yX8_from cX8_from 3 (some .int) ∈ TBL := tb3 205 (by decide +kernel) rfl
theorem q3_206 : Cond.methodLink RL 133 yX8_status ∈ TBL := tb3 206 (by decide +kernel) rfl
theorem q3_207 : Cond.instanceMethod yX8_status ∈ TBL := tb3 207 (by decide +kernel) rfl
theorem q3_208 : Cond.selects RX8 yX8_status yX8_status ∈ TBL := tb3 208 (by decide +kernel) rfl
theorem q3_209 : Cond.code yX8_status cX8_status 2 (some .int) ∈ TBL := tb3 209 (by decide +kernel) rfl
theorem q3_210 : Cond.methodLink RL 137 yX8_count ∈ TBL := tb3 210 (by decide +kernel) rfl
theorem q3_211 : Cond.instanceMethod yX8_count ∈ TBL := tb3 211 (by decide +kernel) rfl
theorem q3_212 : Cond.selects RX8 yX8_count yX8_count ∈ TBL := tb3 212 (by decide +kernel) rfl
theorem q3_213 : Cond.code yX8_count cX8_count 2 (some .int) ∈ TBL := tb3 213 (by decide +kernel) rfl
theorem q3_214 : Cond.methodLink RX8 229 yX4_roadsBuilt ∈ TBL := tb3 214 (by decide +kernel) rfl
theorem q3_215 : Cond.instanceMethod yX4_roadsBuilt ∈ TBL := tb3 215 (by decide +kernel) rfl
theorem q3_216 : Cond.selects RX4 yX4_roadsBuilt yX4_roadsBuilt ∈ TBL := tb3 216 (by decide +kernel) rfl
theorem q3_217 : Cond.code yX4_roadsBuilt cX4_roadsBuilt 4 (some .int) ∈ TBL := tb3 217 (by decide +kernel) rfl
theorem q3_218 : Cond.methodLink RL 141 yX8_digest ∈ TBL := tb3 218 (by decide +kernel) rfl
theorem q3_219 : Cond.instanceMethod yX8_digest ∈ TBL := tb3 219 (by decide +kernel) rfl
theorem q3_220 : Cond.selects RX8 yX8_digest yX8_digest ∈ TBL := tb3 220 (by decide +kernel) rfl
theorem q3_221 : Cond.code yX8_digest cX8_digest 3 (some .long) ∈ TBL := tb3 221 (by decide +kernel) rfl
theorem q3_222 : Cond.constantLong RX8 232 (947) ∈ TBL := tb3 222 (by decide +kernel) rfl
theorem q3_223 : Cond.methodLink RX8 234 yX8_mixed ∈ TBL := tb3 223 (by decide +kernel) rfl
theorem q3_224 : Cond.static yX8_mixed ∈ TBL := tb3 224 (by decide +kernel) rfl
theorem q3_225 : Cond.code yX8_mixed cX8_mixed 4 (some .long) ∈ TBL := tb3 225 (by decide +kernel) rfl
theorem q3_226 : Cond.constantLong RX8 253 (31) ∈ TBL := tb3 226 (by decide +kernel) rfl
theorem q3_227 : Cond.methodLink RX8 238 yX4_mixedIn ∈ TBL := tb3 227 (by decide +kernel) rfl
theorem q3_228 : Cond.instanceMethod yX4_mixedIn ∈ TBL := tb3 228 (by decide +kernel) rfl
theorem q3_229 : Cond.selects RX4 yX4_mixedIn yX4_mixedIn ∈ TBL := tb3 229 (by decide +kernel) rfl
theorem q3_230 : Cond.code yX4_mixedIn cX4_mixedIn 7 (some .long) ∈ TBL := tb3 230 (by decide +kernel) rfl
theorem q3_231 : Cond.methodLinkNest RX4 119 yX8_mixed RX8 ∈ lw_tbl := tl3 231 (by decide +kernel)
theorem q3_232 : Cond.methodLink RX4 123 yX4_mixedClause ∈ TBL := tb3 232 (by decide +kernel) rfl
theorem q3_233 : Cond.static yX4_mixedClause ∈ TBL := tb3 233 (by decide +kernel) rfl
theorem q3_234 : Cond.code yX4_mixedClause cX4_mixedClause 5 (some .long) ∈ TBL := tb3 234 (by decide +kernel) rfl
theorem q3_235 : Cond.classLink RL 10 RX9 ∈ TBL := tb3 235 (by decide +kernel) rfl
theorem q3_236 : Cond.instantiable RX9 23 ∈ TBL := tb3 236 (by decide +kernel) rfl
theorem q3_237 : Cond.methodLink RL 12 yX9_init ∈ TBL := tb3 237 (by decide +kernel) rfl
theorem q3_238 : Cond.instanceMethod yX9_init ∈ TBL := tb3 238 (by decide +kernel) rfl
theorem q3_239 : Cond.code yX9_init cX9_init 1 none ∈ TBL := tb3 239 (by decide +kernel) rfl
theorem q4_0 : Cond.methodLink RX9 1 objectInit ∈ TBL := tb4 0 (by decide +kernel) rfl
theorem q4_1 : Cond.fieldLink RX9 7 "BanLandModel" "now" "[I" ∈ TBL := tb4 1 (by decide +kernel) rfl
theorem q4_2 : Cond.fieldLink RX9 13 "BanLandModel" "kept" "[I" ∈ TBL := tb4 2 (by decide +kernel) rfl
theorem q4_3 : Cond.fieldLink RX9 16 "BanLandModel" "isKept" "[Z" ∈ TBL := tb4 3 (by decide +kernel) rfl
theorem q4_4 : Cond.fieldLink RX9 20 "BanLandModel" "refused" "[I" ∈ TBL := tb4 4 (by decide +kernel) rfl
theorem q4_5 : Cond.fieldLink RX9 192 "BanLandModel" "above" "J" ∈ TBL := tb4 5 (by decide +kernel) rfl
theorem q4_6 : Cond.fieldLink RX9 23 "BanLandModel" "below" "J" ∈ TBL := tb4 6 (by decide +kernel) rfl
theorem q4_7 : Cond.fieldLink RX9 113 "BanLandModel" "firstOf" "I" ∈ TBL := tb4 7 (by decide +kernel) rfl
theorem q4_8 : Cond.fieldLink RX9 117 "BanLandModel" "lastOf" "I" ∈ TBL := tb4 8 (by decide +kernel) rfl
theorem q4_9 : Cond.fieldLink RX9 120 "BanLandModel" "firstAllows" "I" ∈ TBL := tb4 9 (by decide +kernel) rfl
theorem q4_10 : Cond.fieldLink RX9 123 "BanLandModel" "firstForbids" "I" ∈ TBL := tb4 10 (by decide +kernel) rfl
theorem q4_11 : Cond.fieldLink RX9 126 "BanLandModel" "manyAllow" "I" ∈ TBL := tb4 11 (by decide +kernel) rfl
theorem q4_12 : Cond.fieldLink RX9 129 "BanLandModel" "manyForbid" "I" ∈ TBL := tb4 12 (by decide +kernel) rfl
theorem q4_13 : Cond.fieldLink RX9 27 "BanLandModel" "farOf" "[I" ∈ TBL := tb4 13 (by decide +kernel) rfl
theorem q4_14 : Cond.fieldLink RX9 178 "BanLandModel" "whoGives" "I" ∈ TBL := tb4 14 (by decide +kernel) rfl
theorem q4_15 : Cond.fieldLink RX9 199 "BanLandModel" "x" "J" ∈ TBL := tb4 15 (by decide +kernel) rfl
theorem q4_16 : Cond.fieldLink RX9 30 "BanLandModel" "bytes" "[I" ∈ TBL := tb4 16 (by decide +kernel) rfl
theorem q4_17 : Cond.fieldLink RX9 217 "BanLandModel" "bytesLong" "I" ∈ TBL := tb4 17 (by decide +kernel) rfl
theorem q4_18 : Cond.fieldLink RX9 228 "BanLandModel" "tokenAt" "I" ∈ TBL := tb4 18 (by decide +kernel) rfl
theorem q4_19 : Cond.fieldLink RX9 231 "BanLandModel" "tokenLong" "I" ∈ TBL := tb4 19 (by decide +kernel) rfl
theorem q4_20 : Cond.fieldLink RX9 234 "BanLandModel" "token" "I" ∈ TBL := tb4 20 (by decide +kernel) rfl
theorem q4_21 : Cond.fieldLink RX9 237 "BanLandModel" "value" "I" ∈ TBL := tb4 21 (by decide +kernel) rfl
theorem q4_22 : Cond.fieldLink RX9 33 "BanLandModel" "next" "[I" ∈ TBL := tb4 22 (by decide +kernel) rfl
theorem q4_23 : Cond.fieldLink RX9 36 "BanLandModel" "values" "[I" ∈ TBL := tb4 23 (by decide +kernel) rfl
theorem q4_24 : Cond.laysFinal RX9 "BanLandModel" "now" "[I" ∈ TBL := tb4 24 (by decide +kernel) rfl
theorem q4_26 : Cond.laysFinal RX9 "BanLandModel" "kept" "[I" ∈ TBL := tb4 26 (by decide +kernel) rfl
theorem q4_28 : Cond.laysFinal RX9 "BanLandModel" "isKept" "[Z" ∈ TBL := tb4 28 (by decide +kernel) rfl
theorem q4_30 : Cond.laysFinal RX9 "BanLandModel" "refused" "[I" ∈ TBL := tb4 30 (by decide +kernel) rfl
theorem q4_32 : Cond.lays RX9 "BanLandModel" "above" "J" ∈ TBL := tb4 32 (by decide +kernel) rfl
theorem q4_34 : Cond.lays RX9 "BanLandModel" "below" "J" ∈ TBL := tb4 34 (by decide +kernel) rfl
theorem q4_36 : Cond.lays RX9 "BanLandModel" "firstOf" "I" ∈ TBL := tb4 36 (by decide +kernel) rfl
theorem q4_38 : Cond.lays RX9 "BanLandModel" "lastOf" "I" ∈ TBL := tb4 38 (by decide +kernel) rfl
theorem q4_40 : Cond.lays RX9 "BanLandModel" "firstAllows" "I" ∈ TBL := tb4 40 (by decide +kernel) rfl
theorem q4_42 : Cond.lays RX9 "BanLandModel" "firstForbids" "I" ∈ TBL := tb4 42 (by decide +kernel) rfl
theorem q4_44 : Cond.lays RX9 "BanLandModel" "manyAllow" "I" ∈ TBL := tb4 44 (by decide +kernel) rfl
theorem q4_46 : Cond.lays RX9 "BanLandModel" "manyForbid" "I" ∈ TBL := tb4 46 (by decide +kernel) rfl
theorem q4_48 : Cond.laysFinal RX9 "BanLandModel" "farOf" "[I" ∈ TBL := tb4 48 (by decide +kernel) rfl
theorem q4_50 : Cond.lays RX9 "BanLandModel" "whoGives" "I" ∈ TBL := tb4 50 (by decide +kernel) rfl
theorem q4_52 : Cond.lays RX9 "BanLandModel" "x" "J" ∈ TBL := tb4 52 (by decide +kernel) rfl
theorem q4_54 : Cond.laysFinal RX9 "BanLandModel" "bytes" "[I" ∈ TBL := tb4 54 (by decide +kernel) rfl
theorem q4_56 : Cond.lays RX9 "BanLandModel" "bytesLong" "I" ∈ TBL := tb4 56 (by decide +kernel) rfl
theorem q4_58 : Cond.lays RX9 "BanLandModel" "tokenAt" "I" ∈ TBL := tb4 58 (by decide +kernel) rfl
theorem q4_60 : Cond.lays RX9 "BanLandModel" "tokenLong" "I" ∈ TBL := tb4 60 (by decide +kernel) rfl
theorem q4_62 : Cond.lays RX9 "BanLandModel" "token" "I" ∈ TBL := tb4 62 (by decide +kernel) rfl
theorem q4_64 : Cond.lays RX9 "BanLandModel" "value" "I" ∈ TBL := tb4 64 (by decide +kernel) rfl
theorem q4_66 : Cond.laysFinal RX9 "BanLandModel" "next" "[I" ∈ TBL := tb4 66 (by decide +kernel) rfl
theorem q4_68 : Cond.laysFinal RX9 "BanLandModel" "values" "[I" ∈ TBL := tb4 68 (by decide +kernel) rfl
theorem q4_71 : Cond.arrayClass .boolean ∈ TBL := tb4 71 (by decide +kernel) rfl
theorem q4_72 : Cond.methodLink RL 17 yX9_land ∈ TBL := tb4 72 (by decide +kernel) rfl
theorem q4_73 : Cond.instanceMethod yX9_land ∈ TBL := tb4 73 (by decide +kernel) rfl
theorem q4_74 : Cond.selects RX9 yX9_land yX9_land ∈ TBL := tb4 74 (by decide +kernel) rfl
theorem q4_75 : Cond.code yX9_land cX9_land 2 (some .int) ∈ TBL := tb4 75 (by decide +kernel) rfl
theorem q4_76 : Cond.methodLink RX9 39 yX9_towns ∈ TBL := tb4 76 (by decide +kernel) rfl
theorem q4_78 : Cond.instanceMethod yX9_towns ∈ TBL := tb4 78 (by decide +kernel) rfl
theorem q4_79 : Cond.code yX9_towns cX9_towns 1 (some .int) ∈ TBL := tb4 79 (by decide +kernel) rfl
theorem q4_80 : Cond.methodLink RX9 56 yX9_begin ∈ TBL := tb4 80 (by decide +kernel) rfl
theorem q4_81 : Cond.static yX9_begin ∈ TBL := tb4 81 (by decide +kernel) rfl
theorem q4_82 : Cond.code yX9_begin cX9_begin 2 none ∈ TBL := tb4 82 (by decide +kernel) rfl
theorem q4_83 : Cond.methodLink RL 22 yX9_town ∈ TBL := tb4 83 (by decide +kernel) rfl
theorem q4_84 : Cond.instanceMethod yX9_town ∈ TBL := tb4 84 (by decide +kernel) rfl
theorem q4_85 : Cond.selects RX9 yX9_town yX9_town ∈ TBL := tb4 85 (by decide +kernel) rfl
theorem q4_86 : Cond.code yX9_town cX9_town 2 (some .int) ∈ TBL := tb4 86 (by decide +kernel) rfl
theorem q4_87 : Cond.constantLong RX9 60 (3) ∈ TBL := tb4 87 (by decide +kernel) rfl
theorem q4_88 : Cond.methodLink RX9 43 yX9_in ∈ TBL := tb4 88 (by decide +kernel) rfl
theorem q4_89 : Cond.static yX9_in ∈ TBL := tb4 89 (by decide +kernel) rfl
theorem q4_90 : Cond.code yX9_in cX9_in 6 (some .boolean) ∈ TBL := tb4 90 (by decide +kernel) rfl
theorem q4_91 : Cond.methodLink RX9 62 yX9_bad ∈ TBL := tb4 91 (by decide +kernel) rfl
theorem q4_93 : Cond.instanceMethod yX9_bad ∈ TBL := tb4 93 (by decide +kernel) rfl
theorem q4_94 : Cond.code yX9_bad cX9_bad 2 (some .int) ∈ TBL := tb4 94 (by decide +kernel) rfl
theorem q4_95 : Cond.methodLink RX9 66 yX9_full ∈ TBL := tb4 95 (by decide +kernel) rfl
theorem q4_97 : Cond.instanceMethod yX9_full ∈ TBL := tb4 97 (by decide +kernel) rfl
theorem q4_98 : Cond.code yX9_full cX9_full 1 (some .int) ∈ TBL := tb4 98 (by decide +kernel) rfl
theorem q4_99 : Cond.methodLink RX9 69 yX9_layTown ∈ TBL := tb4 99 (by decide +kernel) rfl
theorem q4_100 : Cond.static yX9_layTown ∈ TBL := tb4 100 (by decide +kernel) rfl
theorem q4_101 : Cond.code yX9_layTown cX9_layTown 2 none ∈ TBL := tb4 101 (by decide +kernel) rfl
theorem q4_102 : Cond.methodLink RL 27 yX9_road ∈ TBL := tb4 102 (by decide +kernel) rfl
theorem q4_103 : Cond.instanceMethod yX9_road ∈ TBL := tb4 103 (by decide +kernel) rfl
theorem q4_104 : Cond.selects RX9 yX9_road yX9_road ∈ TBL := tb4 104 (by decide +kernel) rfl
theorem q4_105 : Cond.code yX9_road cX9_road 5 (some .int) ∈ TBL := tb4 105 (by decide +kernel) rfl
theorem q4_106 : Cond.methodLink RX9 73 yX9_isTown ∈ TBL := tb4 106 (by decide +kernel) rfl
theorem q4_108 : Cond.instanceMethod yX9_isTown ∈ TBL := tb4 108 (by decide +kernel) rfl
theorem q4_109 : Cond.code yX9_isTown cX9_isTown 2 (some .boolean) ∈ TBL := tb4 109 (by decide +kernel) rfl
theorem q4_110 : Cond.constantLong RX9 77 (9) ∈ TBL := tb4 110 (by decide +kernel) rfl
theorem q4_111 : Cond.methodLink RX9 79 yX9_layRoad ∈ TBL := tb4 111 (by decide +kernel) rfl
theorem q4_112 : Cond.static yX9_layRoad ∈ TBL := tb4 112 (by decide +kernel) rfl
theorem q4_113 : Cond.code yX9_layRoad cX9_layRoad 4 none ∈ TBL := tb4 113 (by decide +kernel) rfl
theorem q4_114 : Cond.methodLink RL 32 yX9_clause ∈ TBL := tb4 114 (by decide +kernel) rfl
theorem q4_115 : Cond.instanceMethod yX9_clause ∈ TBL := tb4 115 (by decide +kernel) rfl
theorem q4_116 : Cond.selects RX9 yX9_clause yX9_clause ∈ TBL := tb4 116 (by decide +kernel) rfl
theorem q4_117 : Cond.code yX9_clause cX9_clause 6 (some .int) ∈ TBL := tb4 117 (by decide +kernel) rfl
theorem q4_118 : Cond.constantLong RX9 50 (5) ∈ TBL := tb4 118 (by decide +kernel) rfl
theorem q4_119 : Cond.methodLink RX9 83 yX9_isAct ∈ TBL := tb4 119 (by decide +kernel) rfl
theorem q4_120 : Cond.static yX9_isAct ∈ TBL := tb4 120 (by decide +kernel) rfl
theorem q4_121 : Cond.code yX9_isAct cX9_isAct 1 (some .boolean) ∈ TBL := tb4 121 (by decide +kernel) rfl
theorem q4_122 : Cond.constantLong RX9 86 (60) ∈ TBL := tb4 122 (by decide +kernel) rfl
theorem q4_123 : Cond.methodLink RX9 47 yX9_clauses ∈ TBL := tb4 123 (by decide +kernel) rfl
theorem q4_125 : Cond.instanceMethod yX9_clauses ∈ TBL := tb4 125 (by decide +kernel) rfl
theorem q4_126 : Cond.code yX9_clauses cX9_clauses 1 (some .int) ∈ TBL := tb4 126 (by decide +kernel) rfl
theorem q4_127 : Cond.methodLink RX9 88 yX9_keep ∈ TBL := tb4 127 (by decide +kernel) rfl
theorem q4_129 : Cond.instanceMethod yX9_keep ∈ TBL := tb4 129 (by decide +kernel) rfl
theorem q4_130 : Cond.code yX9_keep cX9_keep 3 none ∈ TBL := tb4 130 (by decide +kernel) rfl
theorem q4_131 : Cond.methodLink RX9 91 yX9_layClause ∈ TBL := tb4 131 (by decide +kernel) rfl
theorem q4_132 : Cond.static yX9_layClause ∈ TBL := tb4 132 (by decide +kernel) rfl
theorem q4_133 : Cond.code yX9_layClause cX9_layClause 7 none ∈ TBL := tb4 133 (by decide +kernel) rfl
theorem q4_134 : Cond.methodLink RL 36 yX9_strike ∈ TBL := tb4 134 (by decide +kernel) rfl
theorem q4_135 : Cond.instanceMethod yX9_strike ∈ TBL := tb4 135 (by decide +kernel) rfl
theorem q4_136 : Cond.selects RX9 yX9_strike yX9_strike ∈ TBL := tb4 136 (by decide +kernel) rfl
theorem q4_137 : Cond.code yX9_strike cX9_strike 3 (some .int) ∈ TBL := tb4 137 (by decide +kernel) rfl
theorem q4_138 : Cond.methodLink RX9 95 yX9_isClause ∈ TBL := tb4 138 (by decide +kernel) rfl
theorem q4_140 : Cond.instanceMethod yX9_isClause ∈ TBL := tb4 140 (by decide +kernel) rfl
theorem q4_141 : Cond.code yX9_isClause cX9_isClause 2 (some .boolean) ∈ TBL := tb4 141 (by decide +kernel) rfl
theorem q4_142 : Cond.methodLink RL 40 yX9_undo ∈ TBL := tb4 142 (by decide +kernel) rfl
theorem q4_143 : Cond.instanceMethod yX9_undo ∈ TBL := tb4 143 (by decide +kernel) rfl
theorem q4_144 : Cond.selects RX9 yX9_undo yX9_undo ∈ TBL := tb4 144 (by decide +kernel) rfl
theorem q4_145 : Cond.code yX9_undo cX9_undo 3 (some .int) ∈ TBL := tb4 145 (by decide +kernel) rfl
theorem q4_146 : Cond.methodLink RX9 98 yX9_no ∈ TBL := tb4 146 (by decide +kernel) rfl
theorem q4_148 : Cond.instanceMethod yX9_no ∈ TBL := tb4 148 (by decide +kernel) rfl
theorem q4_149 : Cond.code yX9_no cX9_no 1 (some .int) ∈ TBL := tb4 149 (by decide +kernel) rfl
theorem q4_150 : Cond.methodLink RL 57 yX9_of ∈ TBL := tb4 150 (by decide +kernel) rfl
theorem q4_151 : Cond.instanceMethod yX9_of ∈ TBL := tb4 151 (by decide +kernel) rfl
theorem q4_152 : Cond.selects RX9 yX9_of yX9_of ∈ TBL := tb4 152 (by decide +kernel) rfl
theorem q4_153 : Cond.code yX9_of cX9_of 3 (some .int) ∈ TBL := tb4 153 (by decide +kernel) rfl
theorem q4_154 : Cond.constantLong RX9 108 (6) ∈ TBL := tb4 154 (by decide +kernel) rfl
theorem q4_155 : Cond.methodLink RX9 101 yX9_has ∈ TBL := tb4 155 (by decide +kernel) rfl
theorem q4_157 : Cond.instanceMethod yX9_has ∈ TBL := tb4 157 (by decide +kernel) rfl
theorem q4_158 : Cond.code yX9_has cX9_has 3 (some .int) ∈ TBL := tb4 158 (by decide +kernel) rfl
theorem q4_159 : Cond.methodLink RX9 110 yX9_allows ∈ TBL := tb4 159 (by decide +kernel) rfl
theorem q4_160 : Cond.static yX9_allows ∈ TBL := tb4 160 (by decide +kernel) rfl
theorem q4_161 : Cond.code yX9_allows cX9_allows 1 (some .boolean) ∈ TBL := tb4 161 (by decide +kernel) rfl
theorem q4_162 : Cond.methodLink RX9 105 yX9_speaksDays ∈ TBL := tb4 162 (by decide +kernel) rfl
theorem q4_164 : Cond.instanceMethod yX9_speaksDays ∈ TBL := tb4 164 (by decide +kernel) rfl
theorem q4_165 : Cond.code yX9_speaksDays cX9_speaksDays 3 (some .int) ∈ TBL := tb4 165 (by decide +kernel) rfl
theorem q4_166 : Cond.methodLink RL 66 yX9_allowed ∈ TBL := tb4 166 (by decide +kernel) rfl
theorem q4_167 : Cond.instanceMethod yX9_allowed ∈ TBL := tb4 167 (by decide +kernel) rfl
theorem q4_168 : Cond.selects RX9 yX9_allowed yX9_allowed ∈ TBL := tb4 168 (by decide +kernel) rfl
theorem q4_169 : Cond.code yX9_allowed cX9_allowed 8 (some .int) ∈ TBL := tb4 169 (by decide +kernel) rfl
theorem q4_170 : Cond.methodLink RX9 147 yX9_isDay ∈ TBL := tb4 170 (by decide +kernel) rfl
theorem q4_171 : Cond.static yX9_isDay ∈ TBL := tb4 171 (by decide +kernel) rfl
theorem q4_172 : Cond.code yX9_isDay cX9_isDay 1 (some .boolean) ∈ TBL := tb4 172 (by decide +kernel) rfl
theorem q4_173 : Cond.constantLong RX9 52 (59) ∈ TBL := tb4 173 (by decide +kernel) rfl
theorem q4_174 : Cond.methodLink RX9 150 yX9_isAsker ∈ TBL := tb4 174 (by decide +kernel) rfl
theorem q4_175 : Cond.static yX9_isAsker ∈ TBL := tb4 175 (by decide +kernel) rfl
theorem q4_176 : Cond.code yX9_isAsker cX9_isAsker 2 (some .boolean) ∈ TBL := tb4 176 (by decide +kernel) rfl
theorem q4_177 : Cond.methodLink RX9 143 yX9_decidesIn ∈ TBL := tb4 177 (by decide +kernel) rfl
theorem q4_179 : Cond.instanceMethod yX9_decidesIn ∈ TBL := tb4 179 (by decide +kernel) rfl
theorem q4_180 : Cond.code yX9_decidesIn cX9_decidesIn 7 (some .int) ∈ TBL := tb4 180 (by decide +kernel) rfl
theorem q4_181 : Cond.methodLink RX9 136 yX9_hear ∈ TBL := tb4 181 (by decide +kernel) rfl
theorem q4_183 : Cond.instanceMethod yX9_hear ∈ TBL := tb4 183 (by decide +kernel) rfl
theorem q4_184 : Cond.code yX9_hear cX9_hear 8 none ∈ TBL := tb4 184 (by decide +kernel) rfl
theorem q4_185 : Cond.methodLink RX9 132 yX9_speaks ∈ TBL := tb4 185 (by decide +kernel) rfl
theorem q4_187 : Cond.instanceMethod yX9_speaks ∈ TBL := tb4 187 (by decide +kernel) rfl
theorem q4_188 : Cond.code yX9_speaks cX9_speaks 11 (some .boolean) ∈ TBL := tb4 188 (by decide +kernel) rfl
theorem q4_189 : Cond.methodLink RX9 140 yX9_decides ∈ TBL := tb4 189 (by decide +kernel) rfl
theorem q4_191 : Cond.instanceMethod yX9_decides ∈ TBL := tb4 191 (by decide +kernel) rfl
theorem q4_192 : Cond.code yX9_decides cX9_decides 2 (some .int) ∈ TBL := tb4 192 (by decide +kernel) rfl
theorem q4_193 : Cond.methodLink RL 61 yX9_far ∈ TBL := tb4 193 (by decide +kernel) rfl
theorem q4_194 : Cond.instanceMethod yX9_far ∈ TBL := tb4 194 (by decide +kernel) rfl
theorem q4_195 : Cond.selects RX9 yX9_far yX9_far ∈ TBL := tb4 195 (by decide +kernel) rfl
theorem q4_196 : Cond.code yX9_far cX9_far 3 (some .int) ∈ TBL := tb4 196 (by decide +kernel) rfl
theorem q4_197 : Cond.methodLink RX9 155 yX9_layFar ∈ TBL := tb4 197 (by decide +kernel) rfl
theorem q4_199 : Cond.instanceMethod yX9_layFar ∈ TBL := tb4 199 (by decide +kernel) rfl
theorem q4_200 : Cond.code yX9_layFar cX9_layFar 6 none ∈ TBL := tb4 200 (by decide +kernel) rfl
theorem q4_201 : Cond.constant RX9 154 (1000000) ∈ TBL := tb4 201 (by decide +kernel) rfl
theorem q4_202 : Cond.methodLink RL 70 yX9_nearest ∈ TBL := tb4 202 (by decide +kernel) rfl
theorem q4_203 : Cond.instanceMethod yX9_nearest ∈ TBL := tb4 203 (by decide +kernel) rfl
theorem q4_204 : Cond.selects RX9 yX9_nearest yX9_nearest ∈ TBL := tb4 204 (by decide +kernel) rfl
theorem q4_205 : Cond.code yX9_nearest cX9_nearest 11 (some .int) ∈ TBL := tb4 205 (by decide +kernel) rfl
theorem q4_206 : Cond.constantLong RX9 159 (2) ∈ TBL := tb4 206 (by decide +kernel) rfl
theorem q4_207 : Cond.methodLink RX9 161 yX9_isAllowed ∈ TBL := tb4 207 (by decide +kernel) rfl
theorem q4_209 : Cond.instanceMethod yX9_isAllowed ∈ TBL := tb4 209 (by decide +kernel) rfl
theorem q4_210 : Cond.code yX9_isAllowed cX9_isAllowed 8 (some .boolean) ∈ TBL := tb4 210 (by decide +kernel) rfl
theorem q4_211 : Cond.methodLink RL 74 yX9_contradict ∈ TBL := tb4 211 (by decide +kernel) rfl
theorem q4_212 : Cond.instanceMethod yX9_contradict ∈ TBL := tb4 212 (by decide +kernel) rfl
theorem q4_213 : Cond.selects RX9 yX9_contradict yX9_contradict ∈ TBL := tb4 213 (by decide +kernel) rfl
theorem q4_214 : Cond.code yX9_contradict cX9_contradict 8 (some .int) ∈ TBL := tb4 214 (by decide +kernel) rfl
theorem q4_215 : Cond.methodLink RL 78 yX9_settle ∈ TBL := tb4 215 (by decide +kernel) rfl
theorem q4_216 : Cond.instanceMethod yX9_settle ∈ TBL := tb4 216 (by decide +kernel) rfl
theorem q4_217 : Cond.selects RX9 yX9_settle yX9_settle ∈ TBL := tb4 217 (by decide +kernel) rfl
theorem q4_218 : Cond.code yX9_settle cX9_settle 6 (some .int) ∈ TBL := tb4 218 (by decide +kernel) rfl
theorem q4_219 : Cond.methodLink RX9 164 yX9_areActs ∈ TBL := tb4 219 (by decide +kernel) rfl
theorem q4_220 : Cond.static yX9_areActs ∈ TBL := tb4 220 (by decide +kernel) rfl
theorem q4_221 : Cond.code yX9_areActs cX9_areActs 1 (some .boolean) ∈ TBL := tb4 221 (by decide +kernel) rfl
theorem q4_222 : Cond.constantLong RX9 54 (63) ∈ TBL := tb4 222 (by decide +kernel) rfl
theorem q4_223 : Cond.methodLink RX9 167 yX9_bits ∈ TBL := tb4 223 (by decide +kernel) rfl
theorem q4_224 : Cond.static yX9_bits ∈ TBL := tb4 224 (by decide +kernel) rfl
theorem q4_225 : Cond.code yX9_bits cX9_bits 3 (some .int) ∈ TBL := tb4 225 (by decide +kernel) rfl
theorem q4_226 : Cond.methodLink RX9 170 yX9_allAgree ∈ TBL := tb4 226 (by decide +kernel) rfl
theorem q4_228 : Cond.instanceMethod yX9_allAgree ∈ TBL := tb4 228 (by decide +kernel) rfl
theorem q4_229 : Cond.code yX9_allAgree cX9_allAgree 7 (some .boolean) ∈ TBL := tb4 229 (by decide +kernel) rfl
theorem q4_230 : Cond.methodLink RL 82 yX9_reads ∈ TBL := tb4 230 (by decide +kernel) rfl
theorem q4_231 : Cond.instanceMethod yX9_reads ∈ TBL := tb4 231 (by decide +kernel) rfl
theorem q4_232 : Cond.selects RX9 yX9_reads yX9_reads ∈ TBL := tb4 232 (by decide +kernel) rfl
theorem q4_233 : Cond.code yX9_reads cX9_reads 9 (some .int) ∈ TBL := tb4 233 (by decide +kernel) rfl
theorem q4_234 : Cond.methodLink RL 87 yX9_patience ∈ TBL := tb4 234 (by decide +kernel) rfl
theorem q4_235 : Cond.instanceMethod yX9_patience ∈ TBL := tb4 235 (by decide +kernel) rfl
theorem q4_236 : Cond.selects RX9 yX9_patience yX9_patience ∈ TBL := tb4 236 (by decide +kernel) rfl
theorem q4_237 : Cond.code yX9_patience cX9_patience 6 (some .int) ∈ TBL := tb4 237 (by decide +kernel) rfl
theorem q4_238 : Cond.constantLong RX9 181 (99) ∈ TBL := tb4 238 (by decide +kernel) rfl
theorem q4_239 : Cond.methodLink RX9 183 yX9_givesIn ∈ TBL := tb4 239 (by decide +kernel) rfl
theorem q5_1 : Cond.instanceMethod yX9_givesIn ∈ TBL := tb5 1 (by decide +kernel) rfl
theorem q5_2 : Cond.code yX9_givesIn cX9_givesIn 10 (some .int) ∈ TBL := tb5 2 (by decide +kernel) rfl
theorem q5_3 : Cond.methodLink RX9 174 yX9_forbidsSome ∈ TBL := tb5 3 (by decide +kernel) rfl
theorem q5_5 : Cond.instanceMethod yX9_forbidsSome ∈ TBL := tb5 5 (by decide +kernel) rfl
theorem q5_6 : Cond.code yX9_forbidsSome cX9_forbidsSome 7 (some .boolean) ∈ TBL := tb5 6 (by decide +kernel) rfl
theorem q5_7 : Cond.methodLink RL 91 yX9_concede ∈ TBL := tb5 7 (by decide +kernel) rfl
theorem q5_8 : Cond.instanceMethod yX9_concede ∈ TBL := tb5 8 (by decide +kernel) rfl
theorem q5_9 : Cond.selects RX9 yX9_concede yX9_concede ∈ TBL := tb5 9 (by decide +kernel) rfl
theorem q5_10 : Cond.code yX9_concede cX9_concede 5 (some .int) ∈ TBL := tb5 10 (by decide +kernel) rfl
theorem q5_11 : Cond.methodLink RX9 187 yX9_orNever ∈ TBL := tb5 11 (by decide +kernel) rfl
theorem q5_12 : Cond.static yX9_orNever ∈ TBL := tb5 12 (by decide +kernel) rfl
theorem q5_13 : Cond.code yX9_orNever cX9_orNever 1 (some .int) ∈ TBL := tb5 13 (by decide +kernel) rfl
theorem q5_14 : Cond.methodLink RL 95 yX9_presses ∈ TBL := tb5 14 (by decide +kernel) rfl
theorem q5_15 : Cond.instanceMethod yX9_presses ∈ TBL := tb5 15 (by decide +kernel) rfl
theorem q5_16 : Cond.selects RX9 yX9_presses yX9_presses ∈ TBL := tb5 16 (by decide +kernel) rfl
theorem q5_17 : Cond.code yX9_presses cX9_presses 8 (some .int) ∈ TBL := tb5 17 (by decide +kernel) rfl
theorem q5_18 : Cond.methodLink RL 99 yX9_leave ∈ TBL := tb5 18 (by decide +kernel) rfl
theorem q5_19 : Cond.instanceMethod yX9_leave ∈ TBL := tb5 19 (by decide +kernel) rfl
theorem q5_20 : Cond.selects RX9 yX9_leave yX9_leave ∈ TBL := tb5 20 (by decide +kernel) rfl
theorem q5_21 : Cond.code yX9_leave cX9_leave 7 (some .int) ∈ TBL := tb5 21 (by decide +kernel) rfl
theorem q5_22 : Cond.methodLink RL 103 yX9_burn ∈ TBL := tb5 22 (by decide +kernel) rfl
theorem q5_23 : Cond.instanceMethod yX9_burn ∈ TBL := tb5 23 (by decide +kernel) rfl
theorem q5_24 : Cond.selects RX9 yX9_burn yX9_burn ∈ TBL := tb5 24 (by decide +kernel) rfl
theorem q5_25 : Cond.code yX9_burn cX9_burn 2 (some .int) ∈ TBL := tb5 25 (by decide +kernel) rfl
theorem q5_26 : Cond.methodLink RL 107 yX9_forged ∈ TBL := tb5 26 (by decide +kernel) rfl
theorem q5_27 : Cond.instanceMethod yX9_forged ∈ TBL := tb5 27 (by decide +kernel) rfl
theorem q5_28 : Cond.selects RX9 yX9_forged yX9_forged ∈ TBL := tb5 28 (by decide +kernel) rfl
theorem q5_29 : Cond.code yX9_forged cX9_forged 4 (some .int) ∈ TBL := tb5 29 (by decide +kernel) rfl
theorem q5_30 : Cond.methodLink RL 111 yX9_whose ∈ TBL := tb5 30 (by decide +kernel) rfl
theorem q5_31 : Cond.instanceMethod yX9_whose ∈ TBL := tb5 31 (by decide +kernel) rfl
theorem q5_32 : Cond.selects RX9 yX9_whose yX9_whose ∈ TBL := tb5 32 (by decide +kernel) rfl
theorem q5_33 : Cond.code yX9_whose cX9_whose 9 (some .int) ∈ TBL := tb5 33 (by decide +kernel) rfl
theorem q5_34 : Cond.constantLong RX9 190 (20) ∈ TBL := tb5 34 (by decide +kernel) rfl
theorem q5_35 : Cond.methodLink RL 115 yX9_odds ∈ TBL := tb5 35 (by decide +kernel) rfl
theorem q5_36 : Cond.instanceMethod yX9_odds ∈ TBL := tb5 36 (by decide +kernel) rfl
theorem q5_37 : Cond.selects RX9 yX9_odds yX9_odds ∈ TBL := tb5 37 (by decide +kernel) rfl
theorem q5_38 : Cond.code yX9_odds cX9_odds 9 (some .int) ∈ TBL := tb5 38 (by decide +kernel) rfl
theorem q5_39 : Cond.methodLink RX9 195 yX9_fraction ∈ TBL := tb5 39 (by decide +kernel) rfl
theorem q5_41 : Cond.instanceMethod yX9_fraction ∈ TBL := tb5 41 (by decide +kernel) rfl
theorem q5_42 : Cond.code yX9_fraction cX9_fraction 6 none ∈ TBL := tb5 42 (by decide +kernel) rfl
theorem q5_43 : Cond.methodLink RL 119 yX9_drawn ∈ TBL := tb5 43 (by decide +kernel) rfl
theorem q5_44 : Cond.instanceMethod yX9_drawn ∈ TBL := tb5 44 (by decide +kernel) rfl
theorem q5_45 : Cond.selects RX9 yX9_drawn yX9_drawn ∈ TBL := tb5 45 (by decide +kernel) rfl
theorem q5_46 : Cond.code yX9_drawn cX9_drawn 9 (some .int) ∈ TBL := tb5 46 (by decide +kernel) rfl
theorem q5_47 : Cond.constantLong RX9 210 (999999) ∈ TBL := tb5 47 (by decide +kernel) rfl
theorem q5_48 : Cond.methodLink RX9 212 yX9_draw ∈ TBL := tb5 48 (by decide +kernel) rfl
theorem q5_50 : Cond.instanceMethod yX9_draw ∈ TBL := tb5 50 (by decide +kernel) rfl
theorem q5_51 : Cond.code yX9_draw cX9_draw 2 (some .int) ∈ TBL := tb5 51 (by decide +kernel) rfl
theorem q5_52 : Cond.constantLong RX9 202 (1103515245) ∈ TBL := tb5 52 (by decide +kernel) rfl
theorem q5_53 : Cond.constantLong RX9 204 (12345) ∈ TBL := tb5 53 (by decide +kernel) rfl
theorem q5_54 : Cond.constantLong RX9 206 (2147483648) ∈ TBL := tb5 54 (by decide +kernel) rfl
theorem q5_55 : Cond.constantLong RX9 208 (65536) ∈ TBL := tb5 55 (by decide +kernel) rfl
theorem q5_56 : Cond.methodLink RL 44 yX9_type ∈ TBL := tb5 56 (by decide +kernel) rfl
theorem q5_57 : Cond.instanceMethod yX9_type ∈ TBL := tb5 57 (by decide +kernel) rfl
theorem q5_58 : Cond.selects RX9 yX9_type yX9_type ∈ TBL := tb5 58 (by decide +kernel) rfl
theorem q5_59 : Cond.code yX9_type cX9_type 2 (some .int) ∈ TBL := tb5 59 (by decide +kernel) rfl
theorem q5_60 : Cond.constantLong RX9 215 (127) ∈ TBL := tb5 60 (by decide +kernel) rfl
theorem q5_61 : Cond.methodLink RL 48 yX9_clear ∈ TBL := tb5 61 (by decide +kernel) rfl
theorem q5_62 : Cond.instanceMethod yX9_clear ∈ TBL := tb5 62 (by decide +kernel) rfl
theorem q5_63 : Cond.selects RX9 yX9_clear yX9_clear ∈ TBL := tb5 63 (by decide +kernel) rfl
theorem q5_64 : Cond.code yX9_clear cX9_clear 2 (some .int) ∈ TBL := tb5 64 (by decide +kernel) rfl
theorem q5_65 : Cond.methodLink RL 52 yX9_read ∈ TBL := tb5 65 (by decide +kernel) rfl
theorem q5_66 : Cond.instanceMethod yX9_read ∈ TBL := tb5 66 (by decide +kernel) rfl
theorem q5_67 : Cond.selects RX9 yX9_read yX9_read ∈ TBL := tb5 67 (by decide +kernel) rfl
theorem q5_68 : Cond.code yX9_read cX9_read 3 (some .int) ∈ TBL := tb5 68 (by decide +kernel) rfl
theorem q5_69 : Cond.methodLink RX9 246 yX9_lookAt ∈ TBL := tb5 69 (by decide +kernel) rfl
theorem q5_71 : Cond.instanceMethod yX9_lookAt ∈ TBL := tb5 71 (by decide +kernel) rfl
theorem q5_72 : Cond.code yX9_lookAt cX9_lookAt 5 none ∈ TBL := tb5 72 (by decide +kernel) rfl
theorem q5_73 : Cond.methodLink RX9 240 yX9_isSmall ∈ TBL := tb5 73 (by decide +kernel) rfl
theorem q5_74 : Cond.static yX9_isSmall ∈ TBL := tb5 74 (by decide +kernel) rfl
theorem q5_75 : Cond.code yX9_isSmall cX9_isSmall 1 (some .boolean) ∈ TBL := tb5 75 (by decide +kernel) rfl
theorem q5_76 : Cond.constantLong RX9 220 (97) ∈ TBL := tb5 76 (by decide +kernel) rfl
theorem q5_77 : Cond.constantLong RX9 222 (122) ∈ TBL := tb5 77 (by decide +kernel) rfl
theorem q5_78 : Cond.methodLink RX9 243 yX9_isFigure ∈ TBL := tb5 78 (by decide +kernel) rfl
theorem q5_79 : Cond.static yX9_isFigure ∈ TBL := tb5 79 (by decide +kernel) rfl
theorem q5_80 : Cond.code yX9_isFigure cX9_isFigure 1 (some .boolean) ∈ TBL := tb5 80 (by decide +kernel) rfl
theorem q5_81 : Cond.constantLong RX9 224 (48) ∈ TBL := tb5 81 (by decide +kernel) rfl
theorem q5_82 : Cond.constantLong RX9 226 (57) ∈ TBL := tb5 82 (by decide +kernel) rfl
theorem q5_83 : Cond.methodLink RX9 255 yX9_isCalled ∈ TBL := tb5 83 (by decide +kernel) rfl
theorem q5_85 : Cond.instanceMethod yX9_isCalled ∈ TBL := tb5 85 (by decide +kernel) rfl
theorem q5_86 : Cond.code yX9_isCalled cX9_isCalled 10 (some .boolean) ∈ TBL := tb5 86 (by decide +kernel) rfl
theorem q5_87 : Cond.methodLink RX9 249 yX9_goOn ∈ TBL := tb5 87 (by decide +kernel) rfl
theorem q5_89 : Cond.instanceMethod yX9_goOn ∈ TBL := tb5 89 (by decide +kernel) rfl
theorem q5_90 : Cond.code yX9_goOn cX9_goOn 1 none ∈ TBL := tb5 90 (by decide +kernel) rfl
theorem q5_91 : Cond.methodLink RX9 269 yX9_readsItem ∈ TBL := tb5 91 (by decide +kernel) rfl
theorem q5_93 : Cond.instanceMethod yX9_readsItem ∈ TBL := tb5 93 (by decide +kernel) rfl
theorem q5_94 : Cond.code yX9_readsItem cX9_readsItem 1 (some .boolean) ∈ TBL := tb5 94 (by decide +kernel) rfl
theorem q5_95 : Cond.methodLink RX9 259 yX9_readsTown ∈ TBL := tb5 95 (by decide +kernel) rfl
theorem q5_97 : Cond.instanceMethod yX9_readsTown ∈ TBL := tb5 97 (by decide +kernel) rfl
theorem q5_98 : Cond.code yX9_readsTown cX9_readsTown 1 (some .boolean) ∈ TBL := tb5 98 (by decide +kernel) rfl
theorem q5_99 : Cond.methodLink RX9 252 yX9_takes ∈ TBL := tb5 99 (by decide +kernel) rfl
theorem q5_101 : Cond.instanceMethod yX9_takes ∈ TBL := tb5 101 (by decide +kernel) rfl
theorem q5_102 : Cond.code yX9_takes cX9_takes 4 (some .boolean) ∈ TBL := tb5 102 (by decide +kernel) rfl
theorem q5_103 : Cond.methodLink RX9 263 yX9_readsRoad ∈ TBL := tb5 103 (by decide +kernel) rfl
theorem q5_105 : Cond.instanceMethod yX9_readsRoad ∈ TBL := tb5 105 (by decide +kernel) rfl
theorem q5_106 : Cond.code yX9_readsRoad cX9_readsRoad 1 (some .boolean) ∈ TBL := tb5 106 (by decide +kernel) rfl
theorem q5_107 : Cond.methodLink RX9 266 yX9_readsClause ∈ TBL := tb5 107 (by decide +kernel) rfl
theorem q5_109 : Cond.instanceMethod yX9_readsClause ∈ TBL := tb5 109 (by decide +kernel) rfl
theorem q5_110 : Cond.code yX9_readsClause cX9_readsClause 1 (some .boolean) ∈ TBL := tb5 110 (by decide +kernel) rfl
theorem q5_111 : Cond.methodLink RL 124 yX9_part ∈ TBL := tb5 111 (by decide +kernel) rfl
theorem q5_112 : Cond.instanceMethod yX9_part ∈ TBL := tb5 112 (by decide +kernel) rfl
theorem q5_113 : Cond.selects RX9 yX9_part yX9_part ∈ TBL := tb5 113 (by decide +kernel) rfl
theorem q5_114 : Cond.code yX9_part cX9_part 2 (some .long) ∈ TBL := tb5 114 (by decide +kernel) rfl
theorem q5_115 : Cond.methodLink RL 128 yX9_image ∈ TBL := tb5 115 (by decide +kernel) rfl
theorem q5_116 : Cond.instanceMethod yX9_image ∈ TBL := tb5 116 (by decide +kernel) rfl
theorem q5_117 : Cond.selects RX9 yX9_image yX9_image ∈ TBL := tb5 117 (by decide +kernel) rfl
theorem q5_118 : Cond.code yX9_image cX9_image 3 (some .int) ∈ TBL := tb5 118 (by decide +kernel) rfl
theorem q5_119 : Cond.methodLink RL 132 yX9_from ∈ TBL := tb5 119 (by decide +kernel) rfl
theorem q5_120 : Cond.instanceMethod yX9_from ∈ TBL := tb5 120 (by decide +kernel) rfl
theorem q5_121 : Cond.selects RX9 yX9_from yX9_from ∈ TBL := tb5 121 (by decide +kernel) rfl
theorem q5_122 : Cond.code yX9_from cX9_from 3 (some .int) ∈ TBL := tb5 122 (by decide +kernel) rfl
theorem q5_123 : Cond.methodLink RL 136 yX9_status ∈ TBL := tb5 123 (by decide +kernel) rfl
theorem q5_124 : Cond.instanceMethod yX9_status ∈ TBL := tb5 124 (by decide +kernel) rfl
theorem q5_125 : Cond.selects RX9 yX9_status yX9_status ∈ TBL := tb5 125 (by decide +kernel) rfl
theorem q5_126 : Cond.code yX9_status cX9_status 2 (some .int) ∈ TBL := tb5 126 (by decide +kernel) rfl
theorem q5_127 : Cond.methodLink RL 140 yX9_count ∈ TBL := tb5 127 (by decide +kernel) rfl
theorem q5_128 : Cond.instanceMethod yX9_count ∈ TBL := tb5 128 (by decide +kernel) rfl
theorem q5_129 : Cond.selects RX9 yX9_count yX9_count ∈ TBL := tb5 129 (by decide +kernel) rfl
theorem q5_130 : Cond.code yX9_count cX9_count 2 (some .int) ∈ TBL := tb5 130 (by decide +kernel) rfl
theorem q5_131 : Cond.methodLink RX9 275 yX9_counted ∈ TBL := tb5 131 (by decide +kernel) rfl
theorem q5_133 : Cond.instanceMethod yX9_counted ∈ TBL := tb5 133 (by decide +kernel) rfl
theorem q5_134 : Cond.code yX9_counted cX9_counted 2 (some .int) ∈ TBL := tb5 134 (by decide +kernel) rfl
theorem q5_135 : Cond.methodLink RX9 272 yX9_roads ∈ TBL := tb5 135 (by decide +kernel) rfl
theorem q5_137 : Cond.instanceMethod yX9_roads ∈ TBL := tb5 137 (by decide +kernel) rfl
theorem q5_138 : Cond.code yX9_roads cX9_roads 4 (some .int) ∈ TBL := tb5 138 (by decide +kernel) rfl
theorem q5_139 : Cond.methodLink RL 145 yX9_digest ∈ TBL := tb5 139 (by decide +kernel) rfl
theorem q5_140 : Cond.instanceMethod yX9_digest ∈ TBL := tb5 140 (by decide +kernel) rfl
theorem q5_141 : Cond.selects RX9 yX9_digest yX9_digest ∈ TBL := tb5 141 (by decide +kernel) rfl
theorem q5_142 : Cond.code yX9_digest cX9_digest 5 (some .long) ∈ TBL := tb5 142 (by decide +kernel) rfl
theorem q5_143 : Cond.constantLong RX9 280 (947) ∈ TBL := tb5 143 (by decide +kernel) rfl
theorem q5_144 : Cond.constantLong RX9 278 (31) ∈ TBL := tb5 144 (by decide +kernel) rfl
theorem q5_145 : Cond.methodLink RX9 282 yX9_sums ∈ TBL := tb5 145 (by decide +kernel) rfl
theorem q5_147 : Cond.instanceMethod yX9_sums ∈ TBL := tb5 147 (by decide +kernel) rfl
theorem q5_148 : Cond.code yX9_sums cX9_sums 8 (some .long) ∈ TBL := tb5 148 (by decide +kernel) rfl
theorem q5_154 : Cond.fieldLink RJ0 9 "java/lang/String" "value" "[B" ∈ TBL := tb5 154 (by decide +kernel) rfl
theorem q5_155 : Cond.fieldLink RJ0 15 "java/lang/String" "coder" "B" ∈ TBL := tb5 155 (by decide +kernel) rfl
theorem qp0 : Cond.selects RX8 yX8_bad yX8_bad ∈ TBL := tbp 0 (by decide +kernel) rfl
theorem qp1 : Cond.selects RX8 yX8_full yX8_full ∈ TBL := tbp 1 (by decide +kernel) rfl
theorem qp2 : Cond.selects RX8 yX8_no yX8_no ∈ TBL := tbp 2 (by decide +kernel) rfl
theorem qp3 : Cond.selects RX6 yX6_advance yX6_advance ∈ TBL := tbp 3 (by decide +kernel) rfl
theorem qp4 : Cond.selects RX6 yX6_isWord yX6_isWord ∈ TBL := tbp 4 (by decide +kernel) rfl
theorem qp5 : Cond.selects RX6 yX6_closes yX6_closes ∈ TBL := tbp 5 (by decide +kernel) rfl
theorem qp6 : Cond.selects RX6 yX6_readsItem yX6_readsItem ∈ TBL := tbp 6 (by decide +kernel) rfl
theorem qp7 : Cond.selects RX6 yX6_readsTown yX6_readsTown ∈ TBL := tbp 7 (by decide +kernel) rfl
theorem qp8 : Cond.selects RX6 yX6_takes yX6_takes ∈ TBL := tbp 8 (by decide +kernel) rfl
theorem qp9 : Cond.selects RX6 yX6_readsRoad yX6_readsRoad ∈ TBL := tbp 9 (by decide +kernel) rfl
theorem qp10 : Cond.selects RX6 yX6_readsClause yX6_readsClause ∈ TBL := tbp 10 (by decide +kernel) rfl
theorem qp11 : Cond.selects RX4 yX4_shortenFrom yX4_shortenFrom ∈ TBL := tbp 11 (by decide +kernel) rfl
theorem qp12 : Cond.selects RX8 yX8_isAsked yX8_isAsked ∈ TBL := tbp 12 (by decide +kernel) rfl
theorem qp13 : Cond.selects RX4 yX4_agreesIn yX4_agreesIn ∈ TBL := tbp 13 (by decide +kernel) rfl
theorem qp14 : Cond.selects RX8 yX8_firstDay yX8_firstDay ∈ TBL := tbp 14 (by decide +kernel) rfl
theorem qp15 : Cond.selects RX4 yX4_forbidsOneOf yX4_forbidsOneOf ∈ TBL := tbp 15 (by decide +kernel) rfl
theorem qp16 : Cond.selects RX8 yX8_whoGivesIn yX8_whoGivesIn ∈ TBL := tbp 16 (by decide +kernel) rfl
theorem qp17 : Cond.selects RX9 yX9_towns yX9_towns ∈ TBL := tbp 17 (by decide +kernel) rfl
theorem qp18 : Cond.selects RX9 yX9_bad yX9_bad ∈ TBL := tbp 18 (by decide +kernel) rfl
theorem qp19 : Cond.selects RX9 yX9_full yX9_full ∈ TBL := tbp 19 (by decide +kernel) rfl
theorem qp20 : Cond.selects RX9 yX9_isTown yX9_isTown ∈ TBL := tbp 20 (by decide +kernel) rfl
theorem qp21 : Cond.selects RX9 yX9_clauses yX9_clauses ∈ TBL := tbp 21 (by decide +kernel) rfl
theorem qp22 : Cond.selects RX9 yX9_keep yX9_keep ∈ TBL := tbp 22 (by decide +kernel) rfl
theorem qp23 : Cond.selects RX9 yX9_isClause yX9_isClause ∈ TBL := tbp 23 (by decide +kernel) rfl
theorem qp24 : Cond.selects RX9 yX9_no yX9_no ∈ TBL := tbp 24 (by decide +kernel) rfl
theorem qp25 : Cond.selects RX9 yX9_has yX9_has ∈ TBL := tbp 25 (by decide +kernel) rfl
theorem qp26 : Cond.selects RX9 yX9_speaksDays yX9_speaksDays ∈ TBL := tbp 26 (by decide +kernel) rfl
theorem qp27 : Cond.selects RX9 yX9_decidesIn yX9_decidesIn ∈ TBL := tbp 27 (by decide +kernel) rfl
theorem qp28 : Cond.selects RX9 yX9_hear yX9_hear ∈ TBL := tbp 28 (by decide +kernel) rfl
theorem qp29 : Cond.selects RX9 yX9_speaks yX9_speaks ∈ TBL := tbp 29 (by decide +kernel) rfl
theorem qp30 : Cond.selects RX9 yX9_decides yX9_decides ∈ TBL := tbp 30 (by decide +kernel) rfl
theorem qp31 : Cond.selects RX9 yX9_layFar yX9_layFar ∈ TBL := tbp 31 (by decide +kernel) rfl
theorem qp32 : Cond.selects RX9 yX9_isAllowed yX9_isAllowed ∈ TBL := tbp 32 (by decide +kernel) rfl
theorem qp33 : Cond.selects RX9 yX9_allAgree yX9_allAgree ∈ TBL := tbp 33 (by decide +kernel) rfl
theorem qp34 : Cond.selects RX9 yX9_givesIn yX9_givesIn ∈ TBL := tbp 34 (by decide +kernel) rfl
theorem qp35 : Cond.selects RX9 yX9_forbidsSome yX9_forbidsSome ∈ TBL := tbp 35 (by decide +kernel) rfl
theorem qp36 : Cond.selects RX9 yX9_fraction yX9_fraction ∈ TBL := tbp 36 (by decide +kernel) rfl
theorem qp37 : Cond.selects RX9 yX9_draw yX9_draw ∈ TBL := tbp 37 (by decide +kernel) rfl
theorem qp38 : Cond.selects RX9 yX9_lookAt yX9_lookAt ∈ TBL := tbp 38 (by decide +kernel) rfl
theorem qp39 : Cond.selects RX9 yX9_isCalled yX9_isCalled ∈ TBL := tbp 39 (by decide +kernel) rfl
theorem qp40 : Cond.selects RX9 yX9_goOn yX9_goOn ∈ TBL := tbp 40 (by decide +kernel) rfl
theorem qp41 : Cond.selects RX9 yX9_readsItem yX9_readsItem ∈ TBL := tbp 41 (by decide +kernel) rfl
theorem qp42 : Cond.selects RX9 yX9_readsTown yX9_readsTown ∈ TBL := tbp 42 (by decide +kernel) rfl
theorem qp43 : Cond.selects RX9 yX9_takes yX9_takes ∈ TBL := tbp 43 (by decide +kernel) rfl
theorem qp44 : Cond.selects RX9 yX9_readsRoad yX9_readsRoad ∈ TBL := tbp 44 (by decide +kernel) rfl
theorem qp45 : Cond.selects RX9 yX9_readsClause yX9_readsClause ∈ TBL := tbp 45 (by decide +kernel) rfl
theorem qp46 : Cond.selects RX9 yX9_counted yX9_counted ∈ TBL := tbp 46 (by decide +kernel) rfl
theorem qp47 : Cond.selects RX9 yX9_roads yX9_roads ∈ TBL := tbp 47 (by decide +kernel) rfl
theorem qp48 : Cond.selects RX9 yX9_sums yX9_sums ∈ TBL := tbp 48 (by decide +kernel) rfl
theorem inX0 : ∀ w ∈ wsX00, w ∈ TBL := List.forall_mem_cons.mpr ⟨q2_23, List.forall_mem_cons.mpr ⟨q2_24, List.forall_mem_cons.mpr ⟨q2_25, List.forall_mem_cons.mpr ⟨q2_26, List.forall_mem_cons.mpr ⟨q2_27, fun _ h => absurd h List.not_mem_nil⟩⟩⟩⟩⟩
theorem inX1 : ∀ w ∈ wsX10, w ∈ TBL := List.forall_mem_cons.mpr ⟨q2_2, List.forall_mem_cons.mpr ⟨q2_3, List.forall_mem_cons.mpr ⟨q2_4, List.forall_mem_cons.mpr ⟨q2_5, List.forall_mem_cons.mpr ⟨q2_6, fun _ h => absurd h List.not_mem_nil⟩⟩⟩⟩⟩
theorem inX2 : ∀ w ∈ wsX20, w ∈ TBL := List.forall_mem_cons.mpr ⟨q1_201, List.forall_mem_cons.mpr ⟨q1_203, List.forall_mem_cons.mpr ⟨q1_205, List.forall_mem_cons.mpr ⟨q1_207, List.forall_mem_cons.mpr ⟨q1_209, fun _ h => absurd h List.not_mem_nil⟩⟩⟩⟩⟩
theorem inX3 : ∀ w ∈ wsX30, w ∈ TBL := List.forall_mem_cons.mpr ⟨q1_230, List.forall_mem_cons.mpr ⟨q1_231, List.forall_mem_cons.mpr ⟨q1_232, List.forall_mem_cons.mpr ⟨q1_233, List.forall_mem_cons.mpr ⟨q1_234, fun _ h => absurd h List.not_mem_nil⟩⟩⟩⟩⟩
theorem inX4 : ∀ w ∈ wsX40, w ∈ TBL := List.forall_mem_cons.mpr ⟨q1_52, List.forall_mem_cons.mpr ⟨q1_54, List.forall_mem_cons.mpr ⟨q1_56, List.forall_mem_cons.mpr ⟨q1_58, List.forall_mem_cons.mpr ⟨q1_60, List.forall_mem_cons.mpr ⟨q1_62, List.forall_mem_cons.mpr ⟨q1_64, List.forall_mem_cons.mpr ⟨q1_66, List.forall_mem_cons.mpr ⟨q1_68, List.forall_mem_cons.mpr ⟨q1_70, List.forall_mem_cons.mpr ⟨q1_72, List.forall_mem_cons.mpr ⟨q1_74, fun _ h => absurd h List.not_mem_nil⟩⟩⟩⟩⟩⟩⟩⟩⟩⟩⟩⟩
theorem inX5 : ∀ w ∈ wsX50, w ∈ TBL := List.forall_mem_cons.mpr ⟨q1_218, List.forall_mem_cons.mpr ⟨q1_219, List.forall_mem_cons.mpr ⟨q1_220, List.forall_mem_cons.mpr ⟨q1_221, List.forall_mem_cons.mpr ⟨q1_222, fun _ h => absurd h List.not_mem_nil⟩⟩⟩⟩⟩
theorem inX6 : ∀ w ∈ wsX60, w ∈ TBL := List.forall_mem_cons.mpr ⟨q2_79, List.forall_mem_cons.mpr ⟨q2_81, List.forall_mem_cons.mpr ⟨q2_83, List.forall_mem_cons.mpr ⟨q2_85, List.forall_mem_cons.mpr ⟨q2_87, List.forall_mem_cons.mpr ⟨q2_89, List.forall_mem_cons.mpr ⟨q2_91, fun _ h => absurd h List.not_mem_nil⟩⟩⟩⟩⟩⟩⟩
theorem inX7 : ∀ w ∈ wsX70, w ∈ TBL := List.forall_mem_cons.mpr ⟨q2_14, List.forall_mem_cons.mpr ⟨q2_15, List.forall_mem_cons.mpr ⟨q2_16, List.forall_mem_cons.mpr ⟨q2_17, List.forall_mem_cons.mpr ⟨q2_18, fun _ h => absurd h List.not_mem_nil⟩⟩⟩⟩⟩
theorem inX8 : ∀ w ∈ wsX80, w ∈ TBL := List.forall_mem_cons.mpr ⟨q1_89, List.forall_mem_cons.mpr ⟨q1_91, List.forall_mem_cons.mpr ⟨q1_93, List.forall_mem_cons.mpr ⟨q1_95, List.forall_mem_cons.mpr ⟨q1_97, List.forall_mem_cons.mpr ⟨q1_99, List.forall_mem_cons.mpr ⟨q1_101, List.forall_mem_cons.mpr ⟨q1_103, List.forall_mem_cons.mpr ⟨q1_105, List.forall_mem_cons.mpr ⟨q1_107, fun _ h => absurd h List.not_mem_nil⟩⟩⟩⟩⟩⟩⟩⟩⟩⟩
theorem inX9 : ∀ w ∈ wsX90, w ∈ TBL := List.forall_mem_cons.mpr ⟨q4_24, List.forall_mem_cons.mpr ⟨q4_26, List.forall_mem_cons.mpr ⟨q4_28, List.forall_mem_cons.mpr ⟨q4_30, List.forall_mem_cons.mpr ⟨q4_32, List.forall_mem_cons.mpr ⟨q4_34, List.forall_mem_cons.mpr ⟨q4_36, List.forall_mem_cons.mpr ⟨q4_38, List.forall_mem_cons.mpr ⟨q4_40, List.forall_mem_cons.mpr ⟨q4_42, List.forall_mem_cons.mpr ⟨q4_44, List.forall_mem_cons.mpr ⟨q4_46, List.forall_mem_cons.mpr ⟨q4_48, List.forall_mem_cons.mpr ⟨q4_50, List.forall_mem_cons.mpr ⟨q4_52, List.forall_mem_cons.mpr ⟨q4_54, List.forall_mem_cons.mpr ⟨q4_56, List.forall_mem_cons.mpr ⟨q4_58, List.forall_mem_cons.mpr ⟨q4_60, List.forall_mem_cons.mpr ⟨q4_62, List.forall_mem_cons.mpr ⟨q4_64, List.forall_mem_cons.mpr ⟨q4_66, List.forall_mem_cons.mpr ⟨q4_68, fun _ h => absurd h List.not_mem_nil⟩⟩⟩⟩⟩⟩⟩⟩⟩⟩⟩⟩⟩⟩⟩⟩⟩⟩⟩⟩⟩⟩⟩
end
section
/-! What every method's proof shares: the world's words (zG), a method's start (zE), the cells as they move (zB), contracts (zPc, zQi ..), rows. -/
abbrev zG : Type := va_G × (ClassId × ClassId × ClassId × ClassId × ClassId) × (Nat → Nat) × (Nat → Nat) × Nat
abbrev gD (g : zG) : va_G := g.1
abbrev gB (g : zG) : ClassId := g.2.1.1
abbrev gI (g : zG) : ClassId := g.2.1.2.1
abbrev gZ (g : zG) : ClassId := g.2.1.2.2.1
abbrev gN (g : zG) : ClassId := g.2.1.2.2.2.1
abbrev gL (g : zG) : ClassId := g.2.1.2.2.2.2
abbrev gAK (g : zG) : Nat → Nat := g.2.2.1
abbrev gAV (g : zG) : Nat → Nat := g.2.2.2.1
abbrev gz (g : zG) : Nat := g.2.2.2.2
abbrev gT (g : zG) : List (ClassId × FieldType) := [(gB g, .byte), (gI g, .int), (gZ g, .boolean), (gN g, .object "BanLand$Ban"), (gL g, .object "BanLand$Land")]
def zA (z : Nat) : Nat → Prop := fun q => z ≤ q
def bI (b : Bool) : Int32 := if b then 1 else 0
theorem bI_t : bI true = 1 := rfl
theorem bI_f : bI false = 0 := rfl
/-- the links between nest mates -/
def NW (U : State) : Prop := va_Nw (Cond.methodLinkNest RX8 9 yX4_init RX8) U ∧ va_Nw (Cond.methodLinkNest RX6 94 yX8_within RX8) U ∧ va_Nw (Cond.methodLinkNest RX6 86 yX8_told RX8) U ∧ va_Nw (Cond.methodLinkNest RX4 105 yX8_deciding RX8) U ∧ va_Nw (Cond.methodLinkNest RX4 109 yX8_forbidden RX8) U ∧ va_Nw (Cond.methodLinkNest RX4 66 yX8_asker RX8) U ∧ va_Nw (Cond.methodLinkNest RX4 119 yX8_mixed RX8) U
theorem NW.warm {s U : State} (hW : s.WarmedH U.vm) (h : NW s) : NW U := ⟨va_Nw.warmM hW h.1, va_Nw.warmM hW h.2.1, va_Nw.warmM hW h.2.2.1, va_Nw.warmM hW h.2.2.2.1, va_Nw.warmM hW h.2.2.2.2.1, va_Nw.warmM hW h.2.2.2.2.2.1, va_Nw.warmM hW h.2.2.2.2.2.2⟩
theorem NW.same {u U : State} (hv : u.vm = U.vm) (h : NW u) : NW U := ⟨va_Nw.same rfl hv h.1, va_Nw.same rfl hv h.2.1, va_Nw.same rfl hv h.2.2.1, va_Nw.same rfl hv h.2.2.2.1, va_Nw.same rfl hv h.2.2.2.2.1, va_Nw.same rfl hv h.2.2.2.2.2.1, va_Nw.same rfl hv h.2.2.2.2.2.2⟩
/-- the words of the language, as bytes -/
def wdL : List Nat := [4, 4, 4, 6]
def wdB : List (List Int32) := [[108, 97, 110, 100], [116, 111, 119, 110], [114, 111, 97, 100], [99, 108, 97, 117, 115, 101]]
/-- strings, and the statics that their methods read -/
def SK (g : zG) (U : State) : Prop := vk_S 4 wdL wdB (gAK g) (gAV g) (zA (gz g)) U U.heap ∧ (vk_R RX6 38 "land" (gAK g 0) U ∧ vk_R RX6 51 "town" (gAK g 1) U ∧ vk_R RX6 56 "road" (gAK g 2) U ∧ vk_R RX6 61 "clause" (gAK g 3) U) ∧ va_Z "java/lang/String" "COMPACT_STRINGS" "Z" (.int 1) (zA (gz g)) U U.heap ∧ va_Zq "jdk/internal/util/Preconditions" "SIOOBE_FORMATTER" "Ljava/util/function/BiFunction;" (zA (gz g)) U U.heap
def GK (g : zG) (U : State) : Prop := va_K (gD g) vwCl (gT g) U ∧ NW U ∧ SK g U ∧ va_AO "BanLand$Ban" U ∧ va_AO "BanLand$Land" U
theorem GK.at {g : zG} {s U : State} (h : GK g s) (hW : s.WarmedH U.vm) (hh : ∀ a : Nat, a < s.heap.size → ¬ zA (gz g) a → U.heap[a]? = s.heap[a]?) : GK g U := by
  obtain ⟨h1, h2, ⟨h3, ⟨h4, h5, h6, h7⟩, h8, h9⟩, h10, h11⟩ := h
  exact ⟨va_K.moved hW.alike h1, h2.warm hW, ⟨(h3.moved hW.alike).kept hh, ⟨h4.warm hW, h5.warm hW, h6.warm hW, h7.warm hW⟩, (h8.moved hW.alike).kept hh, (h9.moved hW.alike).kept hh⟩, h10.moved hW.alike, h11.moved hW.alike⟩
theorem GK.same {g : zG} {u U : State} (h : GK g u) (hv : u.vm = U.vm) (hh : U.heap = u.heap) : GK g U := by
  obtain ⟨h1, h2, ⟨h3, ⟨h4, h5, h6, h7⟩, h8, h9⟩, h10, h11⟩ := h
  have ha : u.vm.Alike U.vm := hv ▸ Vm.Alike.refl u.vm
  have hq : ∀ a : Nat, a < u.heap.size → ¬ zA (gz g) a → U.heap[a]? = u.heap[a]? := fun a _ _ => by rw [hh]
  exact ⟨va_K.moved ha h1, h2.same hv, ⟨(h3.moved ha).kept hq, ⟨h4.same hv.symm, h5.same hv.symm, h6.same hv.symm, h7.same hv.symm⟩, (h8.moved ha).kept hq, (h9.moved ha).kept hq⟩, h10.moved ha, h11.moved ha⟩
def zIn (g : zG) (ws : va_W) (U : State) : Prop := va_P (gD g) vwCl ws U.heap ∧ va_D (zA (gz g)) ws ∧ gz g ≤ U.heap.size ∧ GK g U
def zPc (av : List Value) (g : zG) (ws : va_W) : Array Value → State → Prop := va_Pc av (zIn g ws)
theorem zPc_blind {av : List Value} {g : zG} {ws : va_W} : FrameBlind (zPc av g ws) := by
  intro a U gf mk q
  obtain ⟨q0, qP, qD, qz, qK⟩ := q
  exact ⟨q0, qP, qD, qz, qK.same (U := U.calling gf mk a) rfl rfl⟩
def zO (g : zG) (ws : va_W) (st t : State) : Prop := va_P (gD g) vwCl ws t.heap ∧ va_D (zA (gz g)) ws ∧ va_F (zA (gz g)) st t
def zQi (g : zG) (post : Int32 → va_W → Prop) : Array Value → State → Outcome → State → Prop := fun _ st oc t => ∃ (r : Int32) (ws : va_W), oc = .returned (some (.int r)) ∧ post r ws ∧ zO g ws st t
def zQl (g : zG) (post : Int64 → va_W → Prop) : Array Value → State → Outcome → State → Prop := fun _ st oc t => ∃ (r : Int64) (ws : va_W), oc = .returned (some (.long r)) ∧ post r ws ∧ zO g ws st t
def zQv (g : zG) (post : va_W → Prop) : Array Value → State → Outcome → State → Prop := fun _ st oc t => ∃ (ws : va_W), oc = .returned none ∧ post ws ∧ zO g ws st t
def zQq (g : zG) (post : Option Nat → va_W → Prop) : Array Value → State → Outcome → State → Prop := fun _ st oc t => ∃ (r : Option Nat) (ws : va_W), oc = .returned (some (va_rf r)) ∧ post r ws ∧ zO g ws st t
def zE (g : zG) (p : Program) (s : State) (m : MethodId) (args : Array Value) (c : Code) (cc : ByteArray) (own : String) (nL : Nat) (meth : Method) : Prop :=
  CallFix p m c cc nL s args TBL own ∧ GK g s ∧ meth.locks = false ∧ gz g ≤ s.heap.size
def zB (g : zG) (s : State) (ws : va_W) (H : Heap) (locs : List Loc) : Prop := va_P (gD g) vwCl ws H ∧ va_D (zA (gz g)) ws ∧ va_S (zA (gz g)) s.heap H locs
/-- a method's words -/
def zCV (y : MethodName) (C : String) (bytes : ByteArray) (maxL : Nat) (ret : Option FieldType) (n : Nat) : Prop := Cond.instanceMethod y ∈ TBL ∧ Cond.selects C y y ∈ TBL ∧ Cond.initialized C ∈ TBL ∧ Cond.code y bytes maxL ret ∈ TBL ∧ y.cls = C ∧ y.cls ≠ "java/lang/invoke/MethodHandle" ∧ y.cls ≠ "java/lang/invoke/VarHandle" ∧ (parseMethodDescriptor y.desc).map (fun d => d.parameters.length) = some n
def zCS (y : MethodName) (bytes : ByteArray) (maxL : Nat) (ret : Option FieldType) (n : Nat) : Prop := Cond.static y ∈ TBL ∧ Cond.initialized y.cls ∈ TBL ∧ Cond.code y bytes maxL ret ∈ TBL ∧ y.cls ≠ "java/lang/invoke/MethodHandle" ∧ y.cls ≠ "java/lang/invoke/VarHandle" ∧ (parseMethodDescriptor y.desc).map (fun d => d.parameters.length) = some n
def zCI (y : MethodName) (bytes : ByteArray) (maxL : Nat) (n : Nat) : Prop := Cond.instanceMethod y ∈ TBL ∧ Cond.initialized y.cls ∈ TBL ∧ Cond.code y bytes maxL none ∈ TBL ∧ y.name = "<init>" ∧ y.cls ≠ "java/lang/invoke/MethodHandle" ∧ y.cls ≠ "java/lang/invoke/VarHandle" ∧ (parseMethodDescriptor y.desc).map (fun d => d.parameters.length) = some n
theorem TBL_cons {w : Cond} (h : w ∈ TBL) : GoodIn TBL (w :: TBL) := fun v hv => by
  rcases List.mem_cons.mp hv with rfl | h2
  · exact TBL_good _ h
  · exact TBL_good _ h2
section ZR
variable {p : Program} {l : Launch} {e : Env} {R : Room} {s : State} {m : MethodId} {args : Array Value} {below : List Frame} {meth : Method} {c : Code} {H : Heap} {locs : List Loc} {cells slots : Nat} {Q : State → Prop}
variable {cc : ByteArray} {pc nL : Nat} {own : String} {ls : Array Slot} {rest st : List Value} {g : zG} {ws : va_W}
theorem zE.x (h : zE g p s m args c cc own nL meth) : p.tables.exec = Jvm.exec := h.1.1
theorem zE.b (h : zE g p s m args c cc own nL meth) : c.code = cc := h.1.2.1
theorem zE.ml (h : zE g p s m args c cc own nL meth) : c.maxLocals = nL := h.1.2.2.1
theorem zE.o (h : zE g p s m args c cc own nL meth) : s.vm.findClass own = some m.cls := h.1.2.2.2.1
theorem zE.t (h : zE g p s m args c cc own nL meth) : ∀ w ∈ TBL, w.before args s = true := h.1.2.2.2.2
theorem zE.K (h : zE g p s m args c cc own nL meth) : va_K (gD g) vwCl (gT g) s := h.2.1.1
theorem zE.A (h : zE g p s m args c cc own nL meth) : ∀ q, s.heap.size ≤ q → zA (gz g) q := fun _ hq => Nat.le_trans h.2.2.2 hq
theorem zB.in (hE : zE g p s m args c cc own nL meth) (hB : zB g s ws H locs) : ∀ U : State, U.heap = H → s.WarmedH U.vm → zIn g ws U := by
  intro U hU hW
  refine ⟨by rw [hU]; exact hB.1, hB.2.1, by rw [hU]; exact Nat.le_trans hE.2.2.2 hB.2.2.1, hE.2.1.at hW fun a h1 h2 => by rw [hU]; exact hB.2.2.2.1 a h1 h2⟩
/-- a method's start -/
theorem z_start {y : MethodName} {cc : ByteArray} {maxL : Nat} {ret : Option FieldType} {rm : Room} {av : List Value} {Qc : Array Value → State → Outcome → State → Prop} {mc ms : Nat} {own : String} (hy : plainName y.cls = true) (ho : y.cls = own) (hn : (lg_sl av).length ≤ maxL)
    (body : ∀ (p : Program) (e : Env) (s : State) (m : MethodId) (args : Array Value) (below : List Frame) (meth : Method) (c : Code) (ls : Array Slot), zE g p s m args c cc own maxL meth → meth.sig.returnType = ret → meth.name = y.name → zB g s ws s.heap [] → lv_has ls maxL (lv_args 0 av) →
      W p l e rm s m args below meth c s.heap [] 0 0 (MQ below Qc args s mc ms (zA (gz g))) (F0 m 0 ls [])) : Met l y (Cond.code y cc maxL ret :: TBL) rm (zPc av g ws) Qc mc ms (zA (gz g)) := by
  refine Met.ofW (cc := cc) (maxL := maxL) (ret := ret) hy rfl ?_
  intro p e s m args below meth c s₁ B hml hv
  obtain ⟨rfl, hP, hD, hz, hK⟩ := hv
  have hts := atoms_spec (ws := Cond.code y cc maxL ret :: TBL) B.pre
  have hown : s.vm.findClass own = some m.cls := by rw [← ho]; exact findClass_of_methodNamed B.named
  have hl := lv_entry av hn
  rw [lg_entry_eq]
  generalize (lg_sl av ++ List.replicate (maxL - (lg_sl av).length) Slot.unset).toArray = ls at hl ⊢
  exact body p e s m _ below meth c ls ⟨⟨B.exec, B.bytes, hml, hown, fun w h => hts w (List.mem_cons_of_mem _ h)⟩, hK, B.notSynchronized, hz⟩ B.returns (name_of_methodNamed B.named B.method).1 ⟨hP, hD, va_S.rf⟩ hl
/-- ends -/
theorem z_out (hB : zB g s ws H locs) : ∀ t : State, t.heap = H → zO g ws s t := fun t ht => ⟨by rw [ht]; exact hB.1, hB.2.1, hB.2.2.F ht⟩
theorem z_iret {post : Int32 → va_W → Prop} {v : Int32} (hE : zE g p s m args c cc own nL meth) (hB : zB g s ws H locs) (hr : meth.sig.returnType = some .int) (hp : post v ws) (hdg : decode cc pc = .ok (.ireturn, 1)) : W p l e R s m args below meth c H locs cells slots (MQ below (zQi g post) args s cells slots (zA (gz g))) (F0 m pc ls [.int v]) :=
  W.iret hE.x hE.b hr (fun t ht _ => ⟨v, ws, rfl, hp, z_out hB t ht⟩) hB.2.2.2.2 hdg hE.2.2.1
theorem nar_bI (b : Bool) : narrow .boolean (.int (bI b)) = .int (bI b) := by cases b <;> rfl
theorem z_bret {post : Int32 → va_W → Prop} {b : Bool} (hE : zE g p s m args c cc own nL meth) (hB : zB g s ws H locs) (hr : meth.sig.returnType = some .boolean) (hp : post (bI b) ws) (hdg : decode cc pc = .ok (.ireturn, 1)) : W p l e R s m args below meth c H locs cells slots (MQ below (zQi g post) args s cells slots (zA (gz g))) (F0 m pc ls [.int (bI b)]) :=
  W.zret hE.x hE.b hr (nar_bI b) (fun t ht _ => ⟨_, ws, rfl, hp, z_out hB t ht⟩) hB.2.2.2.2 hdg hE.2.2.1
theorem z_lret {post : Int64 → va_W → Prop} {v : Int64} (hE : zE g p s m args c cc own nL meth) (hB : zB g s ws H locs) (hr : meth.sig.returnType = some .long) (hp : post v ws) (hdg : decode cc pc = .ok (.lreturn, 1)) : W p l e R s m args below meth c H locs cells slots (MQ below (zQl g post) args s cells slots (zA (gz g))) (F0 m pc ls [.long v]) :=
  W.lret hE.x hE.b hr (fun t ht _ => ⟨v, ws, rfl, hp, z_out hB t ht⟩) hB.2.2.2.2 hdg hE.2.2.1
theorem z_vret {post : va_W → Prop} (hE : zE g p s m args c cc own nL meth) (hB : zB g s ws H locs) (hr : meth.sig.returnType = none) (hp : post ws) (hdg : decode cc pc = .ok (.return_, 1)) : W p l e R s m args below meth c H locs cells slots (MQ below (zQv g post) args s cells slots (zA (gz g))) (F0 m pc ls []) :=
  W.vret hE.x hE.b hr (fun t ht _ => ⟨ws, rfl, hp, z_out hB t ht⟩) hB.2.2.2.2 hdg hE.2.2.1
theorem z_qret {post : Option Nat → va_W → Prop} {v : Option Nat} {rt : FieldType} (hE : zE g p s m args c cc own nL meth) (hB : zB g s ws H locs) (hr : meth.sig.returnType = some rt) (hrt : (∃ n, rt = .object n) ∨ ∃ t, rt = .array t) (hp : post v ws) (hdg : decode cc pc = .ok (.areturn, 1)) : W p l e R s m args below meth c H locs cells slots (MQ below (zQq g post) args s cells slots (zA (gz g))) (F0 m pc ls [va_rf v]) :=
  W.aret hE.x hE.b hr hrt (by cases v <;> simp [va_rf]) (fun t ht _ => ⟨v, ws, rfl, hp, z_out hB t ht⟩) hB.2.2.2.2 hdg hE.2.2.1
/-- reads and writes of cells -/
theorem z_get {a : Nat} (hE : zE g p s m args c cc own nL meth) (hB : zB g s ws H locs) {ref C : String} {T : u_T} {N ci index : Nat} (hin : ∀ w ∈ u_ws C T N, w ∈ TBL) (q0 : Nat) {fs : List Value} (he : ws[q0]? = some (a, .inr (ci, fs))) (hc : vwCl[ci]? = some (C, T, N)) (k : Nat) (hk : k < N) (hw : Cond.fieldLink own index ref (T k).2.1 (T k).2.2.1 ∈ TBL) (hsame : ∀ x, s.fieldFound? (T k).1 (T k).2.1 (T k).2.2.1 = some x → s.fieldFound? ref (T k).2.1 (T k).2.2.1 = some x) {v : Value} (hv : fs[k]? = some v) (hdg : decode cc pc = .ok (.getfield index, 3))
    (kk : W p l e R s m args below meth c H locs cells slots Q (F0 m (pc + 3) ls (v :: rest))) : W p l e R s m args below meth c H locs cells slots Q (F0 m pc ls (.ref a :: rest)) :=
  va_get hE.x hE.b hE.t hin hE.o hE.K hB.1 q0 he hc k hk (hE.t _ hw) hsame hv hdg kk
theorem z_put {a : Nat} (hE : zE g p s m args c cc own nL meth) (hB : zB g s ws H locs) {ref C : String} {T : u_T} {N ci index : Nat} (hin : ∀ w ∈ u_ws C T N, w ∈ TBL) (ty0 : Nat → FieldType) (hty : ∀ k, k < N → parseFieldDescriptor (T k).2.2.1 = some (ty0 k)) (hnm : ∀ a, a < N → ∀ b, b < N → a ≠ b → (T a).2.1 ≠ (T b).2.1) (q0 : Nat) {fs : List Value} (he : ws[q0]? = some (a, .inr (ci, fs))) (hc : vwCl[ci]? = some (C, T, N)) (k : Nat) (hk : k < N) (hw : Cond.fieldLink own index ref (T k).2.1 (T k).2.2.1 ∈ TBL) (hsame : ∀ x, s.fieldFound? (T k).1 (T k).2.1 (T k).2.2.1 = some x → s.fieldFound? ref (T k).2.1 (T k).2.2.1 = some x) (hfin : (T k).2.2.2 = false) {ty : FieldType} {v : Value} (hd : parseFieldDescriptor (T k).2.2.1 = some ty) (hn : narrow ty v = v) (hfit : fits ty v = true) (hl : k < fs.length) {ws' : va_W} (hws : ws.set q0 (a, .inr (ci, fs.set k v)) = ws')
    (hdg : decode cc pc = .ok (.putfield index, 3)) (kk : ∀ (H1 : Heap) (locs1 : List Loc), zB g s ws' H1 locs1 → W p l e R s m args below meth c H1 locs1 cells slots Q (F0 m (pc + 3) ls rest)) : W p l e R s m args below meth c H locs cells slots Q (F0 m pc ls (v :: .ref a :: rest)) := by
  subst hws
  exact va_put hE.x hE.b hE.t hin ty0 hty hnm hE.o hE.K hB.1 hB.2.1 hB.2.2 q0 he hc k hk (hE.t _ hw) hsame hfin hd hn hfit hl hdg fun H1 l1 h1 h2 h3 => kk H1 l1 ⟨h1, h2, h3⟩
theorem z_putF {a : Nat} (hE : zE g p s m args c cc own nL meth) (hB : zB g s ws H locs) {ref C : String} {T : u_T} {N ci index : Nat} (hin : ∀ w ∈ u_ws C T N, w ∈ TBL) (ty0 : Nat → FieldType) (hty : ∀ k, k < N → parseFieldDescriptor (T k).2.2.1 = some (ty0 k)) (hnm : ∀ a, a < N → ∀ b, b < N → a ≠ b → (T a).2.1 ≠ (T b).2.1) (q0 : Nat) {fs : List Value} (he : ws[q0]? = some (a, .inr (ci, fs))) (hc : vwCl[ci]? = some (C, T, N)) (k : Nat) (hk : k < N) (hw : Cond.fieldLink own index ref (T k).2.1 (T k).2.2.1 ∈ TBL) (hsame : ∀ x, s.fieldFound? (T k).1 (T k).2.1 (T k).2.2.1 = some x → s.fieldFound? ref (T k).2.1 (T k).2.2.1 = some x) (hfin : (T k).2.2.2 = true) (hin2 : meth.name = "<init>") (hdecl : (T k).1 = own) {ty : FieldType} {v : Value} (hd : parseFieldDescriptor (T k).2.2.1 = some ty) (hn : narrow ty v = v) (hfit : fits ty v = true) (hl : k < fs.length) {ws' : va_W} (hws : ws.set q0 (a, .inr (ci, fs.set k v)) = ws')
    (hdg : decode cc pc = .ok (.putfield index, 3)) (kk : ∀ (H1 : Heap) (locs1 : List Loc), zB g s ws' H1 locs1 → W p l e R s m args below meth c H1 locs1 cells slots Q (F0 m (pc + 3) ls rest)) : W p l e R s m args below meth c H locs cells slots Q (F0 m pc ls (v :: .ref a :: rest)) := by
  subst hws
  exact va_putF hE.x hE.b hE.t hin ty0 hty hnm hE.o hE.K hB.1 hB.2.1 hB.2.2 q0 he hc k hk (hE.t _ hw) hsame hfin hin2 hdecl hd hn hfit hl hdg fun H1 l1 h1 h2 h3 => kk H1 l1 ⟨h1, h2, h3⟩
theorem z_iald {a n : Nat} {f : Nat → Int32} {k : Nat} (hE : zE g p s m args c cc own nL meth) (hB : zB g s ws H locs) (q0 : Nat) (ha : ws[q0]? = some (a, .inl (gI g, n, .inl f))) (hk : k < n) (hn : n < 2 ^ 31) (hdg : decode cc pc = .ok (.iaload, 1))
    (kk : W p l e R s m args below meth c H locs cells slots Q (F0 m (pc + 1) ls (.int (f k) :: rest))) : W p l e R s m args below meth c H locs cells slots Q (F0 m pc ls (.int (nI k) :: .ref a :: rest)) := by
  refine va_iald hE.x hE.b hE.K hB.1 q0 1 ha rfl (vp_in_nI hk hn) hdg ?_
  rw [nI_clamp (Nat.lt_trans hk hn)]
  exact kk
theorem z_iast {a n : Nat} {f : Nat → Int32} {k : Nat} {x : Int32} (hE : zE g p s m args c cc own nL meth) (hB : zB g s ws H locs) (q0 : Nat) (ha : ws[q0]? = some (a, .inl (gI g, n, .inl f))) (hk : k < n) (hn : n < 2 ^ 31) {ws' : va_W} (hws : ws.set q0 (a, .inl (gI g, n, .inl (upd f k x))) = ws') (hdg : decode cc pc = .ok (.iastore, 1))
    (kk : ∀ (H1 : Heap) (locs1 : List Loc), zB g s ws' H1 locs1 → W p l e R s m args below meth c H1 locs1 cells slots Q (F0 m (pc + 1) ls rest)) : W p l e R s m args below meth c H locs cells slots Q (F0 m pc ls (.int x :: .int (nI k) :: .ref a :: rest)) := by
  subst hws
  refine va_iast hE.x hE.b hE.K hB.1 hB.2.1 hB.2.2 q0 1 ha rfl (vp_in_nI hk hn) hdg fun H1 l1 h1 h2 h3 => kk H1 l1 ?_
  rw [nI_clamp (Nat.lt_trans hk hn)] at h1 h2
  exact ⟨h1, h2, h3⟩
theorem z_bald {a n : Nat} {f : Nat → Int32} {k : Nat} (hE : zE g p s m args c cc own nL meth) (hB : zB g s ws H locs) (q0 : Nat) (ha : ws[q0]? = some (a, .inl (gB g, n, .inl f))) (hk : k < n) (hn : n < 2 ^ 31) (hdg : decode cc pc = .ok (.baload, 1))
    (kk : W p l e R s m args below meth c H locs cells slots Q (F0 m (pc + 1) ls (.int (f k) :: rest))) : W p l e R s m args below meth c H locs cells slots Q (F0 m pc ls (.int (nI k) :: .ref a :: rest)) := by
  refine va_bald hE.x hE.b hE.K hB.1 q0 0 ha rfl (vp_in_nI hk hn) hdg ?_
  rw [nI_clamp (Nat.lt_trans hk hn)]
  exact kk
theorem z_bast {a n : Nat} {f : Nat → Int32} {k : Nat} {x : Int32} (hE : zE g p s m args c cc own nL meth) (hB : zB g s ws H locs) (q0 : Nat) (ha : ws[q0]? = some (a, .inl (gB g, n, .inl f))) (hk : k < n) (hn : n < 2 ^ 31) (hx : vp_nar .byte x = x) {ws' : va_W} (hws : ws.set q0 (a, .inl (gB g, n, .inl (upd f k x))) = ws') (hdg : decode cc pc = .ok (.bastore, 1))
    (kk : ∀ (H1 : Heap) (locs1 : List Loc), zB g s ws' H1 locs1 → W p l e R s m args below meth c H1 locs1 cells slots Q (F0 m (pc + 1) ls rest)) : W p l e R s m args below meth c H locs cells slots Q (F0 m pc ls (.int x :: .int (nI k) :: .ref a :: rest)) := by
  subst hws
  refine va_bast hE.x hE.b hE.K hB.1 hB.2.1 hB.2.2 q0 0 ha rfl (vp_in_nI hk hn) hdg fun H1 l1 h1 h2 h3 => kk H1 l1 ?_
  rw [nI_clamp (Nat.lt_trans hk hn), hx] at h1 h2
  exact ⟨h1, h2, h3⟩
theorem z_zald {a n : Nat} {f : Nat → Int32} {k : Nat} (hE : zE g p s m args c cc own nL meth) (hB : zB g s ws H locs) (q0 : Nat) (ha : ws[q0]? = some (a, .inl (gZ g, n, .inl f))) (hk : k < n) (hn : n < 2 ^ 31) (hdg : decode cc pc = .ok (.baload, 1))
    (kk : W p l e R s m args below meth c H locs cells slots Q (F0 m (pc + 1) ls (.int (f k) :: rest))) : W p l e R s m args below meth c H locs cells slots Q (F0 m pc ls (.int (nI k) :: .ref a :: rest)) := by
  refine va_zald hE.x hE.b hE.K hB.1 q0 2 ha rfl (vp_in_nI hk hn) hdg ?_
  rw [nI_clamp (Nat.lt_trans hk hn)]
  exact kk
theorem z_nald {a n : Nat} {f : Nat → Option Nat} {k : Nat} (hE : zE g p s m args c cc own nL meth) (hB : zB g s ws H locs) (q0 : Nat) (ha : ws[q0]? = some (a, .inl (gN g, n, .inr (.inr (.inr (.inr f)))))) (hk : k < n) (hn : n < 2 ^ 31) (hdg : decode cc pc = .ok (.aaload, 1))
    (kk : W p l e R s m args below meth c H locs cells slots Q (F0 m (pc + 1) ls (va_rf (f k) :: rest))) : W p l e R s m args below meth c H locs cells slots Q (F0 m pc ls (.int (nI k) :: .ref a :: rest)) := by
  refine va_aldq hE.x hE.b hE.K hB.1 q0 3 ha rfl (vp_in_nI hk hn) hdg ?_
  rw [nI_clamp (Nat.lt_trans hk hn)]
  exact kk
theorem z_mald {a n : Nat} {f : Nat → Option Nat} {k : Nat} (hE : zE g p s m args c cc own nL meth) (hB : zB g s ws H locs) (q0 : Nat) (ha : ws[q0]? = some (a, .inl (gL g, n, .inr (.inr (.inr (.inr f)))))) (hk : k < n) (hn : n < 2 ^ 31) (hdg : decode cc pc = .ok (.aaload, 1))
    (kk : W p l e R s m args below meth c H locs cells slots Q (F0 m (pc + 1) ls (va_rf (f k) :: rest))) : W p l e R s m args below meth c H locs cells slots Q (F0 m pc ls (.int (nI k) :: .ref a :: rest)) := by
  refine va_aldq hE.x hE.b hE.K hB.1 q0 4 ha rfl (vp_in_nI hk hn) hdg ?_
  rw [nI_clamp (Nat.lt_trans hk hn)]
  exact kk
theorem z_alen {a n : Nat} {x : vp_A} {cA : ClassId} (hE : zE g p s m args c cc own nL meth) (hB : zB g s ws H locs) (q0 t0 : Nat) (ha : ws[q0]? = some (a, .inl (cA, x))) {ty : FieldType} (ht : (gT g)[t0]? = some (cA, ty)) (hv : x.1 = n) (hdg : decode cc pc = .ok (.arraylength, 1))
    (kk : W p l e R s m args below meth c H locs cells slots Q (F0 m (pc + 1) ls (.int (nI n) :: rest))) : W p l e R s m args below meth c H locs cells slots Q (F0 m pc ls (.ref a :: rest)) :=
  va_alen hE.x hE.b hE.K hB.1 q0 t0 ha ht (by rw [hv]; rfl) hdg kk
/-- calls -/
theorem z_cV {y : MethodName} {C : String} {T : u_T} {bytes : ByteArray} {maxL mc ms n index ci N b : Nat} {ret : Option FieldType} {rm : Room} {Qc : Array Value → State → Outcome → State → Prop} {As : List Value} {fs : List Value} (hE : zE g p s m args c cc own nL meth) (hB : zB g s ws H locs)
    (hM : Met l y (Cond.code y bytes maxL ret :: TBL) rm (zPc (.ref b :: As) g ws) Qc mc ms (zA (gz g))) (w1 : Cond.methodLink own index y ∈ TBL) (kC : zCV y C bytes maxL ret n) (hrm : rm.cells = mc ∧ rm.slots = ms) (hR : rm.frames + 1 ≤ R.frames ∧ 8 + (maxL + 11) + rm.locals ≤ R.locals) (q0 : Nat) (he : ws[q0]? = some (b, .inr (ci, fs))) (hc : vwCl[ci]? = some (C, T, N)) (hn : As.length = n) (hsize : ls.size = nL) (hst : st = As.reverse ++ .ref b :: rest) (hW : (rest.map fun v => v.category).sum ≤ 8) (hdg : decode cc pc = .ok (.invokevirtual index, 3)) (hf : cells + mc ≤ R.cells ∧ slots + ms ≤ R.slots) :
    va_Run p l e R s m args below meth c H locs cells slots mc ms (F0 m pc ls st) rest (Qc (Value.ref b :: As).toArray) (zA (gz g)) := by
  obtain ⟨k1, k2, k3, k4, k5, k6⟩ := kC
  refine va_runV (Ts := TBL) (own := own) (C := C) hE.1 hM (cwV n hE.t (fun w hw => ?_) rfl hrm.1 hrm.2 ⟨k5, k6⟩ hR) ⟨zPc_blind, va_recv hE.K hB.1 hc he, fun U hU hW => ⟨rfl, hB.in hE U hU hW⟩⟩ rfl hn hsize hst (lv_room (ls := ls) hW) hdg hf
  unfold wsV at hw
  rcases List.mem_append.mp hw with h | h
  · rcases List.mem_cons.mp h with rfl | h
    · exact TBL_good _ w1
    rcases List.mem_cons.mp h with rfl | h
    · exact TBL_good _ k1
    rcases List.mem_cons.mp h with rfl | h
    · exact TBL_good _ k2
    rcases List.mem_cons.mp h with rfl | h
    · exact TBL_good _ k3
    · cases h
  · exact TBL_cons k4 w h
theorem z_cS {y : MethodName} {bytes : ByteArray} {maxL mc ms n index : Nat} {ret : Option FieldType} {rm : Room} {Qc : Array Value → State → Outcome → State → Prop} {As : List Value} (hE : zE g p s m args c cc own nL meth) (hB : zB g s ws H locs)
    (hM : Met l y (Cond.code y bytes maxL ret :: TBL) rm (zPc As g ws) Qc mc ms (zA (gz g))) (w1 : Cond.methodLink own index y ∈ TBL) (kC : zCS y bytes maxL ret n) (hrm : rm.cells = mc ∧ rm.slots = ms) (hR : rm.frames + 1 ≤ R.frames ∧ 8 + (maxL + 11) + rm.locals ≤ R.locals) (hn : As.length = n) (hsize : ls.size = nL) (hst : st = As.reverse ++ rest) (hW : (rest.map fun v => v.category).sum ≤ 8) (hdg : decode cc pc = .ok (.invokestatic index, 3)) (hf : cells + mc ≤ R.cells ∧ slots + ms ≤ R.slots) :
    va_Run p l e R s m args below meth c H locs cells slots mc ms (F0 m pc ls st) rest (Qc As.toArray) (zA (gz g)) := by
  obtain ⟨k1, k3, k4, k6⟩ := kC
  refine va_runS (Ts := TBL) (own := own) hE.1 hM (va_cwS n hE.t (fun w hw => ?_) rfl hrm.1 hrm.2 k6 hR) ⟨zPc_blind, fun U hU hW => ⟨rfl, hB.in hE U hU hW⟩⟩ rfl hn hsize hst (lv_room (ls := ls) hW) hdg hf
  unfold va_wsS at hw
  rcases List.mem_append.mp hw with h | h
  · rcases List.mem_cons.mp h with rfl | h
    · exact TBL_good _ w1
    rcases List.mem_cons.mp h with rfl | h
    · exact TBL_good _ k1
    rcases List.mem_cons.mp h with rfl | h
    · exact TBL_good _ k3
    · cases h
  · exact TBL_cons k4 w h
theorem z_cI {y : MethodName} {bytes : ByteArray} {maxL mc ms n index b : Nat} {rm : Room} {Qc : Array Value → State → Outcome → State → Prop} {As : List Value} (hE : zE g p s m args c cc own nL meth) (hB : zB g s ws H locs)
    (hM : Met l y (Cond.code y bytes maxL none :: TBL) rm (zPc (.ref b :: As) g ws) Qc mc ms (zA (gz g))) (w1 : Cond.methodLink own index y ∈ TBL) (kC : zCI y bytes maxL n) (hrm : rm.cells = mc ∧ rm.slots = ms) (hR : rm.frames + 1 ≤ R.frames ∧ 8 + (maxL + 11) + rm.locals ≤ R.locals) (hn : As.length = n) (hsize : ls.size = nL) (hst : st = As.reverse ++ .ref b :: rest) (hW : (rest.map fun v => v.category).sum ≤ 8) (hdg : decode cc pc = .ok (.invokespecial index, 3)) (hf : cells + mc ≤ R.cells ∧ slots + ms ≤ R.slots) :
    va_Run p l e R s m args below meth c H locs cells slots mc ms (F0 m pc ls st) rest (Qc (Value.ref b :: As).toArray) (zA (gz g)) := by
  obtain ⟨k1, k3, k4, k5, k6⟩ := kC
  exact va_runI (Ts := TBL) (own := own) hE.1 hM (cwI n hE.t (TBL_cons k4) rfl hrm.1 hrm.2 (hE.t _ k3) (hE.t _ w1) (hE.t _ k1) k5 k6 hR) ⟨zPc_blind, fun U hU hW => ⟨rfl, hB.in hE U hU hW⟩⟩ rfl hn hsize hst (lv_room (ls := ls) hW) hdg hf
theorem z_cSN {y : MethodName} {host : String} {bytes : ByteArray} {maxL mc ms n index : Nat} {ret : Option FieldType} {rm : Room} {Qc : Array Value → State → Outcome → State → Prop} {As : List Value} (hE : zE g p s m args c cc own nL meth) (hB : zB g s ws H locs)
    (hM : Met l y (Cond.code y bytes maxL ret :: TBL) rm (zPc As g ws) Qc mc ms (zA (gz g))) (w1 : va_Nw (Cond.methodLinkNest own index y host) s) (kC : zCS y bytes maxL ret n) (hrm : rm.cells = mc ∧ rm.slots = ms) (hR : rm.frames + 1 ≤ R.frames ∧ 8 + (maxL + 11) + rm.locals ≤ R.locals) (hn : As.length = n) (hsize : ls.size = nL) (hst : st = As.reverse ++ rest) (hW : (rest.map fun v => v.category).sum ≤ 8) (hdg : decode cc pc = .ok (.invokestatic index, 3)) (hf : cells + mc ≤ R.cells ∧ slots + ms ≤ R.slots) :
    va_Run p l e R s m args below meth c H locs cells slots mc ms (F0 m pc ls st) rest (Qc As.toArray) (zA (gz g)) := by
  obtain ⟨k1, k3, k4, k6⟩ := kC
  exact va_runSN (Ts := TBL) (own := own) (host := host) hE.1 hM ⟨va_cnB n hE.t (TBL_cons k4) rfl hrm.1 hrm.2 w1 (hE.t _ k3) k6 hR, hE.t _ k1, trivial⟩ ⟨zPc_blind, fun U hU hW => ⟨rfl, hB.in hE U hU hW⟩⟩ rfl hn hsize hst (lv_room (ls := ls) hW) hdg hf
theorem z_cIN {y : MethodName} {host : String} {bytes : ByteArray} {maxL mc ms n index b : Nat} {rm : Room} {Qc : Array Value → State → Outcome → State → Prop} {As : List Value} (hE : zE g p s m args c cc own nL meth) (hB : zB g s ws H locs)
    (hM : Met l y (Cond.code y bytes maxL none :: TBL) rm (zPc (.ref b :: As) g ws) Qc mc ms (zA (gz g))) (w1 : va_Nw (Cond.methodLinkNest own index y host) s) (kC : zCI y bytes maxL n) (hrm : rm.cells = mc ∧ rm.slots = ms) (hR : rm.frames + 1 ≤ R.frames ∧ 8 + (maxL + 11) + rm.locals ≤ R.locals) (hn : As.length = n) (hsize : ls.size = nL) (hst : st = As.reverse ++ .ref b :: rest) (hW : (rest.map fun v => v.category).sum ≤ 8) (hdg : decode cc pc = .ok (.invokespecial index, 3)) (hf : cells + mc ≤ R.cells ∧ slots + ms ≤ R.slots) :
    va_Run p l e R s m args below meth c H locs cells slots mc ms (F0 m pc ls st) rest (Qc (Value.ref b :: As).toArray) (zA (gz g)) := by
  obtain ⟨k1, k3, k4, k5, k6⟩ := kC
  exact va_runIN (Ts := TBL) (own := own) (host := host) hE.1 hM ⟨va_cnB n hE.t (TBL_cons k4) rfl hrm.1 hrm.2 w1 (hE.t _ k3) k6 hR, k5, hE.t _ k1⟩ ⟨zPc_blind, fun U hU hW => ⟨rfl, hB.in hE U hU hW⟩⟩ rfl hn hsize hst (lv_room (ls := ls) hW) hdg hf
theorem zO_S {st t : State} {T' : State} {L : List Loc} (hB : zB g s ws H locs) {ws1 : va_W} (h0 : st.heap = H) (e1 : T'.heap = t.heap) (hL : ∀ q ∈ L, zA (gz g) q.base) (h : zO g ws1 st t) : zB g s ws1 T'.heap (locs ++ L) := by
  obtain ⟨h1, h2, h3, h4⟩ := h
  rw [h0] at h3 h4
  refine ⟨by rw [e1]; exact h1, h2, Nat.le_trans hB.2.2.1 (by rw [e1]; exact h3), fun q hq1 hq2 => ?_, fun q hq => ?_⟩
  · rw [e1, h4 q (Nat.lt_of_lt_of_le hq1 hB.2.2.1) hq2]
    exact hB.2.2.2.1 q hq1 hq2
  · rcases List.mem_append.mp hq with h | h
    · exact hB.2.2.2.2 q h
    · exact hL q h
theorem z_qi {mc ms : Nat} {a : Array Value} {post : Int32 → va_W → Prop} (hB : zB g s ws H locs) (hr : va_Run p l e R s m args below meth c H locs cells slots mc ms (F0 m pc ls st) rest (zQi g post a) (zA (gz g)))
    (kk : ∀ (r : Int32) (ws1 : va_W) (H1 : Heap) (locs1 : List Loc), post r ws1 → zB g s ws1 H1 locs1 → W p l e R s m args below meth c H1 locs1 (cells + mc) (slots + ms) Q (F0 m (pc + 3) ls (.int r :: rest))) : W p l e R s m args below meth c H locs cells slots Q (F0 m pc ls st) := by
  intro T hT X
  obtain ⟨v, st₀, t, T', L, h0, X', hL, e1, e2, ⟨r, ws1, hv, hp, hO⟩, st⟩ := hr T hT X
  cases hv
  obtain ⟨t2, a1, b1⟩ := kk r ws1 T'.heap (locs ++ L) hp (zO_S hB h0 e1 hL hO) T' rfl X'
  exact ⟨t2, st t2 a1, b1⟩
theorem z_ql {mc ms : Nat} {a : Array Value} {post : Int64 → va_W → Prop} (hB : zB g s ws H locs) (hr : va_Run p l e R s m args below meth c H locs cells slots mc ms (F0 m pc ls st) rest (zQl g post a) (zA (gz g)))
    (kk : ∀ (r : Int64) (ws1 : va_W) (H1 : Heap) (locs1 : List Loc), post r ws1 → zB g s ws1 H1 locs1 → W p l e R s m args below meth c H1 locs1 (cells + mc) (slots + ms) Q (F0 m (pc + 3) ls (.long r :: rest))) : W p l e R s m args below meth c H locs cells slots Q (F0 m pc ls st) := by
  intro T hT X
  obtain ⟨v, st₀, t, T', L, h0, X', hL, e1, e2, ⟨r, ws1, hv, hp, hO⟩, st⟩ := hr T hT X
  cases hv
  obtain ⟨t2, a1, b1⟩ := kk r ws1 T'.heap (locs ++ L) hp (zO_S hB h0 e1 hL hO) T' rfl X'
  exact ⟨t2, st t2 a1, b1⟩
theorem z_qv {mc ms : Nat} {a : Array Value} {post : va_W → Prop} (hB : zB g s ws H locs) (hr : va_Run p l e R s m args below meth c H locs cells slots mc ms (F0 m pc ls st) rest (zQv g post a) (zA (gz g)))
    (kk : ∀ (ws1 : va_W) (H1 : Heap) (locs1 : List Loc), post ws1 → zB g s ws1 H1 locs1 → W p l e R s m args below meth c H1 locs1 (cells + mc) (slots + ms) Q (F0 m (pc + 3) ls rest)) : W p l e R s m args below meth c H locs cells slots Q (F0 m pc ls st) := by
  intro T hT X
  obtain ⟨v, st₀, t, T', L, h0, X', hL, e1, e2, ⟨ws1, hv, hp, hO⟩, st⟩ := hr T hT X
  cases hv
  obtain ⟨t2, a1, b1⟩ := kk ws1 T'.heap (locs ++ L) hp (zO_S hB h0 e1 hL hO) T' rfl X'
  exact ⟨t2, st t2 a1, b1⟩
theorem z_qq {mc ms : Nat} {a : Array Value} {post : Option Nat → va_W → Prop} (hB : zB g s ws H locs) (hr : va_Run p l e R s m args below meth c H locs cells slots mc ms (F0 m pc ls st) rest (zQq g post a) (zA (gz g)))
    (kk : ∀ (r : Option Nat) (ws1 : va_W) (H1 : Heap) (locs1 : List Loc), post r ws1 → zB g s ws1 H1 locs1 → W p l e R s m args below meth c H1 locs1 (cells + mc) (slots + ms) Q (F0 m (pc + 3) ls (va_rf r :: rest))) : W p l e R s m args below meth c H locs cells slots Q (F0 m pc ls st) := by
  intro T hT X
  obtain ⟨v, st₀, t, T', L, h0, X', hL, e1, e2, ⟨r, ws1, hv, hp, hO⟩, st⟩ := hr T hT X
  cases hv
  obtain ⟨t2, a1, b1⟩ := kk r ws1 T'.heap (locs ++ L) hp (zO_S hB h0 e1 hL hO) T' rfl X'
  exact ⟨t2, st t2 a1, b1⟩
/-- numbers -/
theorem z_iaddN {a b : Nat} (hE : zE g p s m args c cc own nL meth) (hdg : decode cc pc = .ok (.iadd, 1)) (k : W p l e R s m args below meth c H locs cells slots Q (F0 m (pc + 1) ls (.int (nI (a + b)) :: rest))) : W p l e R s m args below meth c H locs cells slots Q (F0 m pc ls (.int (nI b) :: .int (nI a) :: rest)) :=
  lv_iadd hE.x hE.b hdg (by rw [nI_add]; exact k)
theorem z_imulN {a b : Nat} (hE : zE g p s m args c cc own nL meth) (hdg : decode cc pc = .ok (.imul, 1)) (k : W p l e R s m args below meth c H locs cells slots Q (F0 m (pc + 1) ls (.int (nI (a * b)) :: rest))) : W p l e R s m args below meth c H locs cells slots Q (F0 m pc ls (.int (nI b) :: .int (nI a) :: rest)) :=
  lv_imul hE.x hE.b hdg (by rw [pk_mul]; exact k)
theorem z_isubN {a b : Nat} (hE : zE g p s m args c cc own nL meth) (h : b ≤ a) (hdg : decode cc pc = .ok (.isub, 1)) (k : W p l e R s m args below meth c H locs cells slots Q (F0 m (pc + 1) ls (.int (nI (a - b)) :: rest))) : W p l e R s m args below meth c H locs cells slots Q (F0 m pc ls (.int (nI b) :: .int (nI a) :: rest)) :=
  lv_isub hE.x hE.b hdg (by rw [pk_sub h]; exact k)
end ZR
section ZC
variable {p : Program} {l : Launch} {e : Env} {R : Room} {s : State} {m : MethodId} {args : Array Value} {below : List Frame} {meth : Method} {c : Code} {H : Heap} {locs : List Loc} {cells slots : Nat} {Q : State → Prop}
variable {cc : ByteArray} {pc nL tgt : Nat} {off : Int} {own : String} {ls : Array Slot} {rest st : List Value} {g : zG} {ws : va_W} {x y : Int32} {X Y : Int}
theorem z_lt (hE : zE g p s m args c cc own nL meth) (hdg : decode cc pc = .ok (.if_icmp .lt off, 3)) (ht : (pc : Int) + off = (tgt : Int)) (hX : x.toInt = X) (hY : y.toInt = Y)
    (kt : X < Y → W p l e R s m args below meth c H locs cells slots Q (F0 m tgt ls rest)) (kf : ¬ X < Y → W p l e R s m args below meth c H locs cells slots Q (F0 m (pc + 3) ls rest)) : W p l e R s m args below meth c H locs cells slots Q (F0 m pc ls (.int y :: .int x :: rest)) := by
  subst hX; subst hY
  exact lv_icmp_lt hE.x hE.b hdg ht (fun h => kt (Int32.lt_iff_toInt_lt.mp h)) (fun h => kf (fun z => h (Int32.lt_iff_toInt_lt.mpr z)))
theorem z_ge (hE : zE g p s m args c cc own nL meth) (hdg : decode cc pc = .ok (.if_icmp .ge off, 3)) (ht : (pc : Int) + off = (tgt : Int)) (hX : x.toInt = X) (hY : y.toInt = Y)
    (kt : Y ≤ X → W p l e R s m args below meth c H locs cells slots Q (F0 m tgt ls rest)) (kf : ¬ Y ≤ X → W p l e R s m args below meth c H locs cells slots Q (F0 m (pc + 3) ls rest)) : W p l e R s m args below meth c H locs cells slots Q (F0 m pc ls (.int y :: .int x :: rest)) := by
  subst hX; subst hY
  exact lv_icmp_ge hE.x hE.b hdg ht (fun h => kt (Int32.le_iff_toInt_le.mp h)) (fun h => kf (fun z => h (Int32.le_iff_toInt_le.mpr z)))
theorem z_gt (hE : zE g p s m args c cc own nL meth) (hdg : decode cc pc = .ok (.if_icmp .gt off, 3)) (ht : (pc : Int) + off = (tgt : Int)) (hX : x.toInt = X) (hY : y.toInt = Y)
    (kt : Y < X → W p l e R s m args below meth c H locs cells slots Q (F0 m tgt ls rest)) (kf : ¬ Y < X → W p l e R s m args below meth c H locs cells slots Q (F0 m (pc + 3) ls rest)) : W p l e R s m args below meth c H locs cells slots Q (F0 m pc ls (.int y :: .int x :: rest)) := by
  subst hX; subst hY
  exact lv_icmp_gt hE.x hE.b hdg ht (fun h => kt (Int32.lt_iff_toInt_lt.mp h)) (fun h => kf (fun z => h (Int32.lt_iff_toInt_lt.mpr z)))
theorem z_le (hE : zE g p s m args c cc own nL meth) (hdg : decode cc pc = .ok (.if_icmp .le off, 3)) (ht : (pc : Int) + off = (tgt : Int)) (hX : x.toInt = X) (hY : y.toInt = Y)
    (kt : X ≤ Y → W p l e R s m args below meth c H locs cells slots Q (F0 m tgt ls rest)) (kf : ¬ X ≤ Y → W p l e R s m args below meth c H locs cells slots Q (F0 m (pc + 3) ls rest)) : W p l e R s m args below meth c H locs cells slots Q (F0 m pc ls (.int y :: .int x :: rest)) := by
  subst hX; subst hY
  exact lv_icmp_le hE.x hE.b hdg ht (fun h => kt (Int32.le_iff_toInt_le.mp h)) (fun h => kf (fun z => h (Int32.le_iff_toInt_le.mpr z)))
theorem z_eq (hE : zE g p s m args c cc own nL meth) (hdg : decode cc pc = .ok (.if_icmp .eq off, 3)) (ht : (pc : Int) + off = (tgt : Int)) (hX : x.toInt = X) (hY : y.toInt = Y)
    (kt : X = Y → W p l e R s m args below meth c H locs cells slots Q (F0 m tgt ls rest)) (kf : ¬ X = Y → W p l e R s m args below meth c H locs cells slots Q (F0 m (pc + 3) ls rest)) : W p l e R s m args below meth c H locs cells slots Q (F0 m pc ls (.int y :: .int x :: rest)) := by
  subst hX; subst hY
  exact lv_icmp_eq hE.x hE.b hdg ht (fun h => kt (by rw [h])) (fun h => kf (fun z => h (Int32.toInt_inj.mp z)))
theorem z_ne (hE : zE g p s m args c cc own nL meth) (hdg : decode cc pc = .ok (.if_icmp .ne off, 3)) (ht : (pc : Int) + off = (tgt : Int)) (hX : x.toInt = X) (hY : y.toInt = Y)
    (kt : ¬ X = Y → W p l e R s m args below meth c H locs cells slots Q (F0 m tgt ls rest)) (kf : X = Y → W p l e R s m args below meth c H locs cells slots Q (F0 m (pc + 3) ls rest)) : W p l e R s m args below meth c H locs cells slots Q (F0 m pc ls (.int y :: .int x :: rest)) := by
  subst hX; subst hY
  exact lv_icmp_ne hE.x hE.b hdg ht (fun h => kt (fun z => h (Int32.toInt_inj.mp z))) (fun h => kf (by rw [h]))
theorem z_lt0 (hE : zE g p s m args c cc own nL meth) (hdg : decode cc pc = .ok (.ifCond .lt off, 3)) (ht : (pc : Int) + off = (tgt : Int)) (hX : x.toInt = X)
    (kt : X < 0 → W p l e R s m args below meth c H locs cells slots Q (F0 m tgt ls rest)) (kf : ¬ X < 0 → W p l e R s m args below meth c H locs cells slots Q (F0 m (pc + 3) ls rest)) : W p l e R s m args below meth c H locs cells slots Q (F0 m pc ls (.int x :: rest)) := by
  subst hX
  exact lv_if_lt hE.x hE.b hdg ht (fun h => kt (Int32.lt_iff_toInt_lt.mp h)) (fun h => kf (fun z => h (Int32.lt_iff_toInt_lt.mpr z)))
theorem z_ge0 (hE : zE g p s m args c cc own nL meth) (hdg : decode cc pc = .ok (.ifCond .ge off, 3)) (ht : (pc : Int) + off = (tgt : Int)) (hX : x.toInt = X)
    (kt : 0 ≤ X → W p l e R s m args below meth c H locs cells slots Q (F0 m tgt ls rest)) (kf : ¬ 0 ≤ X → W p l e R s m args below meth c H locs cells slots Q (F0 m (pc + 3) ls rest)) : W p l e R s m args below meth c H locs cells slots Q (F0 m pc ls (.int x :: rest)) := by
  subst hX
  exact lv_if_ge hE.x hE.b hdg ht (fun h => kt (Int32.le_iff_toInt_le.mp h)) (fun h => kf (fun z => h (Int32.le_iff_toInt_le.mpr z)))
theorem z_gt0 (hE : zE g p s m args c cc own nL meth) (hdg : decode cc pc = .ok (.ifCond .gt off, 3)) (ht : (pc : Int) + off = (tgt : Int)) (hX : x.toInt = X)
    (kt : 0 < X → W p l e R s m args below meth c H locs cells slots Q (F0 m tgt ls rest)) (kf : ¬ 0 < X → W p l e R s m args below meth c H locs cells slots Q (F0 m (pc + 3) ls rest)) : W p l e R s m args below meth c H locs cells slots Q (F0 m pc ls (.int x :: rest)) := by
  subst hX
  exact lv_if_gt hE.x hE.b hdg ht (fun h => kt (Int32.lt_iff_toInt_lt.mp h)) (fun h => kf (fun z => h (Int32.lt_iff_toInt_lt.mpr z)))
theorem z_le0 (hE : zE g p s m args c cc own nL meth) (hdg : decode cc pc = .ok (.ifCond .le off, 3)) (ht : (pc : Int) + off = (tgt : Int)) (hX : x.toInt = X)
    (kt : X ≤ 0 → W p l e R s m args below meth c H locs cells slots Q (F0 m tgt ls rest)) (kf : ¬ X ≤ 0 → W p l e R s m args below meth c H locs cells slots Q (F0 m (pc + 3) ls rest)) : W p l e R s m args below meth c H locs cells slots Q (F0 m pc ls (.int x :: rest)) := by
  subst hX
  exact lv_if_le hE.x hE.b hdg ht (fun h => kt (Int32.le_iff_toInt_le.mp h)) (fun h => kf (fun z => h (Int32.le_iff_toInt_le.mpr z)))
theorem z_eq0 (hE : zE g p s m args c cc own nL meth) (hdg : decode cc pc = .ok (.ifCond .eq off, 3)) (ht : (pc : Int) + off = (tgt : Int)) (hX : x.toInt = X)
    (kt : X = 0 → W p l e R s m args below meth c H locs cells slots Q (F0 m tgt ls rest)) (kf : ¬ X = 0 → W p l e R s m args below meth c H locs cells slots Q (F0 m (pc + 3) ls rest)) : W p l e R s m args below meth c H locs cells slots Q (F0 m pc ls (.int x :: rest)) := by
  subst hX
  exact lv_if_eq hE.x hE.b hdg ht (fun h => kt (by rw [h]; rfl)) (fun h => kf (fun z => h (Int32.toInt_inj.mp z)))
theorem z_ne0 (hE : zE g p s m args c cc own nL meth) (hdg : decode cc pc = .ok (.ifCond .ne off, 3)) (ht : (pc : Int) + off = (tgt : Int)) (hX : x.toInt = X)
    (kt : ¬ X = 0 → W p l e R s m args below meth c H locs cells slots Q (F0 m tgt ls rest)) (kf : X = 0 → W p l e R s m args below meth c H locs cells slots Q (F0 m (pc + 3) ls rest)) : W p l e R s m args below meth c H locs cells slots Q (F0 m pc ls (.int x :: rest)) := by
  subst hX
  exact lv_if_ne hE.x hE.b hdg ht (fun h => kt (fun z => h (Int32.toInt_inj.mp z))) (fun h => kf (by rw [h]; rfl))
theorem z_bf {b : Bool} (hE : zE g p s m args c cc own nL meth) (hdg : decode cc pc = .ok (.ifCond .eq off, 3)) (ht : (pc : Int) + off = (tgt : Int))
    (kt : b = false → W p l e R s m args below meth c H locs cells slots Q (F0 m tgt ls rest)) (kf : b = true → W p l e R s m args below meth c H locs cells slots Q (F0 m (pc + 3) ls rest)) : W p l e R s m args below meth c H locs cells slots Q (F0 m pc ls (.int (bI b) :: rest)) := by
  refine lv_if_eq hE.x hE.b hdg ht (fun h => kt ?_) (fun h => kf ?_)
  · cases b
    · rfl
    · exact absurd h (by decide)
  · cases b
    · exact absurd rfl h
    · rfl
theorem z_bt {b : Bool} (hE : zE g p s m args c cc own nL meth) (hdg : decode cc pc = .ok (.ifCond .ne off, 3)) (ht : (pc : Int) + off = (tgt : Int))
    (kt : b = true → W p l e R s m args below meth c H locs cells slots Q (F0 m tgt ls rest)) (kf : b = false → W p l e R s m args below meth c H locs cells slots Q (F0 m (pc + 3) ls rest)) : W p l e R s m args below meth c H locs cells slots Q (F0 m pc ls (.int (bI b) :: rest)) := by
  refine lv_if_ne hE.x hE.b hdg ht (fun h => kt ?_) (fun h => kf ?_)
  · cases b
    · exact absurd rfl h
    · rfl
  · cases b
    · rfl
    · exact absurd h (by decide)
end ZC
end
section
/-! What a state is: the model's cells (mW); words over its rows. -/
def updA (A : Nat → Nat → Int32) (j : Nat) (f : Nat → Int32) : Nat → Nat → Int32 := fun i => if i = j then f else A i
def mW (g : zG) (o : Nat) (a : Nat → Nat) (F : Nat → Int32) (L : Nat → Int64) (A : Nat → Nat → Int32) : va_W := [(o, .inr (9, [.ref (a 0), .ref (a 1), .ref (a 2), .ref (a 3), .long (L 4), .long (L 5), .int (F 6), .int (F 7), .int (F 8), .int (F 9), .int (F 10), .int (F 11), .ref (a 4), .int (F 13), .long (L 14), .ref (a 5), .int (F 16), .int (F 17), .int (F 18), .int (F 19), .int (F 20), .ref (a 6), .ref (a 7)])), (a 0, .inl (gI g, 454, .inl (A 0))), (a 1, .inl (gI g, 908, .inl (A 1))), (a 2, .inl (gZ g, 2, .inl (A 2))), (a 3, .inl (gI g, 3, .inl (A 3))), (a 4, .inl (gI g, 6, .inl (A 4))), (a 5, .inl (gI g, 150, .inl (A 5))), (a 6, .inl (gI g, 126, .inl (A 6))), (a 7, .inl (gI g, 5, .inl (A 7)))]
def inZ (lo hi v : Int) : Bool := decide (lo ≤ v ∧ v ≤ hi)
abbrev pIn (lo hi : Int) (x : Int32) : Bool := inZ lo hi x.toInt
def pTown (T : Nat) (x : Int32) : Bool := decide (0 ≤ x.toInt ∧ x.toInt < (T : Int))
theorem pIn_nI {hi : Nat} {x : Int32} (h : pIn 0 hi x = true) (hh : hi < 2 ^ 31) : ∃ k : Nat, k ≤ hi ∧ x = nI k := by
  have h2 := of_decide_eq_true h
  refine ⟨x.toInt.toNat, by omega, ?_⟩
  apply Int32.toInt_inj.mp
  rw [nI_toInt (by omega)]
  omega
theorem pTown_nI {T : Nat} {x : Int32} (h : pTown T x = true) (hh : T < 2 ^ 31) : ∃ k : Nat, k < T ∧ x = nI k := by
  have h2 := of_decide_eq_true h
  refine ⟨x.toInt.toNat, by omega, ?_⟩
  apply Int32.toInt_inj.mp
  rw [nI_toInt (by omega)]
  omega
/-- a count of refused calls grows -/
def bump (i : Nat) (A : Nat → Nat → Int32) : Nat → Nat → Int32 := updA A 3 (upd (A 3) i (A 3 i + nI 1))
/-- what a row of told things keeps to -/
def nOK (n : Nat → Int32) (T C V U : Nat) : Prop :=
  (n 0 = nI T ∧ T ≤ 6) ∧ (n 1 = nI C ∧ C ≤ 8) ∧ (n 2 = nI V ∧ V ≤ 8) ∧ (n 3 = nI U ∧ U ≤ 8) ∧ (∀ i, i < 36 → ∃ d, d ≤ 9 ∧ n (10 + i) = nI d) ∧
  (∀ k, k < V → ∃ t a d y z, t < T ∧ a ≤ 5 ∧ d ≤ 59 ∧ y ≤ 1 ∧ z ≤ 1 ∧ n (86 + 5 * k) = nI t ∧ n (86 + 5 * k + 1) = nI a ∧ n (86 + 5 * k + 2) = nI d ∧ n (86 + 5 * k + 3) = nI y ∧ n (86 + 5 * k + 4) = nI z) ∧
  (∀ j, j < U → ∃ c, c ≤ 8 ∧ n (126 + 41 * j + 40) = nI c)
theorem nOK.T {n : Nat → Int32} {T C V U : Nat} (h : nOK n T C V U) : n 0 = nI T := h.1.1
theorem nOK.T6 {n : Nat → Int32} {T C V U : Nat} (h : nOK n T C V U) : T ≤ 6 := h.1.2
theorem nOK.C {n : Nat → Int32} {T C V U : Nat} (h : nOK n T C V U) : n 1 = nI C := h.2.1.1
theorem nOK.C8 {n : Nat → Int32} {T C V U : Nat} (h : nOK n T C V U) : C ≤ 8 := h.2.1.2
theorem nOK.V {n : Nat → Int32} {T C V U : Nat} (h : nOK n T C V U) : n 2 = nI V := h.2.2.1.1
theorem nOK.V8 {n : Nat → Int32} {T C V U : Nat} (h : nOK n T C V U) : V ≤ 8 := h.2.2.1.2
theorem nOK.U {n : Nat → Int32} {T C V U : Nat} (h : nOK n T C V U) : n 3 = nI U := h.2.2.2.1.1
theorem nOK.U8 {n : Nat → Int32} {T C V U : Nat} (h : nOK n T C V U) : U ≤ 8 := h.2.2.2.1.2
theorem nOK.R {n : Nat → Int32} {T C V U : Nat} (h : nOK n T C V U) : ∀ i, i < 36 → ∃ d, d ≤ 9 ∧ n (10 + i) = nI d := h.2.2.2.2.1
theorem nOK.Lv {n : Nat → Int32} {T C V U : Nat} (h : nOK n T C V U) : ∀ k, k < V → ∃ t a d y z, t < T ∧ a ≤ 5 ∧ d ≤ 59 ∧ y ≤ 1 ∧ z ≤ 1 ∧ n (86 + 5 * k) = nI t ∧ n (86 + 5 * k + 1) = nI a ∧ n (86 + 5 * k + 2) = nI d ∧ n (86 + 5 * k + 3) = nI y ∧ n (86 + 5 * k + 4) = nI z := h.2.2.2.2.2.1
theorem nOK.P {n : Nat → Int32} {T C V U : Nat} (h : nOK n T C V U) : ∀ j, j < U → ∃ c, c ≤ 8 ∧ n (126 + 41 * j + 40) = nI c := h.2.2.2.2.2.2
/-- the first 126 places are empty -/
def clr (f : Nat → Int32) : Nat → Int32 := fun k => if k < 126 then 0 else f k
theorem bI_dec {P Q : Prop} [Decidable P] [Decidable Q] (h : P ↔ Q) : bI (decide P) = bI (decide Q) := congrArg bI (decide_eq_decide.mpr h)
theorem bI_decT {P : Prop} [Decidable P] (h : P) : bI true = bI (decide P) := by rw [decide_eq_true h]
theorem bI_decF {P : Prop} [Decidable P] (h : ¬ P) : bI false = bI (decide P) := by rw [decide_eq_false h]
theorem updA_id {A : Nat → Nat → Int32} {j : Nat} {f : Nat → Int32} (h : ∀ x, f x = A j x) : A = updA A j f := by
  funext i x
  unfold updA
  split
  · next h1 => subst h1; rw [h]
  · rfl
theorem updA_eq {A : Nat → Nat → Int32} {j : Nat} {f f' : Nat → Int32} (h : ∀ x, f x = f' x) : updA A j f = updA A j f' := by rw [funext h]
theorem updA_self {A : Nat → Nat → Int32} {j : Nat} {f : Nat → Int32} : updA A j f j = f := by unfold updA; rw [if_pos rfl]
theorem updA_ne {A : Nat → Nat → Int32} {j i : Nat} {f : Nat → Int32} (h : i ≠ j) : updA A j f i = A i := by unfold updA; rw [if_neg h]
theorem updA_updA {A : Nat → Nat → Int32} {j : Nat} {f f' : Nat → Int32} : updA (updA A j f) j f' = updA A j f' := by
  funext i
  unfold updA
  split <;> rfl
theorem updA_step {A B : Nat → Nat → Int32} {j k : Nat} {f f' : Nat → Int32} {v : Int32} (h : B = updA A j f) (hf : ∀ x, upd f k v x = f' x) : updA B j (upd (B j) k v) = updA A j f' := by
  subst h
  rw [updA_self, updA_updA]
  exact updA_eq hf
theorem updA_up {A B : Nat → Nat → Int32} {j : Nat} {f f' : Nat → Int32} (h : B = updA A j f) (hf : ∀ x, f x = f' x) : B = updA A j f' := by rw [h]; exact updA_eq hf
section ZT
variable {p : Program} {l : Launch} {e : Env} {R : Room} {s : State} {m : MethodId} {args : Array Value} {below : List Frame} {meth : Method} {c : Code} {H : Heap} {locs : List Loc} {cells slots : Nat} {Q : State → Prop}
variable {pc : Nat} {ls : Array Slot} {rest : List Value}
theorem z_top {x y : Int32} (h : x = y) (k : W p l e R s m args below meth c H locs cells slots Q (F0 m pc ls (.int y :: rest))) : W p l e R s m args below meth c H locs cells slots Q (F0 m pc ls (.int x :: rest)) := by rw [h]; exact k
theorem z_topl {x y : Int64} (h : x = y) (k : W p l e R s m args below meth c H locs cells slots Q (F0 m pc ls (.long y :: rest))) : W p l e R s m args below meth c H locs cells slots Q (F0 m pc ls (.long x :: rest)) := by rw [h]; exact k
end ZT
theorem ne_toInt {x : Int32} {k : Nat} (h : ¬ x = nI k) (hk : k < 2 ^ 31) : x.toInt ≠ (k : Int) := fun z => h (Int32.toInt_inj.mp (by rw [z, nI_toInt hk]))
theorem eq_toInt {x : Int32} {k : Nat} (h : x = nI k) (hk : k < 2 ^ 31) : x.toInt = (k : Int) := by rw [h, nI_toInt hk]
theorem nI_inj {a b : Nat} (h : nI a = nI b) (ha : a < 2 ^ 31) (hb : b < 2 ^ 31) : a = b := (nI_eq ha hb).mp h
theorem nI_m1 {k : Nat} (hk : k < 2 ^ 31) : ¬ nI k = (-1 : Int32) := fun h => by
  have h2 := congrArg Int32.toInt h
  rw [nI_toInt hk] at h2
  have h3 : (-1 : Int32).toInt = -1 := rfl
  omega
/-- a place or none -/
def oI (x : Option Nat) : Int32 := match x with
  | none => (-1)
  | some k => nI k
theorem oI_some {x : Option Nat} (h : ¬ oI x = (-1)) : ∃ k, x = some k := by
  cases x with
  | none => exact absurd rfl h
  | some k => exact ⟨k, rfl⟩
theorem oI_none {x : Option Nat} (h : oI x = (-1)) (hx : ∀ k, x = some k → k < 2 ^ 31) : x = none := by
  cases x with
  | none => rfl
  | some k => exact absurd h (nI_m1 (hx k rfl))
theorem shr_nI {n k : Nat} (hn : n < 2 ^ 31) (hk : k < 32) : nI n >>> (nI k &&& 31) = nI (n / 2 ^ k) := by
  refine pk_shrN hn (nI k &&& 31) k ?_
  have h : ∀ j, j < 32 → ((nI j &&& 31).toBitVec.smod 32).toNat = j := by decide +kernel
  exact h k hk
theorem and1_nI {n : Nat} (hn : n < 2 ^ 31) : nI n &&& nI 1 = nI (n % 2) := pk_andN (by omega) 1 (by decide)
theorem shl1_nI : ∀ k, k < 8 → nI 1 <<< (nI k &&& 31) = nI (2 ^ k) := by decide +kernel
theorem or_nI (a b : Nat) : nI a ||| nI b = nI (a ||| b) := by
  apply Int32.toBitVec_inj.mp
  show BitVec.ofNat 32 a ||| BitVec.ofNat 32 b = BitVec.ofNat 32 (a ||| b)
  apply BitVec.eq_of_toNat_eq
  simp [Nat.or_mod_two_pow]
/-- how many bits of eight are set -/
def popF : Nat → Nat → Nat
  | 0, _ => 0
  | f + 1, k => k % 2 + popF f (k / 2)
def pop (k : Nat) : Nat := popF 8 k
theorem popF_0 : ∀ f, popF f 0 = 0 := by
  intro f
  induction f with
  | zero => rfl
  | succ f ih => simp [popF, ih]
theorem popF_le : ∀ f k, popF f k ≤ f := by
  intro f
  induction f with
  | zero => intro k; simp [popF]
  | succ f ih => intro k; have := ih (k / 2); simp only [popF]; omega
end
section
theorem dX9_in_0 : decode cX9_in 0 = .ok (.lload_n 0, 1) := by decide +kernel
theorem dX9_in_1 : decode cX9_in 1 = .ok (.lload_n 2, 1) := by decide +kernel
theorem dX9_in_2 : decode cX9_in 2 = .ok (.lcmp, 1) := by decide +kernel
theorem dX9_in_3 : decode cX9_in 3 = .ok (.ifCond .lt 14, 3) := by decide +kernel
theorem dX9_in_6 : decode cX9_in 6 = .ok (.lload_n 0, 1) := by decide +kernel
theorem dX9_in_7 : decode cX9_in 7 = .ok (.lload 4, 2) := by decide +kernel
theorem dX9_in_9 : decode cX9_in 9 = .ok (.lcmp, 1) := by decide +kernel
theorem dX9_in_10 : decode cX9_in 10 = .ok (.ifCond .gt 7, 3) := by decide +kernel
theorem dX9_in_13 : decode cX9_in 13 = .ok (.iconst 1, 1) := by decide +kernel
theorem dX9_in_14 : decode cX9_in 14 = .ok (.goto 4, 3) := by decide +kernel
theorem dX9_in_17 : decode cX9_in 17 = .ok (.iconst 0, 1) := by decide +kernel
theorem dX9_in_18 : decode cX9_in 18 = .ok (.ireturn, 1) := by decide +kernel
theorem dX9_bad_0 : decode cX9_bad 0 = .ok (.aload_n 0, 1) := by decide +kernel
theorem dX9_bad_1 : decode cX9_bad 1 = .ok (.getfield 20, 3) := by decide +kernel
theorem dX9_bad_4 : decode cX9_bad 4 = .ok (.iconst 0, 1) := by decide +kernel
theorem dX9_bad_5 : decode cX9_bad 5 = .ok (.dup2, 1) := by decide +kernel
theorem dX9_bad_6 : decode cX9_bad 6 = .ok (.iaload, 1) := by decide +kernel
theorem dX9_bad_7 : decode cX9_bad 7 = .ok (.iconst 1, 1) := by decide +kernel
theorem dX9_bad_8 : decode cX9_bad 8 = .ok (.iadd, 1) := by decide +kernel
theorem dX9_bad_9 : decode cX9_bad 9 = .ok (.iastore, 1) := by decide +kernel
theorem dX9_bad_10 : decode cX9_bad 10 = .ok (.iload_n 1, 1) := by decide +kernel
theorem dX9_bad_11 : decode cX9_bad 11 = .ok (.ireturn, 1) := by decide +kernel
theorem dX9_no_0 : decode cX9_no 0 = .ok (.aload_n 0, 1) := by decide +kernel
theorem dX9_no_1 : decode cX9_no 1 = .ok (.getfield 20, 3) := by decide +kernel
theorem dX9_no_4 : decode cX9_no 4 = .ok (.iconst 1, 1) := by decide +kernel
theorem dX9_no_5 : decode cX9_no 5 = .ok (.dup2, 1) := by decide +kernel
theorem dX9_no_6 : decode cX9_no 6 = .ok (.iaload, 1) := by decide +kernel
theorem dX9_no_7 : decode cX9_no 7 = .ok (.iconst 1, 1) := by decide +kernel
theorem dX9_no_8 : decode cX9_no 8 = .ok (.iadd, 1) := by decide +kernel
theorem dX9_no_9 : decode cX9_no 9 = .ok (.iastore, 1) := by decide +kernel
theorem dX9_no_10 : decode cX9_no 10 = .ok (.bipush (-3), 2) := by decide +kernel
theorem dX9_no_12 : decode cX9_no 12 = .ok (.ireturn, 1) := by decide +kernel
theorem dX9_full_0 : decode cX9_full 0 = .ok (.aload_n 0, 1) := by decide +kernel
theorem dX9_full_1 : decode cX9_full 1 = .ok (.getfield 20, 3) := by decide +kernel
theorem dX9_full_4 : decode cX9_full 4 = .ok (.iconst 2, 1) := by decide +kernel
theorem dX9_full_5 : decode cX9_full 5 = .ok (.dup2, 1) := by decide +kernel
theorem dX9_full_6 : decode cX9_full 6 = .ok (.iaload, 1) := by decide +kernel
theorem dX9_full_7 : decode cX9_full 7 = .ok (.iconst 1, 1) := by decide +kernel
theorem dX9_full_8 : decode cX9_full 8 = .ok (.iadd, 1) := by decide +kernel
theorem dX9_full_9 : decode cX9_full 9 = .ok (.iastore, 1) := by decide +kernel
theorem dX9_full_10 : decode cX9_full 10 = .ok (.bipush (-4), 2) := by decide +kernel
theorem dX9_full_12 : decode cX9_full 12 = .ok (.ireturn, 1) := by decide +kernel
theorem dX9_begin_0 : decode cX9_begin 0 = .ok (.iconst 0, 1) := by decide +kernel
theorem dX9_begin_1 : decode cX9_begin 1 = .ok (.istore_n 1, 1) := by decide +kernel
theorem dX9_begin_2 : decode cX9_begin 2 = .ok (.iload_n 1, 1) := by decide +kernel
theorem dX9_begin_3 : decode cX9_begin 3 = .ok (.bipush 126, 2) := by decide +kernel
theorem dX9_begin_5 : decode cX9_begin 5 = .ok (.if_icmp .ge 13, 3) := by decide +kernel
theorem dX9_begin_8 : decode cX9_begin 8 = .ok (.aload_n 0, 1) := by decide +kernel
theorem dX9_begin_9 : decode cX9_begin 9 = .ok (.iload_n 1, 1) := by decide +kernel
theorem dX9_begin_10 : decode cX9_begin 10 = .ok (.iconst 0, 1) := by decide +kernel
theorem dX9_begin_11 : decode cX9_begin 11 = .ok (.iastore, 1) := by decide +kernel
theorem dX9_begin_12 : decode cX9_begin 12 = .ok (.iinc 1 1, 3) := by decide +kernel
theorem dX9_begin_15 : decode cX9_begin 15 = .ok (.goto (-13), 3) := by decide +kernel
theorem dX9_begin_18 : decode cX9_begin 18 = .ok (.return_, 1) := by decide +kernel
theorem kX9_in : zCS yX9_in cX9_in 6 (some .boolean) 3 := ⟨q4_89, q1_3, q4_90, by decide +kernel, by decide +kernel, by decide +kernel⟩
theorem kX9_bad : zCV yX9_bad RX9 cX9_bad 2 (some .int) 1 := ⟨q4_93, qp18, q1_3, q4_94, rfl, by decide +kernel, by decide +kernel, by decide +kernel⟩
theorem kX9_no : zCV yX9_no RX9 cX9_no 1 (some .int) 0 := ⟨q4_148, qp24, q1_3, q4_149, rfl, by decide +kernel, by decide +kernel, by decide +kernel⟩
theorem kX9_full : zCV yX9_full RX9 cX9_full 1 (some .int) 0 := ⟨q4_97, qp19, q1_3, q4_98, rfl, by decide +kernel, by decide +kernel, by decide +kernel⟩
theorem kX9_begin : zCS yX9_begin cX9_begin 2 none 1 := ⟨q4_81, q1_3, q4_82, by decide +kernel, by decide +kernel, by decide +kernel⟩
set_option maxHeartbeats 4000000 in
set_option maxRecDepth 100000 in
theorem c_X9_in (l : Launch) (g : zG) (v : Int64) (lo : Int64) (hi : Int64) (V : Int) (Lo : Int) (Hi : Int) (X : va_W) (hv : v.toInt = V) (hlo : lo.toInt = Lo) (hhi : hi.toInt = Hi) : Met l yX9_in (Cond.code yX9_in cX9_in 6 (some .boolean) :: TBL) { frames := 0, cells := 0, slots := 0, locals := 0 } (zPc [.long v, .long lo, .long hi] g (X)) (zQi g (fun r ws => r = bI (inZ Lo Hi V) ∧ ws = X)) 0 0 (zA (gz g)) := by
  refine z_start (by decide +kernel) rfl (Nat.le_of_ble_eq_true rfl) ?_
  intro p e s m args below meth c ls hE hr hnm hB hl
  have hl : lv_has ls 6 [(0, .long v), (2, .long lo), (4, .long hi)] := hl
  revert hB
  generalize s.heap = H
  generalize ([] : List Loc) = locs
  intro hB
  refine lv_lload_n hE.x hE.b dX9_in_0 rfl (lv_at hl 0 rfl) ?_
  refine lv_lload_n hE.x hE.b dX9_in_1 rfl (lv_at hl 1 rfl) ?_
  refine W.lcmp hE.x hE.b dX9_in_2 ?_
  refine lv_if_lt (tgt := 17) hE.x hE.b dX9_in_3 (by decide) (fun c_1 => ?_) (fun c_1 => ?_)
  · refine lv_iconst (v := nI 0) hE.x hE.b dX9_in_17 rfl ?_
    exact z_bret (b := false) (ws := X) hE hB hr (⟨bI_decF (by rw [lg_cmp_lt, Int64.lt_iff_toInt_lt] at c_1; omega), rfl⟩) dX9_in_18
  · refine lv_lload_n hE.x hE.b dX9_in_6 rfl (lv_at hl 0 rfl) ?_
    refine lv_lload hE.x hE.b dX9_in_7 (lv_at hl 2 rfl) ?_
    refine W.lcmp hE.x hE.b dX9_in_9 ?_
    refine lv_if_gt (tgt := 17) hE.x hE.b dX9_in_10 (by decide) (fun c_2 => ?_) (fun c_2 => ?_)
    · refine lv_iconst (v := nI 0) hE.x hE.b dX9_in_17 rfl ?_
      exact z_bret (b := false) (ws := X) hE hB hr (⟨bI_decF (by rw [lg_cmp_lt, Int64.lt_iff_toInt_lt] at c_1; rw [lg_cmp_gt, Int64.lt_iff_toInt_lt] at c_2; omega), rfl⟩) dX9_in_18
    · refine lv_iconst (v := nI 1) hE.x hE.b dX9_in_13 rfl ?_
      refine lv_goto (tgt := 18) hE.x hE.b dX9_in_14 (by decide) ?_
      exact z_bret (b := true) (ws := X) hE hB hr (⟨bI_decT (by rw [lg_cmp_lt, Int64.lt_iff_toInt_lt] at c_1; rw [lg_cmp_gt, Int64.lt_iff_toInt_lt] at c_2; omega), rfl⟩) dX9_in_18

set_option maxHeartbeats 4000000 in
set_option maxRecDepth 100000 in
theorem c_X9_bad (l : Launch) (g : zG) (o : Nat) (a : Nat → Nat) (F : Nat → Int32) (L : Nat → Int64) (A : Nat → Nat → Int32) (X : va_W) (t : Int32)  : Met l yX9_bad (Cond.code yX9_bad cX9_bad 2 (some .int) :: TBL) { frames := 0, cells := 0, slots := 0, locals := 0 } (zPc [.ref o, .int t] g (mW g o a F L A ++ X)) (zQi g (fun r ws => r = t ∧ ws = mW g o a F L (bump 0 A) ++ X)) 0 0 (zA (gz g)) := by
  refine z_start (by decide +kernel) rfl (Nat.le_of_ble_eq_true rfl) ?_
  intro p e s m args below meth c ls hE hr hnm hB hl
  have hl : lv_has ls 2 [(0, .ref o), (1, .int t)] := hl
  revert hB
  generalize s.heap = H
  generalize ([] : List Loc) = locs
  intro hB
  refine lv_aload_n hE.x hE.b dX9_bad_0 rfl (lv_at hl 0 rfl) ?_
  refine z_get (v := .ref (a 3)) hE hB inX9 0 rfl rfl 3 (by decide) q4_4 (fun _ h9 => h9) rfl dX9_bad_1 ?_
  refine lv_iconst (v := nI 0) hE.x hE.b dX9_bad_4 rfl ?_
  refine lv_dup2_11 hE.x hE.b dX9_bad_5 rfl rfl ?_
  refine z_iald (k := 0) (f := (A 3)) hE hB 4 rfl (by omega) (by decide) dX9_bad_6 ?_
  refine lv_iconst (v := nI 1) hE.x hE.b dX9_bad_7 rfl ?_
  refine lv_iadd hE.x hE.b dX9_bad_8 ?_
  refine z_iast (k := 0) (f := (A 3)) (x := (((A 3) 0) + (nI 1))) (ws' := mW g o a F L (updA A 3 (upd (A 3) 0 (((A 3) 0) + (nI 1)))) ++ X) hE hB 4 rfl (by omega) (by decide) rfl dX9_bad_9 (fun H locs hB => ?_)
  refine lv_iload_n hE.x hE.b dX9_bad_10 rfl (lv_at hl 1 rfl) ?_
  exact z_iret (v := t) (ws := mW g o a F L (updA A 3 (upd (A 3) 0 (((A 3) 0) + (nI 1)))) ++ X) hE hB hr (⟨rfl, rfl⟩) dX9_bad_11

set_option maxHeartbeats 4000000 in
set_option maxRecDepth 100000 in
theorem c_X9_no (l : Launch) (g : zG) (o : Nat) (a : Nat → Nat) (F : Nat → Int32) (L : Nat → Int64) (A : Nat → Nat → Int32) (X : va_W)  : Met l yX9_no (Cond.code yX9_no cX9_no 1 (some .int) :: TBL) { frames := 0, cells := 0, slots := 0, locals := 0 } (zPc [.ref o] g (mW g o a F L A ++ X)) (zQi g (fun r ws => r = (-3) ∧ ws = mW g o a F L (bump 1 A) ++ X)) 0 0 (zA (gz g)) := by
  refine z_start (by decide +kernel) rfl (Nat.le_of_ble_eq_true rfl) ?_
  intro p e s m args below meth c ls hE hr hnm hB hl
  have hl : lv_has ls 1 [(0, .ref o)] := hl
  revert hB
  generalize s.heap = H
  generalize ([] : List Loc) = locs
  intro hB
  refine lv_aload_n hE.x hE.b dX9_no_0 rfl (lv_at hl 0 rfl) ?_
  refine z_get (v := .ref (a 3)) hE hB inX9 0 rfl rfl 3 (by decide) q4_4 (fun _ h9 => h9) rfl dX9_no_1 ?_
  refine lv_iconst (v := nI 1) hE.x hE.b dX9_no_4 rfl ?_
  refine lv_dup2_11 hE.x hE.b dX9_no_5 rfl rfl ?_
  refine z_iald (k := 1) (f := (A 3)) hE hB 4 rfl (by omega) (by decide) dX9_no_6 ?_
  refine lv_iconst (v := nI 1) hE.x hE.b dX9_no_7 rfl ?_
  refine lv_iadd hE.x hE.b dX9_no_8 ?_
  refine z_iast (k := 1) (f := (A 3)) (x := (((A 3) 1) + (nI 1))) (ws' := mW g o a F L (updA A 3 (upd (A 3) 1 (((A 3) 1) + (nI 1)))) ++ X) hE hB 4 rfl (by omega) (by decide) rfl dX9_no_9 (fun H locs hB => ?_)
  refine lv_bipush (v := (-3)) hE.x hE.b dX9_no_10 rfl ?_
  exact z_iret (v := (-3)) (ws := mW g o a F L (updA A 3 (upd (A 3) 1 (((A 3) 1) + (nI 1)))) ++ X) hE hB hr (⟨rfl, rfl⟩) dX9_no_12

set_option maxHeartbeats 4000000 in
set_option maxRecDepth 100000 in
theorem c_X9_full (l : Launch) (g : zG) (o : Nat) (a : Nat → Nat) (F : Nat → Int32) (L : Nat → Int64) (A : Nat → Nat → Int32) (X : va_W)  : Met l yX9_full (Cond.code yX9_full cX9_full 1 (some .int) :: TBL) { frames := 0, cells := 0, slots := 0, locals := 0 } (zPc [.ref o] g (mW g o a F L A ++ X)) (zQi g (fun r ws => r = (-4) ∧ ws = mW g o a F L (bump 2 A) ++ X)) 0 0 (zA (gz g)) := by
  refine z_start (by decide +kernel) rfl (Nat.le_of_ble_eq_true rfl) ?_
  intro p e s m args below meth c ls hE hr hnm hB hl
  have hl : lv_has ls 1 [(0, .ref o)] := hl
  revert hB
  generalize s.heap = H
  generalize ([] : List Loc) = locs
  intro hB
  refine lv_aload_n hE.x hE.b dX9_full_0 rfl (lv_at hl 0 rfl) ?_
  refine z_get (v := .ref (a 3)) hE hB inX9 0 rfl rfl 3 (by decide) q4_4 (fun _ h9 => h9) rfl dX9_full_1 ?_
  refine lv_iconst (v := nI 2) hE.x hE.b dX9_full_4 rfl ?_
  refine lv_dup2_11 hE.x hE.b dX9_full_5 rfl rfl ?_
  refine z_iald (k := 2) (f := (A 3)) hE hB 4 rfl (by omega) (by decide) dX9_full_6 ?_
  refine lv_iconst (v := nI 1) hE.x hE.b dX9_full_7 rfl ?_
  refine lv_iadd hE.x hE.b dX9_full_8 ?_
  refine z_iast (k := 2) (f := (A 3)) (x := (((A 3) 2) + (nI 1))) (ws' := mW g o a F L (updA A 3 (upd (A 3) 2 (((A 3) 2) + (nI 1)))) ++ X) hE hB 4 rfl (by omega) (by decide) rfl dX9_full_9 (fun H locs hB => ?_)
  refine lv_bipush (v := (-4)) hE.x hE.b dX9_full_10 rfl ?_
  exact z_iret (v := (-4)) (ws := mW g o a F L (updA A 3 (upd (A 3) 2 (((A 3) 2) + (nI 1)))) ++ X) hE hB hr (⟨rfl, rfl⟩) dX9_full_12

set_option maxHeartbeats 4000000 in
set_option maxRecDepth 100000 in
theorem c_X9_begin_0 (l : Launch) (g : zG) (o : Nat) (a : Nat → Nat) (F : Nat → Int32) (L : Nat → Int64) (A : Nat → Nat → Int32) (X : va_W)  : Met l yX9_begin (Cond.code yX9_begin cX9_begin 2 none :: TBL) { frames := 0, cells := 0, slots := 0, locals := 0 } (zPc [.ref (a 0)] g (mW g o a F L A ++ X)) (zQv g (fun ws => ws = mW g o a F L (updA A 0 (clr (A 0))) ++ X)) 0 0 (zA (gz g)) := by
  refine z_start (by decide +kernel) rfl (Nat.le_of_ble_eq_true rfl) ?_
  intro p e s m args below meth c ls hE hr hnm hB hl
  have hl : lv_has ls 2 [(0, .ref (a 0))] := hl
  revert hB
  generalize s.heap = H
  generalize ([] : List Loc) = locs
  intro hB
  refine lv_iconst (v := nI 0) hE.x hE.b dX9_begin_0 rfl ?_
  refine lv_istore_n (lv' := [(1, .int (nI 0)), (0, .ref (a 0))]) hE.x hE.b dX9_begin_1 rfl hl (by decide) rfl (fun ls hl => ?_)
  have k2 : ∀ (fu : Nat) (i : Nat) (B : Nat → Nat → Int32) (H : Heap) (locs : List Loc) (ls : Array Slot), 126 - i < fu → (i ≤ 126) → (B = updA A 0 (fun k => if k < i then 0 else A 0 k)) → zB g s (mW g o a F L B ++ X) H locs → lv_has ls 2 [(1, .int (nI i)), (0, .ref (a 0))] → W p l e { frames := 0, cells := 0, slots := 0, locals := 0 } s m args below meth c H locs 0 0 (MQ below (zQv g (fun ws => ws = mW g o a F L (updA A 0 (clr (A 0))) ++ X)) args s 0 0 (zA (gz g))) (F0 m 2 ls []) := by
    intro fu
    induction fu with
    | zero => intro i B H locs ls hfu hi hB0 hB hl; exact absurd hfu (Nat.not_lt_zero _)
    | succ fu ih2 =>
      intro i B H locs ls hfu hi hB0 hB hl
      refine lv_iload_n hE.x hE.b dX9_begin_2 rfl (lv_at hl 0 rfl) ?_
      refine lv_bipush (v := (nI 126)) hE.x hE.b dX9_begin_3 rfl ?_
      refine z_ge (tgt := 18) (X := ((i : Nat) : Int)) (Y := (126 : Int)) hE dX9_begin_5 (by decide) (nI_toInt (n := i) (by omega)) rfl (fun c_1 => ?_) (fun c_1 => ?_)
      · exact z_vret (ws := mW g o a F L B ++ X) hE hB hr ((by rw [updA_up hB0 (f' := clr (A 0)) (fun x => by rw [show i = 126 by omega]; rfl)])) dX9_begin_18
      · refine lv_aload_n hE.x hE.b dX9_begin_8 rfl (lv_at hl 1 rfl) ?_
        refine lv_iload_n hE.x hE.b dX9_begin_9 rfl (lv_at hl 0 rfl) ?_
        refine lv_iconst (v := nI 0) hE.x hE.b dX9_begin_10 rfl ?_
        refine z_iast (k := i) (f := (B 0)) (x := (nI 0)) (ws' := mW g o a F L (updA B 0 (upd (B 0) i (nI 0))) ++ X) hE hB 1 rfl (by omega) (by decide) rfl dX9_begin_11 (fun H locs hB => ?_)
        refine lv_iinc (v := (nI (i + 1))) (lv' := [(1, .int (nI (i + 1))), (0, .ref (a 0))]) hE.x hE.b dX9_begin_12 hl (k := 0) rfl (nI_add _ _) (by decide) rfl (fun ls hl => ?_)
        refine lv_goto (tgt := 2) hE.x hE.b dX9_begin_15 (by decide) ?_
        exact ih2 (i + 1) (updA B 0 (upd (B 0) i (nI 0))) _ _ _ (by omega) (by omega) (updA_step hB0 fun x => by simp only [upd]; (repeat' split) <;> first | rfl | omega) hB hl
  exact k2 (126 - 0 + 1) 0 A _ _ _ (Nat.lt_succ_self _) (by omega) (updA_id fun x => rfl) hB hl

set_option maxHeartbeats 4000000 in
set_option maxRecDepth 100000 in
theorem c_X9_begin_6 (l : Launch) (g : zG) (o : Nat) (a : Nat → Nat) (F : Nat → Int32) (L : Nat → Int64) (A : Nat → Nat → Int32) (X : va_W)  : Met l yX9_begin (Cond.code yX9_begin cX9_begin 2 none :: TBL) { frames := 0, cells := 0, slots := 0, locals := 0 } (zPc [.ref (a 6)] g (mW g o a F L A ++ X)) (zQv g (fun ws => ws = mW g o a F L (updA A 6 (clr (A 6))) ++ X)) 0 0 (zA (gz g)) := by
  refine z_start (by decide +kernel) rfl (Nat.le_of_ble_eq_true rfl) ?_
  intro p e s m args below meth c ls hE hr hnm hB hl
  have hl : lv_has ls 2 [(0, .ref (a 6))] := hl
  revert hB
  generalize s.heap = H
  generalize ([] : List Loc) = locs
  intro hB
  refine lv_iconst (v := nI 0) hE.x hE.b dX9_begin_0 rfl ?_
  refine lv_istore_n (lv' := [(1, .int (nI 0)), (0, .ref (a 6))]) hE.x hE.b dX9_begin_1 rfl hl (by decide) rfl (fun ls hl => ?_)
  have k2 : ∀ (fu : Nat) (i : Nat) (B : Nat → Nat → Int32) (H : Heap) (locs : List Loc) (ls : Array Slot), 126 - i < fu → (i ≤ 126) → (B = updA A 6 (fun k => if k < i then 0 else A 6 k)) → zB g s (mW g o a F L B ++ X) H locs → lv_has ls 2 [(1, .int (nI i)), (0, .ref (a 6))] → W p l e { frames := 0, cells := 0, slots := 0, locals := 0 } s m args below meth c H locs 0 0 (MQ below (zQv g (fun ws => ws = mW g o a F L (updA A 6 (clr (A 6))) ++ X)) args s 0 0 (zA (gz g))) (F0 m 2 ls []) := by
    intro fu
    induction fu with
    | zero => intro i B H locs ls hfu hi hB0 hB hl; exact absurd hfu (Nat.not_lt_zero _)
    | succ fu ih2 =>
      intro i B H locs ls hfu hi hB0 hB hl
      refine lv_iload_n hE.x hE.b dX9_begin_2 rfl (lv_at hl 0 rfl) ?_
      refine lv_bipush (v := (nI 126)) hE.x hE.b dX9_begin_3 rfl ?_
      refine z_ge (tgt := 18) (X := ((i : Nat) : Int)) (Y := (126 : Int)) hE dX9_begin_5 (by decide) (nI_toInt (n := i) (by omega)) rfl (fun c_1 => ?_) (fun c_1 => ?_)
      · exact z_vret (ws := mW g o a F L B ++ X) hE hB hr ((by rw [updA_up hB0 (f' := clr (A 6)) (fun x => by rw [show i = 126 by omega]; rfl)])) dX9_begin_18
      · refine lv_aload_n hE.x hE.b dX9_begin_8 rfl (lv_at hl 1 rfl) ?_
        refine lv_iload_n hE.x hE.b dX9_begin_9 rfl (lv_at hl 0 rfl) ?_
        refine lv_iconst (v := nI 0) hE.x hE.b dX9_begin_10 rfl ?_
        refine z_iast (k := i) (f := (B 6)) (x := (nI 0)) (ws' := mW g o a F L (updA B 6 (upd (B 6) i (nI 0))) ++ X) hE hB 7 rfl (by omega) (by decide) rfl dX9_begin_11 (fun H locs hB => ?_)
        refine lv_iinc (v := (nI (i + 1))) (lv' := [(1, .int (nI (i + 1))), (0, .ref (a 6))]) hE.x hE.b dX9_begin_12 hl (k := 0) rfl (nI_add _ _) (by decide) rfl (fun ls hl => ?_)
        refine lv_goto (tgt := 2) hE.x hE.b dX9_begin_15 (by decide) ?_
        exact ih2 (i + 1) (updA B 6 (upd (B 6) i (nI 0))) _ _ _ (by omega) (by omega) (updA_step hB0 fun x => by simp only [upd]; (repeat' split) <;> first | rfl | omega) hB hl
  exact k2 (126 - 0 + 1) 0 A _ _ _ (Nat.lt_succ_self _) (by omega) (updA_id fun x => rfl) hB hl
end
section
/-! What is told and read: pure words over the row n of told things. -/
def alw (k : Int32) : Bool := !(decide (k = 0) || decide (k = nI 2))
/-- on how many days a clause speaks -/
def spD (n : Nat → Int32) (c : Nat) : Int32 := if n (46 + 5 * c + 0) = nI 2 then (n (46 + 5 * c + 3) - n (46 + 5 * c + 2) + nI 1) / nI 2 else n (46 + 5 * c + 3) - n (46 + 5 * c + 2)
def spH (n : Nat → Int32) (c : Nat) (tw : Int32) : Bool := !(decide (n (46 + 5 * c + 0) = nI 3) || decide (n (46 + 5 * c + 0) = nI 5)) || decide (n (46 + 5 * c + 4) = tw)
def spW (n : Nat → Int32) (c : Nat) (dd : Int32) : Bool := decide ((n (46 + 5 * c + 2)).toInt ≤ dd.toInt) && decide (dd.toInt < (n (46 + 5 * c + 2) + spD n c).toInt)
def spT (n : Nat → Int32) (c : Nat) (dy sh : Int32) : Bool := (!decide (n (46 + 5 * c + 0) = nI 4) || decide (dy = nI 1)) && (!decide (n (46 + 5 * c + 0) = nI 5) || decide (sh = nI 1))
def spk (n : Nat → Int32) (c : Nat) (tw ac dd dy sh : Int32) : Bool := decide (n (46 + 5 * c + 1) = ac) && (spH n c tw && (spW n c dd && spT n c dy sh))
/-- of those told ahead of k: the first, the last, how many -/
def hF (P : Nat → Bool) : Nat → Option Nat
  | 0 => none
  | k + 1 => match hF P k with
    | some j => some j
    | none => if P k then some k else none
def hL (P : Nat → Bool) : Nat → Option Nat
  | 0 => none
  | k + 1 => if P k then some k else hL P k
def cn (P : Nat → Bool) : Nat → Nat
  | 0 => 0
  | k + 1 => cn P k + (if P k then 1 else 0)
theorem hF_lt {P : Nat → Bool} : ∀ {k j : Nat}, hF P k = some j → j < k ∧ P j = true := by
  intro k
  induction k with
  | zero => intro j h; cases h
  | succ k ih =>
    intro j h
    simp only [hF] at h
    cases h2 : hF P k with
    | some i =>
      rw [h2] at h
      cases h
      exact ⟨Nat.lt_succ_of_lt (ih h2).1, (ih h2).2⟩
    | none =>
      rw [h2] at h
      by_cases hp : P k = true
      · simp [hp] at h; subst h; exact ⟨Nat.lt_succ_self _, hp⟩
      · simp [hp] at h
theorem hL_lt {P : Nat → Bool} : ∀ {k j : Nat}, hL P k = some j → j < k ∧ P j = true := by
  intro k
  induction k with
  | zero => intro j h; cases h
  | succ k ih =>
    intro j h
    simp only [hL] at h
    by_cases hp : P k = true
    · simp [hp] at h; subst h; exact ⟨Nat.lt_succ_self _, hp⟩
    · simp [hp] at h; exact ⟨Nat.lt_succ_of_lt (ih h).1, (ih h).2⟩
theorem cn_le (P : Nat → Bool) : ∀ k, cn P k ≤ k := by
  intro k
  induction k with
  | zero => exact Nat.le_refl _
  | succ k ih => simp only [cn]; split <;> omega
theorem hF_ext {P Q : Nat → Bool} : ∀ k, (∀ j, j < k → P j = Q j) → hF P k = hF Q k := by
  intro k
  induction k with
  | zero => intro _; rfl
  | succ k ih => intro h; simp only [hF]; rw [ih (fun j hj => h j (Nat.lt_succ_of_lt hj)), h k (Nat.lt_succ_self _)]
theorem hL_ext {P Q : Nat → Bool} : ∀ k, (∀ j, j < k → P j = Q j) → hL P k = hL Q k := by
  intro k
  induction k with
  | zero => intro _; rfl
  | succ k ih => intro h; simp only [hL]; rw [ih (fun j hj => h j (Nat.lt_succ_of_lt hj)), h k (Nat.lt_succ_self _)]
theorem cn_ext {P Q : Nat → Bool} : ∀ k, (∀ j, j < k → P j = Q j) → cn P k = cn Q k := by
  intro k
  induction k with
  | zero => intro _; rfl
  | succ k ih => intro h; simp only [cn]; rw [ih (fun j hj => h j (Nat.lt_succ_of_lt hj)), h k (Nat.lt_succ_self _)]
/-- the one that decides, by a reading -/
def dec (rd : Int32) (f la fa ff : Option Nat) (ca cf : Nat) : Option Nat := if rd = nI 0 then f else if rd = nI 1 then la else if rd = nI 2 then (match fa with | some k => some k | none => f) else if cf < ca then fa else ff
/-- who speaks, S being struck; of those, who allows -/
def hP (n : Nat → Int32) (S : Nat) (tw ac dd dy sh : Int32) (c : Nat) : Bool := decide (S / 2 ^ c % 2 = 0) && spk n c tw ac dd dy sh
def hA (n : Nat → Int32) (P : Nat → Bool) (c : Nat) : Bool := P c && alw (n (46 + 5 * c + 0))
def hB' (n : Nat → Int32) (P : Nat → Bool) (c : Nat) : Bool := P c && !alw (n (46 + 5 * c + 0))
def decP (n : Nat → Int32) (C : Nat) (rd : Int32) (P : Nat → Bool) : Option Nat := dec rd (hF P C) (hL P C) (hF (hA n P) C) (hF (hB' n P) C) (cn (hA n P) C) (cn (hB' n P) C)
def alO (n : Nat → Int32) (x : Option Nat) : Bool := match x with
  | none => true
  | some k => alw (n (46 + 5 * k + 0))
def decN (n : Nat → Int32) (C t : Nat) (ac dd dy sh : Int32) (S : Nat) : Option Nat := decP n C (n (4 + t)) (hP n S (nI t) ac dd dy sh)
def isA (n : Nat → Int32) (C t : Nat) (ac dd dy sh : Int32) (S : Nat) : Bool := alO n (decN n C t ac dd dy sh S)
theorem decP_lt {n : Nat → Int32} {C : Nat} {rd : Int32} {P : Nat → Bool} {k : Nat} (h : decP n C rd P = some k) : k < C := by
  unfold decP dec at h
  repeat' split at h
  · exact (hF_lt h).1
  · exact (hL_lt h).1
  · next h1 => cases h; exact (hF_lt h1).1
  · exact (hF_lt h).1
  · exact (hF_lt h).1
  · exact (hF_lt h).1
theorem decN_lt {n : Nat → Int32} {C t : Nat} {ac dd dy sh : Int32} {S k : Nat} (h : decN n C t ac dd dy sh S = some k) : k < C := decP_lt h
/-- writes -/
def nTown (n : Nat → Int32) (T : Nat) (r : Int32) : Nat → Int32 := upd (upd n (4 + T) r) 0 (nI (T + 1))
def nRoad (n : Nat → Int32) (i j : Nat) (d : Int32) : Nat → Int32 := upd (upd n (10 + 6 * i + j) d) (10 + 6 * j + i) d
def nCl (n : Nat → Int32) (C : Nat) (k a f t w : Int32) : Nat → Int32 := upd (upd (upd (upd (upd (upd n (46 + 5 * C + 0) k) (46 + 5 * C + 1) a) (46 + 5 * C + 2) f) (46 + 5 * C + 3) t) (46 + 5 * C + 4) w) 1 (nI (C + 1))
def nSh (n : Nat → Int32) : Nat → Int32 := fun x => if 126 ≤ x ∧ x < 413 then n (x + 41) else n x
def nK1 (n : Nat → Int32) (U : Nat) : Nat → Int32 := if U = 8 then upd (nSh n) 3 (nI 7) else n
def uK (U : Nat) : Nat := if U = 8 then 7 else U
def nCp (n : Nat → Int32) (u : Nat) : Nat → Int32 := fun x => if 126 + 41 * u ≤ x ∧ x < 166 + 41 * u then n (46 + (x - (126 + 41 * u))) else n x
def nKeep (n : Nat → Int32) (U C : Nat) : Nat → Int32 := upd (upd (nCp (nK1 n U) (uK U)) (126 + 41 * uK U + 40) (nI C)) 3 (nI (uK U + 1))
/-- clauses behind one told come a place ahead -/
def nSt (n : Nat → Int32) (c : Nat) : Nat → Int32 := fun x => if 46 + 5 * c ≤ x ∧ x < 81 then n (x + 5) else n x
def nStrike (n : Nat → Int32) (C c : Nat) : Nat → Int32 := upd (nSt n c) 1 (nI (C - 1))
def nBk (n : Nat → Int32) (u : Nat) : Nat → Int32 := fun x => if 46 ≤ x ∧ x < 86 then n (126 + 41 * u + (x - 46)) else n x
def nUndo (n : Nat → Int32) (U : Nat) : Nat → Int32 := upd (upd (nBk n (U - 1)) 1 (n (126 + 41 * (U - 1) + 40))) 3 (nI (U - 1))
theorem uK_le {U : Nat} (h : U ≤ 8) : uK U ≤ 7 := by unfold uK; split <;> omega
theorem nK1_3 {n : Nat → Int32} {U : Nat} (h : n 3 = nI U) : nK1 n U 3 = nI (uK U) := by
  unfold nK1 uK
  split
  · simp [upd]
  · exact h
theorem nK1_x {n : Nat → Int32} {U x : Nat} (h : x < 126) (h3 : x ≠ 3) : nK1 n U x = n x := by
  unfold nK1
  split
  · simp only [upd, nSh]
    rw [if_neg h3, if_neg (by omega)]
  · rfl
end
section
/-- what the calls that tell answer, and what the model's rows are behind them -/
def rc (x : Int32) : Nat := x.toInt.toNat
theorem rcl {k : Nat} (h : k < 2 ^ 31 := by omega) : rc (nI k) = k := by unfold rc; rw [nI_toInt h]; rfl
def townR (T : Nat) (rd : Int32) : Int32 := if pIn 0 3 rd = true then if T = 6 then (-4) else nI T else (-2)
def townA (A : Nat → Nat → Int32) (T : Nat) (rd : Int32) : Nat → Nat → Int32 := if pIn 0 3 rd = true then if T = 6 then bump 2 A else updA A 0 (nTown (A 0) T rd) else bump 0 A
def roadOK (T : Nat) (x y d : Int32) : Bool := pTown T x && (pTown T y && (!decide (x = y) && pIn 1 9 d))
def roadR (n : Nat → Int32) (T : Nat) (x y d : Int32) : Int32 := if roadOK T x y d = true then n (10 + 6 * rc x + rc y) else (-2)
def roadA (A : Nat → Nat → Int32) (T : Nat) (x y d : Int32) : Nat → Nat → Int32 := if roadOK T x y d = true then updA A 0 (nRoad (A 0) (rc x) (rc y) d) else bump 0 A
def clauseOK (k ac fr ti w : Int32) : Bool := pIn 0 5 k && (pIn 0 5 ac && (pIn 0 60 ti && (pIn 0 ti.toInt fr && pIn 0 5 w)))
def clauseR (C : Nat) (k ac fr ti w : Int32) : Int32 := if clauseOK k ac fr ti w = true then if C = 8 then (-4) else nI C else (-2)
def clauseA (A : Nat → Nat → Int32) (C U : Nat) (k ac fr ti w : Int32) : Nat → Nat → Int32 := if clauseOK k ac fr ti w = true then if C = 8 then bump 2 A else updA A 0 (nCl (nKeep (A 0) U C) C k ac fr ti w) else bump 0 A
def strikeR (C : Nat) (x : Int32) : Int32 := if pTown C x = true then nI (C - 1) else (-2)
def strikeA (A : Nat → Nat → Int32) (C U : Nat) (x : Int32) : Nat → Nat → Int32 := if pTown C x = true then updA A 0 (nStrike (nKeep (A 0) U C) C (rc x)) else bump 0 A
def undoR (n : Nat → Int32) (U : Nat) : Int32 := if U = 0 then (-3) else n (126 + 41 * (U - 1) + 40)
def undoA (A : Nat → Nat → Int32) (U : Nat) : Nat → Nat → Int32 := if U = 0 then bump 1 A else updA A 0 (nUndo (A 0) U)
theorem nKeep_x {n : Nat → Int32} {U C x : Nat} (h : x < 126) (h3 : x ≠ 3) : nKeep n U C x = n x := by
  simp only [nKeep, upd, nCp]
  rw [if_neg h3, if_neg (by omega), if_neg (by omega), nK1_x h h3]
theorem nKeep_1 {n : Nat → Int32} {U C : Nat} : nKeep n U C 1 = n 1 := nKeep_x (by omega) (by omega)
end
section
theorem dX9_towns_0 : decode cX9_towns 0 = .ok (.aload_n 0, 1) := by decide +kernel
theorem dX9_towns_1 : decode cX9_towns 1 = .ok (.getfield 7, 3) := by decide +kernel
theorem dX9_towns_4 : decode cX9_towns 4 = .ok (.iconst 0, 1) := by decide +kernel
theorem dX9_towns_5 : decode cX9_towns 5 = .ok (.iaload, 1) := by decide +kernel
theorem dX9_towns_6 : decode cX9_towns 6 = .ok (.ireturn, 1) := by decide +kernel
theorem dX9_clauses_0 : decode cX9_clauses 0 = .ok (.aload_n 0, 1) := by decide +kernel
theorem dX9_clauses_1 : decode cX9_clauses 1 = .ok (.getfield 7, 3) := by decide +kernel
theorem dX9_clauses_4 : decode cX9_clauses 4 = .ok (.iconst 1, 1) := by decide +kernel
theorem dX9_clauses_5 : decode cX9_clauses 5 = .ok (.iaload, 1) := by decide +kernel
theorem dX9_clauses_6 : decode cX9_clauses 6 = .ok (.ireturn, 1) := by decide +kernel
theorem dX9_isTown_0 : decode cX9_isTown 0 = .ok (.iload_n 1, 1) := by decide +kernel
theorem dX9_isTown_1 : decode cX9_isTown 1 = .ok (.i2l, 1) := by decide +kernel
theorem dX9_isTown_2 : decode cX9_isTown 2 = .ok (.lconst 0, 1) := by decide +kernel
theorem dX9_isTown_3 : decode cX9_isTown 3 = .ok (.aload_n 0, 1) := by decide +kernel
theorem dX9_isTown_4 : decode cX9_isTown 4 = .ok (.invokevirtual 39, 3) := by decide +kernel
theorem dX9_isTown_7 : decode cX9_isTown 7 = .ok (.iconst 1, 1) := by decide +kernel
theorem dX9_isTown_8 : decode cX9_isTown 8 = .ok (.isub, 1) := by decide +kernel
theorem dX9_isTown_9 : decode cX9_isTown 9 = .ok (.i2l, 1) := by decide +kernel
theorem dX9_isTown_10 : decode cX9_isTown 10 = .ok (.invokestatic 43, 3) := by decide +kernel
theorem dX9_isTown_13 : decode cX9_isTown 13 = .ok (.ireturn, 1) := by decide +kernel
theorem dX9_isClause_0 : decode cX9_isClause 0 = .ok (.iload_n 1, 1) := by decide +kernel
theorem dX9_isClause_1 : decode cX9_isClause 1 = .ok (.i2l, 1) := by decide +kernel
theorem dX9_isClause_2 : decode cX9_isClause 2 = .ok (.lconst 0, 1) := by decide +kernel
theorem dX9_isClause_3 : decode cX9_isClause 3 = .ok (.aload_n 0, 1) := by decide +kernel
theorem dX9_isClause_4 : decode cX9_isClause 4 = .ok (.invokevirtual 47, 3) := by decide +kernel
theorem dX9_isClause_7 : decode cX9_isClause 7 = .ok (.iconst 1, 1) := by decide +kernel
theorem dX9_isClause_8 : decode cX9_isClause 8 = .ok (.isub, 1) := by decide +kernel
theorem dX9_isClause_9 : decode cX9_isClause 9 = .ok (.i2l, 1) := by decide +kernel
theorem dX9_isClause_10 : decode cX9_isClause 10 = .ok (.invokestatic 43, 3) := by decide +kernel
theorem dX9_isClause_13 : decode cX9_isClause 13 = .ok (.ireturn, 1) := by decide +kernel
theorem dX9_isAct_0 : decode cX9_isAct 0 = .ok (.iload_n 0, 1) := by decide +kernel
theorem dX9_isAct_1 : decode cX9_isAct 1 = .ok (.i2l, 1) := by decide +kernel
theorem dX9_isAct_2 : decode cX9_isAct 2 = .ok (.lconst 0, 1) := by decide +kernel
theorem dX9_isAct_3 : decode cX9_isAct 3 = .ok (.ldc2_w 50, 3) := by decide +kernel
theorem dX9_isAct_6 : decode cX9_isAct 6 = .ok (.invokestatic 43, 3) := by decide +kernel
theorem dX9_isAct_9 : decode cX9_isAct 9 = .ok (.ireturn, 1) := by decide +kernel
theorem dX9_isDay_0 : decode cX9_isDay 0 = .ok (.iload_n 0, 1) := by decide +kernel
theorem dX9_isDay_1 : decode cX9_isDay 1 = .ok (.i2l, 1) := by decide +kernel
theorem dX9_isDay_2 : decode cX9_isDay 2 = .ok (.lconst 0, 1) := by decide +kernel
theorem dX9_isDay_3 : decode cX9_isDay 3 = .ok (.ldc2_w 52, 3) := by decide +kernel
theorem dX9_isDay_6 : decode cX9_isDay 6 = .ok (.invokestatic 43, 3) := by decide +kernel
theorem dX9_isDay_9 : decode cX9_isDay 9 = .ok (.ireturn, 1) := by decide +kernel
theorem dX9_areActs_0 : decode cX9_areActs 0 = .ok (.iload_n 0, 1) := by decide +kernel
theorem dX9_areActs_1 : decode cX9_areActs 1 = .ok (.i2l, 1) := by decide +kernel
theorem dX9_areActs_2 : decode cX9_areActs 2 = .ok (.lconst 0, 1) := by decide +kernel
theorem dX9_areActs_3 : decode cX9_areActs 3 = .ok (.ldc2_w 54, 3) := by decide +kernel
theorem dX9_areActs_6 : decode cX9_areActs 6 = .ok (.invokestatic 43, 3) := by decide +kernel
theorem dX9_areActs_9 : decode cX9_areActs 9 = .ok (.ireturn, 1) := by decide +kernel
theorem dX9_isAsker_0 : decode cX9_isAsker 0 = .ok (.iload_n 0, 1) := by decide +kernel
theorem dX9_isAsker_1 : decode cX9_isAsker 1 = .ok (.i2l, 1) := by decide +kernel
theorem dX9_isAsker_2 : decode cX9_isAsker 2 = .ok (.lconst 0, 1) := by decide +kernel
theorem dX9_isAsker_3 : decode cX9_isAsker 3 = .ok (.lconst 1, 1) := by decide +kernel
theorem dX9_isAsker_4 : decode cX9_isAsker 4 = .ok (.invokestatic 43, 3) := by decide +kernel
theorem dX9_isAsker_7 : decode cX9_isAsker 7 = .ok (.ifCond .eq 17, 3) := by decide +kernel
theorem dX9_isAsker_10 : decode cX9_isAsker 10 = .ok (.iload_n 1, 1) := by decide +kernel
theorem dX9_isAsker_11 : decode cX9_isAsker 11 = .ok (.i2l, 1) := by decide +kernel
theorem dX9_isAsker_12 : decode cX9_isAsker 12 = .ok (.lconst 0, 1) := by decide +kernel
theorem dX9_isAsker_13 : decode cX9_isAsker 13 = .ok (.lconst 1, 1) := by decide +kernel
theorem dX9_isAsker_14 : decode cX9_isAsker 14 = .ok (.invokestatic 43, 3) := by decide +kernel
theorem dX9_isAsker_17 : decode cX9_isAsker 17 = .ok (.ifCond .eq 7, 3) := by decide +kernel
theorem dX9_isAsker_20 : decode cX9_isAsker 20 = .ok (.iconst 1, 1) := by decide +kernel
theorem dX9_isAsker_21 : decode cX9_isAsker 21 = .ok (.goto 4, 3) := by decide +kernel
theorem dX9_isAsker_24 : decode cX9_isAsker 24 = .ok (.iconst 0, 1) := by decide +kernel
theorem dX9_isAsker_25 : decode cX9_isAsker 25 = .ok (.ireturn, 1) := by decide +kernel
theorem dX9_has_0 : decode cX9_has 0 = .ok (.aload_n 0, 1) := by decide +kernel
theorem dX9_has_1 : decode cX9_has 1 = .ok (.getfield 7, 3) := by decide +kernel
theorem dX9_has_4 : decode cX9_has 4 = .ok (.bipush 46, 2) := by decide +kernel
theorem dX9_has_6 : decode cX9_has 6 = .ok (.iconst 5, 1) := by decide +kernel
theorem dX9_has_7 : decode cX9_has 7 = .ok (.iload_n 1, 1) := by decide +kernel
theorem dX9_has_8 : decode cX9_has 8 = .ok (.imul, 1) := by decide +kernel
theorem dX9_has_9 : decode cX9_has 9 = .ok (.iadd, 1) := by decide +kernel
theorem dX9_has_10 : decode cX9_has 10 = .ok (.iload_n 2, 1) := by decide +kernel
theorem dX9_has_11 : decode cX9_has 11 = .ok (.iadd, 1) := by decide +kernel
theorem dX9_has_12 : decode cX9_has 12 = .ok (.iaload, 1) := by decide +kernel
theorem dX9_has_13 : decode cX9_has 13 = .ok (.ireturn, 1) := by decide +kernel
theorem dX9_land_0 : decode cX9_land 0 = .ok (.aload_n 0, 1) := by decide +kernel
theorem dX9_land_1 : decode cX9_land 1 = .ok (.invokevirtual 39, 3) := by decide +kernel
theorem dX9_land_4 : decode cX9_land 4 = .ok (.istore_n 1, 1) := by decide +kernel
theorem dX9_land_5 : decode cX9_land 5 = .ok (.aload_n 0, 1) := by decide +kernel
theorem dX9_land_6 : decode cX9_land 6 = .ok (.getfield 7, 3) := by decide +kernel
theorem dX9_land_9 : decode cX9_land 9 = .ok (.invokestatic 56, 3) := by decide +kernel
theorem dX9_land_12 : decode cX9_land 12 = .ok (.iload_n 1, 1) := by decide +kernel
theorem dX9_land_13 : decode cX9_land 13 = .ok (.ireturn, 1) := by decide +kernel
theorem dX9_layTown_0 : decode cX9_layTown 0 = .ok (.aload_n 0, 1) := by decide +kernel
theorem dX9_layTown_1 : decode cX9_layTown 1 = .ok (.iconst 4, 1) := by decide +kernel
theorem dX9_layTown_2 : decode cX9_layTown 2 = .ok (.aload_n 0, 1) := by decide +kernel
theorem dX9_layTown_3 : decode cX9_layTown 3 = .ok (.iconst 0, 1) := by decide +kernel
theorem dX9_layTown_4 : decode cX9_layTown 4 = .ok (.iaload, 1) := by decide +kernel
theorem dX9_layTown_5 : decode cX9_layTown 5 = .ok (.iadd, 1) := by decide +kernel
theorem dX9_layTown_6 : decode cX9_layTown 6 = .ok (.iload_n 1, 1) := by decide +kernel
theorem dX9_layTown_7 : decode cX9_layTown 7 = .ok (.iastore, 1) := by decide +kernel
theorem dX9_layTown_8 : decode cX9_layTown 8 = .ok (.aload_n 0, 1) := by decide +kernel
theorem dX9_layTown_9 : decode cX9_layTown 9 = .ok (.iconst 0, 1) := by decide +kernel
theorem dX9_layTown_10 : decode cX9_layTown 10 = .ok (.dup2, 1) := by decide +kernel
theorem dX9_layTown_11 : decode cX9_layTown 11 = .ok (.iaload, 1) := by decide +kernel
theorem dX9_layTown_12 : decode cX9_layTown 12 = .ok (.iconst 1, 1) := by decide +kernel
theorem dX9_layTown_13 : decode cX9_layTown 13 = .ok (.iadd, 1) := by decide +kernel
theorem dX9_layTown_14 : decode cX9_layTown 14 = .ok (.iastore, 1) := by decide +kernel
theorem dX9_layTown_15 : decode cX9_layTown 15 = .ok (.return_, 1) := by decide +kernel
theorem dX9_town_0 : decode cX9_town 0 = .ok (.iload_n 1, 1) := by decide +kernel
theorem dX9_town_1 : decode cX9_town 1 = .ok (.i2l, 1) := by decide +kernel
theorem dX9_town_2 : decode cX9_town 2 = .ok (.lconst 0, 1) := by decide +kernel
theorem dX9_town_3 : decode cX9_town 3 = .ok (.ldc2_w 60, 3) := by decide +kernel
theorem dX9_town_6 : decode cX9_town 6 = .ok (.invokestatic 43, 3) := by decide +kernel
theorem dX9_town_9 : decode cX9_town 9 = .ok (.ifCond .ne 10, 3) := by decide +kernel
theorem dX9_town_12 : decode cX9_town 12 = .ok (.aload_n 0, 1) := by decide +kernel
theorem dX9_town_13 : decode cX9_town 13 = .ok (.bipush (-2), 2) := by decide +kernel
theorem dX9_town_15 : decode cX9_town 15 = .ok (.invokevirtual 62, 3) := by decide +kernel
theorem dX9_town_18 : decode cX9_town 18 = .ok (.ireturn, 1) := by decide +kernel
theorem dX9_town_19 : decode cX9_town 19 = .ok (.aload_n 0, 1) := by decide +kernel
theorem dX9_town_20 : decode cX9_town 20 = .ok (.invokevirtual 39, 3) := by decide +kernel
theorem dX9_town_23 : decode cX9_town 23 = .ok (.bipush 6, 2) := by decide +kernel
theorem dX9_town_25 : decode cX9_town 25 = .ok (.if_icmp .ne 8, 3) := by decide +kernel
theorem dX9_town_28 : decode cX9_town 28 = .ok (.aload_n 0, 1) := by decide +kernel
theorem dX9_town_29 : decode cX9_town 29 = .ok (.invokevirtual 66, 3) := by decide +kernel
theorem dX9_town_32 : decode cX9_town 32 = .ok (.ireturn, 1) := by decide +kernel
theorem dX9_town_33 : decode cX9_town 33 = .ok (.aload_n 0, 1) := by decide +kernel
theorem dX9_town_34 : decode cX9_town 34 = .ok (.getfield 7, 3) := by decide +kernel
theorem dX9_town_37 : decode cX9_town 37 = .ok (.iload_n 1, 1) := by decide +kernel
theorem dX9_town_38 : decode cX9_town 38 = .ok (.invokestatic 69, 3) := by decide +kernel
theorem dX9_town_41 : decode cX9_town 41 = .ok (.aload_n 0, 1) := by decide +kernel
theorem dX9_town_42 : decode cX9_town 42 = .ok (.invokevirtual 39, 3) := by decide +kernel
theorem dX9_town_45 : decode cX9_town 45 = .ok (.iconst 1, 1) := by decide +kernel
theorem dX9_town_46 : decode cX9_town 46 = .ok (.isub, 1) := by decide +kernel
theorem dX9_town_47 : decode cX9_town 47 = .ok (.ireturn, 1) := by decide +kernel
theorem dX9_layRoad_0 : decode cX9_layRoad 0 = .ok (.aload_n 0, 1) := by decide +kernel
theorem dX9_layRoad_1 : decode cX9_layRoad 1 = .ok (.bipush 10, 2) := by decide +kernel
theorem dX9_layRoad_3 : decode cX9_layRoad 3 = .ok (.bipush 6, 2) := by decide +kernel
theorem dX9_layRoad_5 : decode cX9_layRoad 5 = .ok (.iload_n 1, 1) := by decide +kernel
theorem dX9_layRoad_6 : decode cX9_layRoad 6 = .ok (.imul, 1) := by decide +kernel
theorem dX9_layRoad_7 : decode cX9_layRoad 7 = .ok (.iadd, 1) := by decide +kernel
theorem dX9_layRoad_8 : decode cX9_layRoad 8 = .ok (.iload_n 2, 1) := by decide +kernel
theorem dX9_layRoad_9 : decode cX9_layRoad 9 = .ok (.iadd, 1) := by decide +kernel
theorem dX9_layRoad_10 : decode cX9_layRoad 10 = .ok (.iload_n 3, 1) := by decide +kernel
theorem dX9_layRoad_11 : decode cX9_layRoad 11 = .ok (.iastore, 1) := by decide +kernel
theorem dX9_layRoad_12 : decode cX9_layRoad 12 = .ok (.aload_n 0, 1) := by decide +kernel
theorem dX9_layRoad_13 : decode cX9_layRoad 13 = .ok (.bipush 10, 2) := by decide +kernel
theorem dX9_layRoad_15 : decode cX9_layRoad 15 = .ok (.bipush 6, 2) := by decide +kernel
theorem dX9_layRoad_17 : decode cX9_layRoad 17 = .ok (.iload_n 2, 1) := by decide +kernel
theorem dX9_layRoad_18 : decode cX9_layRoad 18 = .ok (.imul, 1) := by decide +kernel
theorem dX9_layRoad_19 : decode cX9_layRoad 19 = .ok (.iadd, 1) := by decide +kernel
theorem dX9_layRoad_20 : decode cX9_layRoad 20 = .ok (.iload_n 1, 1) := by decide +kernel
theorem dX9_layRoad_21 : decode cX9_layRoad 21 = .ok (.iadd, 1) := by decide +kernel
theorem dX9_layRoad_22 : decode cX9_layRoad 22 = .ok (.iload_n 3, 1) := by decide +kernel
theorem dX9_layRoad_23 : decode cX9_layRoad 23 = .ok (.iastore, 1) := by decide +kernel
theorem dX9_layRoad_24 : decode cX9_layRoad 24 = .ok (.return_, 1) := by decide +kernel
theorem dX9_road_0 : decode cX9_road 0 = .ok (.aload_n 0, 1) := by decide +kernel
theorem dX9_road_1 : decode cX9_road 1 = .ok (.iload_n 1, 1) := by decide +kernel
theorem dX9_road_2 : decode cX9_road 2 = .ok (.invokevirtual 73, 3) := by decide +kernel
theorem dX9_road_5 : decode cX9_road 5 = .ok (.ifCond .eq 28, 3) := by decide +kernel
theorem dX9_road_8 : decode cX9_road 8 = .ok (.aload_n 0, 1) := by decide +kernel
theorem dX9_road_9 : decode cX9_road 9 = .ok (.iload_n 2, 1) := by decide +kernel
theorem dX9_road_10 : decode cX9_road 10 = .ok (.invokevirtual 73, 3) := by decide +kernel
theorem dX9_road_13 : decode cX9_road 13 = .ok (.ifCond .eq 20, 3) := by decide +kernel
theorem dX9_road_16 : decode cX9_road 16 = .ok (.iload_n 1, 1) := by decide +kernel
theorem dX9_road_17 : decode cX9_road 17 = .ok (.iload_n 2, 1) := by decide +kernel
theorem dX9_road_18 : decode cX9_road 18 = .ok (.if_icmp .eq 15, 3) := by decide +kernel
theorem dX9_road_21 : decode cX9_road 21 = .ok (.iload_n 3, 1) := by decide +kernel
theorem dX9_road_22 : decode cX9_road 22 = .ok (.i2l, 1) := by decide +kernel
theorem dX9_road_23 : decode cX9_road 23 = .ok (.lconst 1, 1) := by decide +kernel
theorem dX9_road_24 : decode cX9_road 24 = .ok (.ldc2_w 77, 3) := by decide +kernel
theorem dX9_road_27 : decode cX9_road 27 = .ok (.invokestatic 43, 3) := by decide +kernel
theorem dX9_road_30 : decode cX9_road 30 = .ok (.ifCond .ne 10, 3) := by decide +kernel
theorem dX9_road_33 : decode cX9_road 33 = .ok (.aload_n 0, 1) := by decide +kernel
theorem dX9_road_34 : decode cX9_road 34 = .ok (.bipush (-2), 2) := by decide +kernel
theorem dX9_road_36 : decode cX9_road 36 = .ok (.invokevirtual 62, 3) := by decide +kernel
theorem dX9_road_39 : decode cX9_road 39 = .ok (.ireturn, 1) := by decide +kernel
theorem dX9_road_40 : decode cX9_road 40 = .ok (.aload_n 0, 1) := by decide +kernel
theorem dX9_road_41 : decode cX9_road 41 = .ok (.getfield 7, 3) := by decide +kernel
theorem dX9_road_44 : decode cX9_road 44 = .ok (.bipush 10, 2) := by decide +kernel
theorem dX9_road_46 : decode cX9_road 46 = .ok (.bipush 6, 2) := by decide +kernel
theorem dX9_road_48 : decode cX9_road 48 = .ok (.iload_n 1, 1) := by decide +kernel
theorem dX9_road_49 : decode cX9_road 49 = .ok (.imul, 1) := by decide +kernel
theorem dX9_road_50 : decode cX9_road 50 = .ok (.iadd, 1) := by decide +kernel
theorem dX9_road_51 : decode cX9_road 51 = .ok (.iload_n 2, 1) := by decide +kernel
theorem dX9_road_52 : decode cX9_road 52 = .ok (.iadd, 1) := by decide +kernel
theorem dX9_road_53 : decode cX9_road 53 = .ok (.iaload, 1) := by decide +kernel
theorem dX9_road_54 : decode cX9_road 54 = .ok (.istore 4, 2) := by decide +kernel
theorem dX9_road_56 : decode cX9_road 56 = .ok (.aload_n 0, 1) := by decide +kernel
theorem dX9_road_57 : decode cX9_road 57 = .ok (.getfield 7, 3) := by decide +kernel
theorem dX9_road_60 : decode cX9_road 60 = .ok (.iload_n 1, 1) := by decide +kernel
theorem dX9_road_61 : decode cX9_road 61 = .ok (.iload_n 2, 1) := by decide +kernel
theorem dX9_road_62 : decode cX9_road 62 = .ok (.iload_n 3, 1) := by decide +kernel
theorem dX9_road_63 : decode cX9_road 63 = .ok (.invokestatic 79, 3) := by decide +kernel
theorem dX9_road_66 : decode cX9_road 66 = .ok (.iload 4, 2) := by decide +kernel
theorem dX9_road_68 : decode cX9_road 68 = .ok (.ireturn, 1) := by decide +kernel
theorem dX9_layClause_0 : decode cX9_layClause 0 = .ok (.bipush 46, 2) := by decide +kernel
theorem dX9_layClause_2 : decode cX9_layClause 2 = .ok (.iconst 5, 1) := by decide +kernel
theorem dX9_layClause_3 : decode cX9_layClause 3 = .ok (.aload_n 0, 1) := by decide +kernel
theorem dX9_layClause_4 : decode cX9_layClause 4 = .ok (.iconst 1, 1) := by decide +kernel
theorem dX9_layClause_5 : decode cX9_layClause 5 = .ok (.iaload, 1) := by decide +kernel
theorem dX9_layClause_6 : decode cX9_layClause 6 = .ok (.imul, 1) := by decide +kernel
theorem dX9_layClause_7 : decode cX9_layClause 7 = .ok (.iadd, 1) := by decide +kernel
theorem dX9_layClause_8 : decode cX9_layClause 8 = .ok (.istore 6, 2) := by decide +kernel
theorem dX9_layClause_10 : decode cX9_layClause 10 = .ok (.aload_n 0, 1) := by decide +kernel
theorem dX9_layClause_11 : decode cX9_layClause 11 = .ok (.iload 6, 2) := by decide +kernel
theorem dX9_layClause_13 : decode cX9_layClause 13 = .ok (.iconst 0, 1) := by decide +kernel
theorem dX9_layClause_14 : decode cX9_layClause 14 = .ok (.iadd, 1) := by decide +kernel
theorem dX9_layClause_15 : decode cX9_layClause 15 = .ok (.iload_n 1, 1) := by decide +kernel
theorem dX9_layClause_16 : decode cX9_layClause 16 = .ok (.iastore, 1) := by decide +kernel
theorem dX9_layClause_17 : decode cX9_layClause 17 = .ok (.aload_n 0, 1) := by decide +kernel
theorem dX9_layClause_18 : decode cX9_layClause 18 = .ok (.iload 6, 2) := by decide +kernel
theorem dX9_layClause_20 : decode cX9_layClause 20 = .ok (.iconst 1, 1) := by decide +kernel
theorem dX9_layClause_21 : decode cX9_layClause 21 = .ok (.iadd, 1) := by decide +kernel
theorem dX9_layClause_22 : decode cX9_layClause 22 = .ok (.iload_n 2, 1) := by decide +kernel
theorem dX9_layClause_23 : decode cX9_layClause 23 = .ok (.iastore, 1) := by decide +kernel
theorem dX9_layClause_24 : decode cX9_layClause 24 = .ok (.aload_n 0, 1) := by decide +kernel
theorem dX9_layClause_25 : decode cX9_layClause 25 = .ok (.iload 6, 2) := by decide +kernel
theorem dX9_layClause_27 : decode cX9_layClause 27 = .ok (.iconst 2, 1) := by decide +kernel
theorem dX9_layClause_28 : decode cX9_layClause 28 = .ok (.iadd, 1) := by decide +kernel
theorem dX9_layClause_29 : decode cX9_layClause 29 = .ok (.iload_n 3, 1) := by decide +kernel
theorem dX9_layClause_30 : decode cX9_layClause 30 = .ok (.iastore, 1) := by decide +kernel
theorem dX9_layClause_31 : decode cX9_layClause 31 = .ok (.aload_n 0, 1) := by decide +kernel
theorem dX9_layClause_32 : decode cX9_layClause 32 = .ok (.iload 6, 2) := by decide +kernel
theorem dX9_layClause_34 : decode cX9_layClause 34 = .ok (.iconst 3, 1) := by decide +kernel
theorem dX9_layClause_35 : decode cX9_layClause 35 = .ok (.iadd, 1) := by decide +kernel
theorem dX9_layClause_36 : decode cX9_layClause 36 = .ok (.iload 4, 2) := by decide +kernel
theorem dX9_layClause_38 : decode cX9_layClause 38 = .ok (.iastore, 1) := by decide +kernel
theorem dX9_layClause_39 : decode cX9_layClause 39 = .ok (.aload_n 0, 1) := by decide +kernel
theorem dX9_layClause_40 : decode cX9_layClause 40 = .ok (.iload 6, 2) := by decide +kernel
theorem dX9_layClause_42 : decode cX9_layClause 42 = .ok (.iconst 4, 1) := by decide +kernel
theorem dX9_layClause_43 : decode cX9_layClause 43 = .ok (.iadd, 1) := by decide +kernel
theorem dX9_layClause_44 : decode cX9_layClause 44 = .ok (.iload 5, 2) := by decide +kernel
theorem dX9_layClause_46 : decode cX9_layClause 46 = .ok (.iastore, 1) := by decide +kernel
theorem dX9_layClause_47 : decode cX9_layClause 47 = .ok (.aload_n 0, 1) := by decide +kernel
theorem dX9_layClause_48 : decode cX9_layClause 48 = .ok (.iconst 1, 1) := by decide +kernel
theorem dX9_layClause_49 : decode cX9_layClause 49 = .ok (.dup2, 1) := by decide +kernel
theorem dX9_layClause_50 : decode cX9_layClause 50 = .ok (.iaload, 1) := by decide +kernel
theorem dX9_layClause_51 : decode cX9_layClause 51 = .ok (.iconst 1, 1) := by decide +kernel
theorem dX9_layClause_52 : decode cX9_layClause 52 = .ok (.iadd, 1) := by decide +kernel
theorem dX9_layClause_53 : decode cX9_layClause 53 = .ok (.iastore, 1) := by decide +kernel
theorem dX9_layClause_54 : decode cX9_layClause 54 = .ok (.return_, 1) := by decide +kernel
theorem dX9_keep_0 : decode cX9_keep 0 = .ok (.aload_n 0, 1) := by decide +kernel
theorem dX9_keep_1 : decode cX9_keep 1 = .ok (.getfield 7, 3) := by decide +kernel
theorem dX9_keep_4 : decode cX9_keep 4 = .ok (.iconst 3, 1) := by decide +kernel
theorem dX9_keep_5 : decode cX9_keep 5 = .ok (.iaload, 1) := by decide +kernel
theorem dX9_keep_6 : decode cX9_keep 6 = .ok (.bipush 8, 2) := by decide +kernel
theorem dX9_keep_8 : decode cX9_keep 8 = .ok (.if_icmp .ne 45, 3) := by decide +kernel
theorem dX9_keep_11 : decode cX9_keep 11 = .ok (.iconst 0, 1) := by decide +kernel
theorem dX9_keep_12 : decode cX9_keep 12 = .ok (.istore_n 1, 1) := by decide +kernel
theorem dX9_keep_13 : decode cX9_keep 13 = .ok (.iload_n 1, 1) := by decide +kernel
theorem dX9_keep_14 : decode cX9_keep 14 = .ok (.sipush 287, 3) := by decide +kernel
theorem dX9_keep_17 : decode cX9_keep 17 = .ok (.if_icmp .ge 28, 3) := by decide +kernel
theorem dX9_keep_20 : decode cX9_keep 20 = .ok (.aload_n 0, 1) := by decide +kernel
theorem dX9_keep_21 : decode cX9_keep 21 = .ok (.getfield 7, 3) := by decide +kernel
theorem dX9_keep_24 : decode cX9_keep 24 = .ok (.bipush 126, 2) := by decide +kernel
theorem dX9_keep_26 : decode cX9_keep 26 = .ok (.iload_n 1, 1) := by decide +kernel
theorem dX9_keep_27 : decode cX9_keep 27 = .ok (.iadd, 1) := by decide +kernel
theorem dX9_keep_28 : decode cX9_keep 28 = .ok (.aload_n 0, 1) := by decide +kernel
theorem dX9_keep_29 : decode cX9_keep 29 = .ok (.getfield 7, 3) := by decide +kernel
theorem dX9_keep_32 : decode cX9_keep 32 = .ok (.sipush 167, 3) := by decide +kernel
theorem dX9_keep_35 : decode cX9_keep 35 = .ok (.iload_n 1, 1) := by decide +kernel
theorem dX9_keep_36 : decode cX9_keep 36 = .ok (.iadd, 1) := by decide +kernel
theorem dX9_keep_37 : decode cX9_keep 37 = .ok (.iaload, 1) := by decide +kernel
theorem dX9_keep_38 : decode cX9_keep 38 = .ok (.iastore, 1) := by decide +kernel
theorem dX9_keep_39 : decode cX9_keep 39 = .ok (.iinc 1 1, 3) := by decide +kernel
theorem dX9_keep_42 : decode cX9_keep 42 = .ok (.goto (-29), 3) := by decide +kernel
theorem dX9_keep_45 : decode cX9_keep 45 = .ok (.aload_n 0, 1) := by decide +kernel
theorem dX9_keep_46 : decode cX9_keep 46 = .ok (.getfield 7, 3) := by decide +kernel
theorem dX9_keep_49 : decode cX9_keep 49 = .ok (.iconst 3, 1) := by decide +kernel
theorem dX9_keep_50 : decode cX9_keep 50 = .ok (.bipush 7, 2) := by decide +kernel
theorem dX9_keep_52 : decode cX9_keep 52 = .ok (.iastore, 1) := by decide +kernel
theorem dX9_keep_53 : decode cX9_keep 53 = .ok (.bipush 126, 2) := by decide +kernel
theorem dX9_keep_55 : decode cX9_keep 55 = .ok (.bipush 41, 2) := by decide +kernel
theorem dX9_keep_57 : decode cX9_keep 57 = .ok (.aload_n 0, 1) := by decide +kernel
theorem dX9_keep_58 : decode cX9_keep 58 = .ok (.getfield 7, 3) := by decide +kernel
theorem dX9_keep_61 : decode cX9_keep 61 = .ok (.iconst 3, 1) := by decide +kernel
theorem dX9_keep_62 : decode cX9_keep 62 = .ok (.iaload, 1) := by decide +kernel
theorem dX9_keep_63 : decode cX9_keep 63 = .ok (.imul, 1) := by decide +kernel
theorem dX9_keep_64 : decode cX9_keep 64 = .ok (.iadd, 1) := by decide +kernel
theorem dX9_keep_65 : decode cX9_keep 65 = .ok (.istore_n 1, 1) := by decide +kernel
theorem dX9_keep_66 : decode cX9_keep 66 = .ok (.iconst 0, 1) := by decide +kernel
theorem dX9_keep_67 : decode cX9_keep 67 = .ok (.istore_n 2, 1) := by decide +kernel
theorem dX9_keep_68 : decode cX9_keep 68 = .ok (.iload_n 2, 1) := by decide +kernel
theorem dX9_keep_69 : decode cX9_keep 69 = .ok (.bipush 40, 2) := by decide +kernel
theorem dX9_keep_71 : decode cX9_keep 71 = .ok (.if_icmp .ge 26, 3) := by decide +kernel
theorem dX9_keep_74 : decode cX9_keep 74 = .ok (.aload_n 0, 1) := by decide +kernel
theorem dX9_keep_75 : decode cX9_keep 75 = .ok (.getfield 7, 3) := by decide +kernel
theorem dX9_keep_78 : decode cX9_keep 78 = .ok (.iload_n 1, 1) := by decide +kernel
theorem dX9_keep_79 : decode cX9_keep 79 = .ok (.iload_n 2, 1) := by decide +kernel
theorem dX9_keep_80 : decode cX9_keep 80 = .ok (.iadd, 1) := by decide +kernel
theorem dX9_keep_81 : decode cX9_keep 81 = .ok (.aload_n 0, 1) := by decide +kernel
theorem dX9_keep_82 : decode cX9_keep 82 = .ok (.getfield 7, 3) := by decide +kernel
theorem dX9_keep_85 : decode cX9_keep 85 = .ok (.bipush 46, 2) := by decide +kernel
theorem dX9_keep_87 : decode cX9_keep 87 = .ok (.iload_n 2, 1) := by decide +kernel
theorem dX9_keep_88 : decode cX9_keep 88 = .ok (.iadd, 1) := by decide +kernel
theorem dX9_keep_89 : decode cX9_keep 89 = .ok (.iaload, 1) := by decide +kernel
theorem dX9_keep_90 : decode cX9_keep 90 = .ok (.iastore, 1) := by decide +kernel
theorem dX9_keep_91 : decode cX9_keep 91 = .ok (.iinc 2 1, 3) := by decide +kernel
theorem dX9_keep_94 : decode cX9_keep 94 = .ok (.goto (-26), 3) := by decide +kernel
theorem dX9_keep_97 : decode cX9_keep 97 = .ok (.aload_n 0, 1) := by decide +kernel
theorem dX9_keep_98 : decode cX9_keep 98 = .ok (.getfield 7, 3) := by decide +kernel
theorem dX9_keep_101 : decode cX9_keep 101 = .ok (.iload_n 1, 1) := by decide +kernel
theorem dX9_keep_102 : decode cX9_keep 102 = .ok (.bipush 40, 2) := by decide +kernel
theorem dX9_keep_104 : decode cX9_keep 104 = .ok (.iadd, 1) := by decide +kernel
theorem dX9_keep_105 : decode cX9_keep 105 = .ok (.aload_n 0, 1) := by decide +kernel
theorem dX9_keep_106 : decode cX9_keep 106 = .ok (.invokevirtual 47, 3) := by decide +kernel
theorem dX9_keep_109 : decode cX9_keep 109 = .ok (.iastore, 1) := by decide +kernel
theorem dX9_keep_110 : decode cX9_keep 110 = .ok (.aload_n 0, 1) := by decide +kernel
theorem dX9_keep_111 : decode cX9_keep 111 = .ok (.getfield 7, 3) := by decide +kernel
theorem dX9_keep_114 : decode cX9_keep 114 = .ok (.iconst 3, 1) := by decide +kernel
theorem dX9_keep_115 : decode cX9_keep 115 = .ok (.dup2, 1) := by decide +kernel
theorem dX9_keep_116 : decode cX9_keep 116 = .ok (.iaload, 1) := by decide +kernel
theorem dX9_keep_117 : decode cX9_keep 117 = .ok (.iconst 1, 1) := by decide +kernel
theorem dX9_keep_118 : decode cX9_keep 118 = .ok (.iadd, 1) := by decide +kernel
theorem dX9_keep_119 : decode cX9_keep 119 = .ok (.iastore, 1) := by decide +kernel
theorem dX9_keep_120 : decode cX9_keep 120 = .ok (.return_, 1) := by decide +kernel
theorem dX9_clause_0 : decode cX9_clause 0 = .ok (.iload_n 1, 1) := by decide +kernel
theorem dX9_clause_1 : decode cX9_clause 1 = .ok (.i2l, 1) := by decide +kernel
theorem dX9_clause_2 : decode cX9_clause 2 = .ok (.lconst 0, 1) := by decide +kernel
theorem dX9_clause_3 : decode cX9_clause 3 = .ok (.ldc2_w 50, 3) := by decide +kernel
theorem dX9_clause_6 : decode cX9_clause 6 = .ok (.invokestatic 43, 3) := by decide +kernel
theorem dX9_clause_9 : decode cX9_clause 9 = .ok (.ifCond .eq 48, 3) := by decide +kernel
theorem dX9_clause_12 : decode cX9_clause 12 = .ok (.iload_n 2, 1) := by decide +kernel
theorem dX9_clause_13 : decode cX9_clause 13 = .ok (.invokestatic 83, 3) := by decide +kernel
theorem dX9_clause_16 : decode cX9_clause 16 = .ok (.ifCond .eq 41, 3) := by decide +kernel
theorem dX9_clause_19 : decode cX9_clause 19 = .ok (.iload 4, 2) := by decide +kernel
theorem dX9_clause_21 : decode cX9_clause 21 = .ok (.i2l, 1) := by decide +kernel
theorem dX9_clause_22 : decode cX9_clause 22 = .ok (.lconst 0, 1) := by decide +kernel
theorem dX9_clause_23 : decode cX9_clause 23 = .ok (.ldc2_w 86, 3) := by decide +kernel
theorem dX9_clause_26 : decode cX9_clause 26 = .ok (.invokestatic 43, 3) := by decide +kernel
theorem dX9_clause_29 : decode cX9_clause 29 = .ok (.ifCond .eq 28, 3) := by decide +kernel
theorem dX9_clause_32 : decode cX9_clause 32 = .ok (.iload_n 3, 1) := by decide +kernel
theorem dX9_clause_33 : decode cX9_clause 33 = .ok (.i2l, 1) := by decide +kernel
theorem dX9_clause_34 : decode cX9_clause 34 = .ok (.lconst 0, 1) := by decide +kernel
theorem dX9_clause_35 : decode cX9_clause 35 = .ok (.iload 4, 2) := by decide +kernel
theorem dX9_clause_37 : decode cX9_clause 37 = .ok (.i2l, 1) := by decide +kernel
theorem dX9_clause_38 : decode cX9_clause 38 = .ok (.invokestatic 43, 3) := by decide +kernel
theorem dX9_clause_41 : decode cX9_clause 41 = .ok (.ifCond .eq 16, 3) := by decide +kernel
theorem dX9_clause_44 : decode cX9_clause 44 = .ok (.iload 5, 2) := by decide +kernel
theorem dX9_clause_46 : decode cX9_clause 46 = .ok (.i2l, 1) := by decide +kernel
theorem dX9_clause_47 : decode cX9_clause 47 = .ok (.lconst 0, 1) := by decide +kernel
theorem dX9_clause_48 : decode cX9_clause 48 = .ok (.ldc2_w 50, 3) := by decide +kernel
theorem dX9_clause_51 : decode cX9_clause 51 = .ok (.invokestatic 43, 3) := by decide +kernel
theorem dX9_clause_54 : decode cX9_clause 54 = .ok (.ifCond .ne 10, 3) := by decide +kernel
theorem dX9_clause_57 : decode cX9_clause 57 = .ok (.aload_n 0, 1) := by decide +kernel
theorem dX9_clause_58 : decode cX9_clause 58 = .ok (.bipush (-2), 2) := by decide +kernel
theorem dX9_clause_60 : decode cX9_clause 60 = .ok (.invokevirtual 62, 3) := by decide +kernel
theorem dX9_clause_63 : decode cX9_clause 63 = .ok (.ireturn, 1) := by decide +kernel
theorem dX9_clause_64 : decode cX9_clause 64 = .ok (.aload_n 0, 1) := by decide +kernel
theorem dX9_clause_65 : decode cX9_clause 65 = .ok (.invokevirtual 47, 3) := by decide +kernel
theorem dX9_clause_68 : decode cX9_clause 68 = .ok (.bipush 8, 2) := by decide +kernel
theorem dX9_clause_70 : decode cX9_clause 70 = .ok (.if_icmp .ne 8, 3) := by decide +kernel
theorem dX9_clause_73 : decode cX9_clause 73 = .ok (.aload_n 0, 1) := by decide +kernel
theorem dX9_clause_74 : decode cX9_clause 74 = .ok (.invokevirtual 66, 3) := by decide +kernel
theorem dX9_clause_77 : decode cX9_clause 77 = .ok (.ireturn, 1) := by decide +kernel
theorem dX9_clause_78 : decode cX9_clause 78 = .ok (.aload_n 0, 1) := by decide +kernel
theorem dX9_clause_79 : decode cX9_clause 79 = .ok (.invokevirtual 88, 3) := by decide +kernel
theorem dX9_clause_82 : decode cX9_clause 82 = .ok (.aload_n 0, 1) := by decide +kernel
theorem dX9_clause_83 : decode cX9_clause 83 = .ok (.getfield 7, 3) := by decide +kernel
theorem dX9_clause_86 : decode cX9_clause 86 = .ok (.iload_n 1, 1) := by decide +kernel
theorem dX9_clause_87 : decode cX9_clause 87 = .ok (.iload_n 2, 1) := by decide +kernel
theorem dX9_clause_88 : decode cX9_clause 88 = .ok (.iload_n 3, 1) := by decide +kernel
theorem dX9_clause_89 : decode cX9_clause 89 = .ok (.iload 4, 2) := by decide +kernel
theorem dX9_clause_91 : decode cX9_clause 91 = .ok (.iload 5, 2) := by decide +kernel
theorem dX9_clause_93 : decode cX9_clause 93 = .ok (.invokestatic 91, 3) := by decide +kernel
theorem dX9_clause_96 : decode cX9_clause 96 = .ok (.aload_n 0, 1) := by decide +kernel
theorem dX9_clause_97 : decode cX9_clause 97 = .ok (.invokevirtual 47, 3) := by decide +kernel
theorem dX9_clause_100 : decode cX9_clause 100 = .ok (.iconst 1, 1) := by decide +kernel
theorem dX9_clause_101 : decode cX9_clause 101 = .ok (.isub, 1) := by decide +kernel
theorem dX9_clause_102 : decode cX9_clause 102 = .ok (.ireturn, 1) := by decide +kernel
theorem dX9_strike_0 : decode cX9_strike 0 = .ok (.aload_n 0, 1) := by decide +kernel
theorem dX9_strike_1 : decode cX9_strike 1 = .ok (.iload_n 1, 1) := by decide +kernel
theorem dX9_strike_2 : decode cX9_strike 2 = .ok (.invokevirtual 95, 3) := by decide +kernel
theorem dX9_strike_5 : decode cX9_strike 5 = .ok (.ifCond .ne 10, 3) := by decide +kernel
theorem dX9_strike_8 : decode cX9_strike 8 = .ok (.aload_n 0, 1) := by decide +kernel
theorem dX9_strike_9 : decode cX9_strike 9 = .ok (.bipush (-2), 2) := by decide +kernel
theorem dX9_strike_11 : decode cX9_strike 11 = .ok (.invokevirtual 62, 3) := by decide +kernel
theorem dX9_strike_14 : decode cX9_strike 14 = .ok (.ireturn, 1) := by decide +kernel
theorem dX9_strike_15 : decode cX9_strike 15 = .ok (.aload_n 0, 1) := by decide +kernel
theorem dX9_strike_16 : decode cX9_strike 16 = .ok (.invokevirtual 88, 3) := by decide +kernel
theorem dX9_strike_19 : decode cX9_strike 19 = .ok (.iconst 5, 1) := by decide +kernel
theorem dX9_strike_20 : decode cX9_strike 20 = .ok (.iload_n 1, 1) := by decide +kernel
theorem dX9_strike_21 : decode cX9_strike 21 = .ok (.imul, 1) := by decide +kernel
theorem dX9_strike_22 : decode cX9_strike 22 = .ok (.istore_n 2, 1) := by decide +kernel
theorem dX9_strike_23 : decode cX9_strike 23 = .ok (.iload_n 2, 1) := by decide +kernel
theorem dX9_strike_24 : decode cX9_strike 24 = .ok (.bipush 35, 2) := by decide +kernel
theorem dX9_strike_26 : decode cX9_strike 26 = .ok (.if_icmp .ge 29, 3) := by decide +kernel
theorem dX9_strike_29 : decode cX9_strike 29 = .ok (.aload_n 0, 1) := by decide +kernel
theorem dX9_strike_30 : decode cX9_strike 30 = .ok (.getfield 7, 3) := by decide +kernel
theorem dX9_strike_33 : decode cX9_strike 33 = .ok (.bipush 46, 2) := by decide +kernel
theorem dX9_strike_35 : decode cX9_strike 35 = .ok (.iload_n 2, 1) := by decide +kernel
theorem dX9_strike_36 : decode cX9_strike 36 = .ok (.iadd, 1) := by decide +kernel
theorem dX9_strike_37 : decode cX9_strike 37 = .ok (.aload_n 0, 1) := by decide +kernel
theorem dX9_strike_38 : decode cX9_strike 38 = .ok (.getfield 7, 3) := by decide +kernel
theorem dX9_strike_41 : decode cX9_strike 41 = .ok (.bipush 46, 2) := by decide +kernel
theorem dX9_strike_43 : decode cX9_strike 43 = .ok (.iload_n 2, 1) := by decide +kernel
theorem dX9_strike_44 : decode cX9_strike 44 = .ok (.iadd, 1) := by decide +kernel
theorem dX9_strike_45 : decode cX9_strike 45 = .ok (.iconst 5, 1) := by decide +kernel
theorem dX9_strike_46 : decode cX9_strike 46 = .ok (.iadd, 1) := by decide +kernel
theorem dX9_strike_47 : decode cX9_strike 47 = .ok (.iaload, 1) := by decide +kernel
theorem dX9_strike_48 : decode cX9_strike 48 = .ok (.iastore, 1) := by decide +kernel
theorem dX9_strike_49 : decode cX9_strike 49 = .ok (.iinc 2 1, 3) := by decide +kernel
theorem dX9_strike_52 : decode cX9_strike 52 = .ok (.goto (-29), 3) := by decide +kernel
theorem dX9_strike_55 : decode cX9_strike 55 = .ok (.aload_n 0, 1) := by decide +kernel
theorem dX9_strike_56 : decode cX9_strike 56 = .ok (.getfield 7, 3) := by decide +kernel
theorem dX9_strike_59 : decode cX9_strike 59 = .ok (.iconst 1, 1) := by decide +kernel
theorem dX9_strike_60 : decode cX9_strike 60 = .ok (.dup2, 1) := by decide +kernel
theorem dX9_strike_61 : decode cX9_strike 61 = .ok (.iaload, 1) := by decide +kernel
theorem dX9_strike_62 : decode cX9_strike 62 = .ok (.iconst 1, 1) := by decide +kernel
theorem dX9_strike_63 : decode cX9_strike 63 = .ok (.isub, 1) := by decide +kernel
theorem dX9_strike_64 : decode cX9_strike 64 = .ok (.iastore, 1) := by decide +kernel
theorem dX9_strike_65 : decode cX9_strike 65 = .ok (.aload_n 0, 1) := by decide +kernel
theorem dX9_strike_66 : decode cX9_strike 66 = .ok (.invokevirtual 47, 3) := by decide +kernel
theorem dX9_strike_69 : decode cX9_strike 69 = .ok (.ireturn, 1) := by decide +kernel
theorem dX9_undo_0 : decode cX9_undo 0 = .ok (.aload_n 0, 1) := by decide +kernel
theorem dX9_undo_1 : decode cX9_undo 1 = .ok (.getfield 7, 3) := by decide +kernel
theorem dX9_undo_4 : decode cX9_undo 4 = .ok (.iconst 3, 1) := by decide +kernel
theorem dX9_undo_5 : decode cX9_undo 5 = .ok (.iaload, 1) := by decide +kernel
theorem dX9_undo_6 : decode cX9_undo 6 = .ok (.ifCond .ne 8, 3) := by decide +kernel
theorem dX9_undo_9 : decode cX9_undo 9 = .ok (.aload_n 0, 1) := by decide +kernel
theorem dX9_undo_10 : decode cX9_undo 10 = .ok (.invokevirtual 98, 3) := by decide +kernel
theorem dX9_undo_13 : decode cX9_undo 13 = .ok (.ireturn, 1) := by decide +kernel
theorem dX9_undo_14 : decode cX9_undo 14 = .ok (.aload_n 0, 1) := by decide +kernel
theorem dX9_undo_15 : decode cX9_undo 15 = .ok (.getfield 7, 3) := by decide +kernel
theorem dX9_undo_18 : decode cX9_undo 18 = .ok (.iconst 3, 1) := by decide +kernel
theorem dX9_undo_19 : decode cX9_undo 19 = .ok (.dup2, 1) := by decide +kernel
theorem dX9_undo_20 : decode cX9_undo 20 = .ok (.iaload, 1) := by decide +kernel
theorem dX9_undo_21 : decode cX9_undo 21 = .ok (.iconst 1, 1) := by decide +kernel
theorem dX9_undo_22 : decode cX9_undo 22 = .ok (.isub, 1) := by decide +kernel
theorem dX9_undo_23 : decode cX9_undo 23 = .ok (.iastore, 1) := by decide +kernel
theorem dX9_undo_24 : decode cX9_undo 24 = .ok (.bipush 126, 2) := by decide +kernel
theorem dX9_undo_26 : decode cX9_undo 26 = .ok (.bipush 41, 2) := by decide +kernel
theorem dX9_undo_28 : decode cX9_undo 28 = .ok (.aload_n 0, 1) := by decide +kernel
theorem dX9_undo_29 : decode cX9_undo 29 = .ok (.getfield 7, 3) := by decide +kernel
theorem dX9_undo_32 : decode cX9_undo 32 = .ok (.iconst 3, 1) := by decide +kernel
theorem dX9_undo_33 : decode cX9_undo 33 = .ok (.iaload, 1) := by decide +kernel
theorem dX9_undo_34 : decode cX9_undo 34 = .ok (.imul, 1) := by decide +kernel
theorem dX9_undo_35 : decode cX9_undo 35 = .ok (.iadd, 1) := by decide +kernel
theorem dX9_undo_36 : decode cX9_undo 36 = .ok (.istore_n 1, 1) := by decide +kernel
theorem dX9_undo_37 : decode cX9_undo 37 = .ok (.iconst 0, 1) := by decide +kernel
theorem dX9_undo_38 : decode cX9_undo 38 = .ok (.istore_n 2, 1) := by decide +kernel
theorem dX9_undo_39 : decode cX9_undo 39 = .ok (.iload_n 2, 1) := by decide +kernel
theorem dX9_undo_40 : decode cX9_undo 40 = .ok (.bipush 40, 2) := by decide +kernel
theorem dX9_undo_42 : decode cX9_undo 42 = .ok (.if_icmp .ge 26, 3) := by decide +kernel
theorem dX9_undo_45 : decode cX9_undo 45 = .ok (.aload_n 0, 1) := by decide +kernel
theorem dX9_undo_46 : decode cX9_undo 46 = .ok (.getfield 7, 3) := by decide +kernel
theorem dX9_undo_49 : decode cX9_undo 49 = .ok (.bipush 46, 2) := by decide +kernel
theorem dX9_undo_51 : decode cX9_undo 51 = .ok (.iload_n 2, 1) := by decide +kernel
theorem dX9_undo_52 : decode cX9_undo 52 = .ok (.iadd, 1) := by decide +kernel
theorem dX9_undo_53 : decode cX9_undo 53 = .ok (.aload_n 0, 1) := by decide +kernel
theorem dX9_undo_54 : decode cX9_undo 54 = .ok (.getfield 7, 3) := by decide +kernel
theorem dX9_undo_57 : decode cX9_undo 57 = .ok (.iload_n 1, 1) := by decide +kernel
theorem dX9_undo_58 : decode cX9_undo 58 = .ok (.iload_n 2, 1) := by decide +kernel
theorem dX9_undo_59 : decode cX9_undo 59 = .ok (.iadd, 1) := by decide +kernel
theorem dX9_undo_60 : decode cX9_undo 60 = .ok (.iaload, 1) := by decide +kernel
theorem dX9_undo_61 : decode cX9_undo 61 = .ok (.iastore, 1) := by decide +kernel
theorem dX9_undo_62 : decode cX9_undo 62 = .ok (.iinc 2 1, 3) := by decide +kernel
theorem dX9_undo_65 : decode cX9_undo 65 = .ok (.goto (-26), 3) := by decide +kernel
theorem dX9_undo_68 : decode cX9_undo 68 = .ok (.aload_n 0, 1) := by decide +kernel
theorem dX9_undo_69 : decode cX9_undo 69 = .ok (.getfield 7, 3) := by decide +kernel
theorem dX9_undo_72 : decode cX9_undo 72 = .ok (.iconst 1, 1) := by decide +kernel
theorem dX9_undo_73 : decode cX9_undo 73 = .ok (.aload_n 0, 1) := by decide +kernel
theorem dX9_undo_74 : decode cX9_undo 74 = .ok (.getfield 7, 3) := by decide +kernel
theorem dX9_undo_77 : decode cX9_undo 77 = .ok (.iload_n 1, 1) := by decide +kernel
theorem dX9_undo_78 : decode cX9_undo 78 = .ok (.bipush 40, 2) := by decide +kernel
theorem dX9_undo_80 : decode cX9_undo 80 = .ok (.iadd, 1) := by decide +kernel
theorem dX9_undo_81 : decode cX9_undo 81 = .ok (.iaload, 1) := by decide +kernel
theorem dX9_undo_82 : decode cX9_undo 82 = .ok (.iastore, 1) := by decide +kernel
theorem dX9_undo_83 : decode cX9_undo 83 = .ok (.aload_n 0, 1) := by decide +kernel
theorem dX9_undo_84 : decode cX9_undo 84 = .ok (.invokevirtual 47, 3) := by decide +kernel
theorem dX9_undo_87 : decode cX9_undo 87 = .ok (.ireturn, 1) := by decide +kernel
theorem kX9_towns : zCV yX9_towns RX9 cX9_towns 1 (some .int) 0 := ⟨q4_78, qp17, q1_3, q4_79, rfl, by decide +kernel, by decide +kernel, by decide +kernel⟩
theorem kX9_clauses : zCV yX9_clauses RX9 cX9_clauses 1 (some .int) 0 := ⟨q4_125, qp21, q1_3, q4_126, rfl, by decide +kernel, by decide +kernel, by decide +kernel⟩
theorem kX9_isTown : zCV yX9_isTown RX9 cX9_isTown 2 (some .boolean) 1 := ⟨q4_108, qp20, q1_3, q4_109, rfl, by decide +kernel, by decide +kernel, by decide +kernel⟩
theorem kX9_isClause : zCV yX9_isClause RX9 cX9_isClause 2 (some .boolean) 1 := ⟨q4_140, qp23, q1_3, q4_141, rfl, by decide +kernel, by decide +kernel, by decide +kernel⟩
theorem kX9_isAct : zCS yX9_isAct cX9_isAct 1 (some .boolean) 1 := ⟨q4_120, q1_3, q4_121, by decide +kernel, by decide +kernel, by decide +kernel⟩
theorem kX9_isDay : zCS yX9_isDay cX9_isDay 1 (some .boolean) 1 := ⟨q4_171, q1_3, q4_172, by decide +kernel, by decide +kernel, by decide +kernel⟩
theorem kX9_areActs : zCS yX9_areActs cX9_areActs 1 (some .boolean) 1 := ⟨q4_220, q1_3, q4_221, by decide +kernel, by decide +kernel, by decide +kernel⟩
theorem kX9_isAsker : zCS yX9_isAsker cX9_isAsker 2 (some .boolean) 2 := ⟨q4_175, q1_3, q4_176, by decide +kernel, by decide +kernel, by decide +kernel⟩
theorem kX9_has : zCV yX9_has RX9 cX9_has 3 (some .int) 2 := ⟨q4_157, qp25, q1_3, q4_158, rfl, by decide +kernel, by decide +kernel, by decide +kernel⟩
theorem kX9_land : zCV yX9_land RX9 cX9_land 2 (some .int) 0 := ⟨q4_73, q4_74, q1_3, q4_75, rfl, by decide +kernel, by decide +kernel, by decide +kernel⟩
theorem kX9_layTown : zCS yX9_layTown cX9_layTown 2 none 2 := ⟨q4_100, q1_3, q4_101, by decide +kernel, by decide +kernel, by decide +kernel⟩
theorem kX9_town : zCV yX9_town RX9 cX9_town 2 (some .int) 1 := ⟨q4_84, q4_85, q1_3, q4_86, rfl, by decide +kernel, by decide +kernel, by decide +kernel⟩
theorem kX9_layRoad : zCS yX9_layRoad cX9_layRoad 4 none 4 := ⟨q4_112, q1_3, q4_113, by decide +kernel, by decide +kernel, by decide +kernel⟩
theorem kX9_road : zCV yX9_road RX9 cX9_road 5 (some .int) 3 := ⟨q4_103, q4_104, q1_3, q4_105, rfl, by decide +kernel, by decide +kernel, by decide +kernel⟩
theorem kX9_layClause : zCS yX9_layClause cX9_layClause 7 none 6 := ⟨q4_132, q1_3, q4_133, by decide +kernel, by decide +kernel, by decide +kernel⟩
theorem kX9_keep : zCV yX9_keep RX9 cX9_keep 3 none 0 := ⟨q4_129, qp22, q1_3, q4_130, rfl, by decide +kernel, by decide +kernel, by decide +kernel⟩
theorem kX9_clause : zCV yX9_clause RX9 cX9_clause 6 (some .int) 5 := ⟨q4_115, q4_116, q1_3, q4_117, rfl, by decide +kernel, by decide +kernel, by decide +kernel⟩
theorem kX9_strike : zCV yX9_strike RX9 cX9_strike 3 (some .int) 1 := ⟨q4_135, q4_136, q1_3, q4_137, rfl, by decide +kernel, by decide +kernel, by decide +kernel⟩
theorem kX9_undo : zCV yX9_undo RX9 cX9_undo 3 (some .int) 0 := ⟨q4_143, q4_144, q1_3, q4_145, rfl, by decide +kernel, by decide +kernel, by decide +kernel⟩
set_option maxHeartbeats 4000000 in
set_option maxRecDepth 100000 in
theorem c_X9_towns (l : Launch) (g : zG) (o : Nat) (a : Nat → Nat) (F : Nat → Int32) (L : Nat → Int64) (A : Nat → Nat → Int32) (X : va_W) (T : Nat) (hT : A 0 0 = nI T) : Met l yX9_towns (Cond.code yX9_towns cX9_towns 1 (some .int) :: TBL) { frames := 0, cells := 0, slots := 0, locals := 0 } (zPc [.ref o] g (mW g o a F L A ++ X)) (zQi g (fun r ws => r = nI T ∧ ws = mW g o a F L A ++ X)) 0 0 (zA (gz g)) := by
  refine z_start (by decide +kernel) rfl (Nat.le_of_ble_eq_true rfl) ?_
  intro p e s m args below meth c ls hE hr hnm hB hl
  have hl : lv_has ls 1 [(0, .ref o)] := hl
  revert hB
  generalize s.heap = H
  generalize ([] : List Loc) = locs
  intro hB
  refine lv_aload_n hE.x hE.b dX9_towns_0 rfl (lv_at hl 0 rfl) ?_
  refine z_get (v := .ref (a 0)) hE hB inX9 0 rfl rfl 0 (by decide) q4_1 (fun _ h9 => h9) rfl dX9_towns_1 ?_
  refine lv_iconst (v := nI 0) hE.x hE.b dX9_towns_4 rfl ?_
  refine z_iald (k := 0) (f := (A 0)) hE hB 1 rfl (by omega) (by decide) dX9_towns_5 ?_
  refine z_top (y := (nI T)) hT ?_
  exact z_iret (v := (nI T)) (ws := mW g o a F L A ++ X) hE hB hr (⟨rfl, rfl⟩) dX9_towns_6

set_option maxHeartbeats 4000000 in
set_option maxRecDepth 100000 in
theorem c_X9_clauses (l : Launch) (g : zG) (o : Nat) (a : Nat → Nat) (F : Nat → Int32) (L : Nat → Int64) (A : Nat → Nat → Int32) (X : va_W) (C : Nat) (hC : A 0 1 = nI C) : Met l yX9_clauses (Cond.code yX9_clauses cX9_clauses 1 (some .int) :: TBL) { frames := 0, cells := 0, slots := 0, locals := 0 } (zPc [.ref o] g (mW g o a F L A ++ X)) (zQi g (fun r ws => r = nI C ∧ ws = mW g o a F L A ++ X)) 0 0 (zA (gz g)) := by
  refine z_start (by decide +kernel) rfl (Nat.le_of_ble_eq_true rfl) ?_
  intro p e s m args below meth c ls hE hr hnm hB hl
  have hl : lv_has ls 1 [(0, .ref o)] := hl
  revert hB
  generalize s.heap = H
  generalize ([] : List Loc) = locs
  intro hB
  refine lv_aload_n hE.x hE.b dX9_clauses_0 rfl (lv_at hl 0 rfl) ?_
  refine z_get (v := .ref (a 0)) hE hB inX9 0 rfl rfl 0 (by decide) q4_1 (fun _ h9 => h9) rfl dX9_clauses_1 ?_
  refine lv_iconst (v := nI 1) hE.x hE.b dX9_clauses_4 rfl ?_
  refine z_iald (k := 1) (f := (A 0)) hE hB 1 rfl (by omega) (by decide) dX9_clauses_5 ?_
  refine z_top (y := (nI C)) hC ?_
  exact z_iret (v := (nI C)) (ws := mW g o a F L A ++ X) hE hB hr (⟨rfl, rfl⟩) dX9_clauses_6

set_option maxHeartbeats 4000000 in
set_option maxRecDepth 100000 in
theorem c_X9_isTown (l : Launch) (g : zG) (o : Nat) (a : Nat → Nat) (F : Nat → Int32) (L : Nat → Int64) (A : Nat → Nat → Int32) (X : va_W) (T : Nat) (t : Int32) (hT : A 0 0 = nI T) (h8 : T ≤ 8) : Met l yX9_isTown (Cond.code yX9_isTown cX9_isTown 2 (some .boolean) :: TBL) { frames := 1, cells := 0, slots := 0, locals := 25 } (zPc [.ref o, .int t] g (mW g o a F L A ++ X)) (zQi g (fun r ws => r = bI (pTown T t) ∧ ws = mW g o a F L A ++ X)) 0 0 (zA (gz g)) := by
  refine z_start (by decide +kernel) rfl (Nat.le_of_ble_eq_true rfl) ?_
  intro p e s m args below meth c ls hE hr hnm hB hl
  have hl : lv_has ls 2 [(0, .ref o), (1, .int t)] := hl
  revert hB
  generalize s.heap = H
  generalize ([] : List Loc) = locs
  intro hB
  refine lv_iload_n hE.x hE.b dX9_isTown_0 rfl (lv_at hl 1 rfl) ?_
  refine lv_i2l hE.x hE.b dX9_isTown_1 rfl ?_
  refine lv_lconst (v := lN 0) hE.x hE.b dX9_isTown_2 rfl ?_
  refine lv_aload_n hE.x hE.b dX9_isTown_3 rfl (lv_at hl 0 rfl) ?_
  refine z_qi hB (z_cV hE hB (c_X9_towns l g o a F L A X T hT) q4_76 kX9_towns ⟨rfl, rfl⟩ ⟨Nat.le_of_ble_eq_true rfl, Nat.le_of_ble_eq_true rfl⟩ 0 rfl rfl rfl hl.1 rfl (Nat.le_of_ble_eq_true rfl) dX9_isTown_4 ⟨Nat.le_of_ble_eq_true rfl, Nat.le_of_ble_eq_true rfl⟩) (fun r_1 w_2 H locs hw hB => ?_)
  obtain ⟨hr9, hw9⟩ := hw
  have hr9 := hr9.symm
  subst hr9
  have hw9 := hw9.symm
  subst hw9
  refine lv_iconst (v := nI 1) hE.x hE.b dX9_isTown_7 rfl ?_
  refine lv_isub hE.x hE.b dX9_isTown_8 ?_
  refine lv_i2l hE.x hE.b dX9_isTown_9 rfl ?_
  refine z_qi hB (z_cS hE hB (c_X9_in l g (t.toInt64) (lN 0) (((nI T) - (nI 1)).toInt64) t.toInt 0 (((nI T) - (nI 1)).toInt) (mW g o a F L A ++ X) (Int32.toInt_toInt64 _) (by decide) (Int32.toInt_toInt64 _)) q4_88 kX9_in ⟨rfl, rfl⟩ ⟨Nat.le_of_ble_eq_true rfl, Nat.le_of_ble_eq_true rfl⟩ rfl hl.1 rfl (Nat.le_of_ble_eq_true rfl) dX9_isTown_10 ⟨Nat.le_of_ble_eq_true rfl, Nat.le_of_ble_eq_true rfl⟩) (fun r_3 w_4 H locs hw hB => ?_)
  obtain ⟨hr9, hw9⟩ := hw
  have hr9 := hr9.symm
  subst hr9
  have hw9 := hw9.symm
  subst hw9
  exact z_bret (b := (inZ 0 (((nI T) - (nI 1)).toInt) t.toInt)) (ws := mW g o a F L A ++ X) hE hB hr (⟨bI_dec (by rw [pk_sub_toInt (by omega) (by omega)]; omega), rfl⟩) dX9_isTown_13

set_option maxHeartbeats 4000000 in
set_option maxRecDepth 100000 in
theorem c_X9_isClause (l : Launch) (g : zG) (o : Nat) (a : Nat → Nat) (F : Nat → Int32) (L : Nat → Int64) (A : Nat → Nat → Int32) (X : va_W) (C : Nat) (t : Int32) (hC : A 0 1 = nI C) (h8 : C ≤ 8) : Met l yX9_isClause (Cond.code yX9_isClause cX9_isClause 2 (some .boolean) :: TBL) { frames := 1, cells := 0, slots := 0, locals := 25 } (zPc [.ref o, .int t] g (mW g o a F L A ++ X)) (zQi g (fun r ws => r = bI (pTown C t) ∧ ws = mW g o a F L A ++ X)) 0 0 (zA (gz g)) := by
  refine z_start (by decide +kernel) rfl (Nat.le_of_ble_eq_true rfl) ?_
  intro p e s m args below meth c ls hE hr hnm hB hl
  have hl : lv_has ls 2 [(0, .ref o), (1, .int t)] := hl
  revert hB
  generalize s.heap = H
  generalize ([] : List Loc) = locs
  intro hB
  refine lv_iload_n hE.x hE.b dX9_isClause_0 rfl (lv_at hl 1 rfl) ?_
  refine lv_i2l hE.x hE.b dX9_isClause_1 rfl ?_
  refine lv_lconst (v := lN 0) hE.x hE.b dX9_isClause_2 rfl ?_
  refine lv_aload_n hE.x hE.b dX9_isClause_3 rfl (lv_at hl 0 rfl) ?_
  refine z_qi hB (z_cV hE hB (c_X9_clauses l g o a F L A X C hC) q4_123 kX9_clauses ⟨rfl, rfl⟩ ⟨Nat.le_of_ble_eq_true rfl, Nat.le_of_ble_eq_true rfl⟩ 0 rfl rfl rfl hl.1 rfl (Nat.le_of_ble_eq_true rfl) dX9_isClause_4 ⟨Nat.le_of_ble_eq_true rfl, Nat.le_of_ble_eq_true rfl⟩) (fun r_1 w_2 H locs hw hB => ?_)
  obtain ⟨hr9, hw9⟩ := hw
  have hr9 := hr9.symm
  subst hr9
  have hw9 := hw9.symm
  subst hw9
  refine lv_iconst (v := nI 1) hE.x hE.b dX9_isClause_7 rfl ?_
  refine lv_isub hE.x hE.b dX9_isClause_8 ?_
  refine lv_i2l hE.x hE.b dX9_isClause_9 rfl ?_
  refine z_qi hB (z_cS hE hB (c_X9_in l g (t.toInt64) (lN 0) (((nI C) - (nI 1)).toInt64) t.toInt 0 (((nI C) - (nI 1)).toInt) (mW g o a F L A ++ X) (Int32.toInt_toInt64 _) (by decide) (Int32.toInt_toInt64 _)) q4_88 kX9_in ⟨rfl, rfl⟩ ⟨Nat.le_of_ble_eq_true rfl, Nat.le_of_ble_eq_true rfl⟩ rfl hl.1 rfl (Nat.le_of_ble_eq_true rfl) dX9_isClause_10 ⟨Nat.le_of_ble_eq_true rfl, Nat.le_of_ble_eq_true rfl⟩) (fun r_3 w_4 H locs hw hB => ?_)
  obtain ⟨hr9, hw9⟩ := hw
  have hr9 := hr9.symm
  subst hr9
  have hw9 := hw9.symm
  subst hw9
  exact z_bret (b := (inZ 0 (((nI C) - (nI 1)).toInt) t.toInt)) (ws := mW g o a F L A ++ X) hE hB hr (⟨bI_dec (by rw [pk_sub_toInt (by omega) (by omega)]; omega), rfl⟩) dX9_isClause_13

set_option maxHeartbeats 4000000 in
set_option maxRecDepth 100000 in
theorem c_X9_isAct (l : Launch) (g : zG) (t : Int32) (X : va_W)  : Met l yX9_isAct (Cond.code yX9_isAct cX9_isAct 1 (some .boolean) :: TBL) { frames := 1, cells := 0, slots := 0, locals := 25 } (zPc [.int t] g (X)) (zQi g (fun r ws => r = bI (pIn 0 5 t) ∧ ws = X)) 0 0 (zA (gz g)) := by
  refine z_start (by decide +kernel) rfl (Nat.le_of_ble_eq_true rfl) ?_
  intro p e s m args below meth c ls hE hr hnm hB hl
  have hl : lv_has ls 1 [(0, .int t)] := hl
  revert hB
  generalize s.heap = H
  generalize ([] : List Loc) = locs
  intro hB
  refine lv_iload_n hE.x hE.b dX9_isAct_0 rfl (lv_at hl 0 rfl) ?_
  refine lv_i2l hE.x hE.b dX9_isAct_1 rfl ?_
  refine lv_lconst (v := lN 0) hE.x hE.b dX9_isAct_2 rfl ?_
  refine lv_ldc2 (v := lN 5) hE.x hE.b hE.o (hE.t _ q4_118) dX9_isAct_3 ?_
  refine z_qi hB (z_cS hE hB (c_X9_in l g (t.toInt64) (lN 0) (lN 5) t.toInt 0 5 (X) (Int32.toInt_toInt64 _) (by decide) (by decide)) q4_88 kX9_in ⟨rfl, rfl⟩ ⟨Nat.le_of_ble_eq_true rfl, Nat.le_of_ble_eq_true rfl⟩ rfl hl.1 rfl (Nat.le_of_ble_eq_true rfl) dX9_isAct_6 ⟨Nat.le_of_ble_eq_true rfl, Nat.le_of_ble_eq_true rfl⟩) (fun r_1 w_2 H locs hw hB => ?_)
  obtain ⟨hr9, hw9⟩ := hw
  have hr9 := hr9.symm
  subst hr9
  have hw9 := hw9.symm
  subst hw9
  exact z_bret (b := (inZ 0 5 t.toInt)) (ws := X) hE hB hr (⟨rfl, rfl⟩) dX9_isAct_9

set_option maxHeartbeats 4000000 in
set_option maxRecDepth 100000 in
theorem c_X9_isDay (l : Launch) (g : zG) (t : Int32) (X : va_W)  : Met l yX9_isDay (Cond.code yX9_isDay cX9_isDay 1 (some .boolean) :: TBL) { frames := 1, cells := 0, slots := 0, locals := 25 } (zPc [.int t] g (X)) (zQi g (fun r ws => r = bI (pIn 0 59 t) ∧ ws = X)) 0 0 (zA (gz g)) := by
  refine z_start (by decide +kernel) rfl (Nat.le_of_ble_eq_true rfl) ?_
  intro p e s m args below meth c ls hE hr hnm hB hl
  have hl : lv_has ls 1 [(0, .int t)] := hl
  revert hB
  generalize s.heap = H
  generalize ([] : List Loc) = locs
  intro hB
  refine lv_iload_n hE.x hE.b dX9_isDay_0 rfl (lv_at hl 0 rfl) ?_
  refine lv_i2l hE.x hE.b dX9_isDay_1 rfl ?_
  refine lv_lconst (v := lN 0) hE.x hE.b dX9_isDay_2 rfl ?_
  refine lv_ldc2 (v := lN 59) hE.x hE.b hE.o (hE.t _ q4_173) dX9_isDay_3 ?_
  refine z_qi hB (z_cS hE hB (c_X9_in l g (t.toInt64) (lN 0) (lN 59) t.toInt 0 59 (X) (Int32.toInt_toInt64 _) (by decide) (by decide)) q4_88 kX9_in ⟨rfl, rfl⟩ ⟨Nat.le_of_ble_eq_true rfl, Nat.le_of_ble_eq_true rfl⟩ rfl hl.1 rfl (Nat.le_of_ble_eq_true rfl) dX9_isDay_6 ⟨Nat.le_of_ble_eq_true rfl, Nat.le_of_ble_eq_true rfl⟩) (fun r_1 w_2 H locs hw hB => ?_)
  obtain ⟨hr9, hw9⟩ := hw
  have hr9 := hr9.symm
  subst hr9
  have hw9 := hw9.symm
  subst hw9
  exact z_bret (b := (inZ 0 59 t.toInt)) (ws := X) hE hB hr (⟨rfl, rfl⟩) dX9_isDay_9

set_option maxHeartbeats 4000000 in
set_option maxRecDepth 100000 in
theorem c_X9_areActs (l : Launch) (g : zG) (t : Int32) (X : va_W)  : Met l yX9_areActs (Cond.code yX9_areActs cX9_areActs 1 (some .boolean) :: TBL) { frames := 1, cells := 0, slots := 0, locals := 25 } (zPc [.int t] g (X)) (zQi g (fun r ws => r = bI (pIn 0 63 t) ∧ ws = X)) 0 0 (zA (gz g)) := by
  refine z_start (by decide +kernel) rfl (Nat.le_of_ble_eq_true rfl) ?_
  intro p e s m args below meth c ls hE hr hnm hB hl
  have hl : lv_has ls 1 [(0, .int t)] := hl
  revert hB
  generalize s.heap = H
  generalize ([] : List Loc) = locs
  intro hB
  refine lv_iload_n hE.x hE.b dX9_areActs_0 rfl (lv_at hl 0 rfl) ?_
  refine lv_i2l hE.x hE.b dX9_areActs_1 rfl ?_
  refine lv_lconst (v := lN 0) hE.x hE.b dX9_areActs_2 rfl ?_
  refine lv_ldc2 (v := lN 63) hE.x hE.b hE.o (hE.t _ q4_222) dX9_areActs_3 ?_
  refine z_qi hB (z_cS hE hB (c_X9_in l g (t.toInt64) (lN 0) (lN 63) t.toInt 0 63 (X) (Int32.toInt_toInt64 _) (by decide) (by decide)) q4_88 kX9_in ⟨rfl, rfl⟩ ⟨Nat.le_of_ble_eq_true rfl, Nat.le_of_ble_eq_true rfl⟩ rfl hl.1 rfl (Nat.le_of_ble_eq_true rfl) dX9_areActs_6 ⟨Nat.le_of_ble_eq_true rfl, Nat.le_of_ble_eq_true rfl⟩) (fun r_1 w_2 H locs hw hB => ?_)
  obtain ⟨hr9, hw9⟩ := hw
  have hr9 := hr9.symm
  subst hr9
  have hw9 := hw9.symm
  subst hw9
  exact z_bret (b := (inZ 0 63 t.toInt)) (ws := X) hE hB hr (⟨rfl, rfl⟩) dX9_areActs_9

set_option maxHeartbeats 4000000 in
set_option maxRecDepth 100000 in
theorem c_X9_isAsker (l : Launch) (g : zG) (d : Int32) (z : Int32) (X : va_W)  : Met l yX9_isAsker (Cond.code yX9_isAsker cX9_isAsker 2 (some .boolean) :: TBL) { frames := 1, cells := 0, slots := 0, locals := 25 } (zPc [.int d, .int z] g (X)) (zQi g (fun r ws => r = bI (pIn 0 1 d && pIn 0 1 z) ∧ ws = X)) 0 0 (zA (gz g)) := by
  refine z_start (by decide +kernel) rfl (Nat.le_of_ble_eq_true rfl) ?_
  intro p e s m args below meth c ls hE hr hnm hB hl
  have hl : lv_has ls 2 [(0, .int d), (1, .int z)] := hl
  revert hB
  generalize s.heap = H
  generalize ([] : List Loc) = locs
  intro hB
  refine lv_iload_n hE.x hE.b dX9_isAsker_0 rfl (lv_at hl 0 rfl) ?_
  refine lv_i2l hE.x hE.b dX9_isAsker_1 rfl ?_
  refine lv_lconst (v := lN 0) hE.x hE.b dX9_isAsker_2 rfl ?_
  refine lv_lconst (v := lN 1) hE.x hE.b dX9_isAsker_3 rfl ?_
  refine z_qi hB (z_cS hE hB (c_X9_in l g (d.toInt64) (lN 0) (lN 1) d.toInt 0 1 (X) (Int32.toInt_toInt64 _) (by decide) (by decide)) q4_88 kX9_in ⟨rfl, rfl⟩ ⟨Nat.le_of_ble_eq_true rfl, Nat.le_of_ble_eq_true rfl⟩ rfl hl.1 rfl (Nat.le_of_ble_eq_true rfl) dX9_isAsker_4 ⟨Nat.le_of_ble_eq_true rfl, Nat.le_of_ble_eq_true rfl⟩) (fun r_1 w_2 H locs hw hB => ?_)
  obtain ⟨hr9, hw9⟩ := hw
  have hr9 := hr9.symm
  subst hr9
  have hw9 := hw9.symm
  subst hw9
  refine z_bf (b := (inZ 0 1 d.toInt)) (tgt := 24) hE dX9_isAsker_7 (by decide) (fun c_3 => ?_) (fun c_3 => ?_)
  · refine lv_iconst (v := nI 0) hE.x hE.b dX9_isAsker_24 rfl ?_
    exact z_bret (b := false) (ws := X) hE hB hr (⟨congrArg bI (by simp [c_3]), rfl⟩) dX9_isAsker_25
  · refine lv_iload_n hE.x hE.b dX9_isAsker_10 rfl (lv_at hl 1 rfl) ?_
    refine lv_i2l hE.x hE.b dX9_isAsker_11 rfl ?_
    refine lv_lconst (v := lN 0) hE.x hE.b dX9_isAsker_12 rfl ?_
    refine lv_lconst (v := lN 1) hE.x hE.b dX9_isAsker_13 rfl ?_
    refine z_qi hB (z_cS hE hB (c_X9_in l g (z.toInt64) (lN 0) (lN 1) z.toInt 0 1 (X) (Int32.toInt_toInt64 _) (by decide) (by decide)) q4_88 kX9_in ⟨rfl, rfl⟩ ⟨Nat.le_of_ble_eq_true rfl, Nat.le_of_ble_eq_true rfl⟩ rfl hl.1 rfl (Nat.le_of_ble_eq_true rfl) dX9_isAsker_14 ⟨Nat.le_of_ble_eq_true rfl, Nat.le_of_ble_eq_true rfl⟩) (fun r_4 w_5 H locs hw hB => ?_)
    obtain ⟨hr9, hw9⟩ := hw
    have hr9 := hr9.symm
    subst hr9
    have hw9 := hw9.symm
    subst hw9
    refine z_bf (b := (inZ 0 1 z.toInt)) (tgt := 24) hE dX9_isAsker_17 (by decide) (fun c_6 => ?_) (fun c_6 => ?_)
    · refine lv_iconst (v := nI 0) hE.x hE.b dX9_isAsker_24 rfl ?_
      exact z_bret (b := false) (ws := X) hE hB hr (⟨congrArg bI (by simp [c_3, c_6]), rfl⟩) dX9_isAsker_25
    · refine lv_iconst (v := nI 1) hE.x hE.b dX9_isAsker_20 rfl ?_
      refine lv_goto (tgt := 25) hE.x hE.b dX9_isAsker_21 (by decide) ?_
      exact z_bret (b := true) (ws := X) hE hB hr (⟨congrArg bI (by simp [c_3, c_6]), rfl⟩) dX9_isAsker_25

set_option maxHeartbeats 4000000 in
set_option maxRecDepth 100000 in
theorem c_X9_has (l : Launch) (g : zG) (o : Nat) (a : Nat → Nat) (F : Nat → Int32) (L : Nat → Int64) (A : Nat → Nat → Int32) (X : va_W) (q : Nat) (w : Nat) (hq : q < 8) (hw : w < 5) : Met l yX9_has (Cond.code yX9_has cX9_has 3 (some .int) :: TBL) { frames := 0, cells := 0, slots := 0, locals := 0 } (zPc [.ref o, .int (nI q), .int (nI w)] g (mW g o a F L A ++ X)) (zQi g (fun r ws => r = (A 0 (46 + 5 * q + w)) ∧ ws = mW g o a F L A ++ X)) 0 0 (zA (gz g)) := by
  refine z_start (by decide +kernel) rfl (Nat.le_of_ble_eq_true rfl) ?_
  intro p e s m args below meth c ls hE hr hnm hB hl
  have hl : lv_has ls 3 [(0, .ref o), (1, .int (nI q)), (2, .int (nI w))] := hl
  revert hB
  generalize s.heap = H
  generalize ([] : List Loc) = locs
  intro hB
  refine lv_aload_n hE.x hE.b dX9_has_0 rfl (lv_at hl 0 rfl) ?_
  refine z_get (v := .ref (a 0)) hE hB inX9 0 rfl rfl 0 (by decide) q4_1 (fun _ h9 => h9) rfl dX9_has_1 ?_
  refine lv_bipush (v := (nI 46)) hE.x hE.b dX9_has_4 rfl ?_
  refine lv_iconst (v := nI 5) hE.x hE.b dX9_has_6 rfl ?_
  refine lv_iload_n hE.x hE.b dX9_has_7 rfl (lv_at hl 1 rfl) ?_
  refine z_imulN hE dX9_has_8 ?_
  refine z_iaddN hE dX9_has_9 ?_
  refine lv_iload_n hE.x hE.b dX9_has_10 rfl (lv_at hl 2 rfl) ?_
  refine z_iaddN hE dX9_has_11 ?_
  refine z_iald (k := ((46 + (5 * q)) + w)) (f := (A 0)) hE hB 1 rfl (by omega) (by decide) dX9_has_12 ?_
  exact z_iret (v := ((A 0) ((46 + (5 * q)) + w))) (ws := mW g o a F L A ++ X) hE hB hr (⟨rfl, rfl⟩) dX9_has_13

set_option maxHeartbeats 4000000 in
set_option maxRecDepth 100000 in
theorem c_X9_land (l : Launch) (g : zG) (o : Nat) (a : Nat → Nat) (F : Nat → Int32) (L : Nat → Int64) (A : Nat → Nat → Int32) (X : va_W) (T : Nat) (hT : A 0 0 = nI T) : Met l yX9_land (Cond.code yX9_land cX9_land 2 (some .int) :: TBL) { frames := 1, cells := 0, slots := 0, locals := 21 } (zPc [.ref o] g (mW g o a F L A ++ X)) (zQi g (fun r ws => r = nI T ∧ ws = mW g o a F L (updA A 0 (clr (A 0))) ++ X)) 0 0 (zA (gz g)) := by
  refine z_start (by decide +kernel) rfl (Nat.le_of_ble_eq_true rfl) ?_
  intro p e s m args below meth c ls hE hr hnm hB hl
  have hl : lv_has ls 2 [(0, .ref o)] := hl
  revert hB
  generalize s.heap = H
  generalize ([] : List Loc) = locs
  intro hB
  refine lv_aload_n hE.x hE.b dX9_land_0 rfl (lv_at hl 0 rfl) ?_
  refine z_qi hB (z_cV hE hB (c_X9_towns l g o a F L A X T hT) q4_76 kX9_towns ⟨rfl, rfl⟩ ⟨Nat.le_of_ble_eq_true rfl, Nat.le_of_ble_eq_true rfl⟩ 0 rfl rfl rfl hl.1 rfl (Nat.le_of_ble_eq_true rfl) dX9_land_1 ⟨Nat.le_of_ble_eq_true rfl, Nat.le_of_ble_eq_true rfl⟩) (fun r_1 w_2 H locs hw hB => ?_)
  obtain ⟨hr9, hw9⟩ := hw
  have hr9 := hr9.symm
  subst hr9
  have hw9 := hw9.symm
  subst hw9
  refine lv_istore_n (lv' := [(1, .int (nI T)), (0, .ref o)]) hE.x hE.b dX9_land_4 rfl hl (by decide) rfl (fun ls hl => ?_)
  refine lv_aload_n hE.x hE.b dX9_land_5 rfl (lv_at hl 1 rfl) ?_
  refine z_get (v := .ref (a 0)) hE hB inX9 0 rfl rfl 0 (by decide) q4_1 (fun _ h9 => h9) rfl dX9_land_6 ?_
  refine z_qv hB (z_cS hE hB (c_X9_begin_0 l g o a F L A X) q4_80 kX9_begin ⟨rfl, rfl⟩ ⟨Nat.le_of_ble_eq_true rfl, Nat.le_of_ble_eq_true rfl⟩ rfl hl.1 rfl (Nat.le_of_ble_eq_true rfl) dX9_land_9 ⟨Nat.le_of_ble_eq_true rfl, Nat.le_of_ble_eq_true rfl⟩) (fun w_4 H locs hw hB => ?_)
  have hw9 := hw
  have hw9 := hw9.symm
  subst hw9
  refine lv_iload_n hE.x hE.b dX9_land_12 rfl (lv_at hl 0 rfl) ?_
  exact z_iret (v := (nI T)) (ws := mW g o a F L (updA A 0 (clr (A 0))) ++ X) hE hB hr (⟨rfl, rfl⟩) dX9_land_13

set_option maxHeartbeats 4000000 in
set_option maxRecDepth 100000 in
theorem c_X9_layTown_0 (l : Launch) (g : zG) (o : Nat) (a : Nat → Nat) (F : Nat → Int32) (L : Nat → Int64) (A : Nat → Nat → Int32) (X : va_W) (T : Nat) (rd : Int32) (hT : A 0 0 = nI T) (hT6 : T < 6) : Met l yX9_layTown (Cond.code yX9_layTown cX9_layTown 2 none :: TBL) { frames := 0, cells := 0, slots := 0, locals := 0 } (zPc [.ref (a 0), .int rd] g (mW g o a F L A ++ X)) (zQv g (fun ws => ws = mW g o a F L (updA A 0 (nTown (A 0) T rd)) ++ X)) 0 0 (zA (gz g)) := by
  refine z_start (by decide +kernel) rfl (Nat.le_of_ble_eq_true rfl) ?_
  intro p e s m args below meth c ls hE hr hnm hB hl
  have hl : lv_has ls 2 [(0, .ref (a 0)), (1, .int rd)] := hl
  revert hB
  generalize s.heap = H
  generalize ([] : List Loc) = locs
  intro hB
  refine lv_aload_n hE.x hE.b dX9_layTown_0 rfl (lv_at hl 0 rfl) ?_
  refine lv_iconst (v := nI 4) hE.x hE.b dX9_layTown_1 rfl ?_
  refine lv_aload_n hE.x hE.b dX9_layTown_2 rfl (lv_at hl 0 rfl) ?_
  refine lv_iconst (v := nI 0) hE.x hE.b dX9_layTown_3 rfl ?_
  refine z_iald (k := 0) (f := (A 0)) hE hB 1 rfl (by omega) (by decide) dX9_layTown_4 ?_
  refine z_top (y := (nI T)) hT ?_
  refine z_iaddN hE dX9_layTown_5 ?_
  refine lv_iload_n hE.x hE.b dX9_layTown_6 rfl (lv_at hl 1 rfl) ?_
  refine z_iast (k := (4 + T)) (f := (A 0)) (x := rd) (ws' := mW g o a F L (updA A 0 (upd (A 0) (4 + T) rd)) ++ X) hE hB 1 rfl (by omega) (by decide) rfl dX9_layTown_7 (fun H locs hB => ?_)
  refine lv_aload_n hE.x hE.b dX9_layTown_8 rfl (lv_at hl 0 rfl) ?_
  refine lv_iconst (v := nI 0) hE.x hE.b dX9_layTown_9 rfl ?_
  refine lv_dup2_11 hE.x hE.b dX9_layTown_10 rfl rfl ?_
  refine z_iald (k := 0) (f := (upd (A 0) (4 + T) rd)) hE hB 1 rfl (by omega) (by decide) dX9_layTown_11 ?_
  refine z_top (y := (nI T)) (by simp only [upd]; rw [if_neg (by omega)]; exact hT) ?_
  refine lv_iconst (v := nI 1) hE.x hE.b dX9_layTown_12 rfl ?_
  refine z_iaddN hE dX9_layTown_13 ?_
  refine z_iast (k := 0) (f := (upd (A 0) (4 + T) rd)) (x := (nI (T + 1))) (ws' := mW g o a F L (updA A 0 (upd (upd (A 0) (4 + T) rd) 0 (nI (T + 1)))) ++ X) hE hB 1 rfl (by omega) (by decide) rfl dX9_layTown_14 (fun H locs hB => ?_)
  exact z_vret (ws := mW g o a F L (updA A 0 (upd (upd (A 0) (4 + T) rd) 0 (nI (T + 1)))) ++ X) hE hB hr (rfl) dX9_layTown_15

set_option maxHeartbeats 4000000 in
set_option maxRecDepth 100000 in
theorem c_X9_layTown_6 (l : Launch) (g : zG) (o : Nat) (a : Nat → Nat) (F : Nat → Int32) (L : Nat → Int64) (A : Nat → Nat → Int32) (X : va_W) (T : Nat) (rd : Int32) (hT : A 6 0 = nI T) (hT6 : T < 6) : Met l yX9_layTown (Cond.code yX9_layTown cX9_layTown 2 none :: TBL) { frames := 0, cells := 0, slots := 0, locals := 0 } (zPc [.ref (a 6), .int rd] g (mW g o a F L A ++ X)) (zQv g (fun ws => ws = mW g o a F L (updA A 6 (nTown (A 6) T rd)) ++ X)) 0 0 (zA (gz g)) := by
  refine z_start (by decide +kernel) rfl (Nat.le_of_ble_eq_true rfl) ?_
  intro p e s m args below meth c ls hE hr hnm hB hl
  have hl : lv_has ls 2 [(0, .ref (a 6)), (1, .int rd)] := hl
  revert hB
  generalize s.heap = H
  generalize ([] : List Loc) = locs
  intro hB
  refine lv_aload_n hE.x hE.b dX9_layTown_0 rfl (lv_at hl 0 rfl) ?_
  refine lv_iconst (v := nI 4) hE.x hE.b dX9_layTown_1 rfl ?_
  refine lv_aload_n hE.x hE.b dX9_layTown_2 rfl (lv_at hl 0 rfl) ?_
  refine lv_iconst (v := nI 0) hE.x hE.b dX9_layTown_3 rfl ?_
  refine z_iald (k := 0) (f := (A 6)) hE hB 7 rfl (by omega) (by decide) dX9_layTown_4 ?_
  refine z_top (y := (nI T)) hT ?_
  refine z_iaddN hE dX9_layTown_5 ?_
  refine lv_iload_n hE.x hE.b dX9_layTown_6 rfl (lv_at hl 1 rfl) ?_
  refine z_iast (k := (4 + T)) (f := (A 6)) (x := rd) (ws' := mW g o a F L (updA A 6 (upd (A 6) (4 + T) rd)) ++ X) hE hB 7 rfl (by omega) (by decide) rfl dX9_layTown_7 (fun H locs hB => ?_)
  refine lv_aload_n hE.x hE.b dX9_layTown_8 rfl (lv_at hl 0 rfl) ?_
  refine lv_iconst (v := nI 0) hE.x hE.b dX9_layTown_9 rfl ?_
  refine lv_dup2_11 hE.x hE.b dX9_layTown_10 rfl rfl ?_
  refine z_iald (k := 0) (f := (upd (A 6) (4 + T) rd)) hE hB 7 rfl (by omega) (by decide) dX9_layTown_11 ?_
  refine z_top (y := (nI T)) (by simp only [upd]; rw [if_neg (by omega)]; exact hT) ?_
  refine lv_iconst (v := nI 1) hE.x hE.b dX9_layTown_12 rfl ?_
  refine z_iaddN hE dX9_layTown_13 ?_
  refine z_iast (k := 0) (f := (upd (A 6) (4 + T) rd)) (x := (nI (T + 1))) (ws' := mW g o a F L (updA A 6 (upd (upd (A 6) (4 + T) rd) 0 (nI (T + 1)))) ++ X) hE hB 7 rfl (by omega) (by decide) rfl dX9_layTown_14 (fun H locs hB => ?_)
  exact z_vret (ws := mW g o a F L (updA A 6 (upd (upd (A 6) (4 + T) rd) 0 (nI (T + 1)))) ++ X) hE hB hr (rfl) dX9_layTown_15

set_option maxHeartbeats 4000000 in
set_option maxRecDepth 100000 in
theorem c_X9_town (l : Launch) (g : zG) (o : Nat) (a : Nat → Nat) (F : Nat → Int32) (L : Nat → Int64) (A : Nat → Nat → Int32) (X : va_W) (T : Nat) (C : Nat) (V : Nat) (U : Nat) (rd : Int32) (hn : nOK (A 0) T C V U) : Met l yX9_town (Cond.code yX9_town cX9_town 2 (some .int) :: TBL) { frames := 1, cells := 0, slots := 0, locals := 25 } (zPc [.ref o, .int rd] g (mW g o a F L A ++ X)) (zQi g (fun r ws => r = (townR T rd) ∧ ws = mW g o a F L (townA A T rd) ++ X)) 0 0 (zA (gz g)) := by
  refine z_start (by decide +kernel) rfl (Nat.le_of_ble_eq_true rfl) ?_
  intro p e s m args below meth c ls hE hr hnm hB hl
  have hl : lv_has ls 2 [(0, .ref o), (1, .int rd)] := hl
  revert hB
  generalize s.heap = H
  generalize ([] : List Loc) = locs
  intro hB
  have hT := hn.T
  have hT6 := hn.T6
  have hC := hn.C
  have hC8 := hn.C8
  have hV := hn.V
  have hV8 := hn.V8
  have hU := hn.U
  have hU8 := hn.U8
  refine lv_iload_n hE.x hE.b dX9_town_0 rfl (lv_at hl 1 rfl) ?_
  refine lv_i2l hE.x hE.b dX9_town_1 rfl ?_
  refine lv_lconst (v := lN 0) hE.x hE.b dX9_town_2 rfl ?_
  refine lv_ldc2 (v := lN 3) hE.x hE.b hE.o (hE.t _ q4_87) dX9_town_3 ?_
  refine z_qi hB (z_cS hE hB (c_X9_in l g (rd.toInt64) (lN 0) (lN 3) rd.toInt 0 3 (mW g o a F L A ++ X) (Int32.toInt_toInt64 _) (by decide) (by decide)) q4_88 kX9_in ⟨rfl, rfl⟩ ⟨Nat.le_of_ble_eq_true rfl, Nat.le_of_ble_eq_true rfl⟩ rfl hl.1 rfl (Nat.le_of_ble_eq_true rfl) dX9_town_6 ⟨Nat.le_of_ble_eq_true rfl, Nat.le_of_ble_eq_true rfl⟩) (fun r_1 w_2 H locs hw hB => ?_)
  obtain ⟨hr9, hw9⟩ := hw
  have hr9 := hr9.symm
  subst hr9
  have hw9 := hw9.symm
  subst hw9
  refine z_bt (b := (inZ 0 3 rd.toInt)) (tgt := 19) hE dX9_town_9 (by decide) (fun c_3 => ?_) (fun c_3 => ?_)
  · refine lv_aload_n hE.x hE.b dX9_town_19 rfl (lv_at hl 0 rfl) ?_
    refine z_qi hB (z_cV hE hB (c_X9_towns l g o a F L A X T hT) q4_76 kX9_towns ⟨rfl, rfl⟩ ⟨Nat.le_of_ble_eq_true rfl, Nat.le_of_ble_eq_true rfl⟩ 0 rfl rfl rfl hl.1 rfl (Nat.le_of_ble_eq_true rfl) dX9_town_20 ⟨Nat.le_of_ble_eq_true rfl, Nat.le_of_ble_eq_true rfl⟩) (fun r_4 w_5 H locs hw hB => ?_)
    obtain ⟨hr9, hw9⟩ := hw
    have hr9 := hr9.symm
    subst hr9
    have hw9 := hw9.symm
    subst hw9
    refine lv_bipush (v := (nI 6)) hE.x hE.b dX9_town_23 rfl ?_
    refine z_ne (tgt := 33) (X := ((T : Nat) : Int)) (Y := (6 : Int)) hE dX9_town_25 (by decide) (nI_toInt (n := T) (by omega)) rfl (fun c_6 => ?_) (fun c_6 => ?_)
    · refine lv_aload_n hE.x hE.b dX9_town_33 rfl (lv_at hl 0 rfl) ?_
      refine z_get (v := .ref (a 0)) hE hB inX9 0 rfl rfl 0 (by decide) q4_1 (fun _ h9 => h9) rfl dX9_town_34 ?_
      refine lv_iload_n hE.x hE.b dX9_town_37 rfl (lv_at hl 1 rfl) ?_
      refine z_qv hB (z_cS hE hB (c_X9_layTown_0 l g o a F L A X T rd hT (by omega)) q4_99 kX9_layTown ⟨rfl, rfl⟩ ⟨Nat.le_of_ble_eq_true rfl, Nat.le_of_ble_eq_true rfl⟩ rfl hl.1 rfl (Nat.le_of_ble_eq_true rfl) dX9_town_38 ⟨Nat.le_of_ble_eq_true rfl, Nat.le_of_ble_eq_true rfl⟩) (fun w_8 H locs hw hB => ?_)
      have hw9 := hw
      have hw9 := hw9.symm
      subst hw9
      refine lv_aload_n hE.x hE.b dX9_town_41 rfl (lv_at hl 0 rfl) ?_
      refine z_qi hB (z_cV hE hB (c_X9_towns l g o a F L (updA A 0 (nTown (A 0) T rd)) X (T + 1) (by rw [updA_self]; simp [nTown, upd])) q4_76 kX9_towns ⟨rfl, rfl⟩ ⟨Nat.le_of_ble_eq_true rfl, Nat.le_of_ble_eq_true rfl⟩ 0 rfl rfl rfl hl.1 rfl (Nat.le_of_ble_eq_true rfl) dX9_town_42 ⟨Nat.le_of_ble_eq_true rfl, Nat.le_of_ble_eq_true rfl⟩) (fun r_9 w_10 H locs hw hB => ?_)
      obtain ⟨hr9, hw9⟩ := hw
      have hr9 := hr9.symm
      subst hr9
      have hw9 := hw9.symm
      subst hw9
      refine lv_iconst (v := nI 1) hE.x hE.b dX9_town_45 rfl ?_
      refine z_isubN hE (by omega) dX9_town_46 ?_
      exact z_iret (v := (nI ((T + 1) - 1))) (ws := mW g o a F L (updA A 0 (nTown (A 0) T rd)) ++ X) hE hB hr (⟨by unfold townR pIn; rw [c_3, if_pos rfl, if_neg (by omega), Nat.add_sub_cancel], by unfold townA pIn; rw [c_3, if_pos rfl, if_neg (by omega)]⟩) dX9_town_47
    · refine lv_aload_n hE.x hE.b dX9_town_28 rfl (lv_at hl 0 rfl) ?_
      refine z_qi hB (z_cV hE hB (c_X9_full l g o a F L A X) q4_95 kX9_full ⟨rfl, rfl⟩ ⟨Nat.le_of_ble_eq_true rfl, Nat.le_of_ble_eq_true rfl⟩ 0 rfl rfl rfl hl.1 rfl (Nat.le_of_ble_eq_true rfl) dX9_town_29 ⟨Nat.le_of_ble_eq_true rfl, Nat.le_of_ble_eq_true rfl⟩) (fun r_11 w_12 H locs hw hB => ?_)
      obtain ⟨hr9, hw9⟩ := hw
      have hr9 := hr9.symm
      subst hr9
      have hw9 := hw9.symm
      subst hw9
      exact z_iret (v := (-4)) (ws := mW g o a F L (bump 2 A) ++ X) hE hB hr (⟨by unfold townR pIn; rw [c_3, if_pos rfl, if_pos (by omega)], by unfold townA pIn; rw [c_3, if_pos rfl, if_pos (by omega)]⟩) dX9_town_32
  · refine lv_aload_n hE.x hE.b dX9_town_12 rfl (lv_at hl 0 rfl) ?_
    refine lv_bipush (v := (-2)) hE.x hE.b dX9_town_13 rfl ?_
    refine z_qi hB (z_cV hE hB (c_X9_bad l g o a F L A X (-2)) q4_91 kX9_bad ⟨rfl, rfl⟩ ⟨Nat.le_of_ble_eq_true rfl, Nat.le_of_ble_eq_true rfl⟩ 0 rfl rfl rfl hl.1 rfl (Nat.le_of_ble_eq_true rfl) dX9_town_15 ⟨Nat.le_of_ble_eq_true rfl, Nat.le_of_ble_eq_true rfl⟩) (fun r_13 w_14 H locs hw hB => ?_)
    obtain ⟨hr9, hw9⟩ := hw
    have hr9 := hr9.symm
    subst hr9
    have hw9 := hw9.symm
    subst hw9
    exact z_iret (v := (-2)) (ws := mW g o a F L (bump 0 A) ++ X) hE hB hr (⟨by unfold townR pIn; rw [c_3]; rfl, by unfold townA pIn; rw [c_3]; rfl⟩) dX9_town_18

set_option maxHeartbeats 4000000 in
set_option maxRecDepth 100000 in
theorem c_X9_layRoad_0 (l : Launch) (g : zG) (o : Nat) (a : Nat → Nat) (F : Nat → Int32) (L : Nat → Int64) (A : Nat → Nat → Int32) (X : va_W) (i : Nat) (k : Nat) (d : Int32) (hi : i < 6) (hk : k < 6) : Met l yX9_layRoad (Cond.code yX9_layRoad cX9_layRoad 4 none :: TBL) { frames := 0, cells := 0, slots := 0, locals := 0 } (zPc [.ref (a 0), .int (nI i), .int (nI k), .int d] g (mW g o a F L A ++ X)) (zQv g (fun ws => ws = mW g o a F L (updA A 0 (nRoad (A 0) i k d)) ++ X)) 0 0 (zA (gz g)) := by
  refine z_start (by decide +kernel) rfl (Nat.le_of_ble_eq_true rfl) ?_
  intro p e s m args below meth c ls hE hr hnm hB hl
  have hl : lv_has ls 4 [(0, .ref (a 0)), (1, .int (nI i)), (2, .int (nI k)), (3, .int d)] := hl
  revert hB
  generalize s.heap = H
  generalize ([] : List Loc) = locs
  intro hB
  refine lv_aload_n hE.x hE.b dX9_layRoad_0 rfl (lv_at hl 0 rfl) ?_
  refine lv_bipush (v := (nI 10)) hE.x hE.b dX9_layRoad_1 rfl ?_
  refine lv_bipush (v := (nI 6)) hE.x hE.b dX9_layRoad_3 rfl ?_
  refine lv_iload_n hE.x hE.b dX9_layRoad_5 rfl (lv_at hl 1 rfl) ?_
  refine z_imulN hE dX9_layRoad_6 ?_
  refine z_iaddN hE dX9_layRoad_7 ?_
  refine lv_iload_n hE.x hE.b dX9_layRoad_8 rfl (lv_at hl 2 rfl) ?_
  refine z_iaddN hE dX9_layRoad_9 ?_
  refine lv_iload_n hE.x hE.b dX9_layRoad_10 rfl (lv_at hl 3 rfl) ?_
  refine z_iast (k := ((10 + (6 * i)) + k)) (f := (A 0)) (x := d) (ws' := mW g o a F L (updA A 0 (upd (A 0) ((10 + (6 * i)) + k) d)) ++ X) hE hB 1 rfl (by omega) (by decide) rfl dX9_layRoad_11 (fun H locs hB => ?_)
  refine lv_aload_n hE.x hE.b dX9_layRoad_12 rfl (lv_at hl 0 rfl) ?_
  refine lv_bipush (v := (nI 10)) hE.x hE.b dX9_layRoad_13 rfl ?_
  refine lv_bipush (v := (nI 6)) hE.x hE.b dX9_layRoad_15 rfl ?_
  refine lv_iload_n hE.x hE.b dX9_layRoad_17 rfl (lv_at hl 2 rfl) ?_
  refine z_imulN hE dX9_layRoad_18 ?_
  refine z_iaddN hE dX9_layRoad_19 ?_
  refine lv_iload_n hE.x hE.b dX9_layRoad_20 rfl (lv_at hl 1 rfl) ?_
  refine z_iaddN hE dX9_layRoad_21 ?_
  refine lv_iload_n hE.x hE.b dX9_layRoad_22 rfl (lv_at hl 3 rfl) ?_
  refine z_iast (k := ((10 + (6 * k)) + i)) (f := (upd (A 0) ((10 + (6 * i)) + k) d)) (x := d) (ws' := mW g o a F L (updA A 0 (upd (upd (A 0) ((10 + (6 * i)) + k) d) ((10 + (6 * k)) + i) d)) ++ X) hE hB 1 rfl (by omega) (by decide) rfl dX9_layRoad_23 (fun H locs hB => ?_)
  exact z_vret (ws := mW g o a F L (updA A 0 (upd (upd (A 0) ((10 + (6 * i)) + k) d) ((10 + (6 * k)) + i) d)) ++ X) hE hB hr (rfl) dX9_layRoad_24

set_option maxHeartbeats 4000000 in
set_option maxRecDepth 100000 in
theorem c_X9_layRoad_6 (l : Launch) (g : zG) (o : Nat) (a : Nat → Nat) (F : Nat → Int32) (L : Nat → Int64) (A : Nat → Nat → Int32) (X : va_W) (i : Nat) (k : Nat) (d : Int32) (hi : i < 6) (hk : k < 6) : Met l yX9_layRoad (Cond.code yX9_layRoad cX9_layRoad 4 none :: TBL) { frames := 0, cells := 0, slots := 0, locals := 0 } (zPc [.ref (a 6), .int (nI i), .int (nI k), .int d] g (mW g o a F L A ++ X)) (zQv g (fun ws => ws = mW g o a F L (updA A 6 (nRoad (A 6) i k d)) ++ X)) 0 0 (zA (gz g)) := by
  refine z_start (by decide +kernel) rfl (Nat.le_of_ble_eq_true rfl) ?_
  intro p e s m args below meth c ls hE hr hnm hB hl
  have hl : lv_has ls 4 [(0, .ref (a 6)), (1, .int (nI i)), (2, .int (nI k)), (3, .int d)] := hl
  revert hB
  generalize s.heap = H
  generalize ([] : List Loc) = locs
  intro hB
  refine lv_aload_n hE.x hE.b dX9_layRoad_0 rfl (lv_at hl 0 rfl) ?_
  refine lv_bipush (v := (nI 10)) hE.x hE.b dX9_layRoad_1 rfl ?_
  refine lv_bipush (v := (nI 6)) hE.x hE.b dX9_layRoad_3 rfl ?_
  refine lv_iload_n hE.x hE.b dX9_layRoad_5 rfl (lv_at hl 1 rfl) ?_
  refine z_imulN hE dX9_layRoad_6 ?_
  refine z_iaddN hE dX9_layRoad_7 ?_
  refine lv_iload_n hE.x hE.b dX9_layRoad_8 rfl (lv_at hl 2 rfl) ?_
  refine z_iaddN hE dX9_layRoad_9 ?_
  refine lv_iload_n hE.x hE.b dX9_layRoad_10 rfl (lv_at hl 3 rfl) ?_
  refine z_iast (k := ((10 + (6 * i)) + k)) (f := (A 6)) (x := d) (ws' := mW g o a F L (updA A 6 (upd (A 6) ((10 + (6 * i)) + k) d)) ++ X) hE hB 7 rfl (by omega) (by decide) rfl dX9_layRoad_11 (fun H locs hB => ?_)
  refine lv_aload_n hE.x hE.b dX9_layRoad_12 rfl (lv_at hl 0 rfl) ?_
  refine lv_bipush (v := (nI 10)) hE.x hE.b dX9_layRoad_13 rfl ?_
  refine lv_bipush (v := (nI 6)) hE.x hE.b dX9_layRoad_15 rfl ?_
  refine lv_iload_n hE.x hE.b dX9_layRoad_17 rfl (lv_at hl 2 rfl) ?_
  refine z_imulN hE dX9_layRoad_18 ?_
  refine z_iaddN hE dX9_layRoad_19 ?_
  refine lv_iload_n hE.x hE.b dX9_layRoad_20 rfl (lv_at hl 1 rfl) ?_
  refine z_iaddN hE dX9_layRoad_21 ?_
  refine lv_iload_n hE.x hE.b dX9_layRoad_22 rfl (lv_at hl 3 rfl) ?_
  refine z_iast (k := ((10 + (6 * k)) + i)) (f := (upd (A 6) ((10 + (6 * i)) + k) d)) (x := d) (ws' := mW g o a F L (updA A 6 (upd (upd (A 6) ((10 + (6 * i)) + k) d) ((10 + (6 * k)) + i) d)) ++ X) hE hB 7 rfl (by omega) (by decide) rfl dX9_layRoad_23 (fun H locs hB => ?_)
  exact z_vret (ws := mW g o a F L (updA A 6 (upd (upd (A 6) ((10 + (6 * i)) + k) d) ((10 + (6 * k)) + i) d)) ++ X) hE hB hr (rfl) dX9_layRoad_24

set_option maxHeartbeats 4000000 in
set_option maxRecDepth 100000 in
theorem c_X9_road (l : Launch) (g : zG) (o : Nat) (a : Nat → Nat) (F : Nat → Int32) (L : Nat → Int64) (A : Nat → Nat → Int32) (X : va_W) (T : Nat) (C : Nat) (V : Nat) (U : Nat) (x : Int32) (y : Int32) (d : Int32) (hn : nOK (A 0) T C V U) : Met l yX9_road (Cond.code yX9_road cX9_road 5 (some .int) :: TBL) { frames := 2, cells := 0, slots := 0, locals := 46 } (zPc [.ref o, .int x, .int y, .int d] g (mW g o a F L A ++ X)) (zQi g (fun r ws => r = (roadR (A 0) T x y d) ∧ ws = mW g o a F L (roadA A T x y d) ++ X)) 0 0 (zA (gz g)) := by
  refine z_start (by decide +kernel) rfl (Nat.le_of_ble_eq_true rfl) ?_
  intro p e s m args below meth c ls hE hr hnm hB hl
  have hl : lv_has ls 5 [(0, .ref o), (1, .int x), (2, .int y), (3, .int d)] := hl
  revert hB
  generalize s.heap = H
  generalize ([] : List Loc) = locs
  intro hB
  have hT := hn.T
  have hT6 := hn.T6
  have hC := hn.C
  have hC8 := hn.C8
  have hV := hn.V
  have hV8 := hn.V8
  have hU := hn.U
  have hU8 := hn.U8
  refine lv_aload_n hE.x hE.b dX9_road_0 rfl (lv_at hl 0 rfl) ?_
  refine lv_iload_n hE.x hE.b dX9_road_1 rfl (lv_at hl 1 rfl) ?_
  refine z_qi hB (z_cV hE hB (c_X9_isTown l g o a F L A X T x hT (by omega)) q4_106 kX9_isTown ⟨rfl, rfl⟩ ⟨Nat.le_of_ble_eq_true rfl, Nat.le_of_ble_eq_true rfl⟩ 0 rfl rfl rfl hl.1 rfl (Nat.le_of_ble_eq_true rfl) dX9_road_2 ⟨Nat.le_of_ble_eq_true rfl, Nat.le_of_ble_eq_true rfl⟩) (fun r_1 w_2 H locs hw hB => ?_)
  obtain ⟨hr9, hw9⟩ := hw
  have hr9 := hr9.symm
  subst hr9
  have hw9 := hw9.symm
  subst hw9
  refine z_bf (b := (pTown T x)) (tgt := 33) hE dX9_road_5 (by decide) (fun c_3 => ?_) (fun c_3 => ?_)
  · refine lv_aload_n hE.x hE.b dX9_road_33 rfl (lv_at hl 0 rfl) ?_
    refine lv_bipush (v := (-2)) hE.x hE.b dX9_road_34 rfl ?_
    refine z_qi hB (z_cV hE hB (c_X9_bad l g o a F L A X (-2)) q4_91 kX9_bad ⟨rfl, rfl⟩ ⟨Nat.le_of_ble_eq_true rfl, Nat.le_of_ble_eq_true rfl⟩ 0 rfl rfl rfl hl.1 rfl (Nat.le_of_ble_eq_true rfl) dX9_road_36 ⟨Nat.le_of_ble_eq_true rfl, Nat.le_of_ble_eq_true rfl⟩) (fun r_4 w_5 H locs hw hB => ?_)
    obtain ⟨hr9, hw9⟩ := hw
    have hr9 := hr9.symm
    subst hr9
    have hw9 := hw9.symm
    subst hw9
    exact z_iret (v := (-2)) (ws := mW g o a F L (bump 0 A) ++ X) hE hB hr (⟨by unfold roadR roadOK; simp [c_3], by unfold roadA roadOK; simp [c_3]⟩) dX9_road_39
  · refine lv_aload_n hE.x hE.b dX9_road_8 rfl (lv_at hl 0 rfl) ?_
    refine lv_iload_n hE.x hE.b dX9_road_9 rfl (lv_at hl 2 rfl) ?_
    refine z_qi hB (z_cV hE hB (c_X9_isTown l g o a F L A X T y hT (by omega)) q4_106 kX9_isTown ⟨rfl, rfl⟩ ⟨Nat.le_of_ble_eq_true rfl, Nat.le_of_ble_eq_true rfl⟩ 0 rfl rfl rfl hl.1 rfl (Nat.le_of_ble_eq_true rfl) dX9_road_10 ⟨Nat.le_of_ble_eq_true rfl, Nat.le_of_ble_eq_true rfl⟩) (fun r_6 w_7 H locs hw hB => ?_)
    obtain ⟨hr9, hw9⟩ := hw
    have hr9 := hr9.symm
    subst hr9
    have hw9 := hw9.symm
    subst hw9
    refine z_bf (b := (pTown T y)) (tgt := 33) hE dX9_road_13 (by decide) (fun c_8 => ?_) (fun c_8 => ?_)
    · refine lv_aload_n hE.x hE.b dX9_road_33 rfl (lv_at hl 0 rfl) ?_
      refine lv_bipush (v := (-2)) hE.x hE.b dX9_road_34 rfl ?_
      refine z_qi hB (z_cV hE hB (c_X9_bad l g o a F L A X (-2)) q4_91 kX9_bad ⟨rfl, rfl⟩ ⟨Nat.le_of_ble_eq_true rfl, Nat.le_of_ble_eq_true rfl⟩ 0 rfl rfl rfl hl.1 rfl (Nat.le_of_ble_eq_true rfl) dX9_road_36 ⟨Nat.le_of_ble_eq_true rfl, Nat.le_of_ble_eq_true rfl⟩) (fun r_9 w_10 H locs hw hB => ?_)
      obtain ⟨hr9, hw9⟩ := hw
      have hr9 := hr9.symm
      subst hr9
      have hw9 := hw9.symm
      subst hw9
      exact z_iret (v := (-2)) (ws := mW g o a F L (bump 0 A) ++ X) hE hB hr (⟨by unfold roadR roadOK; simp [c_3, c_8], by unfold roadA roadOK; simp [c_3, c_8]⟩) dX9_road_39
    · refine lv_iload_n hE.x hE.b dX9_road_16 rfl (lv_at hl 1 rfl) ?_
      refine lv_iload_n hE.x hE.b dX9_road_17 rfl (lv_at hl 2 rfl) ?_
      refine lv_icmp_eq (tgt := 33) hE.x hE.b dX9_road_18 (by decide) (fun c_11 => ?_) (fun c_11 => ?_)
      · refine lv_aload_n hE.x hE.b dX9_road_33 rfl (lv_at hl 0 rfl) ?_
        refine lv_bipush (v := (-2)) hE.x hE.b dX9_road_34 rfl ?_
        refine z_qi hB (z_cV hE hB (c_X9_bad l g o a F L A X (-2)) q4_91 kX9_bad ⟨rfl, rfl⟩ ⟨Nat.le_of_ble_eq_true rfl, Nat.le_of_ble_eq_true rfl⟩ 0 rfl rfl rfl hl.1 rfl (Nat.le_of_ble_eq_true rfl) dX9_road_36 ⟨Nat.le_of_ble_eq_true rfl, Nat.le_of_ble_eq_true rfl⟩) (fun r_12 w_13 H locs hw hB => ?_)
        obtain ⟨hr9, hw9⟩ := hw
        have hr9 := hr9.symm
        subst hr9
        have hw9 := hw9.symm
        subst hw9
        exact z_iret (v := (-2)) (ws := mW g o a F L (bump 0 A) ++ X) hE hB hr (⟨by unfold roadR roadOK; simp [c_3, c_8, c_11], by unfold roadA roadOK; simp [c_3, c_8, c_11]⟩) dX9_road_39
      · refine lv_iload_n hE.x hE.b dX9_road_21 rfl (lv_at hl 3 rfl) ?_
        refine lv_i2l hE.x hE.b dX9_road_22 rfl ?_
        refine lv_lconst (v := lN 1) hE.x hE.b dX9_road_23 rfl ?_
        refine lv_ldc2 (v := lN 9) hE.x hE.b hE.o (hE.t _ q4_110) dX9_road_24 ?_
        refine z_qi hB (z_cS hE hB (c_X9_in l g (d.toInt64) (lN 1) (lN 9) d.toInt 1 9 (mW g o a F L A ++ X) (Int32.toInt_toInt64 _) (by decide) (by decide)) q4_88 kX9_in ⟨rfl, rfl⟩ ⟨Nat.le_of_ble_eq_true rfl, Nat.le_of_ble_eq_true rfl⟩ rfl hl.1 rfl (Nat.le_of_ble_eq_true rfl) dX9_road_27 ⟨Nat.le_of_ble_eq_true rfl, Nat.le_of_ble_eq_true rfl⟩) (fun r_14 w_15 H locs hw hB => ?_)
        obtain ⟨hr9, hw9⟩ := hw
        have hr9 := hr9.symm
        subst hr9
        have hw9 := hw9.symm
        subst hw9
        refine z_bt (b := (inZ 1 9 d.toInt)) (tgt := 40) hE dX9_road_30 (by decide) (fun c_16 => ?_) (fun c_16 => ?_)
        · obtain ⟨i, hi, rfl⟩ := pTown_nI c_3 (by omega)
          obtain ⟨k, hk, rfl⟩ := pTown_nI c_8 (by omega)
          refine lv_aload_n hE.x hE.b dX9_road_40 rfl (lv_at hl 0 rfl) ?_
          refine z_get (v := .ref (a 0)) hE hB inX9 0 rfl rfl 0 (by decide) q4_1 (fun _ h9 => h9) rfl dX9_road_41 ?_
          refine lv_bipush (v := (nI 10)) hE.x hE.b dX9_road_44 rfl ?_
          refine lv_bipush (v := (nI 6)) hE.x hE.b dX9_road_46 rfl ?_
          refine lv_iload_n hE.x hE.b dX9_road_48 rfl (lv_at hl 1 rfl) ?_
          refine z_imulN hE dX9_road_49 ?_
          refine z_iaddN hE dX9_road_50 ?_
          refine lv_iload_n hE.x hE.b dX9_road_51 rfl (lv_at hl 2 rfl) ?_
          refine z_iaddN hE dX9_road_52 ?_
          refine z_iald (k := ((10 + (6 * i)) + k)) (f := (A 0)) hE hB 1 rfl (by omega) (by decide) dX9_road_53 ?_
          refine lv_istore (lv' := [(4, .int ((A 0) ((10 + (6 * i)) + k))), (0, .ref o), (1, .int (nI i)), (2, .int (nI k)), (3, .int d)]) hE.x hE.b dX9_road_54 hl (by decide) rfl (fun ls hl => ?_)
          refine lv_aload_n hE.x hE.b dX9_road_56 rfl (lv_at hl 1 rfl) ?_
          refine z_get (v := .ref (a 0)) hE hB inX9 0 rfl rfl 0 (by decide) q4_1 (fun _ h9 => h9) rfl dX9_road_57 ?_
          refine lv_iload_n hE.x hE.b dX9_road_60 rfl (lv_at hl 2 rfl) ?_
          refine lv_iload_n hE.x hE.b dX9_road_61 rfl (lv_at hl 3 rfl) ?_
          refine lv_iload_n hE.x hE.b dX9_road_62 rfl (lv_at hl 4 rfl) ?_
          refine z_qv hB (z_cS hE hB (c_X9_layRoad_0 l g o a F L A X i k d (by omega) (by omega)) q4_111 kX9_layRoad ⟨rfl, rfl⟩ ⟨Nat.le_of_ble_eq_true rfl, Nat.le_of_ble_eq_true rfl⟩ rfl hl.1 rfl (Nat.le_of_ble_eq_true rfl) dX9_road_63 ⟨Nat.le_of_ble_eq_true rfl, Nat.le_of_ble_eq_true rfl⟩) (fun w_18 H locs hw hB => ?_)
          have hw9 := hw
          have hw9 := hw9.symm
          subst hw9
          refine lv_iload hE.x hE.b dX9_road_66 (lv_at hl 0 rfl) ?_
          exact z_iret (v := ((A 0) ((10 + (6 * i)) + k))) (ws := mW g o a F L (updA A 0 (nRoad (A 0) i k d)) ++ X) hE hB hr (⟨by unfold roadR roadOK; simp [c_3, c_8, c_11, c_16, rcl (show i < 2 ^ 31 by omega), rcl (show k < 2 ^ 31 by omega)], by unfold roadA roadOK; simp [c_3, c_8, c_11, c_16, rcl (show i < 2 ^ 31 by omega), rcl (show k < 2 ^ 31 by omega)]⟩) dX9_road_68
        · refine lv_aload_n hE.x hE.b dX9_road_33 rfl (lv_at hl 0 rfl) ?_
          refine lv_bipush (v := (-2)) hE.x hE.b dX9_road_34 rfl ?_
          refine z_qi hB (z_cV hE hB (c_X9_bad l g o a F L A X (-2)) q4_91 kX9_bad ⟨rfl, rfl⟩ ⟨Nat.le_of_ble_eq_true rfl, Nat.le_of_ble_eq_true rfl⟩ 0 rfl rfl rfl hl.1 rfl (Nat.le_of_ble_eq_true rfl) dX9_road_36 ⟨Nat.le_of_ble_eq_true rfl, Nat.le_of_ble_eq_true rfl⟩) (fun r_19 w_20 H locs hw hB => ?_)
          obtain ⟨hr9, hw9⟩ := hw
          have hr9 := hr9.symm
          subst hr9
          have hw9 := hw9.symm
          subst hw9
          exact z_iret (v := (-2)) (ws := mW g o a F L (bump 0 A) ++ X) hE hB hr (⟨by unfold roadR roadOK; simp [c_3, c_8, c_11, c_16], by unfold roadA roadOK; simp [c_3, c_8, c_11, c_16]⟩) dX9_road_39

set_option maxHeartbeats 4000000 in
set_option maxRecDepth 100000 in
theorem c_X9_layClause_0 (l : Launch) (g : zG) (o : Nat) (a : Nat → Nat) (F : Nat → Int32) (L : Nat → Int64) (A : Nat → Nat → Int32) (X : va_W) (C : Nat) (k : Int32) (ac : Int32) (fr : Int32) (ti : Int32) (w : Int32) (hC : A 0 1 = nI C) (hC8 : C < 8) : Met l yX9_layClause (Cond.code yX9_layClause cX9_layClause 7 none :: TBL) { frames := 0, cells := 0, slots := 0, locals := 0 } (zPc [.ref (a 0), .int k, .int ac, .int fr, .int ti, .int w] g (mW g o a F L A ++ X)) (zQv g (fun ws => ws = mW g o a F L (updA A 0 (nCl (A 0) C k ac fr ti w)) ++ X)) 0 0 (zA (gz g)) := by
  refine z_start (by decide +kernel) rfl (Nat.le_of_ble_eq_true rfl) ?_
  intro p e s m args below meth c ls hE hr hnm hB hl
  have hl : lv_has ls 7 [(0, .ref (a 0)), (1, .int k), (2, .int ac), (3, .int fr), (4, .int ti), (5, .int w)] := hl
  revert hB
  generalize s.heap = H
  generalize ([] : List Loc) = locs
  intro hB
  refine lv_bipush (v := (nI 46)) hE.x hE.b dX9_layClause_0 rfl ?_
  refine lv_iconst (v := nI 5) hE.x hE.b dX9_layClause_2 rfl ?_
  refine lv_aload_n hE.x hE.b dX9_layClause_3 rfl (lv_at hl 0 rfl) ?_
  refine lv_iconst (v := nI 1) hE.x hE.b dX9_layClause_4 rfl ?_
  refine z_iald (k := 1) (f := (A 0)) hE hB 1 rfl (by omega) (by decide) dX9_layClause_5 ?_
  refine z_top (y := (nI C)) hC ?_
  refine z_imulN hE dX9_layClause_6 ?_
  refine z_iaddN hE dX9_layClause_7 ?_
  refine lv_istore (lv' := [(6, .int (nI (46 + (5 * C)))), (0, .ref (a 0)), (1, .int k), (2, .int ac), (3, .int fr), (4, .int ti), (5, .int w)]) hE.x hE.b dX9_layClause_8 hl (by decide) rfl (fun ls hl => ?_)
  refine lv_aload_n hE.x hE.b dX9_layClause_10 rfl (lv_at hl 1 rfl) ?_
  refine lv_iload hE.x hE.b dX9_layClause_11 (lv_at hl 0 rfl) ?_
  refine lv_iconst (v := nI 0) hE.x hE.b dX9_layClause_13 rfl ?_
  refine z_iaddN hE dX9_layClause_14 ?_
  refine lv_iload_n hE.x hE.b dX9_layClause_15 rfl (lv_at hl 2 rfl) ?_
  refine z_iast (k := ((46 + (5 * C)) + 0)) (f := (A 0)) (x := k) (ws' := mW g o a F L (updA A 0 (upd (A 0) ((46 + (5 * C)) + 0) k)) ++ X) hE hB 1 rfl (by omega) (by decide) rfl dX9_layClause_16 (fun H locs hB => ?_)
  refine lv_aload_n hE.x hE.b dX9_layClause_17 rfl (lv_at hl 1 rfl) ?_
  refine lv_iload hE.x hE.b dX9_layClause_18 (lv_at hl 0 rfl) ?_
  refine lv_iconst (v := nI 1) hE.x hE.b dX9_layClause_20 rfl ?_
  refine z_iaddN hE dX9_layClause_21 ?_
  refine lv_iload_n hE.x hE.b dX9_layClause_22 rfl (lv_at hl 3 rfl) ?_
  refine z_iast (k := ((46 + (5 * C)) + 1)) (f := (upd (A 0) ((46 + (5 * C)) + 0) k)) (x := ac) (ws' := mW g o a F L (updA A 0 (upd (upd (A 0) ((46 + (5 * C)) + 0) k) ((46 + (5 * C)) + 1) ac)) ++ X) hE hB 1 rfl (by omega) (by decide) rfl dX9_layClause_23 (fun H locs hB => ?_)
  refine lv_aload_n hE.x hE.b dX9_layClause_24 rfl (lv_at hl 1 rfl) ?_
  refine lv_iload hE.x hE.b dX9_layClause_25 (lv_at hl 0 rfl) ?_
  refine lv_iconst (v := nI 2) hE.x hE.b dX9_layClause_27 rfl ?_
  refine z_iaddN hE dX9_layClause_28 ?_
  refine lv_iload_n hE.x hE.b dX9_layClause_29 rfl (lv_at hl 4 rfl) ?_
  refine z_iast (k := ((46 + (5 * C)) + 2)) (f := (upd (upd (A 0) ((46 + (5 * C)) + 0) k) ((46 + (5 * C)) + 1) ac)) (x := fr) (ws' := mW g o a F L (updA A 0 (upd (upd (upd (A 0) ((46 + (5 * C)) + 0) k) ((46 + (5 * C)) + 1) ac) ((46 + (5 * C)) + 2) fr)) ++ X) hE hB 1 rfl (by omega) (by decide) rfl dX9_layClause_30 (fun H locs hB => ?_)
  refine lv_aload_n hE.x hE.b dX9_layClause_31 rfl (lv_at hl 1 rfl) ?_
  refine lv_iload hE.x hE.b dX9_layClause_32 (lv_at hl 0 rfl) ?_
  refine lv_iconst (v := nI 3) hE.x hE.b dX9_layClause_34 rfl ?_
  refine z_iaddN hE dX9_layClause_35 ?_
  refine lv_iload hE.x hE.b dX9_layClause_36 (lv_at hl 5 rfl) ?_
  refine z_iast (k := ((46 + (5 * C)) + 3)) (f := (upd (upd (upd (A 0) ((46 + (5 * C)) + 0) k) ((46 + (5 * C)) + 1) ac) ((46 + (5 * C)) + 2) fr)) (x := ti) (ws' := mW g o a F L (updA A 0 (upd (upd (upd (upd (A 0) ((46 + (5 * C)) + 0) k) ((46 + (5 * C)) + 1) ac) ((46 + (5 * C)) + 2) fr) ((46 + (5 * C)) + 3) ti)) ++ X) hE hB 1 rfl (by omega) (by decide) rfl dX9_layClause_38 (fun H locs hB => ?_)
  refine lv_aload_n hE.x hE.b dX9_layClause_39 rfl (lv_at hl 1 rfl) ?_
  refine lv_iload hE.x hE.b dX9_layClause_40 (lv_at hl 0 rfl) ?_
  refine lv_iconst (v := nI 4) hE.x hE.b dX9_layClause_42 rfl ?_
  refine z_iaddN hE dX9_layClause_43 ?_
  refine lv_iload hE.x hE.b dX9_layClause_44 (lv_at hl 6 rfl) ?_
  refine z_iast (k := ((46 + (5 * C)) + 4)) (f := (upd (upd (upd (upd (A 0) ((46 + (5 * C)) + 0) k) ((46 + (5 * C)) + 1) ac) ((46 + (5 * C)) + 2) fr) ((46 + (5 * C)) + 3) ti)) (x := w) (ws' := mW g o a F L (updA A 0 (upd (upd (upd (upd (upd (A 0) ((46 + (5 * C)) + 0) k) ((46 + (5 * C)) + 1) ac) ((46 + (5 * C)) + 2) fr) ((46 + (5 * C)) + 3) ti) ((46 + (5 * C)) + 4) w)) ++ X) hE hB 1 rfl (by omega) (by decide) rfl dX9_layClause_46 (fun H locs hB => ?_)
  refine lv_aload_n hE.x hE.b dX9_layClause_47 rfl (lv_at hl 1 rfl) ?_
  refine lv_iconst (v := nI 1) hE.x hE.b dX9_layClause_48 rfl ?_
  refine lv_dup2_11 hE.x hE.b dX9_layClause_49 rfl rfl ?_
  refine z_iald (k := 1) (f := (upd (upd (upd (upd (upd (A 0) ((46 + (5 * C)) + 0) k) ((46 + (5 * C)) + 1) ac) ((46 + (5 * C)) + 2) fr) ((46 + (5 * C)) + 3) ti) ((46 + (5 * C)) + 4) w)) hE hB 1 rfl (by omega) (by decide) dX9_layClause_50 ?_
  refine z_top (y := (nI C)) (by simp only [upd]; rw [if_neg (by omega), if_neg (by omega), if_neg (by omega), if_neg (by omega), if_neg (by omega)]; exact hC) ?_
  refine lv_iconst (v := nI 1) hE.x hE.b dX9_layClause_51 rfl ?_
  refine z_iaddN hE dX9_layClause_52 ?_
  refine z_iast (k := 1) (f := (upd (upd (upd (upd (upd (A 0) ((46 + (5 * C)) + 0) k) ((46 + (5 * C)) + 1) ac) ((46 + (5 * C)) + 2) fr) ((46 + (5 * C)) + 3) ti) ((46 + (5 * C)) + 4) w)) (x := (nI (C + 1))) (ws' := mW g o a F L (updA A 0 (upd (upd (upd (upd (upd (upd (A 0) ((46 + (5 * C)) + 0) k) ((46 + (5 * C)) + 1) ac) ((46 + (5 * C)) + 2) fr) ((46 + (5 * C)) + 3) ti) ((46 + (5 * C)) + 4) w) 1 (nI (C + 1)))) ++ X) hE hB 1 rfl (by omega) (by decide) rfl dX9_layClause_53 (fun H locs hB => ?_)
  exact z_vret (ws := mW g o a F L (updA A 0 (upd (upd (upd (upd (upd (upd (A 0) ((46 + (5 * C)) + 0) k) ((46 + (5 * C)) + 1) ac) ((46 + (5 * C)) + 2) fr) ((46 + (5 * C)) + 3) ti) ((46 + (5 * C)) + 4) w) 1 (nI (C + 1)))) ++ X) hE hB hr (rfl) dX9_layClause_54

set_option maxHeartbeats 4000000 in
set_option maxRecDepth 100000 in
theorem c_X9_layClause_6 (l : Launch) (g : zG) (o : Nat) (a : Nat → Nat) (F : Nat → Int32) (L : Nat → Int64) (A : Nat → Nat → Int32) (X : va_W) (C : Nat) (k : Int32) (ac : Int32) (fr : Int32) (ti : Int32) (w : Int32) (hC : A 6 1 = nI C) (hC8 : C < 8) : Met l yX9_layClause (Cond.code yX9_layClause cX9_layClause 7 none :: TBL) { frames := 0, cells := 0, slots := 0, locals := 0 } (zPc [.ref (a 6), .int k, .int ac, .int fr, .int ti, .int w] g (mW g o a F L A ++ X)) (zQv g (fun ws => ws = mW g o a F L (updA A 6 (nCl (A 6) C k ac fr ti w)) ++ X)) 0 0 (zA (gz g)) := by
  refine z_start (by decide +kernel) rfl (Nat.le_of_ble_eq_true rfl) ?_
  intro p e s m args below meth c ls hE hr hnm hB hl
  have hl : lv_has ls 7 [(0, .ref (a 6)), (1, .int k), (2, .int ac), (3, .int fr), (4, .int ti), (5, .int w)] := hl
  revert hB
  generalize s.heap = H
  generalize ([] : List Loc) = locs
  intro hB
  refine lv_bipush (v := (nI 46)) hE.x hE.b dX9_layClause_0 rfl ?_
  refine lv_iconst (v := nI 5) hE.x hE.b dX9_layClause_2 rfl ?_
  refine lv_aload_n hE.x hE.b dX9_layClause_3 rfl (lv_at hl 0 rfl) ?_
  refine lv_iconst (v := nI 1) hE.x hE.b dX9_layClause_4 rfl ?_
  refine z_iald (k := 1) (f := (A 6)) hE hB 7 rfl (by omega) (by decide) dX9_layClause_5 ?_
  refine z_top (y := (nI C)) hC ?_
  refine z_imulN hE dX9_layClause_6 ?_
  refine z_iaddN hE dX9_layClause_7 ?_
  refine lv_istore (lv' := [(6, .int (nI (46 + (5 * C)))), (0, .ref (a 6)), (1, .int k), (2, .int ac), (3, .int fr), (4, .int ti), (5, .int w)]) hE.x hE.b dX9_layClause_8 hl (by decide) rfl (fun ls hl => ?_)
  refine lv_aload_n hE.x hE.b dX9_layClause_10 rfl (lv_at hl 1 rfl) ?_
  refine lv_iload hE.x hE.b dX9_layClause_11 (lv_at hl 0 rfl) ?_
  refine lv_iconst (v := nI 0) hE.x hE.b dX9_layClause_13 rfl ?_
  refine z_iaddN hE dX9_layClause_14 ?_
  refine lv_iload_n hE.x hE.b dX9_layClause_15 rfl (lv_at hl 2 rfl) ?_
  refine z_iast (k := ((46 + (5 * C)) + 0)) (f := (A 6)) (x := k) (ws' := mW g o a F L (updA A 6 (upd (A 6) ((46 + (5 * C)) + 0) k)) ++ X) hE hB 7 rfl (by omega) (by decide) rfl dX9_layClause_16 (fun H locs hB => ?_)
  refine lv_aload_n hE.x hE.b dX9_layClause_17 rfl (lv_at hl 1 rfl) ?_
  refine lv_iload hE.x hE.b dX9_layClause_18 (lv_at hl 0 rfl) ?_
  refine lv_iconst (v := nI 1) hE.x hE.b dX9_layClause_20 rfl ?_
  refine z_iaddN hE dX9_layClause_21 ?_
  refine lv_iload_n hE.x hE.b dX9_layClause_22 rfl (lv_at hl 3 rfl) ?_
  refine z_iast (k := ((46 + (5 * C)) + 1)) (f := (upd (A 6) ((46 + (5 * C)) + 0) k)) (x := ac) (ws' := mW g o a F L (updA A 6 (upd (upd (A 6) ((46 + (5 * C)) + 0) k) ((46 + (5 * C)) + 1) ac)) ++ X) hE hB 7 rfl (by omega) (by decide) rfl dX9_layClause_23 (fun H locs hB => ?_)
  refine lv_aload_n hE.x hE.b dX9_layClause_24 rfl (lv_at hl 1 rfl) ?_
  refine lv_iload hE.x hE.b dX9_layClause_25 (lv_at hl 0 rfl) ?_
  refine lv_iconst (v := nI 2) hE.x hE.b dX9_layClause_27 rfl ?_
  refine z_iaddN hE dX9_layClause_28 ?_
  refine lv_iload_n hE.x hE.b dX9_layClause_29 rfl (lv_at hl 4 rfl) ?_
  refine z_iast (k := ((46 + (5 * C)) + 2)) (f := (upd (upd (A 6) ((46 + (5 * C)) + 0) k) ((46 + (5 * C)) + 1) ac)) (x := fr) (ws' := mW g o a F L (updA A 6 (upd (upd (upd (A 6) ((46 + (5 * C)) + 0) k) ((46 + (5 * C)) + 1) ac) ((46 + (5 * C)) + 2) fr)) ++ X) hE hB 7 rfl (by omega) (by decide) rfl dX9_layClause_30 (fun H locs hB => ?_)
  refine lv_aload_n hE.x hE.b dX9_layClause_31 rfl (lv_at hl 1 rfl) ?_
  refine lv_iload hE.x hE.b dX9_layClause_32 (lv_at hl 0 rfl) ?_
  refine lv_iconst (v := nI 3) hE.x hE.b dX9_layClause_34 rfl ?_
  refine z_iaddN hE dX9_layClause_35 ?_
  refine lv_iload hE.x hE.b dX9_layClause_36 (lv_at hl 5 rfl) ?_
  refine z_iast (k := ((46 + (5 * C)) + 3)) (f := (upd (upd (upd (A 6) ((46 + (5 * C)) + 0) k) ((46 + (5 * C)) + 1) ac) ((46 + (5 * C)) + 2) fr)) (x := ti) (ws' := mW g o a F L (updA A 6 (upd (upd (upd (upd (A 6) ((46 + (5 * C)) + 0) k) ((46 + (5 * C)) + 1) ac) ((46 + (5 * C)) + 2) fr) ((46 + (5 * C)) + 3) ti)) ++ X) hE hB 7 rfl (by omega) (by decide) rfl dX9_layClause_38 (fun H locs hB => ?_)
  refine lv_aload_n hE.x hE.b dX9_layClause_39 rfl (lv_at hl 1 rfl) ?_
  refine lv_iload hE.x hE.b dX9_layClause_40 (lv_at hl 0 rfl) ?_
  refine lv_iconst (v := nI 4) hE.x hE.b dX9_layClause_42 rfl ?_
  refine z_iaddN hE dX9_layClause_43 ?_
  refine lv_iload hE.x hE.b dX9_layClause_44 (lv_at hl 6 rfl) ?_
  refine z_iast (k := ((46 + (5 * C)) + 4)) (f := (upd (upd (upd (upd (A 6) ((46 + (5 * C)) + 0) k) ((46 + (5 * C)) + 1) ac) ((46 + (5 * C)) + 2) fr) ((46 + (5 * C)) + 3) ti)) (x := w) (ws' := mW g o a F L (updA A 6 (upd (upd (upd (upd (upd (A 6) ((46 + (5 * C)) + 0) k) ((46 + (5 * C)) + 1) ac) ((46 + (5 * C)) + 2) fr) ((46 + (5 * C)) + 3) ti) ((46 + (5 * C)) + 4) w)) ++ X) hE hB 7 rfl (by omega) (by decide) rfl dX9_layClause_46 (fun H locs hB => ?_)
  refine lv_aload_n hE.x hE.b dX9_layClause_47 rfl (lv_at hl 1 rfl) ?_
  refine lv_iconst (v := nI 1) hE.x hE.b dX9_layClause_48 rfl ?_
  refine lv_dup2_11 hE.x hE.b dX9_layClause_49 rfl rfl ?_
  refine z_iald (k := 1) (f := (upd (upd (upd (upd (upd (A 6) ((46 + (5 * C)) + 0) k) ((46 + (5 * C)) + 1) ac) ((46 + (5 * C)) + 2) fr) ((46 + (5 * C)) + 3) ti) ((46 + (5 * C)) + 4) w)) hE hB 7 rfl (by omega) (by decide) dX9_layClause_50 ?_
  refine z_top (y := (nI C)) (by simp only [upd]; rw [if_neg (by omega), if_neg (by omega), if_neg (by omega), if_neg (by omega), if_neg (by omega)]; exact hC) ?_
  refine lv_iconst (v := nI 1) hE.x hE.b dX9_layClause_51 rfl ?_
  refine z_iaddN hE dX9_layClause_52 ?_
  refine z_iast (k := 1) (f := (upd (upd (upd (upd (upd (A 6) ((46 + (5 * C)) + 0) k) ((46 + (5 * C)) + 1) ac) ((46 + (5 * C)) + 2) fr) ((46 + (5 * C)) + 3) ti) ((46 + (5 * C)) + 4) w)) (x := (nI (C + 1))) (ws' := mW g o a F L (updA A 6 (upd (upd (upd (upd (upd (upd (A 6) ((46 + (5 * C)) + 0) k) ((46 + (5 * C)) + 1) ac) ((46 + (5 * C)) + 2) fr) ((46 + (5 * C)) + 3) ti) ((46 + (5 * C)) + 4) w) 1 (nI (C + 1)))) ++ X) hE hB 7 rfl (by omega) (by decide) rfl dX9_layClause_53 (fun H locs hB => ?_)
  exact z_vret (ws := mW g o a F L (updA A 6 (upd (upd (upd (upd (upd (upd (A 6) ((46 + (5 * C)) + 0) k) ((46 + (5 * C)) + 1) ac) ((46 + (5 * C)) + 2) fr) ((46 + (5 * C)) + 3) ti) ((46 + (5 * C)) + 4) w) 1 (nI (C + 1)))) ++ X) hE hB hr (rfl) dX9_layClause_54

set_option maxHeartbeats 4000000 in
set_option maxRecDepth 100000 in
theorem c_X9_keep (l : Launch) (g : zG) (o : Nat) (a : Nat → Nat) (F : Nat → Int32) (L : Nat → Int64) (A : Nat → Nat → Int32) (X : va_W) (C : Nat) (U : Nat) (hC : A 0 1 = nI C) (hU : A 0 3 = nI U) (hC8 : C ≤ 8) (hU8 : U ≤ 8) : Met l yX9_keep (Cond.code yX9_keep cX9_keep 3 none :: TBL) { frames := 1, cells := 0, slots := 0, locals := 20 } (zPc [.ref o] g (mW g o a F L A ++ X)) (zQv g (fun ws => ws = mW g o a F L (updA A 0 (nKeep (A 0) U C)) ++ X)) 0 0 (zA (gz g)) := by
  refine z_start (by decide +kernel) rfl (Nat.le_of_ble_eq_true rfl) ?_
  intro p e s m args below meth c ls hE hr hnm hB hl
  have hl : lv_has ls 3 [(0, .ref o)] := hl
  revert hB
  generalize s.heap = H
  generalize ([] : List Loc) = locs
  intro hB
  have hu7 := uK_le hU8
  have k53 : ∀ (B : Nat → Nat → Int32) (H : Heap) (locs : List Loc) (ls : Array Slot), (B = updA A 0 (nK1 (A 0) U)) → zB g s (mW g o a F L B ++ X) H locs → lv_has ls 3 [(0, .ref o)] → W p l e { frames := 1, cells := 0, slots := 0, locals := 20 } s m args below meth c H locs 0 0 (MQ below (zQv g (fun ws => ws = mW g o a F L (updA A 0 (nKeep (A 0) U C)) ++ X)) args s 0 0 (zA (gz g))) (F0 m 53 ls []) := by
    intro B H locs ls hB0 hB hl
    refine lv_bipush (v := (nI 126)) hE.x hE.b dX9_keep_53 rfl ?_
    refine lv_bipush (v := (nI 41)) hE.x hE.b dX9_keep_55 rfl ?_
    refine lv_aload_n hE.x hE.b dX9_keep_57 rfl (lv_at hl 0 rfl) ?_
    refine z_get (v := .ref (a 0)) hE hB inX9 0 rfl rfl 0 (by decide) q4_1 (fun _ h9 => h9) rfl dX9_keep_58 ?_
    refine lv_iconst (v := nI 3) hE.x hE.b dX9_keep_61 rfl ?_
    refine z_iald (k := 3) (f := (B 0)) hE hB 1 rfl (by omega) (by decide) dX9_keep_62 ?_
    refine z_top (y := (nI (uK U))) (by rw [hB0, updA_self]; exact nK1_3 hU) ?_
    refine z_imulN hE dX9_keep_63 ?_
    refine z_iaddN hE dX9_keep_64 ?_
    refine lv_istore_n (lv' := [(1, .int (nI (126 + (41 * (uK U))))), (0, .ref o)]) hE.x hE.b dX9_keep_65 rfl hl (by decide) rfl (fun ls hl => ?_)
    refine lv_iconst (v := nI 0) hE.x hE.b dX9_keep_66 rfl ?_
    refine lv_istore_n (lv' := [(2, .int (nI 0)), (1, .int (nI (126 + (41 * (uK U))))), (0, .ref o)]) hE.x hE.b dX9_keep_67 rfl hl (by decide) rfl (fun ls hl => ?_)
    have k68 : ∀ (fu : Nat) (i : Nat) (D : Nat → Nat → Int32) (H : Heap) (locs : List Loc) (ls : Array Slot), 40 - i < fu → (i ≤ 40) → (D = updA A 0 (fun x => if 126 + 41 * uK U ≤ x ∧ x < 126 + 41 * uK U + i then A 0 (46 + (x - (126 + 41 * uK U))) else nK1 (A 0) U x)) → zB g s (mW g o a F L D ++ X) H locs → lv_has ls 3 [(2, .int (nI i)), (1, .int (nI (126 + (41 * (uK U))))), (0, .ref o)] → W p l e { frames := 1, cells := 0, slots := 0, locals := 20 } s m args below meth c H locs 0 0 (MQ below (zQv g (fun ws => ws = mW g o a F L (updA A 0 (nKeep (A 0) U C)) ++ X)) args s 0 0 (zA (gz g))) (F0 m 68 ls []) := by
      intro fu
      induction fu with
      | zero => intro i D H locs ls hfu hi hD0 hB hl; exact absurd hfu (Nat.not_lt_zero _)
      | succ fu ih68 =>
        intro i D H locs ls hfu hi hD0 hB hl
        refine lv_iload_n hE.x hE.b dX9_keep_68 rfl (lv_at hl 0 rfl) ?_
        refine lv_bipush (v := (nI 40)) hE.x hE.b dX9_keep_69 rfl ?_
        refine z_ge (tgt := 97) (X := ((i : Nat) : Int)) (Y := (40 : Int)) hE dX9_keep_71 (by decide) (nI_toInt (n := i) (by omega)) rfl (fun c_1 => ?_) (fun c_1 => ?_)
        · refine lv_aload_n hE.x hE.b dX9_keep_97 rfl (lv_at hl 2 rfl) ?_
          refine z_get (v := .ref (a 0)) hE hB inX9 0 rfl rfl 0 (by decide) q4_1 (fun _ h9 => h9) rfl dX9_keep_98 ?_
          refine lv_iload_n hE.x hE.b dX9_keep_101 rfl (lv_at hl 1 rfl) ?_
          refine lv_bipush (v := (nI 40)) hE.x hE.b dX9_keep_102 rfl ?_
          refine z_iaddN hE dX9_keep_104 ?_
          refine lv_aload_n hE.x hE.b dX9_keep_105 rfl (lv_at hl 2 rfl) ?_
          refine z_qi hB (z_cV hE hB (c_X9_clauses l g o a F L D X C (by rw [hD0, updA_self, if_neg (by omega), nK1_x (by omega) (by omega)]; exact hC)) q4_123 kX9_clauses ⟨rfl, rfl⟩ ⟨Nat.le_of_ble_eq_true rfl, Nat.le_of_ble_eq_true rfl⟩ 0 rfl rfl rfl hl.1 rfl (Nat.le_of_ble_eq_true rfl) dX9_keep_106 ⟨Nat.le_of_ble_eq_true rfl, Nat.le_of_ble_eq_true rfl⟩) (fun r_2 w_3 H locs hw hB => ?_)
          obtain ⟨hr9, hw9⟩ := hw
          have hr9 := hr9.symm
          subst hr9
          have hw9 := hw9.symm
          subst hw9
          refine z_iast (k := ((126 + (41 * (uK U))) + 40)) (f := (D 0)) (x := (nI C)) (ws' := mW g o a F L (updA D 0 (upd (D 0) ((126 + (41 * (uK U))) + 40) (nI C))) ++ X) hE hB 1 rfl (by omega) (by decide) rfl dX9_keep_109 (fun H locs hB => ?_)
          refine lv_aload_n hE.x hE.b dX9_keep_110 rfl (lv_at hl 2 rfl) ?_
          refine z_get (v := .ref (a 0)) hE hB inX9 0 rfl rfl 0 (by decide) q4_1 (fun _ h9 => h9) rfl dX9_keep_111 ?_
          refine lv_iconst (v := nI 3) hE.x hE.b dX9_keep_114 rfl ?_
          refine lv_dup2_11 hE.x hE.b dX9_keep_115 rfl rfl ?_
          refine z_iald (k := 3) (f := (upd (D 0) ((126 + (41 * (uK U))) + 40) (nI C))) hE hB 1 rfl (by omega) (by decide) dX9_keep_116 ?_
          refine z_top (y := (nI (uK U))) (by rw [hD0, updA_self]; simp only [upd]; rw [if_neg (by omega), if_neg (by omega)]; exact nK1_3 hU) ?_
          refine lv_iconst (v := nI 1) hE.x hE.b dX9_keep_117 rfl ?_
          refine z_iaddN hE dX9_keep_118 ?_
          refine z_iast (k := 3) (f := (upd (D 0) ((126 + (41 * (uK U))) + 40) (nI C))) (x := (nI ((uK U) + 1))) (ws' := mW g o a F L (updA D 0 (upd (upd (D 0) ((126 + (41 * (uK U))) + 40) (nI C)) 3 (nI ((uK U) + 1)))) ++ X) hE hB 1 rfl (by omega) (by decide) rfl dX9_keep_119 (fun H locs hB => ?_)
          exact z_vret (ws := mW g o a F L (updA D 0 (upd (upd (D 0) ((126 + (41 * (uK U))) + 40) (nI C)) 3 (nI ((uK U) + 1)))) ++ X) hE hB hr (by rw [hD0, updA_self, updA_updA]; rw [updA_eq (f' := nKeep (A 0) U C) (fun x => by simp only [nKeep, upd, nCp]; (repeat' split) <;> first | rfl | omega | (rw [nK1_x (by omega) (by omega)]))]) dX9_keep_120
        · refine lv_aload_n hE.x hE.b dX9_keep_74 rfl (lv_at hl 2 rfl) ?_
          refine z_get (v := .ref (a 0)) hE hB inX9 0 rfl rfl 0 (by decide) q4_1 (fun _ h9 => h9) rfl dX9_keep_75 ?_
          refine lv_iload_n hE.x hE.b dX9_keep_78 rfl (lv_at hl 1 rfl) ?_
          refine lv_iload_n hE.x hE.b dX9_keep_79 rfl (lv_at hl 0 rfl) ?_
          refine z_iaddN hE dX9_keep_80 ?_
          refine lv_aload_n hE.x hE.b dX9_keep_81 rfl (lv_at hl 2 rfl) ?_
          refine z_get (v := .ref (a 0)) hE hB inX9 0 rfl rfl 0 (by decide) q4_1 (fun _ h9 => h9) rfl dX9_keep_82 ?_
          refine lv_bipush (v := (nI 46)) hE.x hE.b dX9_keep_85 rfl ?_
          refine lv_iload_n hE.x hE.b dX9_keep_87 rfl (lv_at hl 0 rfl) ?_
          refine z_iaddN hE dX9_keep_88 ?_
          refine z_iald (k := (46 + i)) (f := (D 0)) hE hB 1 rfl (by omega) (by decide) dX9_keep_89 ?_
          refine z_iast (k := ((126 + (41 * (uK U))) + i)) (f := (D 0)) (x := ((D 0) (46 + i))) (ws' := mW g o a F L (updA D 0 (upd (D 0) ((126 + (41 * (uK U))) + i) ((D 0) (46 + i)))) ++ X) hE hB 1 rfl (by omega) (by decide) rfl dX9_keep_90 (fun H locs hB => ?_)
          refine lv_iinc (v := (nI (i + 1))) (lv' := [(2, .int (nI (i + 1))), (1, .int (nI (126 + (41 * (uK U))))), (0, .ref o)]) hE.x hE.b dX9_keep_91 hl (k := 0) rfl (nI_add _ _) (by decide) rfl (fun ls hl => ?_)
          refine lv_goto (tgt := 68) hE.x hE.b dX9_keep_94 (by decide) ?_
          exact ih68 (i + 1) (updA D 0 (upd (D 0) ((126 + (41 * (uK U))) + i) ((D 0) (46 + i)))) _ _ _ (by omega) (by omega) (updA_step hD0 fun x => by rw [hD0, updA_self]; simp only [upd]; (repeat' split) <;> first | rfl | omega | (rw [nK1_x (by omega) (by omega)]; congr 1; omega)) hB hl
    exact k68 (40 - 0 + 1) 0 B _ _ _ (Nat.lt_succ_self _) (by omega) (by rw [hB0]; exact updA_eq fun x => by rw [if_neg (by omega)]) hB hl
  refine lv_aload_n hE.x hE.b dX9_keep_0 rfl (lv_at hl 0 rfl) ?_
  refine z_get (v := .ref (a 0)) hE hB inX9 0 rfl rfl 0 (by decide) q4_1 (fun _ h9 => h9) rfl dX9_keep_1 ?_
  refine lv_iconst (v := nI 3) hE.x hE.b dX9_keep_4 rfl ?_
  refine z_iald (k := 3) (f := (A 0)) hE hB 1 rfl (by omega) (by decide) dX9_keep_5 ?_
  refine z_top (y := (nI U)) hU ?_
  refine lv_bipush (v := (nI 8)) hE.x hE.b dX9_keep_6 rfl ?_
  refine z_ne (tgt := 53) (X := ((U : Nat) : Int)) (Y := (8 : Int)) hE dX9_keep_8 (by decide) (nI_toInt (n := U) (by omega)) rfl (fun c_4 => ?_) (fun c_4 => ?_)
  · exact k53 A _ _ _ (updA_id fun x => by unfold nK1; rw [if_neg (by omega)]) hB hl
  · refine lv_iconst (v := nI 0) hE.x hE.b dX9_keep_11 rfl ?_
    refine lv_istore_n (lv' := [(1, .int (nI 0)), (0, .ref o)]) hE.x hE.b dX9_keep_12 rfl hl (by decide) rfl (fun ls hl => ?_)
    have k13 : ∀ (fu : Nat) (i : Nat) (B : Nat → Nat → Int32) (H : Heap) (locs : List Loc) (ls : Array Slot), 287 - i < fu → (i ≤ 287) → (B = updA A 0 (fun x => if 126 ≤ x ∧ x < 126 + i then A 0 (x + 41) else A 0 x)) → zB g s (mW g o a F L B ++ X) H locs → lv_has ls 3 [(1, .int (nI i)), (0, .ref o)] → W p l e { frames := 1, cells := 0, slots := 0, locals := 20 } s m args below meth c H locs 0 0 (MQ below (zQv g (fun ws => ws = mW g o a F L (updA A 0 (nKeep (A 0) U C)) ++ X)) args s 0 0 (zA (gz g))) (F0 m 13 ls []) := by
      intro fu
      induction fu with
      | zero => intro i B H locs ls hfu hi hB0 hB hl; exact absurd hfu (Nat.not_lt_zero _)
      | succ fu ih13 =>
        intro i B H locs ls hfu hi hB0 hB hl
        refine lv_iload_n hE.x hE.b dX9_keep_13 rfl (lv_at hl 0 rfl) ?_
        refine lv_sipush (v := (nI 287)) hE.x hE.b dX9_keep_14 rfl ?_
        refine z_ge (tgt := 45) (X := ((i : Nat) : Int)) (Y := (287 : Int)) hE dX9_keep_17 (by decide) (nI_toInt (n := i) (by omega)) rfl (fun c_5 => ?_) (fun c_5 => ?_)
        · refine lv_aload_n hE.x hE.b dX9_keep_45 rfl (lv_at hl 1 rfl) ?_
          refine z_get (v := .ref (a 0)) hE hB inX9 0 rfl rfl 0 (by decide) q4_1 (fun _ h9 => h9) rfl dX9_keep_46 ?_
          refine lv_iconst (v := nI 3) hE.x hE.b dX9_keep_49 rfl ?_
          refine lv_bipush (v := (nI 7)) hE.x hE.b dX9_keep_50 rfl ?_
          refine z_iast (k := 3) (f := (B 0)) (x := (nI 7)) (ws' := mW g o a F L (updA B 0 (upd (B 0) 3 (nI 7))) ++ X) hE hB 1 rfl (by omega) (by decide) rfl dX9_keep_52 (fun H locs hB => ?_)
          exact k53 (updA B 0 (upd (B 0) 3 (nI 7))) _ _ _ (by rw [hB0, updA_self, updA_updA]; exact updA_eq fun x => by simp only [nK1, if_pos (show U = 8 by omega), upd, nSh]; (repeat' split) <;> first | rfl | omega) hB (lv_sub hl [1] rfl)
        · refine lv_aload_n hE.x hE.b dX9_keep_20 rfl (lv_at hl 1 rfl) ?_
          refine z_get (v := .ref (a 0)) hE hB inX9 0 rfl rfl 0 (by decide) q4_1 (fun _ h9 => h9) rfl dX9_keep_21 ?_
          refine lv_bipush (v := (nI 126)) hE.x hE.b dX9_keep_24 rfl ?_
          refine lv_iload_n hE.x hE.b dX9_keep_26 rfl (lv_at hl 0 rfl) ?_
          refine z_iaddN hE dX9_keep_27 ?_
          refine lv_aload_n hE.x hE.b dX9_keep_28 rfl (lv_at hl 1 rfl) ?_
          refine z_get (v := .ref (a 0)) hE hB inX9 0 rfl rfl 0 (by decide) q4_1 (fun _ h9 => h9) rfl dX9_keep_29 ?_
          refine lv_sipush (v := (nI 167)) hE.x hE.b dX9_keep_32 rfl ?_
          refine lv_iload_n hE.x hE.b dX9_keep_35 rfl (lv_at hl 0 rfl) ?_
          refine z_iaddN hE dX9_keep_36 ?_
          refine z_iald (k := (167 + i)) (f := (B 0)) hE hB 1 rfl (by omega) (by decide) dX9_keep_37 ?_
          refine z_iast (k := (126 + i)) (f := (B 0)) (x := ((B 0) (167 + i))) (ws' := mW g o a F L (updA B 0 (upd (B 0) (126 + i) ((B 0) (167 + i)))) ++ X) hE hB 1 rfl (by omega) (by decide) rfl dX9_keep_38 (fun H locs hB => ?_)
          refine lv_iinc (v := (nI (i + 1))) (lv' := [(1, .int (nI (i + 1))), (0, .ref o)]) hE.x hE.b dX9_keep_39 hl (k := 0) rfl (nI_add _ _) (by decide) rfl (fun ls hl => ?_)
          refine lv_goto (tgt := 13) hE.x hE.b dX9_keep_42 (by decide) ?_
          exact ih13 (i + 1) (updA B 0 (upd (B 0) (126 + i) ((B 0) (167 + i)))) _ _ _ (by omega) (by omega) (updA_step hB0 (fun x => by rw [hB0, updA_self]; simp only [upd]; (repeat' split) <;> first | rfl | omega | (congr 1; omega))) hB hl
    exact k13 (287 - 0 + 1) 0 A _ _ _ (Nat.lt_succ_self _) (by omega) (updA_id fun x => by rw [if_neg (by omega)]) hB hl

set_option maxHeartbeats 4000000 in
set_option maxRecDepth 100000 in
theorem c_X9_clause (l : Launch) (g : zG) (o : Nat) (a : Nat → Nat) (F : Nat → Int32) (L : Nat → Int64) (A : Nat → Nat → Int32) (X : va_W) (T : Nat) (C : Nat) (V : Nat) (U : Nat) (k : Int32) (ac : Int32) (fr : Int32) (ti : Int32) (w : Int32) (hn : nOK (A 0) T C V U) : Met l yX9_clause (Cond.code yX9_clause cX9_clause 6 (some .int) :: TBL) { frames := 2, cells := 0, slots := 0, locals := 45 } (zPc [.ref o, .int k, .int ac, .int fr, .int ti, .int w] g (mW g o a F L A ++ X)) (zQi g (fun r ws => r = (clauseR C k ac fr ti w) ∧ ws = mW g o a F L (clauseA A C U k ac fr ti w) ++ X)) 0 0 (zA (gz g)) := by
  refine z_start (by decide +kernel) rfl (Nat.le_of_ble_eq_true rfl) ?_
  intro p e s m args below meth c ls hE hr hnm hB hl
  have hl : lv_has ls 6 [(0, .ref o), (1, .int k), (2, .int ac), (3, .int fr), (4, .int ti), (5, .int w)] := hl
  revert hB
  generalize s.heap = H
  generalize ([] : List Loc) = locs
  intro hB
  have hT := hn.T
  have hT6 := hn.T6
  have hC := hn.C
  have hC8 := hn.C8
  have hV := hn.V
  have hV8 := hn.V8
  have hU := hn.U
  have hU8 := hn.U8
  refine lv_iload_n hE.x hE.b dX9_clause_0 rfl (lv_at hl 1 rfl) ?_
  refine lv_i2l hE.x hE.b dX9_clause_1 rfl ?_
  refine lv_lconst (v := lN 0) hE.x hE.b dX9_clause_2 rfl ?_
  refine lv_ldc2 (v := lN 5) hE.x hE.b hE.o (hE.t _ q4_118) dX9_clause_3 ?_
  refine z_qi hB (z_cS hE hB (c_X9_in l g (k.toInt64) (lN 0) (lN 5) k.toInt 0 5 (mW g o a F L A ++ X) (Int32.toInt_toInt64 _) (by decide) (by decide)) q4_88 kX9_in ⟨rfl, rfl⟩ ⟨Nat.le_of_ble_eq_true rfl, Nat.le_of_ble_eq_true rfl⟩ rfl hl.1 rfl (Nat.le_of_ble_eq_true rfl) dX9_clause_6 ⟨Nat.le_of_ble_eq_true rfl, Nat.le_of_ble_eq_true rfl⟩) (fun r_1 w_2 H locs hw hB => ?_)
  obtain ⟨hr9, hw9⟩ := hw
  have hr9 := hr9.symm
  subst hr9
  have hw9 := hw9.symm
  subst hw9
  refine z_bf (b := (inZ 0 5 k.toInt)) (tgt := 57) hE dX9_clause_9 (by decide) (fun c_3 => ?_) (fun c_3 => ?_)
  · refine lv_aload_n hE.x hE.b dX9_clause_57 rfl (lv_at hl 0 rfl) ?_
    refine lv_bipush (v := (-2)) hE.x hE.b dX9_clause_58 rfl ?_
    refine z_qi hB (z_cV hE hB (c_X9_bad l g o a F L A X (-2)) q4_91 kX9_bad ⟨rfl, rfl⟩ ⟨Nat.le_of_ble_eq_true rfl, Nat.le_of_ble_eq_true rfl⟩ 0 rfl rfl rfl hl.1 rfl (Nat.le_of_ble_eq_true rfl) dX9_clause_60 ⟨Nat.le_of_ble_eq_true rfl, Nat.le_of_ble_eq_true rfl⟩) (fun r_4 w_5 H locs hw hB => ?_)
    obtain ⟨hr9, hw9⟩ := hw
    have hr9 := hr9.symm
    subst hr9
    have hw9 := hw9.symm
    subst hw9
    exact z_iret (v := (-2)) (ws := mW g o a F L (bump 0 A) ++ X) hE hB hr (⟨by unfold clauseR clauseOK; simp [c_3], by unfold clauseA clauseOK; simp [c_3]⟩) dX9_clause_63
  · refine lv_iload_n hE.x hE.b dX9_clause_12 rfl (lv_at hl 2 rfl) ?_
    refine z_qi hB (z_cS hE hB (c_X9_isAct l g ac (mW g o a F L A ++ X)) q4_119 kX9_isAct ⟨rfl, rfl⟩ ⟨Nat.le_of_ble_eq_true rfl, Nat.le_of_ble_eq_true rfl⟩ rfl hl.1 rfl (Nat.le_of_ble_eq_true rfl) dX9_clause_13 ⟨Nat.le_of_ble_eq_true rfl, Nat.le_of_ble_eq_true rfl⟩) (fun r_6 w_7 H locs hw hB => ?_)
    obtain ⟨hr9, hw9⟩ := hw
    have hr9 := hr9.symm
    subst hr9
    have hw9 := hw9.symm
    subst hw9
    refine z_bf (b := (pIn 0 5 ac)) (tgt := 57) hE dX9_clause_16 (by decide) (fun c_8 => ?_) (fun c_8 => ?_)
    · refine lv_aload_n hE.x hE.b dX9_clause_57 rfl (lv_at hl 0 rfl) ?_
      refine lv_bipush (v := (-2)) hE.x hE.b dX9_clause_58 rfl ?_
      refine z_qi hB (z_cV hE hB (c_X9_bad l g o a F L A X (-2)) q4_91 kX9_bad ⟨rfl, rfl⟩ ⟨Nat.le_of_ble_eq_true rfl, Nat.le_of_ble_eq_true rfl⟩ 0 rfl rfl rfl hl.1 rfl (Nat.le_of_ble_eq_true rfl) dX9_clause_60 ⟨Nat.le_of_ble_eq_true rfl, Nat.le_of_ble_eq_true rfl⟩) (fun r_9 w_10 H locs hw hB => ?_)
      obtain ⟨hr9, hw9⟩ := hw
      have hr9 := hr9.symm
      subst hr9
      have hw9 := hw9.symm
      subst hw9
      exact z_iret (v := (-2)) (ws := mW g o a F L (bump 0 A) ++ X) hE hB hr (⟨by unfold clauseR clauseOK; simp [c_3, c_8], by unfold clauseA clauseOK; simp [c_3, c_8]⟩) dX9_clause_63
    · refine lv_iload hE.x hE.b dX9_clause_19 (lv_at hl 4 rfl) ?_
      refine lv_i2l hE.x hE.b dX9_clause_21 rfl ?_
      refine lv_lconst (v := lN 0) hE.x hE.b dX9_clause_22 rfl ?_
      refine lv_ldc2 (v := lN 60) hE.x hE.b hE.o (hE.t _ q4_122) dX9_clause_23 ?_
      refine z_qi hB (z_cS hE hB (c_X9_in l g (ti.toInt64) (lN 0) (lN 60) ti.toInt 0 60 (mW g o a F L A ++ X) (Int32.toInt_toInt64 _) (by decide) (by decide)) q4_88 kX9_in ⟨rfl, rfl⟩ ⟨Nat.le_of_ble_eq_true rfl, Nat.le_of_ble_eq_true rfl⟩ rfl hl.1 rfl (Nat.le_of_ble_eq_true rfl) dX9_clause_26 ⟨Nat.le_of_ble_eq_true rfl, Nat.le_of_ble_eq_true rfl⟩) (fun r_11 w_12 H locs hw hB => ?_)
      obtain ⟨hr9, hw9⟩ := hw
      have hr9 := hr9.symm
      subst hr9
      have hw9 := hw9.symm
      subst hw9
      refine z_bf (b := (inZ 0 60 ti.toInt)) (tgt := 57) hE dX9_clause_29 (by decide) (fun c_13 => ?_) (fun c_13 => ?_)
      · refine lv_aload_n hE.x hE.b dX9_clause_57 rfl (lv_at hl 0 rfl) ?_
        refine lv_bipush (v := (-2)) hE.x hE.b dX9_clause_58 rfl ?_
        refine z_qi hB (z_cV hE hB (c_X9_bad l g o a F L A X (-2)) q4_91 kX9_bad ⟨rfl, rfl⟩ ⟨Nat.le_of_ble_eq_true rfl, Nat.le_of_ble_eq_true rfl⟩ 0 rfl rfl rfl hl.1 rfl (Nat.le_of_ble_eq_true rfl) dX9_clause_60 ⟨Nat.le_of_ble_eq_true rfl, Nat.le_of_ble_eq_true rfl⟩) (fun r_14 w_15 H locs hw hB => ?_)
        obtain ⟨hr9, hw9⟩ := hw
        have hr9 := hr9.symm
        subst hr9
        have hw9 := hw9.symm
        subst hw9
        exact z_iret (v := (-2)) (ws := mW g o a F L (bump 0 A) ++ X) hE hB hr (⟨by unfold clauseR clauseOK; simp [c_3, c_8, c_13], by unfold clauseA clauseOK; simp [c_3, c_8, c_13]⟩) dX9_clause_63
      · refine lv_iload_n hE.x hE.b dX9_clause_32 rfl (lv_at hl 3 rfl) ?_
        refine lv_i2l hE.x hE.b dX9_clause_33 rfl ?_
        refine lv_lconst (v := lN 0) hE.x hE.b dX9_clause_34 rfl ?_
        refine lv_iload hE.x hE.b dX9_clause_35 (lv_at hl 4 rfl) ?_
        refine lv_i2l hE.x hE.b dX9_clause_37 rfl ?_
        refine z_qi hB (z_cS hE hB (c_X9_in l g (fr.toInt64) (lN 0) (ti.toInt64) fr.toInt 0 ti.toInt (mW g o a F L A ++ X) (Int32.toInt_toInt64 _) (by decide) (Int32.toInt_toInt64 _)) q4_88 kX9_in ⟨rfl, rfl⟩ ⟨Nat.le_of_ble_eq_true rfl, Nat.le_of_ble_eq_true rfl⟩ rfl hl.1 rfl (Nat.le_of_ble_eq_true rfl) dX9_clause_38 ⟨Nat.le_of_ble_eq_true rfl, Nat.le_of_ble_eq_true rfl⟩) (fun r_16 w_17 H locs hw hB => ?_)
        obtain ⟨hr9, hw9⟩ := hw
        have hr9 := hr9.symm
        subst hr9
        have hw9 := hw9.symm
        subst hw9
        refine z_bf (b := (inZ 0 ti.toInt fr.toInt)) (tgt := 57) hE dX9_clause_41 (by decide) (fun c_18 => ?_) (fun c_18 => ?_)
        · refine lv_aload_n hE.x hE.b dX9_clause_57 rfl (lv_at hl 0 rfl) ?_
          refine lv_bipush (v := (-2)) hE.x hE.b dX9_clause_58 rfl ?_
          refine z_qi hB (z_cV hE hB (c_X9_bad l g o a F L A X (-2)) q4_91 kX9_bad ⟨rfl, rfl⟩ ⟨Nat.le_of_ble_eq_true rfl, Nat.le_of_ble_eq_true rfl⟩ 0 rfl rfl rfl hl.1 rfl (Nat.le_of_ble_eq_true rfl) dX9_clause_60 ⟨Nat.le_of_ble_eq_true rfl, Nat.le_of_ble_eq_true rfl⟩) (fun r_19 w_20 H locs hw hB => ?_)
          obtain ⟨hr9, hw9⟩ := hw
          have hr9 := hr9.symm
          subst hr9
          have hw9 := hw9.symm
          subst hw9
          exact z_iret (v := (-2)) (ws := mW g o a F L (bump 0 A) ++ X) hE hB hr (⟨by unfold clauseR clauseOK; simp [c_3, c_8, c_13, c_18], by unfold clauseA clauseOK; simp [c_3, c_8, c_13, c_18]⟩) dX9_clause_63
        · refine lv_iload hE.x hE.b dX9_clause_44 (lv_at hl 5 rfl) ?_
          refine lv_i2l hE.x hE.b dX9_clause_46 rfl ?_
          refine lv_lconst (v := lN 0) hE.x hE.b dX9_clause_47 rfl ?_
          refine lv_ldc2 (v := lN 5) hE.x hE.b hE.o (hE.t _ q4_118) dX9_clause_48 ?_
          refine z_qi hB (z_cS hE hB (c_X9_in l g (w.toInt64) (lN 0) (lN 5) w.toInt 0 5 (mW g o a F L A ++ X) (Int32.toInt_toInt64 _) (by decide) (by decide)) q4_88 kX9_in ⟨rfl, rfl⟩ ⟨Nat.le_of_ble_eq_true rfl, Nat.le_of_ble_eq_true rfl⟩ rfl hl.1 rfl (Nat.le_of_ble_eq_true rfl) dX9_clause_51 ⟨Nat.le_of_ble_eq_true rfl, Nat.le_of_ble_eq_true rfl⟩) (fun r_21 w_22 H locs hw hB => ?_)
          obtain ⟨hr9, hw9⟩ := hw
          have hr9 := hr9.symm
          subst hr9
          have hw9 := hw9.symm
          subst hw9
          refine z_bt (b := (inZ 0 5 w.toInt)) (tgt := 64) hE dX9_clause_54 (by decide) (fun c_23 => ?_) (fun c_23 => ?_)
          · refine lv_aload_n hE.x hE.b dX9_clause_64 rfl (lv_at hl 0 rfl) ?_
            refine z_qi hB (z_cV hE hB (c_X9_clauses l g o a F L A X C hC) q4_123 kX9_clauses ⟨rfl, rfl⟩ ⟨Nat.le_of_ble_eq_true rfl, Nat.le_of_ble_eq_true rfl⟩ 0 rfl rfl rfl hl.1 rfl (Nat.le_of_ble_eq_true rfl) dX9_clause_65 ⟨Nat.le_of_ble_eq_true rfl, Nat.le_of_ble_eq_true rfl⟩) (fun r_24 w_25 H locs hw hB => ?_)
            obtain ⟨hr9, hw9⟩ := hw
            have hr9 := hr9.symm
            subst hr9
            have hw9 := hw9.symm
            subst hw9
            refine lv_bipush (v := (nI 8)) hE.x hE.b dX9_clause_68 rfl ?_
            refine z_ne (tgt := 78) (X := ((C : Nat) : Int)) (Y := (8 : Int)) hE dX9_clause_70 (by decide) (nI_toInt (n := C) (by omega)) rfl (fun c_26 => ?_) (fun c_26 => ?_)
            · refine lv_aload_n hE.x hE.b dX9_clause_78 rfl (lv_at hl 0 rfl) ?_
              refine z_qv hB (z_cV hE hB (c_X9_keep l g o a F L A X C U hC hU (by omega) (by omega)) q4_127 kX9_keep ⟨rfl, rfl⟩ ⟨Nat.le_of_ble_eq_true rfl, Nat.le_of_ble_eq_true rfl⟩ 0 rfl rfl rfl hl.1 rfl (Nat.le_of_ble_eq_true rfl) dX9_clause_79 ⟨Nat.le_of_ble_eq_true rfl, Nat.le_of_ble_eq_true rfl⟩) (fun w_28 H locs hw hB => ?_)
              have hw9 := hw
              have hw9 := hw9.symm
              subst hw9
              refine lv_aload_n hE.x hE.b dX9_clause_82 rfl (lv_at hl 0 rfl) ?_
              refine z_get (v := .ref (a 0)) hE hB inX9 0 rfl rfl 0 (by decide) q4_1 (fun _ h9 => h9) rfl dX9_clause_83 ?_
              refine lv_iload_n hE.x hE.b dX9_clause_86 rfl (lv_at hl 1 rfl) ?_
              refine lv_iload_n hE.x hE.b dX9_clause_87 rfl (lv_at hl 2 rfl) ?_
              refine lv_iload_n hE.x hE.b dX9_clause_88 rfl (lv_at hl 3 rfl) ?_
              refine lv_iload hE.x hE.b dX9_clause_89 (lv_at hl 4 rfl) ?_
              refine lv_iload hE.x hE.b dX9_clause_91 (lv_at hl 5 rfl) ?_
              refine z_qv hB (z_cS hE hB (c_X9_layClause_0 l g o a F L (updA A 0 (nKeep (A 0) U C)) X C k ac fr ti w (by rw [updA_self, nKeep_1]; exact hC) (by omega)) q4_131 kX9_layClause ⟨rfl, rfl⟩ ⟨Nat.le_of_ble_eq_true rfl, Nat.le_of_ble_eq_true rfl⟩ rfl hl.1 rfl (Nat.le_of_ble_eq_true rfl) dX9_clause_93 ⟨Nat.le_of_ble_eq_true rfl, Nat.le_of_ble_eq_true rfl⟩) (fun w_30 H locs hw hB => ?_)
              have hw9 := hw
              have hw9 := hw9.symm
              subst hw9
              refine lv_aload_n hE.x hE.b dX9_clause_96 rfl (lv_at hl 0 rfl) ?_
              refine z_qi hB (z_cV hE hB (c_X9_clauses l g o a F L (updA (updA A 0 (nKeep (A 0) U C)) 0 (nCl ((updA A 0 (nKeep (A 0) U C)) 0) C k ac fr ti w)) X (C + 1) (by rw [updA_self]; simp [nCl, upd])) q4_123 kX9_clauses ⟨rfl, rfl⟩ ⟨Nat.le_of_ble_eq_true rfl, Nat.le_of_ble_eq_true rfl⟩ 0 rfl rfl rfl hl.1 rfl (Nat.le_of_ble_eq_true rfl) dX9_clause_97 ⟨Nat.le_of_ble_eq_true rfl, Nat.le_of_ble_eq_true rfl⟩) (fun r_31 w_32 H locs hw hB => ?_)
              obtain ⟨hr9, hw9⟩ := hw
              have hr9 := hr9.symm
              subst hr9
              have hw9 := hw9.symm
              subst hw9
              refine lv_iconst (v := nI 1) hE.x hE.b dX9_clause_100 rfl ?_
              refine z_isubN hE (by omega) dX9_clause_101 ?_
              exact z_iret (v := (nI ((C + 1) - 1))) (ws := mW g o a F L (updA (updA A 0 (nKeep (A 0) U C)) 0 (nCl ((updA A 0 (nKeep (A 0) U C)) 0) C k ac fr ti w)) ++ X) hE hB hr (⟨by unfold clauseR clauseOK; simp [c_3, c_8, c_13, c_18, c_23, show ¬ C = 8 by omega], by unfold clauseA clauseOK; rw [updA_self, updA_updA]; simp [c_3, c_8, c_13, c_18, c_23, show ¬ C = 8 by omega]⟩) dX9_clause_102
            · refine lv_aload_n hE.x hE.b dX9_clause_73 rfl (lv_at hl 0 rfl) ?_
              refine z_qi hB (z_cV hE hB (c_X9_full l g o a F L A X) q4_95 kX9_full ⟨rfl, rfl⟩ ⟨Nat.le_of_ble_eq_true rfl, Nat.le_of_ble_eq_true rfl⟩ 0 rfl rfl rfl hl.1 rfl (Nat.le_of_ble_eq_true rfl) dX9_clause_74 ⟨Nat.le_of_ble_eq_true rfl, Nat.le_of_ble_eq_true rfl⟩) (fun r_33 w_34 H locs hw hB => ?_)
              obtain ⟨hr9, hw9⟩ := hw
              have hr9 := hr9.symm
              subst hr9
              have hw9 := hw9.symm
              subst hw9
              exact z_iret (v := (-4)) (ws := mW g o a F L (bump 2 A) ++ X) hE hB hr (⟨by unfold clauseR clauseOK; simp [c_3, c_8, c_13, c_18, c_23, show C = 8 by omega], by unfold clauseA clauseOK; simp [c_3, c_8, c_13, c_18, c_23, show C = 8 by omega]⟩) dX9_clause_77
          · refine lv_aload_n hE.x hE.b dX9_clause_57 rfl (lv_at hl 0 rfl) ?_
            refine lv_bipush (v := (-2)) hE.x hE.b dX9_clause_58 rfl ?_
            refine z_qi hB (z_cV hE hB (c_X9_bad l g o a F L A X (-2)) q4_91 kX9_bad ⟨rfl, rfl⟩ ⟨Nat.le_of_ble_eq_true rfl, Nat.le_of_ble_eq_true rfl⟩ 0 rfl rfl rfl hl.1 rfl (Nat.le_of_ble_eq_true rfl) dX9_clause_60 ⟨Nat.le_of_ble_eq_true rfl, Nat.le_of_ble_eq_true rfl⟩) (fun r_35 w_36 H locs hw hB => ?_)
            obtain ⟨hr9, hw9⟩ := hw
            have hr9 := hr9.symm
            subst hr9
            have hw9 := hw9.symm
            subst hw9
            exact z_iret (v := (-2)) (ws := mW g o a F L (bump 0 A) ++ X) hE hB hr (⟨by unfold clauseR clauseOK; simp [c_3, c_8, c_13, c_18, c_23], by unfold clauseA clauseOK; simp [c_3, c_8, c_13, c_18, c_23]⟩) dX9_clause_63

set_option maxHeartbeats 4000000 in
set_option maxRecDepth 100000 in
theorem c_X9_strike (l : Launch) (g : zG) (o : Nat) (a : Nat → Nat) (F : Nat → Int32) (L : Nat → Int64) (A : Nat → Nat → Int32) (X : va_W) (T : Nat) (C : Nat) (V : Nat) (U : Nat) (x : Int32) (hn : nOK (A 0) T C V U) : Met l yX9_strike (Cond.code yX9_strike cX9_strike 3 (some .int) :: TBL) { frames := 2, cells := 0, slots := 0, locals := 46 } (zPc [.ref o, .int x] g (mW g o a F L A ++ X)) (zQi g (fun r ws => r = (strikeR C x) ∧ ws = mW g o a F L (strikeA A C U x) ++ X)) 0 0 (zA (gz g)) := by
  refine z_start (by decide +kernel) rfl (Nat.le_of_ble_eq_true rfl) ?_
  intro p e s m args below meth c ls hE hr hnm hB hl
  have hl : lv_has ls 3 [(0, .ref o), (1, .int x)] := hl
  revert hB
  generalize s.heap = H
  generalize ([] : List Loc) = locs
  intro hB
  have hT := hn.T
  have hT6 := hn.T6
  have hC := hn.C
  have hC8 := hn.C8
  have hV := hn.V
  have hV8 := hn.V8
  have hU := hn.U
  have hU8 := hn.U8
  refine lv_aload_n hE.x hE.b dX9_strike_0 rfl (lv_at hl 0 rfl) ?_
  refine lv_iload_n hE.x hE.b dX9_strike_1 rfl (lv_at hl 1 rfl) ?_
  refine z_qi hB (z_cV hE hB (c_X9_isClause l g o a F L A X C x hC (by omega)) q4_138 kX9_isClause ⟨rfl, rfl⟩ ⟨Nat.le_of_ble_eq_true rfl, Nat.le_of_ble_eq_true rfl⟩ 0 rfl rfl rfl hl.1 rfl (Nat.le_of_ble_eq_true rfl) dX9_strike_2 ⟨Nat.le_of_ble_eq_true rfl, Nat.le_of_ble_eq_true rfl⟩) (fun r_1 w_2 H locs hw hB => ?_)
  obtain ⟨hr9, hw9⟩ := hw
  have hr9 := hr9.symm
  subst hr9
  have hw9 := hw9.symm
  subst hw9
  refine z_bt (b := (pTown C x)) (tgt := 15) hE dX9_strike_5 (by decide) (fun c_3 => ?_) (fun c_3 => ?_)
  · obtain ⟨q, hq, rfl⟩ := pTown_nI c_3 (by omega)
    refine lv_aload_n hE.x hE.b dX9_strike_15 rfl (lv_at hl 0 rfl) ?_
    refine z_qv hB (z_cV hE hB (c_X9_keep l g o a F L A X C U hC hU (by omega) (by omega)) q4_127 kX9_keep ⟨rfl, rfl⟩ ⟨Nat.le_of_ble_eq_true rfl, Nat.le_of_ble_eq_true rfl⟩ 0 rfl rfl rfl hl.1 rfl (Nat.le_of_ble_eq_true rfl) dX9_strike_16 ⟨Nat.le_of_ble_eq_true rfl, Nat.le_of_ble_eq_true rfl⟩) (fun w_5 H locs hw hB => ?_)
    have hw9 := hw
    have hw9 := hw9.symm
    subst hw9
    refine lv_iconst (v := nI 5) hE.x hE.b dX9_strike_19 rfl ?_
    refine lv_iload_n hE.x hE.b dX9_strike_20 rfl (lv_at hl 1 rfl) ?_
    refine z_imulN hE dX9_strike_21 ?_
    refine lv_istore_n (lv' := [(2, .int (nI (5 * q))), (0, .ref o), (1, .int (nI q))]) hE.x hE.b dX9_strike_22 rfl hl (by decide) rfl (fun ls hl => ?_)
    have k23 : ∀ (fu : Nat) (i : Nat) (B : Nat → Nat → Int32) (H : Heap) (locs : List Loc) (ls : Array Slot), 35 - i < fu → (5 * q ≤ i ∧ i ≤ 35) → (B = updA A 0 (fun x => if 46 + 5 * q ≤ x ∧ x < 46 + i then nKeep (A 0) U C (x + 5) else nKeep (A 0) U C x)) → zB g s (mW g o a F L B ++ X) H locs → lv_has ls 3 [(2, .int (nI i)), (0, .ref o), (1, .int (nI q))] → W p l e { frames := 2, cells := 0, slots := 0, locals := 46 } s m args below meth c H locs 0 0 (MQ below (zQi g (fun r ws => r = (strikeR C (nI q)) ∧ ws = mW g o a F L (strikeA A C U (nI q)) ++ X)) args s 0 0 (zA (gz g))) (F0 m 23 ls []) := by
      intro fu
      induction fu with
      | zero => intro i B H locs ls hfu hi hB0 hB hl; exact absurd hfu (Nat.not_lt_zero _)
      | succ fu ih23 =>
        intro i B H locs ls hfu hi hB0 hB hl
        refine lv_iload_n hE.x hE.b dX9_strike_23 rfl (lv_at hl 0 rfl) ?_
        refine lv_bipush (v := (nI 35)) hE.x hE.b dX9_strike_24 rfl ?_
        refine z_ge (tgt := 55) (X := ((i : Nat) : Int)) (Y := (35 : Int)) hE dX9_strike_26 (by decide) (nI_toInt (n := i) (by omega)) rfl (fun c_6 => ?_) (fun c_6 => ?_)
        · refine lv_aload_n hE.x hE.b dX9_strike_55 rfl (lv_at hl 1 rfl) ?_
          refine z_get (v := .ref (a 0)) hE hB inX9 0 rfl rfl 0 (by decide) q4_1 (fun _ h9 => h9) rfl dX9_strike_56 ?_
          refine lv_iconst (v := nI 1) hE.x hE.b dX9_strike_59 rfl ?_
          refine lv_dup2_11 hE.x hE.b dX9_strike_60 rfl rfl ?_
          refine z_iald (k := 1) (f := (B 0)) hE hB 1 rfl (by omega) (by decide) dX9_strike_61 ?_
          refine z_top (y := (nI C)) (by rw [hB0, updA_self, if_neg (by omega), nKeep_1]; exact hC) ?_
          refine lv_iconst (v := nI 1) hE.x hE.b dX9_strike_62 rfl ?_
          refine z_isubN hE (by omega) dX9_strike_63 ?_
          refine z_iast (k := 1) (f := (B 0)) (x := (nI (C - 1))) (ws' := mW g o a F L (updA B 0 (upd (B 0) 1 (nI (C - 1)))) ++ X) hE hB 1 rfl (by omega) (by decide) rfl dX9_strike_64 (fun H locs hB => ?_)
          refine lv_aload_n hE.x hE.b dX9_strike_65 rfl (lv_at hl 1 rfl) ?_
          refine z_qi hB (z_cV hE hB (c_X9_clauses l g o a F L (updA B 0 (upd (B 0) 1 (nI (C - 1)))) X (C - 1) (by rw [updA_self]; simp [upd])) q4_123 kX9_clauses ⟨rfl, rfl⟩ ⟨Nat.le_of_ble_eq_true rfl, Nat.le_of_ble_eq_true rfl⟩ 0 rfl rfl rfl hl.1 rfl (Nat.le_of_ble_eq_true rfl) dX9_strike_66 ⟨Nat.le_of_ble_eq_true rfl, Nat.le_of_ble_eq_true rfl⟩) (fun r_7 w_8 H locs hw hB => ?_)
          obtain ⟨hr9, hw9⟩ := hw
          have hr9 := hr9.symm
          subst hr9
          have hw9 := hw9.symm
          subst hw9
          exact z_iret (v := (nI (C - 1))) (ws := mW g o a F L (updA B 0 (upd (B 0) 1 (nI (C - 1)))) ++ X) hE hB hr (⟨by unfold strikeR; rw [c_3]; rfl, by unfold strikeA; rw [c_3, if_pos rfl, hB0, updA_self, updA_updA, rcl (show q < 2 ^ 31 by omega)]; rw [updA_eq (f' := nStrike (nKeep (A 0) U C) C q) (fun x => by simp only [nStrike, upd, nSt]; (repeat' split) <;> first | rfl | omega)]⟩) dX9_strike_69
        · refine lv_aload_n hE.x hE.b dX9_strike_29 rfl (lv_at hl 1 rfl) ?_
          refine z_get (v := .ref (a 0)) hE hB inX9 0 rfl rfl 0 (by decide) q4_1 (fun _ h9 => h9) rfl dX9_strike_30 ?_
          refine lv_bipush (v := (nI 46)) hE.x hE.b dX9_strike_33 rfl ?_
          refine lv_iload_n hE.x hE.b dX9_strike_35 rfl (lv_at hl 0 rfl) ?_
          refine z_iaddN hE dX9_strike_36 ?_
          refine lv_aload_n hE.x hE.b dX9_strike_37 rfl (lv_at hl 1 rfl) ?_
          refine z_get (v := .ref (a 0)) hE hB inX9 0 rfl rfl 0 (by decide) q4_1 (fun _ h9 => h9) rfl dX9_strike_38 ?_
          refine lv_bipush (v := (nI 46)) hE.x hE.b dX9_strike_41 rfl ?_
          refine lv_iload_n hE.x hE.b dX9_strike_43 rfl (lv_at hl 0 rfl) ?_
          refine z_iaddN hE dX9_strike_44 ?_
          refine lv_iconst (v := nI 5) hE.x hE.b dX9_strike_45 rfl ?_
          refine z_iaddN hE dX9_strike_46 ?_
          refine z_iald (k := ((46 + i) + 5)) (f := (B 0)) hE hB 1 rfl (by omega) (by decide) dX9_strike_47 ?_
          refine z_iast (k := (46 + i)) (f := (B 0)) (x := ((B 0) ((46 + i) + 5))) (ws' := mW g o a F L (updA B 0 (upd (B 0) (46 + i) ((B 0) ((46 + i) + 5)))) ++ X) hE hB 1 rfl (by omega) (by decide) rfl dX9_strike_48 (fun H locs hB => ?_)
          refine lv_iinc (v := (nI (i + 1))) (lv' := [(2, .int (nI (i + 1))), (0, .ref o), (1, .int (nI q))]) hE.x hE.b dX9_strike_49 hl (k := 0) rfl (nI_add _ _) (by decide) rfl (fun ls hl => ?_)
          refine lv_goto (tgt := 23) hE.x hE.b dX9_strike_52 (by decide) ?_
          exact ih23 (i + 1) (updA B 0 (upd (B 0) (46 + i) ((B 0) ((46 + i) + 5)))) _ _ _ (by omega) (by omega) (updA_step hB0 (fun x => by rw [hB0, updA_self]; simp only [upd]; (repeat' split) <;> first | rfl | omega | (congr 1; omega))) hB hl
    exact k23 (35 - (5 * q) + 1) (5 * q) (updA A 0 (nKeep (A 0) U C)) _ _ _ (Nat.lt_succ_self _) (by omega) (updA_eq fun x => by rw [if_neg (by omega)]) hB hl
  · refine lv_aload_n hE.x hE.b dX9_strike_8 rfl (lv_at hl 0 rfl) ?_
    refine lv_bipush (v := (-2)) hE.x hE.b dX9_strike_9 rfl ?_
    refine z_qi hB (z_cV hE hB (c_X9_bad l g o a F L A X (-2)) q4_91 kX9_bad ⟨rfl, rfl⟩ ⟨Nat.le_of_ble_eq_true rfl, Nat.le_of_ble_eq_true rfl⟩ 0 rfl rfl rfl hl.1 rfl (Nat.le_of_ble_eq_true rfl) dX9_strike_11 ⟨Nat.le_of_ble_eq_true rfl, Nat.le_of_ble_eq_true rfl⟩) (fun r_9 w_10 H locs hw hB => ?_)
    obtain ⟨hr9, hw9⟩ := hw
    have hr9 := hr9.symm
    subst hr9
    have hw9 := hw9.symm
    subst hw9
    exact z_iret (v := (-2)) (ws := mW g o a F L (bump 0 A) ++ X) hE hB hr (⟨by unfold strikeR; rw [c_3]; rfl, by unfold strikeA; rw [c_3]; rfl⟩) dX9_strike_14

set_option maxHeartbeats 4000000 in
set_option maxRecDepth 100000 in
theorem c_X9_undo (l : Launch) (g : zG) (o : Nat) (a : Nat → Nat) (F : Nat → Int32) (L : Nat → Int64) (A : Nat → Nat → Int32) (X : va_W) (T : Nat) (C : Nat) (V : Nat) (U : Nat) (hn : nOK (A 0) T C V U) : Met l yX9_undo (Cond.code yX9_undo cX9_undo 3 (some .int) :: TBL) { frames := 1, cells := 0, slots := 0, locals := 20 } (zPc [.ref o] g (mW g o a F L A ++ X)) (zQi g (fun r ws => r = (undoR (A 0) U) ∧ ws = mW g o a F L (undoA A U) ++ X)) 0 0 (zA (gz g)) := by
  refine z_start (by decide +kernel) rfl (Nat.le_of_ble_eq_true rfl) ?_
  intro p e s m args below meth c ls hE hr hnm hB hl
  have hl : lv_has ls 3 [(0, .ref o)] := hl
  revert hB
  generalize s.heap = H
  generalize ([] : List Loc) = locs
  intro hB
  have hT := hn.T
  have hT6 := hn.T6
  have hC := hn.C
  have hC8 := hn.C8
  have hV := hn.V
  have hV8 := hn.V8
  have hU := hn.U
  have hU8 := hn.U8
  have hP := hn.P (U - 1)
  refine lv_aload_n hE.x hE.b dX9_undo_0 rfl (lv_at hl 0 rfl) ?_
  refine z_get (v := .ref (a 0)) hE hB inX9 0 rfl rfl 0 (by decide) q4_1 (fun _ h9 => h9) rfl dX9_undo_1 ?_
  refine lv_iconst (v := nI 3) hE.x hE.b dX9_undo_4 rfl ?_
  refine z_iald (k := 3) (f := (A 0)) hE hB 1 rfl (by omega) (by decide) dX9_undo_5 ?_
  refine z_top (y := (nI U)) hU ?_
  refine z_ne0 (tgt := 14) (X := ((U : Nat) : Int)) hE dX9_undo_6 (by decide) (nI_toInt (n := U) (by omega)) (fun c_1 => ?_) (fun c_1 => ?_)
  · obtain ⟨c1, hc1, ec1⟩ := hP (by omega)
    refine lv_aload_n hE.x hE.b dX9_undo_14 rfl (lv_at hl 0 rfl) ?_
    refine z_get (v := .ref (a 0)) hE hB inX9 0 rfl rfl 0 (by decide) q4_1 (fun _ h9 => h9) rfl dX9_undo_15 ?_
    refine lv_iconst (v := nI 3) hE.x hE.b dX9_undo_18 rfl ?_
    refine lv_dup2_11 hE.x hE.b dX9_undo_19 rfl rfl ?_
    refine z_iald (k := 3) (f := (A 0)) hE hB 1 rfl (by omega) (by decide) dX9_undo_20 ?_
    refine z_top (y := (nI U)) hU ?_
    refine lv_iconst (v := nI 1) hE.x hE.b dX9_undo_21 rfl ?_
    refine z_isubN hE (by omega) dX9_undo_22 ?_
    refine z_iast (k := 3) (f := (A 0)) (x := (nI (U - 1))) (ws' := mW g o a F L (updA A 0 (upd (A 0) 3 (nI (U - 1)))) ++ X) hE hB 1 rfl (by omega) (by decide) rfl dX9_undo_23 (fun H locs hB => ?_)
    refine lv_bipush (v := (nI 126)) hE.x hE.b dX9_undo_24 rfl ?_
    refine lv_bipush (v := (nI 41)) hE.x hE.b dX9_undo_26 rfl ?_
    refine lv_aload_n hE.x hE.b dX9_undo_28 rfl (lv_at hl 0 rfl) ?_
    refine z_get (v := .ref (a 0)) hE hB inX9 0 rfl rfl 0 (by decide) q4_1 (fun _ h9 => h9) rfl dX9_undo_29 ?_
    refine lv_iconst (v := nI 3) hE.x hE.b dX9_undo_32 rfl ?_
    refine z_iald (k := 3) (f := (upd (A 0) 3 (nI (U - 1)))) hE hB 1 rfl (by omega) (by decide) dX9_undo_33 ?_
    refine z_top (y := (nI (U - 1))) (by simp [upd]) ?_
    refine z_imulN hE dX9_undo_34 ?_
    refine z_iaddN hE dX9_undo_35 ?_
    refine lv_istore_n (lv' := [(1, .int (nI (126 + (41 * (U - 1))))), (0, .ref o)]) hE.x hE.b dX9_undo_36 rfl hl (by decide) rfl (fun ls hl => ?_)
    refine lv_iconst (v := nI 0) hE.x hE.b dX9_undo_37 rfl ?_
    refine lv_istore_n (lv' := [(2, .int (nI 0)), (1, .int (nI (126 + (41 * (U - 1))))), (0, .ref o)]) hE.x hE.b dX9_undo_38 rfl hl (by decide) rfl (fun ls hl => ?_)
    have k39 : ∀ (fu : Nat) (i : Nat) (B : Nat → Nat → Int32) (H : Heap) (locs : List Loc) (ls : Array Slot), 40 - i < fu → (i ≤ 40) → (B = updA A 0 (fun x => if 46 ≤ x ∧ x < 46 + i then A 0 (126 + 41 * (U - 1) + (x - 46)) else if x = 3 then nI (U - 1) else A 0 x)) → zB g s (mW g o a F L B ++ X) H locs → lv_has ls 3 [(2, .int (nI i)), (1, .int (nI (126 + (41 * (U - 1))))), (0, .ref o)] → W p l e { frames := 1, cells := 0, slots := 0, locals := 20 } s m args below meth c H locs 0 0 (MQ below (zQi g (fun r ws => r = (undoR (A 0) U) ∧ ws = mW g o a F L (undoA A U) ++ X)) args s 0 0 (zA (gz g))) (F0 m 39 ls []) := by
      intro fu
      induction fu with
      | zero => intro i B H locs ls hfu hi hB0 hB hl; exact absurd hfu (Nat.not_lt_zero _)
      | succ fu ih39 =>
        intro i B H locs ls hfu hi hB0 hB hl
        refine lv_iload_n hE.x hE.b dX9_undo_39 rfl (lv_at hl 0 rfl) ?_
        refine lv_bipush (v := (nI 40)) hE.x hE.b dX9_undo_40 rfl ?_
        refine z_ge (tgt := 68) (X := ((i : Nat) : Int)) (Y := (40 : Int)) hE dX9_undo_42 (by decide) (nI_toInt (n := i) (by omega)) rfl (fun c_2 => ?_) (fun c_2 => ?_)
        · refine lv_aload_n hE.x hE.b dX9_undo_68 rfl (lv_at hl 2 rfl) ?_
          refine z_get (v := .ref (a 0)) hE hB inX9 0 rfl rfl 0 (by decide) q4_1 (fun _ h9 => h9) rfl dX9_undo_69 ?_
          refine lv_iconst (v := nI 1) hE.x hE.b dX9_undo_72 rfl ?_
          refine lv_aload_n hE.x hE.b dX9_undo_73 rfl (lv_at hl 2 rfl) ?_
          refine z_get (v := .ref (a 0)) hE hB inX9 0 rfl rfl 0 (by decide) q4_1 (fun _ h9 => h9) rfl dX9_undo_74 ?_
          refine lv_iload_n hE.x hE.b dX9_undo_77 rfl (lv_at hl 1 rfl) ?_
          refine lv_bipush (v := (nI 40)) hE.x hE.b dX9_undo_78 rfl ?_
          refine z_iaddN hE dX9_undo_80 ?_
          refine z_iald (k := ((126 + (41 * (U - 1))) + 40)) (f := (B 0)) hE hB 1 rfl (by omega) (by decide) dX9_undo_81 ?_
          refine z_top (y := (nI c1)) (by rw [hB0, updA_self, if_neg (by omega), if_neg (by omega)]; exact ec1) ?_
          refine z_iast (k := 1) (f := (B 0)) (x := (nI c1)) (ws' := mW g o a F L (updA B 0 (upd (B 0) 1 (nI c1))) ++ X) hE hB 1 rfl (by omega) (by decide) rfl dX9_undo_82 (fun H locs hB => ?_)
          refine lv_aload_n hE.x hE.b dX9_undo_83 rfl (lv_at hl 2 rfl) ?_
          refine z_qi hB (z_cV hE hB (c_X9_clauses l g o a F L (updA B 0 (upd (B 0) 1 (nI c1))) X c1 (by rw [updA_self]; simp [upd])) q4_123 kX9_clauses ⟨rfl, rfl⟩ ⟨Nat.le_of_ble_eq_true rfl, Nat.le_of_ble_eq_true rfl⟩ 0 rfl rfl rfl hl.1 rfl (Nat.le_of_ble_eq_true rfl) dX9_undo_84 ⟨Nat.le_of_ble_eq_true rfl, Nat.le_of_ble_eq_true rfl⟩) (fun r_3 w_4 H locs hw hB => ?_)
          obtain ⟨hr9, hw9⟩ := hw
          have hr9 := hr9.symm
          subst hr9
          have hw9 := hw9.symm
          subst hw9
          exact z_iret (v := (nI c1)) (ws := mW g o a F L (updA B 0 (upd (B 0) 1 (nI c1))) ++ X) hE hB hr (⟨by unfold undoR; rw [if_neg (by omega)]; exact ec1.symm, by unfold undoA; rw [if_neg (by omega), hB0, updA_self, updA_updA]; rw [updA_eq (f' := nUndo (A 0) U) (fun x => by simp only [nUndo, upd, nBk]; rw [ec1]; (repeat' split) <;> first | rfl | omega)]⟩) dX9_undo_87
        · refine lv_aload_n hE.x hE.b dX9_undo_45 rfl (lv_at hl 2 rfl) ?_
          refine z_get (v := .ref (a 0)) hE hB inX9 0 rfl rfl 0 (by decide) q4_1 (fun _ h9 => h9) rfl dX9_undo_46 ?_
          refine lv_bipush (v := (nI 46)) hE.x hE.b dX9_undo_49 rfl ?_
          refine lv_iload_n hE.x hE.b dX9_undo_51 rfl (lv_at hl 0 rfl) ?_
          refine z_iaddN hE dX9_undo_52 ?_
          refine lv_aload_n hE.x hE.b dX9_undo_53 rfl (lv_at hl 2 rfl) ?_
          refine z_get (v := .ref (a 0)) hE hB inX9 0 rfl rfl 0 (by decide) q4_1 (fun _ h9 => h9) rfl dX9_undo_54 ?_
          refine lv_iload_n hE.x hE.b dX9_undo_57 rfl (lv_at hl 1 rfl) ?_
          refine lv_iload_n hE.x hE.b dX9_undo_58 rfl (lv_at hl 0 rfl) ?_
          refine z_iaddN hE dX9_undo_59 ?_
          refine z_iald (k := ((126 + (41 * (U - 1))) + i)) (f := (B 0)) hE hB 1 rfl (by omega) (by decide) dX9_undo_60 ?_
          refine z_iast (k := (46 + i)) (f := (B 0)) (x := ((B 0) ((126 + (41 * (U - 1))) + i))) (ws' := mW g o a F L (updA B 0 (upd (B 0) (46 + i) ((B 0) ((126 + (41 * (U - 1))) + i)))) ++ X) hE hB 1 rfl (by omega) (by decide) rfl dX9_undo_61 (fun H locs hB => ?_)
          refine lv_iinc (v := (nI (i + 1))) (lv' := [(2, .int (nI (i + 1))), (1, .int (nI (126 + (41 * (U - 1))))), (0, .ref o)]) hE.x hE.b dX9_undo_62 hl (k := 0) rfl (nI_add _ _) (by decide) rfl (fun ls hl => ?_)
          refine lv_goto (tgt := 39) hE.x hE.b dX9_undo_65 (by decide) ?_
          exact ih39 (i + 1) (updA B 0 (upd (B 0) (46 + i) ((B 0) ((126 + (41 * (U - 1))) + i)))) _ _ _ (by omega) (by omega) (updA_step hB0 fun x => by rw [hB0, updA_self]; simp only [upd]; (repeat' split) <;> first | rfl | omega | (congr 1; omega)) hB hl
    exact k39 (40 - 0 + 1) 0 (updA A 0 (upd (A 0) 3 (nI (U - 1)))) _ _ _ (Nat.lt_succ_self _) (by omega) (updA_eq fun x => by simp only [upd]; (repeat' split) <;> first | rfl | omega) hB hl
  · refine lv_aload_n hE.x hE.b dX9_undo_9 rfl (lv_at hl 0 rfl) ?_
    refine z_qi hB (z_cV hE hB (c_X9_no l g o a F L A X) q4_146 kX9_no ⟨rfl, rfl⟩ ⟨Nat.le_of_ble_eq_true rfl, Nat.le_of_ble_eq_true rfl⟩ 0 rfl rfl rfl hl.1 rfl (Nat.le_of_ble_eq_true rfl) dX9_undo_10 ⟨Nat.le_of_ble_eq_true rfl, Nat.le_of_ble_eq_true rfl⟩) (fun r_5 w_6 H locs hw hB => ?_)
    obtain ⟨hr9, hw9⟩ := hw
    have hr9 := hr9.symm
    subst hr9
    have hw9 := hw9.symm
    subst hw9
    exact z_iret (v := (-3)) (ws := mW g o a F L (bump 1 A) ++ X) hE hB hr (⟨by unfold undoR; rw [if_pos (by omega)], by unfold undoA; rw [if_pos (by omega)]⟩) dX9_undo_13
end
section
theorem hF_f {P : Nat → Bool} {i : Nat} (h : P i = false) : hF P (i + 1) = hF P i := by
  simp only [hF, h]
  cases hF P i <;> rfl
theorem hF_n {P : Nat → Bool} {i : Nat} (h : P i = true) (h0 : hF P i = none) : hF P (i + 1) = some i := by simp [hF, h, h0]
theorem hF_s {P : Nat → Bool} {i j : Nat} (h0 : hF P i = some j) : hF P (i + 1) = hF P i := by simp [hF, h0]
theorem hL_f {P : Nat → Bool} {i : Nat} (h : P i = false) : hL P (i + 1) = hL P i := by simp [hL, h]
theorem hL_t {P : Nat → Bool} {i : Nat} (h : P i = true) : hL P (i + 1) = some i := by simp [hL, h]
theorem cn_f {P : Nat → Bool} {i : Nat} (h : P i = false) : cn P (i + 1) = cn P i := by simp [cn, h]
theorem cn_t {P : Nat → Bool} {i : Nat} (h : P i = true) : cn P (i + 1) = cn P i + 1 := by simp [cn, h]
theorem hF_32 {P : Nat → Bool} {i : Nat} (hi : i ≤ 8) : ∀ k, hF P i = some k → k < 2 ^ 31 := fun k h => by have := (hF_lt h).1; omega
theorem hF_m {P : Nat → Bool} {i : Nat} {v : Int32} (hv : v = oI (hF P i)) (h : P i = true) (hi : i ≤ 8) (c : v = (-1)) : nI i = oI (hF P (i + 1)) := by
  rw [hF_n h (oI_none (by rw [← hv]; exact c) (hF_32 hi))]
  rfl
theorem hF_k {P : Nat → Bool} {i : Nat} {v : Int32} (hv : v = oI (hF P i)) (c : ¬ v = (-1)) : v = oI (hF P (i + 1)) := by
  obtain ⟨j, hj⟩ := oI_some (by rw [← hv]; exact c)
  rw [hF_s hj]
  exact hv
def dcF (rd : Int32) (F : Nat → Int32) : Int32 := if rd = nI 0 then F 6 else if rd = nI 1 then F 7 else if rd = nI 2 then (if F 8 = (-1) then F 6 else F 8) else if (F 11).toInt < (F 10).toInt then F 8 else F 9
theorem dcF_eq {rd : Int32} {F : Nat → Int32} {f la fa ff : Option Nat} {ca cf : Nat} (h6 : F 6 = oI f) (h7 : F 7 = oI la) (h8 : F 8 = oI fa) (h9 : F 9 = oI ff) (h10 : F 10 = nI ca) (h11 : F 11 = nI cf) (hca : ca < 2 ^ 31) (hcf : cf < 2 ^ 31) (hfa : ∀ k, fa = some k → k < 2 ^ 31) : dcF rd F = oI (dec rd f la fa ff ca cf) := by
  unfold dcF dec
  by_cases e0 : rd = nI 0
  · rw [if_pos e0, if_pos e0, h6]
  rw [if_neg e0, if_neg e0]
  by_cases e1 : rd = nI 1
  · rw [if_pos e1, if_pos e1, h7]
  rw [if_neg e1, if_neg e1]
  by_cases e2 : rd = nI 2
  · rw [if_pos e2, if_pos e2, h8, h6]
    cases fa with
    | none => rfl
    | some k => exact if_neg (nI_m1 (hfa k rfl))
  rw [if_neg e2, if_neg e2, h10, h11, nI_toInt hca, nI_toInt hcf, h8, h9]
  by_cases e3 : cf < ca
  · rw [if_pos e3, if_pos (by omega)]
  · rw [if_neg e3, if_neg (by omega)]
def chk (b : Bool) (A : Nat → Nat → Int32) : Nat → Nat → Int32 := if b = true then A else bump 0 A
def askOK (T : Nat) (tw ac dd dy sh : Int32) : Bool := pTown T tw && (pIn 0 5 ac && (pIn 0 59 dd && (pIn 0 1 dy && pIn 0 1 sh)))
def ofOK (C : Nat) (x w : Int32) : Bool := pTown C x && pIn 0 6 w
def ofR (n : Nat → Int32) (C : Nat) (x w : Int32) : Int32 := if ofOK C x w = true then if w = nI 5 then bI (alw (n (46 + 5 * rc x + 0))) else if w = nI 6 then spD n (rc x) else n (46 + 5 * rc x + rc w) else (-2)
def allowedR (n : Nat → Int32) (T C : Nat) (tw ac dd dy sh w : Int32) : Int32 := if (askOK T tw ac dd dy sh && pIn 0 1 w) = true then if w = nI 1 then oI (decN n C (rc tw) ac dd dy sh 0) else bI (isA n C (rc tw) ac dd dy sh 0) else (-10)
theorem bits_lt {d j : Nat} (h : j < 2 ^ d) (h0 : 0 < j) : j / 2 < 2 ^ (d - 1) := by
  cases d with
  | zero => simp at h; omega
  | succ d => rw [Nat.add_sub_cancel]; rw [Nat.pow_succ] at h; omega
theorem bits_st {i d j N : Nat} (hp : i + popF d j = N) (h : j < 2 ^ d) (h0 : 0 < j) : i + j % 2 + popF (d - 1) (j / 2) = N := by
  cases d with
  | zero => simp at h; omega
  | succ d => rw [Nat.add_sub_cancel]; simp only [popF] at hp; omega
theorem n54 : ¬ nI 5 = nI 4 := by decide
theorem n45 : ¬ nI 4 = nI 5 := by decide
theorem n35 : ¬ nI 3 = nI 5 := by decide
theorem n53 : ¬ nI 5 = nI 3 := by decide
end
section
theorem dX9_bits_0 : decode cX9_bits 0 = .ok (.iconst 0, 1) := by decide +kernel
theorem dX9_bits_1 : decode cX9_bits 1 = .ok (.istore_n 1, 1) := by decide +kernel
theorem dX9_bits_2 : decode cX9_bits 2 = .ok (.iload_n 0, 1) := by decide +kernel
theorem dX9_bits_3 : decode cX9_bits 3 = .ok (.istore_n 2, 1) := by decide +kernel
theorem dX9_bits_4 : decode cX9_bits 4 = .ok (.iload_n 2, 1) := by decide +kernel
theorem dX9_bits_5 : decode cX9_bits 5 = .ok (.ifCond .le 16, 3) := by decide +kernel
theorem dX9_bits_8 : decode cX9_bits 8 = .ok (.iload_n 1, 1) := by decide +kernel
theorem dX9_bits_9 : decode cX9_bits 9 = .ok (.iload_n 2, 1) := by decide +kernel
theorem dX9_bits_10 : decode cX9_bits 10 = .ok (.iconst 1, 1) := by decide +kernel
theorem dX9_bits_11 : decode cX9_bits 11 = .ok (.iand, 1) := by decide +kernel
theorem dX9_bits_12 : decode cX9_bits 12 = .ok (.iadd, 1) := by decide +kernel
theorem dX9_bits_13 : decode cX9_bits 13 = .ok (.istore_n 1, 1) := by decide +kernel
theorem dX9_bits_14 : decode cX9_bits 14 = .ok (.iload_n 2, 1) := by decide +kernel
theorem dX9_bits_15 : decode cX9_bits 15 = .ok (.iconst 1, 1) := by decide +kernel
theorem dX9_bits_16 : decode cX9_bits 16 = .ok (.ishr, 1) := by decide +kernel
theorem dX9_bits_17 : decode cX9_bits 17 = .ok (.istore_n 2, 1) := by decide +kernel
theorem dX9_bits_18 : decode cX9_bits 18 = .ok (.goto (-14), 3) := by decide +kernel
theorem dX9_bits_21 : decode cX9_bits 21 = .ok (.iload_n 1, 1) := by decide +kernel
theorem dX9_bits_22 : decode cX9_bits 22 = .ok (.ireturn, 1) := by decide +kernel
theorem dX9_allows_0 : decode cX9_allows 0 = .ok (.iload_n 0, 1) := by decide +kernel
theorem dX9_allows_1 : decode cX9_allows 1 = .ok (.ifCond .eq 12, 3) := by decide +kernel
theorem dX9_allows_4 : decode cX9_allows 4 = .ok (.iload_n 0, 1) := by decide +kernel
theorem dX9_allows_5 : decode cX9_allows 5 = .ok (.iconst 2, 1) := by decide +kernel
theorem dX9_allows_6 : decode cX9_allows 6 = .ok (.if_icmp .eq 7, 3) := by decide +kernel
theorem dX9_allows_9 : decode cX9_allows 9 = .ok (.iconst 1, 1) := by decide +kernel
theorem dX9_allows_10 : decode cX9_allows 10 = .ok (.goto 4, 3) := by decide +kernel
theorem dX9_allows_13 : decode cX9_allows 13 = .ok (.iconst 0, 1) := by decide +kernel
theorem dX9_allows_14 : decode cX9_allows 14 = .ok (.ireturn, 1) := by decide +kernel
theorem dX9_speaksDays_0 : decode cX9_speaksDays 0 = .ok (.aload_n 0, 1) := by decide +kernel
theorem dX9_speaksDays_1 : decode cX9_speaksDays 1 = .ok (.iload_n 1, 1) := by decide +kernel
theorem dX9_speaksDays_2 : decode cX9_speaksDays 2 = .ok (.iconst 3, 1) := by decide +kernel
theorem dX9_speaksDays_3 : decode cX9_speaksDays 3 = .ok (.invokevirtual 101, 3) := by decide +kernel
theorem dX9_speaksDays_6 : decode cX9_speaksDays 6 = .ok (.aload_n 0, 1) := by decide +kernel
theorem dX9_speaksDays_7 : decode cX9_speaksDays 7 = .ok (.iload_n 1, 1) := by decide +kernel
theorem dX9_speaksDays_8 : decode cX9_speaksDays 8 = .ok (.iconst 2, 1) := by decide +kernel
theorem dX9_speaksDays_9 : decode cX9_speaksDays 9 = .ok (.invokevirtual 101, 3) := by decide +kernel
theorem dX9_speaksDays_12 : decode cX9_speaksDays 12 = .ok (.isub, 1) := by decide +kernel
theorem dX9_speaksDays_13 : decode cX9_speaksDays 13 = .ok (.istore_n 2, 1) := by decide +kernel
theorem dX9_speaksDays_14 : decode cX9_speaksDays 14 = .ok (.aload_n 0, 1) := by decide +kernel
theorem dX9_speaksDays_15 : decode cX9_speaksDays 15 = .ok (.iload_n 1, 1) := by decide +kernel
theorem dX9_speaksDays_16 : decode cX9_speaksDays 16 = .ok (.iconst 0, 1) := by decide +kernel
theorem dX9_speaksDays_17 : decode cX9_speaksDays 17 = .ok (.invokevirtual 101, 3) := by decide +kernel
theorem dX9_speaksDays_20 : decode cX9_speaksDays 20 = .ok (.iconst 2, 1) := by decide +kernel
theorem dX9_speaksDays_21 : decode cX9_speaksDays 21 = .ok (.if_icmp .ne 11, 3) := by decide +kernel
theorem dX9_speaksDays_24 : decode cX9_speaksDays 24 = .ok (.iload_n 2, 1) := by decide +kernel
theorem dX9_speaksDays_25 : decode cX9_speaksDays 25 = .ok (.iconst 1, 1) := by decide +kernel
theorem dX9_speaksDays_26 : decode cX9_speaksDays 26 = .ok (.iadd, 1) := by decide +kernel
theorem dX9_speaksDays_27 : decode cX9_speaksDays 27 = .ok (.iconst 2, 1) := by decide +kernel
theorem dX9_speaksDays_28 : decode cX9_speaksDays 28 = .ok (.idiv, 1) := by decide +kernel
theorem dX9_speaksDays_29 : decode cX9_speaksDays 29 = .ok (.goto 4, 3) := by decide +kernel
theorem dX9_speaksDays_32 : decode cX9_speaksDays 32 = .ok (.iload_n 2, 1) := by decide +kernel
theorem dX9_speaksDays_33 : decode cX9_speaksDays 33 = .ok (.ireturn, 1) := by decide +kernel
theorem dX9_speaks_0 : decode cX9_speaks 0 = .ok (.aload_n 0, 1) := by decide +kernel
theorem dX9_speaks_1 : decode cX9_speaks 1 = .ok (.iload_n 1, 1) := by decide +kernel
theorem dX9_speaks_2 : decode cX9_speaks 2 = .ok (.iconst 0, 1) := by decide +kernel
theorem dX9_speaks_3 : decode cX9_speaks 3 = .ok (.invokevirtual 101, 3) := by decide +kernel
theorem dX9_speaks_6 : decode cX9_speaks 6 = .ok (.istore 7, 2) := by decide +kernel
theorem dX9_speaks_8 : decode cX9_speaks 8 = .ok (.iload 7, 2) := by decide +kernel
theorem dX9_speaks_10 : decode cX9_speaks 10 = .ok (.iconst 3, 1) := by decide +kernel
theorem dX9_speaks_11 : decode cX9_speaks 11 = .ok (.if_icmp .eq 9, 3) := by decide +kernel
theorem dX9_speaks_14 : decode cX9_speaks 14 = .ok (.iload 7, 2) := by decide +kernel
theorem dX9_speaks_16 : decode cX9_speaks 16 = .ok (.iconst 5, 1) := by decide +kernel
theorem dX9_speaks_17 : decode cX9_speaks 17 = .ok (.if_icmp .ne 13, 3) := by decide +kernel
theorem dX9_speaks_20 : decode cX9_speaks 20 = .ok (.aload_n 0, 1) := by decide +kernel
theorem dX9_speaks_21 : decode cX9_speaks 21 = .ok (.iload_n 1, 1) := by decide +kernel
theorem dX9_speaks_22 : decode cX9_speaks 22 = .ok (.iconst 4, 1) := by decide +kernel
theorem dX9_speaks_23 : decode cX9_speaks 23 = .ok (.invokevirtual 101, 3) := by decide +kernel
theorem dX9_speaks_26 : decode cX9_speaks 26 = .ok (.iload_n 2, 1) := by decide +kernel
theorem dX9_speaks_27 : decode cX9_speaks 27 = .ok (.if_icmp .ne 7, 3) := by decide +kernel
theorem dX9_speaks_30 : decode cX9_speaks 30 = .ok (.iconst 1, 1) := by decide +kernel
theorem dX9_speaks_31 : decode cX9_speaks 31 = .ok (.goto 4, 3) := by decide +kernel
theorem dX9_speaks_34 : decode cX9_speaks 34 = .ok (.iconst 0, 1) := by decide +kernel
theorem dX9_speaks_35 : decode cX9_speaks 35 = .ok (.istore 8, 2) := by decide +kernel
theorem dX9_speaks_37 : decode cX9_speaks 37 = .ok (.iload 4, 2) := by decide +kernel
theorem dX9_speaks_39 : decode cX9_speaks 39 = .ok (.aload_n 0, 1) := by decide +kernel
theorem dX9_speaks_40 : decode cX9_speaks 40 = .ok (.iload_n 1, 1) := by decide +kernel
theorem dX9_speaks_41 : decode cX9_speaks 41 = .ok (.iconst 2, 1) := by decide +kernel
theorem dX9_speaks_42 : decode cX9_speaks 42 = .ok (.invokevirtual 101, 3) := by decide +kernel
theorem dX9_speaks_45 : decode cX9_speaks 45 = .ok (.if_icmp .lt 24, 3) := by decide +kernel
theorem dX9_speaks_48 : decode cX9_speaks 48 = .ok (.iload 4, 2) := by decide +kernel
theorem dX9_speaks_50 : decode cX9_speaks 50 = .ok (.aload_n 0, 1) := by decide +kernel
theorem dX9_speaks_51 : decode cX9_speaks 51 = .ok (.iload_n 1, 1) := by decide +kernel
theorem dX9_speaks_52 : decode cX9_speaks 52 = .ok (.iconst 2, 1) := by decide +kernel
theorem dX9_speaks_53 : decode cX9_speaks 53 = .ok (.invokevirtual 101, 3) := by decide +kernel
theorem dX9_speaks_56 : decode cX9_speaks 56 = .ok (.aload_n 0, 1) := by decide +kernel
theorem dX9_speaks_57 : decode cX9_speaks 57 = .ok (.iload_n 1, 1) := by decide +kernel
theorem dX9_speaks_58 : decode cX9_speaks 58 = .ok (.invokevirtual 105, 3) := by decide +kernel
theorem dX9_speaks_61 : decode cX9_speaks 61 = .ok (.iadd, 1) := by decide +kernel
theorem dX9_speaks_62 : decode cX9_speaks 62 = .ok (.if_icmp .ge 7, 3) := by decide +kernel
theorem dX9_speaks_65 : decode cX9_speaks 65 = .ok (.iconst 1, 1) := by decide +kernel
theorem dX9_speaks_66 : decode cX9_speaks 66 = .ok (.goto 4, 3) := by decide +kernel
theorem dX9_speaks_69 : decode cX9_speaks 69 = .ok (.iconst 0, 1) := by decide +kernel
theorem dX9_speaks_70 : decode cX9_speaks 70 = .ok (.istore 9, 2) := by decide +kernel
theorem dX9_speaks_72 : decode cX9_speaks 72 = .ok (.iload 7, 2) := by decide +kernel
theorem dX9_speaks_74 : decode cX9_speaks 74 = .ok (.iconst 4, 1) := by decide +kernel
theorem dX9_speaks_75 : decode cX9_speaks 75 = .ok (.if_icmp .ne 9, 3) := by decide +kernel
theorem dX9_speaks_78 : decode cX9_speaks 78 = .ok (.iload 5, 2) := by decide +kernel
theorem dX9_speaks_80 : decode cX9_speaks 80 = .ok (.iconst 1, 1) := by decide +kernel
theorem dX9_speaks_81 : decode cX9_speaks 81 = .ok (.if_icmp .ne 19, 3) := by decide +kernel
theorem dX9_speaks_84 : decode cX9_speaks 84 = .ok (.iload 7, 2) := by decide +kernel
theorem dX9_speaks_86 : decode cX9_speaks 86 = .ok (.iconst 5, 1) := by decide +kernel
theorem dX9_speaks_87 : decode cX9_speaks 87 = .ok (.if_icmp .ne 9, 3) := by decide +kernel
theorem dX9_speaks_90 : decode cX9_speaks 90 = .ok (.iload 6, 2) := by decide +kernel
theorem dX9_speaks_92 : decode cX9_speaks 92 = .ok (.iconst 1, 1) := by decide +kernel
theorem dX9_speaks_93 : decode cX9_speaks 93 = .ok (.if_icmp .ne 7, 3) := by decide +kernel
theorem dX9_speaks_96 : decode cX9_speaks 96 = .ok (.iconst 1, 1) := by decide +kernel
theorem dX9_speaks_97 : decode cX9_speaks 97 = .ok (.goto 4, 3) := by decide +kernel
theorem dX9_speaks_100 : decode cX9_speaks 100 = .ok (.iconst 0, 1) := by decide +kernel
theorem dX9_speaks_101 : decode cX9_speaks 101 = .ok (.istore 10, 2) := by decide +kernel
theorem dX9_speaks_103 : decode cX9_speaks 103 = .ok (.aload_n 0, 1) := by decide +kernel
theorem dX9_speaks_104 : decode cX9_speaks 104 = .ok (.iload_n 1, 1) := by decide +kernel
theorem dX9_speaks_105 : decode cX9_speaks 105 = .ok (.iconst 1, 1) := by decide +kernel
theorem dX9_speaks_106 : decode cX9_speaks 106 = .ok (.invokevirtual 101, 3) := by decide +kernel
theorem dX9_speaks_109 : decode cX9_speaks 109 = .ok (.iload_n 3, 1) := by decide +kernel
theorem dX9_speaks_110 : decode cX9_speaks 110 = .ok (.if_icmp .ne 22, 3) := by decide +kernel
theorem dX9_speaks_113 : decode cX9_speaks 113 = .ok (.iload 8, 2) := by decide +kernel
theorem dX9_speaks_115 : decode cX9_speaks 115 = .ok (.ifCond .eq 17, 3) := by decide +kernel
theorem dX9_speaks_118 : decode cX9_speaks 118 = .ok (.iload 9, 2) := by decide +kernel
theorem dX9_speaks_120 : decode cX9_speaks 120 = .ok (.ifCond .eq 12, 3) := by decide +kernel
theorem dX9_speaks_123 : decode cX9_speaks 123 = .ok (.iload 10, 2) := by decide +kernel
theorem dX9_speaks_125 : decode cX9_speaks 125 = .ok (.ifCond .eq 7, 3) := by decide +kernel
theorem dX9_speaks_128 : decode cX9_speaks 128 = .ok (.iconst 1, 1) := by decide +kernel
theorem dX9_speaks_129 : decode cX9_speaks 129 = .ok (.goto 4, 3) := by decide +kernel
theorem dX9_speaks_132 : decode cX9_speaks 132 = .ok (.iconst 0, 1) := by decide +kernel
theorem dX9_speaks_133 : decode cX9_speaks 133 = .ok (.ireturn, 1) := by decide +kernel
theorem dX9_of_0 : decode cX9_of 0 = .ok (.aload_n 0, 1) := by decide +kernel
theorem dX9_of_1 : decode cX9_of 1 = .ok (.iload_n 1, 1) := by decide +kernel
theorem dX9_of_2 : decode cX9_of 2 = .ok (.invokevirtual 95, 3) := by decide +kernel
theorem dX9_of_5 : decode cX9_of 5 = .ok (.ifCond .eq 15, 3) := by decide +kernel
theorem dX9_of_8 : decode cX9_of 8 = .ok (.iload_n 2, 1) := by decide +kernel
theorem dX9_of_9 : decode cX9_of 9 = .ok (.i2l, 1) := by decide +kernel
theorem dX9_of_10 : decode cX9_of 10 = .ok (.lconst 0, 1) := by decide +kernel
theorem dX9_of_11 : decode cX9_of 11 = .ok (.ldc2_w 108, 3) := by decide +kernel
theorem dX9_of_14 : decode cX9_of 14 = .ok (.invokestatic 43, 3) := by decide +kernel
theorem dX9_of_17 : decode cX9_of 17 = .ok (.ifCond .ne 10, 3) := by decide +kernel
theorem dX9_of_20 : decode cX9_of 20 = .ok (.aload_n 0, 1) := by decide +kernel
theorem dX9_of_21 : decode cX9_of 21 = .ok (.bipush (-2), 2) := by decide +kernel
theorem dX9_of_23 : decode cX9_of 23 = .ok (.invokevirtual 62, 3) := by decide +kernel
theorem dX9_of_26 : decode cX9_of 26 = .ok (.ireturn, 1) := by decide +kernel
theorem dX9_of_27 : decode cX9_of 27 = .ok (.iload_n 2, 1) := by decide +kernel
theorem dX9_of_28 : decode cX9_of 28 = .ok (.iconst 5, 1) := by decide +kernel
theorem dX9_of_29 : decode cX9_of 29 = .ok (.if_icmp .ne 23, 3) := by decide +kernel
theorem dX9_of_32 : decode cX9_of 32 = .ok (.aload_n 0, 1) := by decide +kernel
theorem dX9_of_33 : decode cX9_of 33 = .ok (.iload_n 1, 1) := by decide +kernel
theorem dX9_of_34 : decode cX9_of 34 = .ok (.iconst 0, 1) := by decide +kernel
theorem dX9_of_35 : decode cX9_of 35 = .ok (.invokevirtual 101, 3) := by decide +kernel
theorem dX9_of_38 : decode cX9_of 38 = .ok (.invokestatic 110, 3) := by decide +kernel
theorem dX9_of_41 : decode cX9_of 41 = .ok (.ifCond .eq 7, 3) := by decide +kernel
theorem dX9_of_44 : decode cX9_of 44 = .ok (.iconst 1, 1) := by decide +kernel
theorem dX9_of_45 : decode cX9_of 45 = .ok (.goto 27, 3) := by decide +kernel
theorem dX9_of_48 : decode cX9_of 48 = .ok (.iconst 0, 1) := by decide +kernel
theorem dX9_of_49 : decode cX9_of 49 = .ok (.goto 23, 3) := by decide +kernel
theorem dX9_of_52 : decode cX9_of 52 = .ok (.iload_n 2, 1) := by decide +kernel
theorem dX9_of_53 : decode cX9_of 53 = .ok (.bipush 6, 2) := by decide +kernel
theorem dX9_of_55 : decode cX9_of 55 = .ok (.if_icmp .ne 11, 3) := by decide +kernel
theorem dX9_of_58 : decode cX9_of 58 = .ok (.aload_n 0, 1) := by decide +kernel
theorem dX9_of_59 : decode cX9_of 59 = .ok (.iload_n 1, 1) := by decide +kernel
theorem dX9_of_60 : decode cX9_of 60 = .ok (.invokevirtual 105, 3) := by decide +kernel
theorem dX9_of_63 : decode cX9_of 63 = .ok (.goto 9, 3) := by decide +kernel
theorem dX9_of_66 : decode cX9_of 66 = .ok (.aload_n 0, 1) := by decide +kernel
theorem dX9_of_67 : decode cX9_of 67 = .ok (.iload_n 1, 1) := by decide +kernel
theorem dX9_of_68 : decode cX9_of 68 = .ok (.iload_n 2, 1) := by decide +kernel
theorem dX9_of_69 : decode cX9_of 69 = .ok (.invokevirtual 101, 3) := by decide +kernel
theorem dX9_of_72 : decode cX9_of 72 = .ok (.ireturn, 1) := by decide +kernel
theorem dX9_hear_0 : decode cX9_hear 0 = .ok (.aload_n 0, 1) := by decide +kernel
theorem dX9_hear_1 : decode cX9_hear 1 = .ok (.iconst (-1), 1) := by decide +kernel
theorem dX9_hear_2 : decode cX9_hear 2 = .ok (.putfield 113, 3) := by decide +kernel
theorem dX9_hear_5 : decode cX9_hear 5 = .ok (.aload_n 0, 1) := by decide +kernel
theorem dX9_hear_6 : decode cX9_hear 6 = .ok (.iconst (-1), 1) := by decide +kernel
theorem dX9_hear_7 : decode cX9_hear 7 = .ok (.putfield 117, 3) := by decide +kernel
theorem dX9_hear_10 : decode cX9_hear 10 = .ok (.aload_n 0, 1) := by decide +kernel
theorem dX9_hear_11 : decode cX9_hear 11 = .ok (.iconst (-1), 1) := by decide +kernel
theorem dX9_hear_12 : decode cX9_hear 12 = .ok (.putfield 120, 3) := by decide +kernel
theorem dX9_hear_15 : decode cX9_hear 15 = .ok (.aload_n 0, 1) := by decide +kernel
theorem dX9_hear_16 : decode cX9_hear 16 = .ok (.iconst (-1), 1) := by decide +kernel
theorem dX9_hear_17 : decode cX9_hear 17 = .ok (.putfield 123, 3) := by decide +kernel
theorem dX9_hear_20 : decode cX9_hear 20 = .ok (.aload_n 0, 1) := by decide +kernel
theorem dX9_hear_21 : decode cX9_hear 21 = .ok (.iconst 0, 1) := by decide +kernel
theorem dX9_hear_22 : decode cX9_hear 22 = .ok (.putfield 126, 3) := by decide +kernel
theorem dX9_hear_25 : decode cX9_hear 25 = .ok (.aload_n 0, 1) := by decide +kernel
theorem dX9_hear_26 : decode cX9_hear 26 = .ok (.iconst 0, 1) := by decide +kernel
theorem dX9_hear_27 : decode cX9_hear 27 = .ok (.putfield 129, 3) := by decide +kernel
theorem dX9_hear_30 : decode cX9_hear 30 = .ok (.iconst 0, 1) := by decide +kernel
theorem dX9_hear_31 : decode cX9_hear 31 = .ok (.istore 7, 2) := by decide +kernel
theorem dX9_hear_33 : decode cX9_hear 33 = .ok (.iload 7, 2) := by decide +kernel
theorem dX9_hear_35 : decode cX9_hear 35 = .ok (.aload_n 0, 1) := by decide +kernel
theorem dX9_hear_36 : decode cX9_hear 36 = .ok (.invokevirtual 47, 3) := by decide +kernel
theorem dX9_hear_39 : decode cX9_hear 39 = .ok (.if_icmp .ge 140, 3) := by decide +kernel
theorem dX9_hear_42 : decode cX9_hear 42 = .ok (.iload 6, 2) := by decide +kernel
theorem dX9_hear_44 : decode cX9_hear 44 = .ok (.iload 7, 2) := by decide +kernel
theorem dX9_hear_46 : decode cX9_hear 46 = .ok (.ishr, 1) := by decide +kernel
theorem dX9_hear_47 : decode cX9_hear 47 = .ok (.iconst 1, 1) := by decide +kernel
theorem dX9_hear_48 : decode cX9_hear 48 = .ok (.iand, 1) := by decide +kernel
theorem dX9_hear_49 : decode cX9_hear 49 = .ok (.ifCond .ne 124, 3) := by decide +kernel
theorem dX9_hear_52 : decode cX9_hear 52 = .ok (.aload_n 0, 1) := by decide +kernel
theorem dX9_hear_53 : decode cX9_hear 53 = .ok (.iload 7, 2) := by decide +kernel
theorem dX9_hear_55 : decode cX9_hear 55 = .ok (.iload_n 1, 1) := by decide +kernel
theorem dX9_hear_56 : decode cX9_hear 56 = .ok (.iload_n 2, 1) := by decide +kernel
theorem dX9_hear_57 : decode cX9_hear 57 = .ok (.iload_n 3, 1) := by decide +kernel
theorem dX9_hear_58 : decode cX9_hear 58 = .ok (.iload 4, 2) := by decide +kernel
theorem dX9_hear_60 : decode cX9_hear 60 = .ok (.iload 5, 2) := by decide +kernel
theorem dX9_hear_62 : decode cX9_hear 62 = .ok (.invokevirtual 132, 3) := by decide +kernel
theorem dX9_hear_65 : decode cX9_hear 65 = .ok (.ifCond .eq 108, 3) := by decide +kernel
theorem dX9_hear_68 : decode cX9_hear 68 = .ok (.aload_n 0, 1) := by decide +kernel
theorem dX9_hear_69 : decode cX9_hear 69 = .ok (.aload_n 0, 1) := by decide +kernel
theorem dX9_hear_70 : decode cX9_hear 70 = .ok (.getfield 113, 3) := by decide +kernel
theorem dX9_hear_73 : decode cX9_hear 73 = .ok (.iconst (-1), 1) := by decide +kernel
theorem dX9_hear_74 : decode cX9_hear 74 = .ok (.if_icmp .ne 8, 3) := by decide +kernel
theorem dX9_hear_77 : decode cX9_hear 77 = .ok (.iload 7, 2) := by decide +kernel
theorem dX9_hear_79 : decode cX9_hear 79 = .ok (.goto 7, 3) := by decide +kernel
theorem dX9_hear_82 : decode cX9_hear 82 = .ok (.aload_n 0, 1) := by decide +kernel
theorem dX9_hear_83 : decode cX9_hear 83 = .ok (.getfield 113, 3) := by decide +kernel
theorem dX9_hear_86 : decode cX9_hear 86 = .ok (.putfield 113, 3) := by decide +kernel
theorem dX9_hear_89 : decode cX9_hear 89 = .ok (.aload_n 0, 1) := by decide +kernel
theorem dX9_hear_90 : decode cX9_hear 90 = .ok (.iload 7, 2) := by decide +kernel
theorem dX9_hear_92 : decode cX9_hear 92 = .ok (.putfield 117, 3) := by decide +kernel
theorem dX9_hear_95 : decode cX9_hear 95 = .ok (.aload_n 0, 1) := by decide +kernel
theorem dX9_hear_96 : decode cX9_hear 96 = .ok (.iload 7, 2) := by decide +kernel
theorem dX9_hear_98 : decode cX9_hear 98 = .ok (.iconst 0, 1) := by decide +kernel
theorem dX9_hear_99 : decode cX9_hear 99 = .ok (.invokevirtual 101, 3) := by decide +kernel
theorem dX9_hear_102 : decode cX9_hear 102 = .ok (.invokestatic 110, 3) := by decide +kernel
theorem dX9_hear_105 : decode cX9_hear 105 = .ok (.ifCond .eq 37, 3) := by decide +kernel
theorem dX9_hear_108 : decode cX9_hear 108 = .ok (.aload_n 0, 1) := by decide +kernel
theorem dX9_hear_109 : decode cX9_hear 109 = .ok (.aload_n 0, 1) := by decide +kernel
theorem dX9_hear_110 : decode cX9_hear 110 = .ok (.getfield 120, 3) := by decide +kernel
theorem dX9_hear_113 : decode cX9_hear 113 = .ok (.iconst (-1), 1) := by decide +kernel
theorem dX9_hear_114 : decode cX9_hear 114 = .ok (.if_icmp .ne 8, 3) := by decide +kernel
theorem dX9_hear_117 : decode cX9_hear 117 = .ok (.iload 7, 2) := by decide +kernel
theorem dX9_hear_119 : decode cX9_hear 119 = .ok (.goto 7, 3) := by decide +kernel
theorem dX9_hear_122 : decode cX9_hear 122 = .ok (.aload_n 0, 1) := by decide +kernel
theorem dX9_hear_123 : decode cX9_hear 123 = .ok (.getfield 120, 3) := by decide +kernel
theorem dX9_hear_126 : decode cX9_hear 126 = .ok (.putfield 120, 3) := by decide +kernel
theorem dX9_hear_129 : decode cX9_hear 129 = .ok (.aload_n 0, 1) := by decide +kernel
theorem dX9_hear_130 : decode cX9_hear 130 = .ok (.dup, 1) := by decide +kernel
theorem dX9_hear_131 : decode cX9_hear 131 = .ok (.getfield 126, 3) := by decide +kernel
theorem dX9_hear_134 : decode cX9_hear 134 = .ok (.iconst 1, 1) := by decide +kernel
theorem dX9_hear_135 : decode cX9_hear 135 = .ok (.iadd, 1) := by decide +kernel
theorem dX9_hear_136 : decode cX9_hear 136 = .ok (.putfield 126, 3) := by decide +kernel
theorem dX9_hear_139 : decode cX9_hear 139 = .ok (.goto 34, 3) := by decide +kernel
theorem dX9_hear_142 : decode cX9_hear 142 = .ok (.aload_n 0, 1) := by decide +kernel
theorem dX9_hear_143 : decode cX9_hear 143 = .ok (.aload_n 0, 1) := by decide +kernel
theorem dX9_hear_144 : decode cX9_hear 144 = .ok (.getfield 123, 3) := by decide +kernel
theorem dX9_hear_147 : decode cX9_hear 147 = .ok (.iconst (-1), 1) := by decide +kernel
theorem dX9_hear_148 : decode cX9_hear 148 = .ok (.if_icmp .ne 8, 3) := by decide +kernel
theorem dX9_hear_151 : decode cX9_hear 151 = .ok (.iload 7, 2) := by decide +kernel
theorem dX9_hear_153 : decode cX9_hear 153 = .ok (.goto 7, 3) := by decide +kernel
theorem dX9_hear_156 : decode cX9_hear 156 = .ok (.aload_n 0, 1) := by decide +kernel
theorem dX9_hear_157 : decode cX9_hear 157 = .ok (.getfield 123, 3) := by decide +kernel
theorem dX9_hear_160 : decode cX9_hear 160 = .ok (.putfield 123, 3) := by decide +kernel
theorem dX9_hear_163 : decode cX9_hear 163 = .ok (.aload_n 0, 1) := by decide +kernel
theorem dX9_hear_164 : decode cX9_hear 164 = .ok (.dup, 1) := by decide +kernel
theorem dX9_hear_165 : decode cX9_hear 165 = .ok (.getfield 129, 3) := by decide +kernel
theorem dX9_hear_168 : decode cX9_hear 168 = .ok (.iconst 1, 1) := by decide +kernel
theorem dX9_hear_169 : decode cX9_hear 169 = .ok (.iadd, 1) := by decide +kernel
theorem dX9_hear_170 : decode cX9_hear 170 = .ok (.putfield 129, 3) := by decide +kernel
theorem dX9_hear_173 : decode cX9_hear 173 = .ok (.iinc 7 1, 3) := by decide +kernel
theorem dX9_hear_176 : decode cX9_hear 176 = .ok (.goto (-143), 3) := by decide +kernel
theorem dX9_hear_179 : decode cX9_hear 179 = .ok (.return_, 1) := by decide +kernel
theorem dX9_decides_0 : decode cX9_decides 0 = .ok (.iload_n 1, 1) := by decide +kernel
theorem dX9_decides_1 : decode cX9_decides 1 = .ok (.tableswitch 57 0 2 #[27, 32, 37], 27) := by decide +kernel
theorem dX9_decides_28 : decode cX9_decides 28 = .ok (.aload_n 0, 1) := by decide +kernel
theorem dX9_decides_29 : decode cX9_decides 29 = .ok (.getfield 113, 3) := by decide +kernel
theorem dX9_decides_32 : decode cX9_decides 32 = .ok (.ireturn, 1) := by decide +kernel
theorem dX9_decides_33 : decode cX9_decides 33 = .ok (.aload_n 0, 1) := by decide +kernel
theorem dX9_decides_34 : decode cX9_decides 34 = .ok (.getfield 117, 3) := by decide +kernel
theorem dX9_decides_37 : decode cX9_decides 37 = .ok (.ireturn, 1) := by decide +kernel
theorem dX9_decides_38 : decode cX9_decides 38 = .ok (.aload_n 0, 1) := by decide +kernel
theorem dX9_decides_39 : decode cX9_decides 39 = .ok (.getfield 120, 3) := by decide +kernel
theorem dX9_decides_42 : decode cX9_decides 42 = .ok (.iconst (-1), 1) := by decide +kernel
theorem dX9_decides_43 : decode cX9_decides 43 = .ok (.if_icmp .eq 10, 3) := by decide +kernel
theorem dX9_decides_46 : decode cX9_decides 46 = .ok (.aload_n 0, 1) := by decide +kernel
theorem dX9_decides_47 : decode cX9_decides 47 = .ok (.getfield 120, 3) := by decide +kernel
theorem dX9_decides_50 : decode cX9_decides 50 = .ok (.goto 7, 3) := by decide +kernel
theorem dX9_decides_53 : decode cX9_decides 53 = .ok (.aload_n 0, 1) := by decide +kernel
theorem dX9_decides_54 : decode cX9_decides 54 = .ok (.getfield 113, 3) := by decide +kernel
theorem dX9_decides_57 : decode cX9_decides 57 = .ok (.ireturn, 1) := by decide +kernel
theorem dX9_decides_58 : decode cX9_decides 58 = .ok (.aload_n 0, 1) := by decide +kernel
theorem dX9_decides_59 : decode cX9_decides 59 = .ok (.getfield 126, 3) := by decide +kernel
theorem dX9_decides_62 : decode cX9_decides 62 = .ok (.aload_n 0, 1) := by decide +kernel
theorem dX9_decides_63 : decode cX9_decides 63 = .ok (.getfield 129, 3) := by decide +kernel
theorem dX9_decides_66 : decode cX9_decides 66 = .ok (.if_icmp .le 10, 3) := by decide +kernel
theorem dX9_decides_69 : decode cX9_decides 69 = .ok (.aload_n 0, 1) := by decide +kernel
theorem dX9_decides_70 : decode cX9_decides 70 = .ok (.getfield 120, 3) := by decide +kernel
theorem dX9_decides_73 : decode cX9_decides 73 = .ok (.goto 7, 3) := by decide +kernel
theorem dX9_decides_76 : decode cX9_decides 76 = .ok (.aload_n 0, 1) := by decide +kernel
theorem dX9_decides_77 : decode cX9_decides 77 = .ok (.getfield 123, 3) := by decide +kernel
theorem dX9_decides_80 : decode cX9_decides 80 = .ok (.ireturn, 1) := by decide +kernel
theorem dX9_decidesIn_0 : decode cX9_decidesIn 0 = .ok (.aload_n 0, 1) := by decide +kernel
theorem dX9_decidesIn_1 : decode cX9_decidesIn 1 = .ok (.iload_n 1, 1) := by decide +kernel
theorem dX9_decidesIn_2 : decode cX9_decidesIn 2 = .ok (.iload_n 2, 1) := by decide +kernel
theorem dX9_decidesIn_3 : decode cX9_decidesIn 3 = .ok (.iload_n 3, 1) := by decide +kernel
theorem dX9_decidesIn_4 : decode cX9_decidesIn 4 = .ok (.iload 4, 2) := by decide +kernel
theorem dX9_decidesIn_6 : decode cX9_decidesIn 6 = .ok (.iload 5, 2) := by decide +kernel
theorem dX9_decidesIn_8 : decode cX9_decidesIn 8 = .ok (.iload 6, 2) := by decide +kernel
theorem dX9_decidesIn_10 : decode cX9_decidesIn 10 = .ok (.invokevirtual 136, 3) := by decide +kernel
theorem dX9_decidesIn_13 : decode cX9_decidesIn 13 = .ok (.aload_n 0, 1) := by decide +kernel
theorem dX9_decidesIn_14 : decode cX9_decidesIn 14 = .ok (.aload_n 0, 1) := by decide +kernel
theorem dX9_decidesIn_15 : decode cX9_decidesIn 15 = .ok (.getfield 7, 3) := by decide +kernel
theorem dX9_decidesIn_18 : decode cX9_decidesIn 18 = .ok (.iconst 4, 1) := by decide +kernel
theorem dX9_decidesIn_19 : decode cX9_decidesIn 19 = .ok (.iload_n 1, 1) := by decide +kernel
theorem dX9_decidesIn_20 : decode cX9_decidesIn 20 = .ok (.iadd, 1) := by decide +kernel
theorem dX9_decidesIn_21 : decode cX9_decidesIn 21 = .ok (.iaload, 1) := by decide +kernel
theorem dX9_decidesIn_22 : decode cX9_decidesIn 22 = .ok (.invokevirtual 140, 3) := by decide +kernel
theorem dX9_decidesIn_25 : decode cX9_decidesIn 25 = .ok (.ireturn, 1) := by decide +kernel
theorem dX9_isAllowed_0 : decode cX9_isAllowed 0 = .ok (.aload_n 0, 1) := by decide +kernel
theorem dX9_isAllowed_1 : decode cX9_isAllowed 1 = .ok (.iload_n 1, 1) := by decide +kernel
theorem dX9_isAllowed_2 : decode cX9_isAllowed 2 = .ok (.iload_n 2, 1) := by decide +kernel
theorem dX9_isAllowed_3 : decode cX9_isAllowed 3 = .ok (.iload_n 3, 1) := by decide +kernel
theorem dX9_isAllowed_4 : decode cX9_isAllowed 4 = .ok (.iload 4, 2) := by decide +kernel
theorem dX9_isAllowed_6 : decode cX9_isAllowed 6 = .ok (.iload 5, 2) := by decide +kernel
theorem dX9_isAllowed_8 : decode cX9_isAllowed 8 = .ok (.iload 6, 2) := by decide +kernel
theorem dX9_isAllowed_10 : decode cX9_isAllowed 10 = .ok (.invokevirtual 143, 3) := by decide +kernel
theorem dX9_isAllowed_13 : decode cX9_isAllowed 13 = .ok (.istore 7, 2) := by decide +kernel
theorem dX9_isAllowed_15 : decode cX9_isAllowed 15 = .ok (.iload 7, 2) := by decide +kernel
theorem dX9_isAllowed_17 : decode cX9_isAllowed 17 = .ok (.iconst (-1), 1) := by decide +kernel
theorem dX9_isAllowed_18 : decode cX9_isAllowed 18 = .ok (.if_icmp .eq 16, 3) := by decide +kernel
theorem dX9_isAllowed_21 : decode cX9_isAllowed 21 = .ok (.aload_n 0, 1) := by decide +kernel
theorem dX9_isAllowed_22 : decode cX9_isAllowed 22 = .ok (.iload 7, 2) := by decide +kernel
theorem dX9_isAllowed_24 : decode cX9_isAllowed 24 = .ok (.iconst 0, 1) := by decide +kernel
theorem dX9_isAllowed_25 : decode cX9_isAllowed 25 = .ok (.invokevirtual 101, 3) := by decide +kernel
theorem dX9_isAllowed_28 : decode cX9_isAllowed 28 = .ok (.invokestatic 110, 3) := by decide +kernel
theorem dX9_isAllowed_31 : decode cX9_isAllowed 31 = .ok (.ifCond .eq 7, 3) := by decide +kernel
theorem dX9_isAllowed_34 : decode cX9_isAllowed 34 = .ok (.iconst 1, 1) := by decide +kernel
theorem dX9_isAllowed_35 : decode cX9_isAllowed 35 = .ok (.goto 4, 3) := by decide +kernel
theorem dX9_isAllowed_38 : decode cX9_isAllowed 38 = .ok (.iconst 0, 1) := by decide +kernel
theorem dX9_isAllowed_39 : decode cX9_isAllowed 39 = .ok (.ireturn, 1) := by decide +kernel
theorem dX9_allowed_0 : decode cX9_allowed 0 = .ok (.aload_n 0, 1) := by decide +kernel
theorem dX9_allowed_1 : decode cX9_allowed 1 = .ok (.iload_n 1, 1) := by decide +kernel
theorem dX9_allowed_2 : decode cX9_allowed 2 = .ok (.invokevirtual 73, 3) := by decide +kernel
theorem dX9_allowed_5 : decode cX9_allowed 5 = .ok (.ifCond .eq 38, 3) := by decide +kernel
theorem dX9_allowed_8 : decode cX9_allowed 8 = .ok (.iload_n 2, 1) := by decide +kernel
theorem dX9_allowed_9 : decode cX9_allowed 9 = .ok (.invokestatic 83, 3) := by decide +kernel
theorem dX9_allowed_12 : decode cX9_allowed 12 = .ok (.ifCond .eq 31, 3) := by decide +kernel
theorem dX9_allowed_15 : decode cX9_allowed 15 = .ok (.iload_n 3, 1) := by decide +kernel
theorem dX9_allowed_16 : decode cX9_allowed 16 = .ok (.invokestatic 147, 3) := by decide +kernel
theorem dX9_allowed_19 : decode cX9_allowed 19 = .ok (.ifCond .eq 24, 3) := by decide +kernel
theorem dX9_allowed_22 : decode cX9_allowed 22 = .ok (.iload 4, 2) := by decide +kernel
theorem dX9_allowed_24 : decode cX9_allowed 24 = .ok (.iload 5, 2) := by decide +kernel
theorem dX9_allowed_26 : decode cX9_allowed 26 = .ok (.invokestatic 150, 3) := by decide +kernel
theorem dX9_allowed_29 : decode cX9_allowed 29 = .ok (.ifCond .eq 14, 3) := by decide +kernel
theorem dX9_allowed_32 : decode cX9_allowed 32 = .ok (.iload 6, 2) := by decide +kernel
theorem dX9_allowed_34 : decode cX9_allowed 34 = .ok (.i2l, 1) := by decide +kernel
theorem dX9_allowed_35 : decode cX9_allowed 35 = .ok (.lconst 0, 1) := by decide +kernel
theorem dX9_allowed_36 : decode cX9_allowed 36 = .ok (.lconst 1, 1) := by decide +kernel
theorem dX9_allowed_37 : decode cX9_allowed 37 = .ok (.invokestatic 43, 3) := by decide +kernel
theorem dX9_allowed_40 : decode cX9_allowed 40 = .ok (.ifCond .ne 10, 3) := by decide +kernel
theorem dX9_allowed_43 : decode cX9_allowed 43 = .ok (.aload_n 0, 1) := by decide +kernel
theorem dX9_allowed_44 : decode cX9_allowed 44 = .ok (.bipush (-10), 2) := by decide +kernel
theorem dX9_allowed_46 : decode cX9_allowed 46 = .ok (.invokevirtual 62, 3) := by decide +kernel
theorem dX9_allowed_49 : decode cX9_allowed 49 = .ok (.ireturn, 1) := by decide +kernel
theorem dX9_allowed_50 : decode cX9_allowed 50 = .ok (.aload_n 0, 1) := by decide +kernel
theorem dX9_allowed_51 : decode cX9_allowed 51 = .ok (.iload_n 1, 1) := by decide +kernel
theorem dX9_allowed_52 : decode cX9_allowed 52 = .ok (.iload_n 2, 1) := by decide +kernel
theorem dX9_allowed_53 : decode cX9_allowed 53 = .ok (.iload_n 3, 1) := by decide +kernel
theorem dX9_allowed_54 : decode cX9_allowed 54 = .ok (.iload 4, 2) := by decide +kernel
theorem dX9_allowed_56 : decode cX9_allowed 56 = .ok (.iload 5, 2) := by decide +kernel
theorem dX9_allowed_58 : decode cX9_allowed 58 = .ok (.iconst 0, 1) := by decide +kernel
theorem dX9_allowed_59 : decode cX9_allowed 59 = .ok (.invokevirtual 143, 3) := by decide +kernel
theorem dX9_allowed_62 : decode cX9_allowed 62 = .ok (.istore 7, 2) := by decide +kernel
theorem dX9_allowed_64 : decode cX9_allowed 64 = .ok (.iload 6, 2) := by decide +kernel
theorem dX9_allowed_66 : decode cX9_allowed 66 = .ok (.iconst 1, 1) := by decide +kernel
theorem dX9_allowed_67 : decode cX9_allowed 67 = .ok (.if_icmp .ne 8, 3) := by decide +kernel
theorem dX9_allowed_70 : decode cX9_allowed 70 = .ok (.iload 7, 2) := by decide +kernel
theorem dX9_allowed_72 : decode cX9_allowed 72 = .ok (.goto 27, 3) := by decide +kernel
theorem dX9_allowed_75 : decode cX9_allowed 75 = .ok (.iload 7, 2) := by decide +kernel
theorem dX9_allowed_77 : decode cX9_allowed 77 = .ok (.iconst (-1), 1) := by decide +kernel
theorem dX9_allowed_78 : decode cX9_allowed 78 = .ok (.if_icmp .eq 16, 3) := by decide +kernel
theorem dX9_allowed_81 : decode cX9_allowed 81 = .ok (.aload_n 0, 1) := by decide +kernel
theorem dX9_allowed_82 : decode cX9_allowed 82 = .ok (.iload 7, 2) := by decide +kernel
theorem dX9_allowed_84 : decode cX9_allowed 84 = .ok (.iconst 0, 1) := by decide +kernel
theorem dX9_allowed_85 : decode cX9_allowed 85 = .ok (.invokevirtual 101, 3) := by decide +kernel
theorem dX9_allowed_88 : decode cX9_allowed 88 = .ok (.invokestatic 110, 3) := by decide +kernel
theorem dX9_allowed_91 : decode cX9_allowed 91 = .ok (.ifCond .eq 7, 3) := by decide +kernel
theorem dX9_allowed_94 : decode cX9_allowed 94 = .ok (.iconst 1, 1) := by decide +kernel
theorem dX9_allowed_95 : decode cX9_allowed 95 = .ok (.goto 4, 3) := by decide +kernel
theorem dX9_allowed_98 : decode cX9_allowed 98 = .ok (.iconst 0, 1) := by decide +kernel
theorem dX9_allowed_99 : decode cX9_allowed 99 = .ok (.ireturn, 1) := by decide +kernel
theorem kX9_bits : zCS yX9_bits cX9_bits 3 (some .int) 1 := ⟨q4_224, q1_3, q4_225, by decide +kernel, by decide +kernel, by decide +kernel⟩
theorem kX9_allows : zCS yX9_allows cX9_allows 1 (some .boolean) 1 := ⟨q4_160, q1_3, q4_161, by decide +kernel, by decide +kernel, by decide +kernel⟩
theorem kX9_speaksDays : zCV yX9_speaksDays RX9 cX9_speaksDays 3 (some .int) 1 := ⟨q4_164, qp26, q1_3, q4_165, rfl, by decide +kernel, by decide +kernel, by decide +kernel⟩
theorem kX9_speaks : zCV yX9_speaks RX9 cX9_speaks 11 (some .boolean) 6 := ⟨q4_187, qp29, q1_3, q4_188, rfl, by decide +kernel, by decide +kernel, by decide +kernel⟩
theorem kX9_of : zCV yX9_of RX9 cX9_of 3 (some .int) 2 := ⟨q4_151, q4_152, q1_3, q4_153, rfl, by decide +kernel, by decide +kernel, by decide +kernel⟩
theorem kX9_hear : zCV yX9_hear RX9 cX9_hear 8 none 6 := ⟨q4_183, qp28, q1_3, q4_184, rfl, by decide +kernel, by decide +kernel, by decide +kernel⟩
theorem kX9_decides : zCV yX9_decides RX9 cX9_decides 2 (some .int) 1 := ⟨q4_191, qp30, q1_3, q4_192, rfl, by decide +kernel, by decide +kernel, by decide +kernel⟩
theorem kX9_decidesIn : zCV yX9_decidesIn RX9 cX9_decidesIn 7 (some .int) 6 := ⟨q4_179, qp27, q1_3, q4_180, rfl, by decide +kernel, by decide +kernel, by decide +kernel⟩
theorem kX9_isAllowed : zCV yX9_isAllowed RX9 cX9_isAllowed 8 (some .boolean) 6 := ⟨q4_209, qp32, q1_3, q4_210, rfl, by decide +kernel, by decide +kernel, by decide +kernel⟩
theorem kX9_allowed : zCV yX9_allowed RX9 cX9_allowed 8 (some .int) 6 := ⟨q4_167, q4_168, q1_3, q4_169, rfl, by decide +kernel, by decide +kernel, by decide +kernel⟩
set_option maxHeartbeats 4000000 in
set_option maxRecDepth 100000 in
theorem c_X9_bits (l : Launch) (g : zG) (k : Nat) (X : va_W) (hk : k < 256) : Met l yX9_bits (Cond.code yX9_bits cX9_bits 3 (some .int) :: TBL) { frames := 0, cells := 0, slots := 0, locals := 0 } (zPc [.int (nI k)] g (X)) (zQi g (fun r ws => r = nI (pop k) ∧ ws = X)) 0 0 (zA (gz g)) := by
  refine z_start (by decide +kernel) rfl (Nat.le_of_ble_eq_true rfl) ?_
  intro p e s m args below meth c ls hE hr hnm hB hl
  have hl : lv_has ls 3 [(0, .int (nI k))] := hl
  revert hB
  generalize s.heap = H
  generalize ([] : List Loc) = locs
  intro hB
  refine lv_iconst (v := nI 0) hE.x hE.b dX9_bits_0 rfl ?_
  refine lv_istore_n (lv' := [(1, .int (nI 0)), (0, .int (nI k))]) hE.x hE.b dX9_bits_1 rfl hl (by decide) rfl (fun ls hl => ?_)
  refine lv_iload_n hE.x hE.b dX9_bits_2 rfl (lv_at hl 1 rfl) ?_
  refine lv_istore_n (lv' := [(2, .int (nI k)), (1, .int (nI 0)), (0, .int (nI k))]) hE.x hE.b dX9_bits_3 rfl hl (by decide) rfl (fun ls hl => ?_)
  have k4 : ∀ (fu : Nat) (i : Nat) (j : Nat) (d : Nat) (H : Heap) (locs : List Loc) (ls : Array Slot), j < fu → (d ≤ 8) → (j < 2 ^ d) → (i + popF d j = pop k) → zB g s (X) H locs → lv_has ls 3 [(2, .int (nI j)), (1, .int (nI i)), (0, .int (nI k))] → W p l e { frames := 0, cells := 0, slots := 0, locals := 0 } s m args below meth c H locs 0 0 (MQ below (zQi g (fun r ws => r = nI (pop k) ∧ ws = X)) args s 0 0 (zA (gz g))) (F0 m 4 ls []) := by
    intro fu
    induction fu with
    | zero => intro i j d H locs ls hfu hd hj hp hB hl; exact absurd hfu (Nat.not_lt_zero _)
    | succ fu ih4 =>
      intro i j d H locs ls hfu hd hj hp hB hl
      have hj31 : j < 2 ^ 31 := by have := Nat.pow_le_pow_right (n := 2) (by omega) hd; omega
      refine lv_iload_n hE.x hE.b dX9_bits_4 rfl (lv_at hl 0 rfl) ?_
      refine z_le0 (tgt := 21) (X := ((j : Nat) : Int)) hE dX9_bits_5 (by decide) (nI_toInt (n := j) (by omega)) (fun c_1 => ?_) (fun c_1 => ?_)
      · refine lv_iload_n hE.x hE.b dX9_bits_21 rfl (lv_at hl 1 rfl) ?_
        exact z_iret (v := (nI i)) (ws := X) hE hB hr (⟨by rw [show j = 0 by omega, popF_0] at hp; rw [← hp]; rfl, rfl⟩) dX9_bits_22
      · refine lv_iload_n hE.x hE.b dX9_bits_8 rfl (lv_at hl 1 rfl) ?_
        refine lv_iload_n hE.x hE.b dX9_bits_9 rfl (lv_at hl 0 rfl) ?_
        refine lv_iconst (v := nI 1) hE.x hE.b dX9_bits_10 rfl ?_
        refine lv_iand hE.x hE.b dX9_bits_11 ?_
        refine z_top (y := (nI (j % 2))) (and1_nI (by have := Nat.pow_le_pow_right (n := 2) (by omega) hd; omega)) ?_
        refine z_iaddN hE dX9_bits_12 ?_
        refine lv_istore_n (lv' := [(1, .int (nI (i + (j % 2)))), (2, .int (nI j)), (0, .int (nI k))]) hE.x hE.b dX9_bits_13 rfl hl (by decide) rfl (fun ls hl => ?_)
        refine lv_iload_n hE.x hE.b dX9_bits_14 rfl (lv_at hl 1 rfl) ?_
        refine lv_iconst (v := nI 1) hE.x hE.b dX9_bits_15 rfl ?_
        refine lv_ishr hE.x hE.b dX9_bits_16 ?_
        refine z_top (y := (nI (j / 2))) (shr_nI (by have := Nat.pow_le_pow_right (n := 2) (by omega) hd; omega) (by decide)) ?_
        refine lv_istore_n (lv' := [(2, .int (nI (j / 2))), (1, .int (nI (i + (j % 2)))), (0, .int (nI k))]) hE.x hE.b dX9_bits_17 rfl hl (by decide) rfl (fun ls hl => ?_)
        refine lv_goto (tgt := 4) hE.x hE.b dX9_bits_18 (by decide) ?_
        exact ih4 (i + (j % 2)) (j / 2) (d - 1) _ _ _ (by omega) (by omega) (bits_lt hj (by omega)) (bits_st hp hj (by omega)) hB hl
  exact k4 (k + 1) 0 k 8 _ _ _ (Nat.lt_succ_self _) (by omega) (by omega) (by simp [pop]) hB hl

set_option maxHeartbeats 4000000 in
set_option maxRecDepth 100000 in
theorem c_X9_allows (l : Launch) (g : zG) (k : Int32) (X : va_W)  : Met l yX9_allows (Cond.code yX9_allows cX9_allows 1 (some .boolean) :: TBL) { frames := 0, cells := 0, slots := 0, locals := 0 } (zPc [.int k] g (X)) (zQi g (fun r ws => r = bI (alw k) ∧ ws = X)) 0 0 (zA (gz g)) := by
  refine z_start (by decide +kernel) rfl (Nat.le_of_ble_eq_true rfl) ?_
  intro p e s m args below meth c ls hE hr hnm hB hl
  have hl : lv_has ls 1 [(0, .int k)] := hl
  revert hB
  generalize s.heap = H
  generalize ([] : List Loc) = locs
  intro hB
  refine lv_iload_n hE.x hE.b dX9_allows_0 rfl (lv_at hl 0 rfl) ?_
  refine lv_if_eq (tgt := 13) hE.x hE.b dX9_allows_1 (by decide) (fun c_1 => ?_) (fun c_1 => ?_)
  · refine lv_iconst (v := nI 0) hE.x hE.b dX9_allows_13 rfl ?_
    exact z_bret (b := false) (ws := X) hE hB hr (⟨congrArg bI (by unfold alw; simp [c_1]), rfl⟩) dX9_allows_14
  · refine lv_iload_n hE.x hE.b dX9_allows_4 rfl (lv_at hl 0 rfl) ?_
    refine lv_iconst (v := nI 2) hE.x hE.b dX9_allows_5 rfl ?_
    refine lv_icmp_eq (tgt := 13) hE.x hE.b dX9_allows_6 (by decide) (fun c_2 => ?_) (fun c_2 => ?_)
    · refine lv_iconst (v := nI 0) hE.x hE.b dX9_allows_13 rfl ?_
      exact z_bret (b := false) (ws := X) hE hB hr (⟨congrArg bI (by unfold alw; simp [c_1, c_2]), rfl⟩) dX9_allows_14
    · refine lv_iconst (v := nI 1) hE.x hE.b dX9_allows_9 rfl ?_
      refine lv_goto (tgt := 14) hE.x hE.b dX9_allows_10 (by decide) ?_
      exact z_bret (b := true) (ws := X) hE hB hr (⟨congrArg bI (by unfold alw; simp [c_1, c_2]), rfl⟩) dX9_allows_14

set_option maxHeartbeats 4000000 in
set_option maxRecDepth 100000 in
theorem c_X9_speaksDays (l : Launch) (g : zG) (o : Nat) (a : Nat → Nat) (F : Nat → Int32) (L : Nat → Int64) (A : Nat → Nat → Int32) (X : va_W) (q : Nat) (hq : q < 8) : Met l yX9_speaksDays (Cond.code yX9_speaksDays cX9_speaksDays 3 (some .int) :: TBL) { frames := 1, cells := 0, slots := 0, locals := 22 } (zPc [.ref o, .int (nI q)] g (mW g o a F L A ++ X)) (zQi g (fun r ws => r = (spD (A 0) q) ∧ ws = mW g o a F L A ++ X)) 0 0 (zA (gz g)) := by
  refine z_start (by decide +kernel) rfl (Nat.le_of_ble_eq_true rfl) ?_
  intro p e s m args below meth c ls hE hr hnm hB hl
  have hl : lv_has ls 3 [(0, .ref o), (1, .int (nI q))] := hl
  revert hB
  generalize s.heap = H
  generalize ([] : List Loc) = locs
  intro hB
  refine lv_aload_n hE.x hE.b dX9_speaksDays_0 rfl (lv_at hl 0 rfl) ?_
  refine lv_iload_n hE.x hE.b dX9_speaksDays_1 rfl (lv_at hl 1 rfl) ?_
  refine lv_iconst (v := nI 3) hE.x hE.b dX9_speaksDays_2 rfl ?_
  refine z_qi hB (z_cV hE hB (c_X9_has l g o a F L A X q 3 (by omega) (by omega)) q4_155 kX9_has ⟨rfl, rfl⟩ ⟨Nat.le_of_ble_eq_true rfl, Nat.le_of_ble_eq_true rfl⟩ 0 rfl rfl rfl hl.1 rfl (Nat.le_of_ble_eq_true rfl) dX9_speaksDays_3 ⟨Nat.le_of_ble_eq_true rfl, Nat.le_of_ble_eq_true rfl⟩) (fun r_1 w_2 H locs hw hB => ?_)
  obtain ⟨hr9, hw9⟩ := hw
  have hr9 := hr9.symm
  subst hr9
  have hw9 := hw9.symm
  subst hw9
  refine lv_aload_n hE.x hE.b dX9_speaksDays_6 rfl (lv_at hl 0 rfl) ?_
  refine lv_iload_n hE.x hE.b dX9_speaksDays_7 rfl (lv_at hl 1 rfl) ?_
  refine lv_iconst (v := nI 2) hE.x hE.b dX9_speaksDays_8 rfl ?_
  refine z_qi hB (z_cV hE hB (c_X9_has l g o a F L A X q 2 (by omega) (by omega)) q4_155 kX9_has ⟨rfl, rfl⟩ ⟨Nat.le_of_ble_eq_true rfl, Nat.le_of_ble_eq_true rfl⟩ 0 rfl rfl rfl hl.1 rfl (Nat.le_of_ble_eq_true rfl) dX9_speaksDays_9 ⟨Nat.le_of_ble_eq_true rfl, Nat.le_of_ble_eq_true rfl⟩) (fun r_3 w_4 H locs hw hB => ?_)
  obtain ⟨hr9, hw9⟩ := hw
  have hr9 := hr9.symm
  subst hr9
  have hw9 := hw9.symm
  subst hw9
  refine lv_isub hE.x hE.b dX9_speaksDays_12 ?_
  refine lv_istore_n (lv' := [(2, .int ((A 0 (46 + 5 * q + 3)) - (A 0 (46 + 5 * q + 2)))), (0, .ref o), (1, .int (nI q))]) hE.x hE.b dX9_speaksDays_13 rfl hl (by decide) rfl (fun ls hl => ?_)
  refine lv_aload_n hE.x hE.b dX9_speaksDays_14 rfl (lv_at hl 1 rfl) ?_
  refine lv_iload_n hE.x hE.b dX9_speaksDays_15 rfl (lv_at hl 2 rfl) ?_
  refine lv_iconst (v := nI 0) hE.x hE.b dX9_speaksDays_16 rfl ?_
  refine z_qi hB (z_cV hE hB (c_X9_has l g o a F L A X q 0 (by omega) (by omega)) q4_155 kX9_has ⟨rfl, rfl⟩ ⟨Nat.le_of_ble_eq_true rfl, Nat.le_of_ble_eq_true rfl⟩ 0 rfl rfl rfl hl.1 rfl (Nat.le_of_ble_eq_true rfl) dX9_speaksDays_17 ⟨Nat.le_of_ble_eq_true rfl, Nat.le_of_ble_eq_true rfl⟩) (fun r_5 w_6 H locs hw hB => ?_)
  obtain ⟨hr9, hw9⟩ := hw
  have hr9 := hr9.symm
  subst hr9
  have hw9 := hw9.symm
  subst hw9
  refine lv_iconst (v := nI 2) hE.x hE.b dX9_speaksDays_20 rfl ?_
  refine lv_icmp_ne (tgt := 32) hE.x hE.b dX9_speaksDays_21 (by decide) (fun c_7 => ?_) (fun c_7 => ?_)
  · refine lv_iload_n hE.x hE.b dX9_speaksDays_32 rfl (lv_at hl 0 rfl) ?_
    exact z_iret (v := ((A 0 (46 + 5 * q + 3)) - (A 0 (46 + 5 * q + 2)))) (ws := mW g o a F L A ++ X) hE hB hr (⟨by unfold spD; rw [if_neg c_7], rfl⟩) dX9_speaksDays_33
  · refine lv_iload_n hE.x hE.b dX9_speaksDays_24 rfl (lv_at hl 0 rfl) ?_
    refine lv_iconst (v := nI 1) hE.x hE.b dX9_speaksDays_25 rfl ?_
    refine lv_iadd hE.x hE.b dX9_speaksDays_26 ?_
    refine lv_iconst (v := nI 2) hE.x hE.b dX9_speaksDays_27 rfl ?_
    refine lv_idiv hE.x hE.b dX9_speaksDays_28 (by decide) ?_
    refine lv_goto (tgt := 33) hE.x hE.b dX9_speaksDays_29 (by decide) ?_
    exact z_iret (v := ((((A 0 (46 + 5 * q + 3)) - (A 0 (46 + 5 * q + 2))) + (nI 1)) / (nI 2))) (ws := mW g o a F L A ++ X) hE hB hr (⟨by unfold spD; rw [if_pos c_7], rfl⟩) dX9_speaksDays_33

set_option maxHeartbeats 4000000 in
set_option maxRecDepth 100000 in
theorem c_X9_speaks (l : Launch) (g : zG) (o : Nat) (a : Nat → Nat) (F : Nat → Int32) (L : Nat → Int64) (A : Nat → Nat → Int32) (X : va_W) (q : Nat) (tw : Int32) (ac : Int32) (dd : Int32) (dy : Int32) (sh : Int32) (hq : q < 8) : Met l yX9_speaks (Cond.code yX9_speaks cX9_speaks 11 (some .boolean) :: TBL) { frames := 2, cells := 0, slots := 0, locals := 44 } (zPc [.ref o, .int (nI q), .int tw, .int ac, .int dd, .int dy, .int sh] g (mW g o a F L A ++ X)) (zQi g (fun r ws => r = bI (spk (A 0) q tw ac dd dy sh) ∧ ws = mW g o a F L A ++ X)) 0 0 (zA (gz g)) := by
  refine z_start (by decide +kernel) rfl (Nat.le_of_ble_eq_true rfl) ?_
  intro p e s m args below meth c ls hE hr hnm hB hl
  have hl : lv_has ls 11 [(0, .ref o), (1, .int (nI q)), (2, .int tw), (3, .int ac), (4, .int dd), (5, .int dy), (6, .int sh)] := hl
  revert hB
  generalize s.heap = H
  generalize ([] : List Loc) = locs
  intro hB
  refine lv_aload_n hE.x hE.b dX9_speaks_0 rfl (lv_at hl 0 rfl) ?_
  refine lv_iload_n hE.x hE.b dX9_speaks_1 rfl (lv_at hl 1 rfl) ?_
  refine lv_iconst (v := nI 0) hE.x hE.b dX9_speaks_2 rfl ?_
  refine z_qi hB (z_cV hE hB (c_X9_has l g o a F L A X q 0 (by omega) (by omega)) q4_155 kX9_has ⟨rfl, rfl⟩ ⟨Nat.le_of_ble_eq_true rfl, Nat.le_of_ble_eq_true rfl⟩ 0 rfl rfl rfl hl.1 rfl (Nat.le_of_ble_eq_true rfl) dX9_speaks_3 ⟨Nat.le_of_ble_eq_true rfl, Nat.le_of_ble_eq_true rfl⟩) (fun r_1 w_2 H locs hw hB => ?_)
  obtain ⟨hr9, hw9⟩ := hw
  have hr9 := hr9.symm
  subst hr9
  have hw9 := hw9.symm
  subst hw9
  refine lv_istore (lv' := [(7, .int (A 0 (46 + 5 * q + 0))), (0, .ref o), (1, .int (nI q)), (2, .int tw), (3, .int ac), (4, .int dd), (5, .int dy), (6, .int sh)]) hE.x hE.b dX9_speaks_6 hl (by decide) rfl (fun ls hl => ?_)
  have k35 : ∀ (b1 : Bool) (H : Heap) (locs : List Loc) (ls : Array Slot), (b1 = spH (A 0) q tw) → zB g s (mW g o a F L A ++ X) H locs → lv_has ls 11 [(7, .int (A 0 (46 + 5 * q + 0))), (0, .ref o), (1, .int (nI q)), (2, .int tw), (3, .int ac), (4, .int dd), (5, .int dy), (6, .int sh)] → W p l e { frames := 2, cells := 0, slots := 0, locals := 44 } s m args below meth c H locs 0 0 (MQ below (zQi g (fun r ws => r = bI (spk (A 0) q tw ac dd dy sh) ∧ ws = mW g o a F L A ++ X)) args s 0 0 (zA (gz g))) (F0 m 35 ls [.int (bI b1)]) := by
    intro b1 H locs ls hb1 hB hl
    refine lv_istore (lv' := [(8, .int (bI b1)), (7, .int (A 0 (46 + 5 * q + 0))), (0, .ref o), (1, .int (nI q)), (2, .int tw), (3, .int ac), (4, .int dd), (5, .int dy), (6, .int sh)]) hE.x hE.b dX9_speaks_35 hl (by decide) rfl (fun ls hl => ?_)
    have k70 : ∀ (b2 : Bool) (H : Heap) (locs : List Loc) (ls : Array Slot), (b2 = spW (A 0) q dd) → zB g s (mW g o a F L A ++ X) H locs → lv_has ls 11 [(8, .int (bI b1)), (7, .int (A 0 (46 + 5 * q + 0))), (0, .ref o), (1, .int (nI q)), (2, .int tw), (3, .int ac), (4, .int dd), (5, .int dy), (6, .int sh)] → W p l e { frames := 2, cells := 0, slots := 0, locals := 44 } s m args below meth c H locs 0 0 (MQ below (zQi g (fun r ws => r = bI (spk (A 0) q tw ac dd dy sh) ∧ ws = mW g o a F L A ++ X)) args s 0 0 (zA (gz g))) (F0 m 70 ls [.int (bI b2)]) := by
      intro b2 H locs ls hb2 hB hl
      refine lv_istore (lv' := [(9, .int (bI b2)), (8, .int (bI b1)), (7, .int (A 0 (46 + 5 * q + 0))), (0, .ref o), (1, .int (nI q)), (2, .int tw), (3, .int ac), (4, .int dd), (5, .int dy), (6, .int sh)]) hE.x hE.b dX9_speaks_70 hl (by decide) rfl (fun ls hl => ?_)
      have k101 : ∀ (b3 : Bool) (H : Heap) (locs : List Loc) (ls : Array Slot), (b3 = spT (A 0) q dy sh) → zB g s (mW g o a F L A ++ X) H locs → lv_has ls 11 [(9, .int (bI b2)), (8, .int (bI b1)), (7, .int (A 0 (46 + 5 * q + 0))), (0, .ref o), (1, .int (nI q)), (2, .int tw), (3, .int ac), (4, .int dd), (5, .int dy), (6, .int sh)] → W p l e { frames := 2, cells := 0, slots := 0, locals := 44 } s m args below meth c H locs 0 0 (MQ below (zQi g (fun r ws => r = bI (spk (A 0) q tw ac dd dy sh) ∧ ws = mW g o a F L A ++ X)) args s 0 0 (zA (gz g))) (F0 m 101 ls [.int (bI b3)]) := by
        intro b3 H locs ls hb3 hB hl
        refine lv_istore (lv' := [(10, .int (bI b3)), (9, .int (bI b2)), (8, .int (bI b1)), (7, .int (A 0 (46 + 5 * q + 0))), (0, .ref o), (1, .int (nI q)), (2, .int tw), (3, .int ac), (4, .int dd), (5, .int dy), (6, .int sh)]) hE.x hE.b dX9_speaks_101 hl (by decide) rfl (fun ls hl => ?_)
        refine lv_aload_n hE.x hE.b dX9_speaks_103 rfl (lv_at hl 4 rfl) ?_
        refine lv_iload_n hE.x hE.b dX9_speaks_104 rfl (lv_at hl 5 rfl) ?_
        refine lv_iconst (v := nI 1) hE.x hE.b dX9_speaks_105 rfl ?_
        refine z_qi hB (z_cV hE hB (c_X9_has l g o a F L A X q 1 (by omega) (by omega)) q4_155 kX9_has ⟨rfl, rfl⟩ ⟨Nat.le_of_ble_eq_true rfl, Nat.le_of_ble_eq_true rfl⟩ 0 rfl rfl rfl hl.1 rfl (Nat.le_of_ble_eq_true rfl) dX9_speaks_106 ⟨Nat.le_of_ble_eq_true rfl, Nat.le_of_ble_eq_true rfl⟩) (fun r_3 w_4 H locs hw hB => ?_)
        obtain ⟨hr9, hw9⟩ := hw
        have hr9 := hr9.symm
        subst hr9
        have hw9 := hw9.symm
        subst hw9
        refine lv_iload_n hE.x hE.b dX9_speaks_109 rfl (lv_at hl 7 rfl) ?_
        refine lv_icmp_ne (tgt := 132) hE.x hE.b dX9_speaks_110 (by decide) (fun c_5 => ?_) (fun c_5 => ?_)
        · refine lv_iconst (v := nI 0) hE.x hE.b dX9_speaks_132 rfl ?_
          exact z_bret (b := false) (ws := mW g o a F L A ++ X) hE hB hr (⟨congrArg bI (by unfold spk; rw [← hb1, ← hb2, ← hb3]; simp only [c_5, decide_true, decide_false, Bool.not_true, Bool.not_false, Bool.true_and, Bool.and_true, Bool.false_and, Bool.and_false, Bool.true_or, Bool.or_true, Bool.false_or, Bool.or_false, n54, n45, n35, n53]), rfl⟩) dX9_speaks_133
        · refine lv_iload hE.x hE.b dX9_speaks_113 (lv_at hl 2 rfl) ?_
          refine z_bf (b := b1) (tgt := 132) hE dX9_speaks_115 (by decide) (fun c_6 => ?_) (fun c_6 => ?_)
          · refine lv_iconst (v := nI 0) hE.x hE.b dX9_speaks_132 rfl ?_
            exact z_bret (b := false) (ws := mW g o a F L A ++ X) hE hB hr (⟨congrArg bI (by unfold spk; rw [← hb1, ← hb2, ← hb3]; simp only [c_5, c_6, decide_true, decide_false, Bool.not_true, Bool.not_false, Bool.true_and, Bool.and_true, Bool.false_and, Bool.and_false, Bool.true_or, Bool.or_true, Bool.false_or, Bool.or_false, n54, n45, n35, n53]), rfl⟩) dX9_speaks_133
          · refine lv_iload hE.x hE.b dX9_speaks_118 (lv_at hl 1 rfl) ?_
            refine z_bf (b := b2) (tgt := 132) hE dX9_speaks_120 (by decide) (fun c_7 => ?_) (fun c_7 => ?_)
            · refine lv_iconst (v := nI 0) hE.x hE.b dX9_speaks_132 rfl ?_
              exact z_bret (b := false) (ws := mW g o a F L A ++ X) hE hB hr (⟨congrArg bI (by unfold spk; rw [← hb1, ← hb2, ← hb3]; simp only [c_5, c_6, c_7, decide_true, decide_false, Bool.not_true, Bool.not_false, Bool.true_and, Bool.and_true, Bool.false_and, Bool.and_false, Bool.true_or, Bool.or_true, Bool.false_or, Bool.or_false, n54, n45, n35, n53]), rfl⟩) dX9_speaks_133
            · refine lv_iload hE.x hE.b dX9_speaks_123 (lv_at hl 0 rfl) ?_
              refine z_bf (b := b3) (tgt := 132) hE dX9_speaks_125 (by decide) (fun c_8 => ?_) (fun c_8 => ?_)
              · refine lv_iconst (v := nI 0) hE.x hE.b dX9_speaks_132 rfl ?_
                exact z_bret (b := false) (ws := mW g o a F L A ++ X) hE hB hr (⟨congrArg bI (by unfold spk; rw [← hb1, ← hb2, ← hb3]; simp only [c_5, c_6, c_7, c_8, decide_true, decide_false, Bool.not_true, Bool.not_false, Bool.true_and, Bool.and_true, Bool.false_and, Bool.and_false, Bool.true_or, Bool.or_true, Bool.false_or, Bool.or_false, n54, n45, n35, n53]), rfl⟩) dX9_speaks_133
              · refine lv_iconst (v := nI 1) hE.x hE.b dX9_speaks_128 rfl ?_
                refine lv_goto (tgt := 133) hE.x hE.b dX9_speaks_129 (by decide) ?_
                exact z_bret (b := true) (ws := mW g o a F L A ++ X) hE hB hr (⟨congrArg bI (by unfold spk; rw [← hb1, ← hb2, ← hb3]; simp only [c_5, c_6, c_7, c_8, decide_true, decide_false, Bool.not_true, Bool.not_false, Bool.true_and, Bool.and_true, Bool.false_and, Bool.and_false, Bool.true_or, Bool.or_true, Bool.false_or, Bool.or_false, n54, n45, n35, n53]), rfl⟩) dX9_speaks_133
      refine lv_iload hE.x hE.b dX9_speaks_72 (lv_at hl 2 rfl) ?_
      refine lv_iconst (v := nI 4) hE.x hE.b dX9_speaks_74 rfl ?_
      refine lv_icmp_ne (tgt := 84) hE.x hE.b dX9_speaks_75 (by decide) (fun c_9 => ?_) (fun c_9 => ?_)
      · refine lv_iload hE.x hE.b dX9_speaks_84 (lv_at hl 2 rfl) ?_
        refine lv_iconst (v := nI 5) hE.x hE.b dX9_speaks_86 rfl ?_
        refine lv_icmp_ne (tgt := 96) hE.x hE.b dX9_speaks_87 (by decide) (fun c_10 => ?_) (fun c_10 => ?_)
        · refine lv_iconst (v := nI 1) hE.x hE.b dX9_speaks_96 rfl ?_
          refine lv_goto (tgt := 101) hE.x hE.b dX9_speaks_97 (by decide) ?_
          exact k101 true _ _ _ (by unfold spT; simp only [c_9, c_10, decide_true, decide_false, Bool.not_true, Bool.not_false, Bool.true_and, Bool.and_true, Bool.false_and, Bool.and_false, Bool.true_or, Bool.or_true, Bool.false_or, Bool.or_false, n54, n45, n35, n53]) hB hl
        · refine lv_iload hE.x hE.b dX9_speaks_90 (lv_at hl 9 rfl) ?_
          refine lv_iconst (v := nI 1) hE.x hE.b dX9_speaks_92 rfl ?_
          refine lv_icmp_ne (tgt := 100) hE.x hE.b dX9_speaks_93 (by decide) (fun c_11 => ?_) (fun c_11 => ?_)
          · refine lv_iconst (v := nI 0) hE.x hE.b dX9_speaks_100 rfl ?_
            exact k101 false _ _ _ (by unfold spT; simp only [c_9, c_10, c_11, decide_true, decide_false, Bool.not_true, Bool.not_false, Bool.true_and, Bool.and_true, Bool.false_and, Bool.and_false, Bool.true_or, Bool.or_true, Bool.false_or, Bool.or_false, n54, n45, n35, n53]) hB hl
          · refine lv_iconst (v := nI 1) hE.x hE.b dX9_speaks_96 rfl ?_
            refine lv_goto (tgt := 101) hE.x hE.b dX9_speaks_97 (by decide) ?_
            exact k101 true _ _ _ (by unfold spT; simp only [c_9, c_10, c_11, decide_true, decide_false, Bool.not_true, Bool.not_false, Bool.true_and, Bool.and_true, Bool.false_and, Bool.and_false, Bool.true_or, Bool.or_true, Bool.false_or, Bool.or_false, n54, n45, n35, n53]) hB hl
      · refine lv_iload hE.x hE.b dX9_speaks_78 (lv_at hl 8 rfl) ?_
        refine lv_iconst (v := nI 1) hE.x hE.b dX9_speaks_80 rfl ?_
        refine lv_icmp_ne (tgt := 100) hE.x hE.b dX9_speaks_81 (by decide) (fun c_12 => ?_) (fun c_12 => ?_)
        · refine lv_iconst (v := nI 0) hE.x hE.b dX9_speaks_100 rfl ?_
          exact k101 false _ _ _ (by unfold spT; simp only [c_9, c_12, decide_true, decide_false, Bool.not_true, Bool.not_false, Bool.true_and, Bool.and_true, Bool.false_and, Bool.and_false, Bool.true_or, Bool.or_true, Bool.false_or, Bool.or_false, n54, n45, n35, n53]) hB hl
        · refine lv_iload hE.x hE.b dX9_speaks_84 (lv_at hl 2 rfl) ?_
          refine lv_iconst (v := nI 5) hE.x hE.b dX9_speaks_86 rfl ?_
          refine lv_icmp_ne (tgt := 96) hE.x hE.b dX9_speaks_87 (by decide) (fun c_13 => ?_) (fun c_13 => ?_)
          · refine lv_iconst (v := nI 1) hE.x hE.b dX9_speaks_96 rfl ?_
            refine lv_goto (tgt := 101) hE.x hE.b dX9_speaks_97 (by decide) ?_
            exact k101 true _ _ _ (by unfold spT; simp only [c_9, c_12, c_13, decide_true, decide_false, Bool.not_true, Bool.not_false, Bool.true_and, Bool.and_true, Bool.false_and, Bool.and_false, Bool.true_or, Bool.or_true, Bool.false_or, Bool.or_false, n54, n45, n35, n53]) hB hl
          · refine lv_iload hE.x hE.b dX9_speaks_90 (lv_at hl 9 rfl) ?_
            refine lv_iconst (v := nI 1) hE.x hE.b dX9_speaks_92 rfl ?_
            refine lv_icmp_ne (tgt := 100) hE.x hE.b dX9_speaks_93 (by decide) (fun c_14 => ?_) (fun c_14 => ?_)
            · refine lv_iconst (v := nI 0) hE.x hE.b dX9_speaks_100 rfl ?_
              exact k101 false _ _ _ (absurd (c_9.symm.trans c_13) n45) hB hl
            · refine lv_iconst (v := nI 1) hE.x hE.b dX9_speaks_96 rfl ?_
              refine lv_goto (tgt := 101) hE.x hE.b dX9_speaks_97 (by decide) ?_
              exact k101 true _ _ _ (absurd (c_9.symm.trans c_13) n45) hB hl
    refine lv_iload hE.x hE.b dX9_speaks_37 (lv_at hl 6 rfl) ?_
    refine lv_aload_n hE.x hE.b dX9_speaks_39 rfl (lv_at hl 2 rfl) ?_
    refine lv_iload_n hE.x hE.b dX9_speaks_40 rfl (lv_at hl 3 rfl) ?_
    refine lv_iconst (v := nI 2) hE.x hE.b dX9_speaks_41 rfl ?_
    refine z_qi hB (z_cV hE hB (c_X9_has l g o a F L A X q 2 (by omega) (by omega)) q4_155 kX9_has ⟨rfl, rfl⟩ ⟨Nat.le_of_ble_eq_true rfl, Nat.le_of_ble_eq_true rfl⟩ 0 rfl rfl rfl hl.1 rfl (Nat.le_of_ble_eq_true rfl) dX9_speaks_42 ⟨Nat.le_of_ble_eq_true rfl, Nat.le_of_ble_eq_true rfl⟩) (fun r_15 w_16 H locs hw hB => ?_)
    obtain ⟨hr9, hw9⟩ := hw
    have hr9 := hr9.symm
    subst hr9
    have hw9 := hw9.symm
    subst hw9
    refine z_lt (tgt := 69) (X := dd.toInt) (Y := (A 0 (46 + 5 * q + 2)).toInt) hE dX9_speaks_45 (by decide) rfl rfl (fun c_17 => ?_) (fun c_17 => ?_)
    · refine lv_iconst (v := nI 0) hE.x hE.b dX9_speaks_69 rfl ?_
      exact k70 false _ _ _ (by unfold spW; symm; simp only [Bool.and_eq_false_imp, decide_eq_true_eq, decide_eq_false_iff_not]; omega) hB hl
    · refine lv_iload hE.x hE.b dX9_speaks_48 (lv_at hl 6 rfl) ?_
      refine lv_aload_n hE.x hE.b dX9_speaks_50 rfl (lv_at hl 2 rfl) ?_
      refine lv_iload_n hE.x hE.b dX9_speaks_51 rfl (lv_at hl 3 rfl) ?_
      refine lv_iconst (v := nI 2) hE.x hE.b dX9_speaks_52 rfl ?_
      refine z_qi hB (z_cV hE hB (c_X9_has l g o a F L A X q 2 (by omega) (by omega)) q4_155 kX9_has ⟨rfl, rfl⟩ ⟨Nat.le_of_ble_eq_true rfl, Nat.le_of_ble_eq_true rfl⟩ 0 rfl rfl rfl hl.1 rfl (Nat.le_of_ble_eq_true rfl) dX9_speaks_53 ⟨Nat.le_of_ble_eq_true rfl, Nat.le_of_ble_eq_true rfl⟩) (fun r_18 w_19 H locs hw hB => ?_)
      obtain ⟨hr9, hw9⟩ := hw
      have hr9 := hr9.symm
      subst hr9
      have hw9 := hw9.symm
      subst hw9
      refine lv_aload_n hE.x hE.b dX9_speaks_56 rfl (lv_at hl 2 rfl) ?_
      refine lv_iload_n hE.x hE.b dX9_speaks_57 rfl (lv_at hl 3 rfl) ?_
      refine z_qi hB (z_cV hE hB (c_X9_speaksDays l g o a F L A X q (by omega)) q4_162 kX9_speaksDays ⟨rfl, rfl⟩ ⟨Nat.le_of_ble_eq_true rfl, Nat.le_of_ble_eq_true rfl⟩ 0 rfl rfl rfl hl.1 rfl (Nat.le_of_ble_eq_true rfl) dX9_speaks_58 ⟨Nat.le_of_ble_eq_true rfl, Nat.le_of_ble_eq_true rfl⟩) (fun r_20 w_21 H locs hw hB => ?_)
      obtain ⟨hr9, hw9⟩ := hw
      have hr9 := hr9.symm
      subst hr9
      have hw9 := hw9.symm
      subst hw9
      refine lv_iadd hE.x hE.b dX9_speaks_61 ?_
      refine z_ge (tgt := 69) (X := dd.toInt) (Y := ((A 0 (46 + 5 * q + 2)) + (spD (A 0) q)).toInt) hE dX9_speaks_62 (by decide) rfl rfl (fun c_22 => ?_) (fun c_22 => ?_)
      · refine lv_iconst (v := nI 0) hE.x hE.b dX9_speaks_69 rfl ?_
        exact k70 false _ _ _ (by unfold spW; symm; simp only [Bool.and_eq_false_imp, decide_eq_true_eq, decide_eq_false_iff_not]; omega) hB hl
      · refine lv_iconst (v := nI 1) hE.x hE.b dX9_speaks_65 rfl ?_
        refine lv_goto (tgt := 70) hE.x hE.b dX9_speaks_66 (by decide) ?_
        exact k70 true _ _ _ (by unfold spW; symm; simp only [Bool.and_eq_true, decide_eq_true_eq]; omega) hB hl
  refine lv_iload hE.x hE.b dX9_speaks_8 (lv_at hl 0 rfl) ?_
  refine lv_iconst (v := nI 3) hE.x hE.b dX9_speaks_10 rfl ?_
  refine lv_icmp_eq (tgt := 20) hE.x hE.b dX9_speaks_11 (by decide) (fun c_23 => ?_) (fun c_23 => ?_)
  · refine lv_aload_n hE.x hE.b dX9_speaks_20 rfl (lv_at hl 1 rfl) ?_
    refine lv_iload_n hE.x hE.b dX9_speaks_21 rfl (lv_at hl 2 rfl) ?_
    refine lv_iconst (v := nI 4) hE.x hE.b dX9_speaks_22 rfl ?_
    refine z_qi hB (z_cV hE hB (c_X9_has l g o a F L A X q 4 (by omega) (by omega)) q4_155 kX9_has ⟨rfl, rfl⟩ ⟨Nat.le_of_ble_eq_true rfl, Nat.le_of_ble_eq_true rfl⟩ 0 rfl rfl rfl hl.1 rfl (Nat.le_of_ble_eq_true rfl) dX9_speaks_23 ⟨Nat.le_of_ble_eq_true rfl, Nat.le_of_ble_eq_true rfl⟩) (fun r_24 w_25 H locs hw hB => ?_)
    obtain ⟨hr9, hw9⟩ := hw
    have hr9 := hr9.symm
    subst hr9
    have hw9 := hw9.symm
    subst hw9
    refine lv_iload_n hE.x hE.b dX9_speaks_26 rfl (lv_at hl 3 rfl) ?_
    refine lv_icmp_ne (tgt := 34) hE.x hE.b dX9_speaks_27 (by decide) (fun c_26 => ?_) (fun c_26 => ?_)
    · refine lv_iconst (v := nI 0) hE.x hE.b dX9_speaks_34 rfl ?_
      exact k35 false _ _ _ (by unfold spH; simp only [c_23, c_26, decide_true, decide_false, Bool.not_true, Bool.not_false, Bool.true_and, Bool.and_true, Bool.false_and, Bool.and_false, Bool.true_or, Bool.or_true, Bool.false_or, Bool.or_false, n54, n45, n35, n53]) hB hl
    · refine lv_iconst (v := nI 1) hE.x hE.b dX9_speaks_30 rfl ?_
      refine lv_goto (tgt := 35) hE.x hE.b dX9_speaks_31 (by decide) ?_
      exact k35 true _ _ _ (by unfold spH; simp only [c_23, c_26, decide_true, decide_false, Bool.not_true, Bool.not_false, Bool.true_and, Bool.and_true, Bool.false_and, Bool.and_false, Bool.true_or, Bool.or_true, Bool.false_or, Bool.or_false, n54, n45, n35, n53]) hB hl
  · refine lv_iload hE.x hE.b dX9_speaks_14 (lv_at hl 0 rfl) ?_
    refine lv_iconst (v := nI 5) hE.x hE.b dX9_speaks_16 rfl ?_
    refine lv_icmp_ne (tgt := 30) hE.x hE.b dX9_speaks_17 (by decide) (fun c_27 => ?_) (fun c_27 => ?_)
    · refine lv_iconst (v := nI 1) hE.x hE.b dX9_speaks_30 rfl ?_
      refine lv_goto (tgt := 35) hE.x hE.b dX9_speaks_31 (by decide) ?_
      exact k35 true _ _ _ (by unfold spH; simp only [c_23, c_27, decide_true, decide_false, Bool.not_true, Bool.not_false, Bool.true_and, Bool.and_true, Bool.false_and, Bool.and_false, Bool.true_or, Bool.or_true, Bool.false_or, Bool.or_false, n54, n45, n35, n53]) hB hl
    · refine lv_aload_n hE.x hE.b dX9_speaks_20 rfl (lv_at hl 1 rfl) ?_
      refine lv_iload_n hE.x hE.b dX9_speaks_21 rfl (lv_at hl 2 rfl) ?_
      refine lv_iconst (v := nI 4) hE.x hE.b dX9_speaks_22 rfl ?_
      refine z_qi hB (z_cV hE hB (c_X9_has l g o a F L A X q 4 (by omega) (by omega)) q4_155 kX9_has ⟨rfl, rfl⟩ ⟨Nat.le_of_ble_eq_true rfl, Nat.le_of_ble_eq_true rfl⟩ 0 rfl rfl rfl hl.1 rfl (Nat.le_of_ble_eq_true rfl) dX9_speaks_23 ⟨Nat.le_of_ble_eq_true rfl, Nat.le_of_ble_eq_true rfl⟩) (fun r_28 w_29 H locs hw hB => ?_)
      obtain ⟨hr9, hw9⟩ := hw
      have hr9 := hr9.symm
      subst hr9
      have hw9 := hw9.symm
      subst hw9
      refine lv_iload_n hE.x hE.b dX9_speaks_26 rfl (lv_at hl 3 rfl) ?_
      refine lv_icmp_ne (tgt := 34) hE.x hE.b dX9_speaks_27 (by decide) (fun c_30 => ?_) (fun c_30 => ?_)
      · refine lv_iconst (v := nI 0) hE.x hE.b dX9_speaks_34 rfl ?_
        exact k35 false _ _ _ (by unfold spH; simp only [c_23, c_27, c_30, decide_true, decide_false, Bool.not_true, Bool.not_false, Bool.true_and, Bool.and_true, Bool.false_and, Bool.and_false, Bool.true_or, Bool.or_true, Bool.false_or, Bool.or_false, n54, n45, n35, n53]) hB hl
      · refine lv_iconst (v := nI 1) hE.x hE.b dX9_speaks_30 rfl ?_
        refine lv_goto (tgt := 35) hE.x hE.b dX9_speaks_31 (by decide) ?_
        exact k35 true _ _ _ (by unfold spH; simp only [c_23, c_27, c_30, decide_true, decide_false, Bool.not_true, Bool.not_false, Bool.true_and, Bool.and_true, Bool.false_and, Bool.and_false, Bool.true_or, Bool.or_true, Bool.false_or, Bool.or_false, n54, n45, n35, n53]) hB hl

set_option maxHeartbeats 4000000 in
set_option maxRecDepth 100000 in
theorem c_X9_of (l : Launch) (g : zG) (o : Nat) (a : Nat → Nat) (F : Nat → Int32) (L : Nat → Int64) (A : Nat → Nat → Int32) (X : va_W) (T : Nat) (C : Nat) (V : Nat) (U : Nat) (x : Int32) (w : Int32) (hn : nOK (A 0) T C V U) : Met l yX9_of (Cond.code yX9_of cX9_of 3 (some .int) :: TBL) { frames := 2, cells := 0, slots := 0, locals := 46 } (zPc [.ref o, .int x, .int w] g (mW g o a F L A ++ X)) (zQi g (fun r ws => r = (ofR (A 0) C x w) ∧ ws = mW g o a F L (chk (ofOK C x w) A) ++ X)) 0 0 (zA (gz g)) := by
  refine z_start (by decide +kernel) rfl (Nat.le_of_ble_eq_true rfl) ?_
  intro p e s m args below meth c ls hE hr hnm hB hl
  have hl : lv_has ls 3 [(0, .ref o), (1, .int x), (2, .int w)] := hl
  revert hB
  generalize s.heap = H
  generalize ([] : List Loc) = locs
  intro hB
  have hT := hn.T
  have hT6 := hn.T6
  have hC := hn.C
  have hC8 := hn.C8
  have hV := hn.V
  have hV8 := hn.V8
  have hU := hn.U
  have hU8 := hn.U8
  refine lv_aload_n hE.x hE.b dX9_of_0 rfl (lv_at hl 0 rfl) ?_
  refine lv_iload_n hE.x hE.b dX9_of_1 rfl (lv_at hl 1 rfl) ?_
  refine z_qi hB (z_cV hE hB (c_X9_isClause l g o a F L A X C x hC (by omega)) q4_138 kX9_isClause ⟨rfl, rfl⟩ ⟨Nat.le_of_ble_eq_true rfl, Nat.le_of_ble_eq_true rfl⟩ 0 rfl rfl rfl hl.1 rfl (Nat.le_of_ble_eq_true rfl) dX9_of_2 ⟨Nat.le_of_ble_eq_true rfl, Nat.le_of_ble_eq_true rfl⟩) (fun r_1 w_2 H locs hw hB => ?_)
  obtain ⟨hr9, hw9⟩ := hw
  have hr9 := hr9.symm
  subst hr9
  have hw9 := hw9.symm
  subst hw9
  refine z_bf (b := (pTown C x)) (tgt := 20) hE dX9_of_5 (by decide) (fun c_3 => ?_) (fun c_3 => ?_)
  · refine lv_aload_n hE.x hE.b dX9_of_20 rfl (lv_at hl 0 rfl) ?_
    refine lv_bipush (v := (-2)) hE.x hE.b dX9_of_21 rfl ?_
    refine z_qi hB (z_cV hE hB (c_X9_bad l g o a F L A X (-2)) q4_91 kX9_bad ⟨rfl, rfl⟩ ⟨Nat.le_of_ble_eq_true rfl, Nat.le_of_ble_eq_true rfl⟩ 0 rfl rfl rfl hl.1 rfl (Nat.le_of_ble_eq_true rfl) dX9_of_23 ⟨Nat.le_of_ble_eq_true rfl, Nat.le_of_ble_eq_true rfl⟩) (fun r_4 w_5 H locs hw hB => ?_)
    obtain ⟨hr9, hw9⟩ := hw
    have hr9 := hr9.symm
    subst hr9
    have hw9 := hw9.symm
    subst hw9
    exact z_iret (v := (-2)) (ws := mW g o a F L (bump 0 A) ++ X) hE hB hr (⟨by unfold ofR ofOK; simp [c_3], by unfold chk ofOK; simp [c_3]⟩) dX9_of_26
  · refine lv_iload_n hE.x hE.b dX9_of_8 rfl (lv_at hl 2 rfl) ?_
    refine lv_i2l hE.x hE.b dX9_of_9 rfl ?_
    refine lv_lconst (v := lN 0) hE.x hE.b dX9_of_10 rfl ?_
    refine lv_ldc2 (v := lN 6) hE.x hE.b hE.o (hE.t _ q4_154) dX9_of_11 ?_
    refine z_qi hB (z_cS hE hB (c_X9_in l g (w.toInt64) (lN 0) (lN 6) w.toInt 0 6 (mW g o a F L A ++ X) (Int32.toInt_toInt64 _) (by decide) (by decide)) q4_88 kX9_in ⟨rfl, rfl⟩ ⟨Nat.le_of_ble_eq_true rfl, Nat.le_of_ble_eq_true rfl⟩ rfl hl.1 rfl (Nat.le_of_ble_eq_true rfl) dX9_of_14 ⟨Nat.le_of_ble_eq_true rfl, Nat.le_of_ble_eq_true rfl⟩) (fun r_6 w_7 H locs hw hB => ?_)
    obtain ⟨hr9, hw9⟩ := hw
    have hr9 := hr9.symm
    subst hr9
    have hw9 := hw9.symm
    subst hw9
    refine z_bt (b := (inZ 0 6 w.toInt)) (tgt := 27) hE dX9_of_17 (by decide) (fun c_8 => ?_) (fun c_8 => ?_)
    · obtain ⟨q, hq, rfl⟩ := pTown_nI c_3 (by omega)
      refine lv_iload_n hE.x hE.b dX9_of_27 rfl (lv_at hl 2 rfl) ?_
      refine lv_iconst (v := nI 5) hE.x hE.b dX9_of_28 rfl ?_
      refine lv_icmp_ne (tgt := 52) hE.x hE.b dX9_of_29 (by decide) (fun c_9 => ?_) (fun c_9 => ?_)
      · refine lv_iload_n hE.x hE.b dX9_of_52 rfl (lv_at hl 2 rfl) ?_
        refine lv_bipush (v := (nI 6)) hE.x hE.b dX9_of_53 rfl ?_
        refine lv_icmp_ne (tgt := 66) hE.x hE.b dX9_of_55 (by decide) (fun c_10 => ?_) (fun c_10 => ?_)
        · obtain ⟨wn, hwn, rfl⟩ := pIn_nI (hi := 6) c_8 (by omega)
          refine lv_aload_n hE.x hE.b dX9_of_66 rfl (lv_at hl 0 rfl) ?_
          refine lv_iload_n hE.x hE.b dX9_of_67 rfl (lv_at hl 1 rfl) ?_
          refine lv_iload_n hE.x hE.b dX9_of_68 rfl (lv_at hl 2 rfl) ?_
          refine z_qi hB (z_cV hE hB (c_X9_has l g o a F L A X q wn (by omega) (by have h5 : wn ≠ 5 := fun h => c_9 (by rw [h]); have h6 : wn ≠ 6 := fun h => c_10 (by rw [h]); omega)) q4_155 kX9_has ⟨rfl, rfl⟩ ⟨Nat.le_of_ble_eq_true rfl, Nat.le_of_ble_eq_true rfl⟩ 0 rfl rfl rfl hl.1 rfl (Nat.le_of_ble_eq_true rfl) dX9_of_69 ⟨Nat.le_of_ble_eq_true rfl, Nat.le_of_ble_eq_true rfl⟩) (fun r_11 w_12 H locs hw hB => ?_)
          obtain ⟨hr9, hw9⟩ := hw
          have hr9 := hr9.symm
          subst hr9
          have hw9 := hw9.symm
          subst hw9
          exact z_iret (v := (A 0 (46 + 5 * q + wn))) (ws := mW g o a F L A ++ X) hE hB hr (⟨by unfold ofR ofOK pIn; rw [c_3, c_8, Bool.and_self, if_pos rfl, if_neg c_9, if_neg c_10, rcl (show q < 2 ^ 31 by omega), rcl (show wn < 2 ^ 31 by omega)], by unfold chk ofOK pIn; rw [c_3, c_8, Bool.and_self, if_pos rfl]⟩) dX9_of_72
        · refine lv_aload_n hE.x hE.b dX9_of_58 rfl (lv_at hl 0 rfl) ?_
          refine lv_iload_n hE.x hE.b dX9_of_59 rfl (lv_at hl 1 rfl) ?_
          refine z_qi hB (z_cV hE hB (c_X9_speaksDays l g o a F L A X q (by omega)) q4_162 kX9_speaksDays ⟨rfl, rfl⟩ ⟨Nat.le_of_ble_eq_true rfl, Nat.le_of_ble_eq_true rfl⟩ 0 rfl rfl rfl hl.1 rfl (Nat.le_of_ble_eq_true rfl) dX9_of_60 ⟨Nat.le_of_ble_eq_true rfl, Nat.le_of_ble_eq_true rfl⟩) (fun r_13 w_14 H locs hw hB => ?_)
          obtain ⟨hr9, hw9⟩ := hw
          have hr9 := hr9.symm
          subst hr9
          have hw9 := hw9.symm
          subst hw9
          refine lv_goto (tgt := 72) hE.x hE.b dX9_of_63 (by decide) ?_
          exact z_iret (v := (spD (A 0) q)) (ws := mW g o a F L A ++ X) hE hB hr (⟨by unfold ofR ofOK pIn; rw [c_3, c_8, Bool.and_self, if_pos rfl, if_neg c_9, if_pos c_10, rcl (show q < 2 ^ 31 by omega)], by unfold chk ofOK pIn; rw [c_3, c_8, Bool.and_self, if_pos rfl]⟩) dX9_of_72
      · refine lv_aload_n hE.x hE.b dX9_of_32 rfl (lv_at hl 0 rfl) ?_
        refine lv_iload_n hE.x hE.b dX9_of_33 rfl (lv_at hl 1 rfl) ?_
        refine lv_iconst (v := nI 0) hE.x hE.b dX9_of_34 rfl ?_
        refine z_qi hB (z_cV hE hB (c_X9_has l g o a F L A X q 0 (by omega) (by omega)) q4_155 kX9_has ⟨rfl, rfl⟩ ⟨Nat.le_of_ble_eq_true rfl, Nat.le_of_ble_eq_true rfl⟩ 0 rfl rfl rfl hl.1 rfl (Nat.le_of_ble_eq_true rfl) dX9_of_35 ⟨Nat.le_of_ble_eq_true rfl, Nat.le_of_ble_eq_true rfl⟩) (fun r_15 w_16 H locs hw hB => ?_)
        obtain ⟨hr9, hw9⟩ := hw
        have hr9 := hr9.symm
        subst hr9
        have hw9 := hw9.symm
        subst hw9
        refine z_qi hB (z_cS hE hB (c_X9_allows l g (A 0 (46 + 5 * q + 0)) (mW g o a F L A ++ X)) q4_159 kX9_allows ⟨rfl, rfl⟩ ⟨Nat.le_of_ble_eq_true rfl, Nat.le_of_ble_eq_true rfl⟩ rfl hl.1 rfl (Nat.le_of_ble_eq_true rfl) dX9_of_38 ⟨Nat.le_of_ble_eq_true rfl, Nat.le_of_ble_eq_true rfl⟩) (fun r_17 w_18 H locs hw hB => ?_)
        obtain ⟨hr9, hw9⟩ := hw
        have hr9 := hr9.symm
        subst hr9
        have hw9 := hw9.symm
        subst hw9
        refine z_bf (b := (alw (A 0 (46 + 5 * q + 0)))) (tgt := 48) hE dX9_of_41 (by decide) (fun c_19 => ?_) (fun c_19 => ?_)
        · refine lv_iconst (v := nI 0) hE.x hE.b dX9_of_48 rfl ?_
          refine lv_goto (tgt := 72) hE.x hE.b dX9_of_49 (by decide) ?_
          exact z_iret (v := (nI 0)) (ws := mW g o a F L A ++ X) hE hB hr (⟨by unfold ofR ofOK pIn; rw [c_3, c_8, Bool.and_self, if_pos rfl, if_pos c_9, rcl (show q < 2 ^ 31 by omega), c_19]; rfl, by unfold chk ofOK pIn; rw [c_3, c_8, Bool.and_self, if_pos rfl]⟩) dX9_of_72
        · refine lv_iconst (v := nI 1) hE.x hE.b dX9_of_44 rfl ?_
          refine lv_goto (tgt := 72) hE.x hE.b dX9_of_45 (by decide) ?_
          exact z_iret (v := (nI 1)) (ws := mW g o a F L A ++ X) hE hB hr (⟨by unfold ofR ofOK pIn; rw [c_3, c_8, Bool.and_self, if_pos rfl, if_pos c_9, rcl (show q < 2 ^ 31 by omega), c_19]; rfl, by unfold chk ofOK pIn; rw [c_3, c_8, Bool.and_self, if_pos rfl]⟩) dX9_of_72
    · refine lv_aload_n hE.x hE.b dX9_of_20 rfl (lv_at hl 0 rfl) ?_
      refine lv_bipush (v := (-2)) hE.x hE.b dX9_of_21 rfl ?_
      refine z_qi hB (z_cV hE hB (c_X9_bad l g o a F L A X (-2)) q4_91 kX9_bad ⟨rfl, rfl⟩ ⟨Nat.le_of_ble_eq_true rfl, Nat.le_of_ble_eq_true rfl⟩ 0 rfl rfl rfl hl.1 rfl (Nat.le_of_ble_eq_true rfl) dX9_of_23 ⟨Nat.le_of_ble_eq_true rfl, Nat.le_of_ble_eq_true rfl⟩) (fun r_20 w_21 H locs hw hB => ?_)
      obtain ⟨hr9, hw9⟩ := hw
      have hr9 := hr9.symm
      subst hr9
      have hw9 := hw9.symm
      subst hw9
      exact z_iret (v := (-2)) (ws := mW g o a F L (bump 0 A) ++ X) hE hB hr (⟨by unfold ofR ofOK; simp [c_3, c_8], by unfold chk ofOK; simp [c_3, c_8]⟩) dX9_of_26

set_option maxHeartbeats 4000000 in
set_option maxRecDepth 100000 in
theorem c_X9_hear (l : Launch) (g : zG) (o : Nat) (a : Nat → Nat) (F : Nat → Int32) (L : Nat → Int64) (A : Nat → Nat → Int32) (X : va_W) (C : Nat) (tw : Int32) (ac : Int32) (dd : Int32) (dy : Int32) (sh : Int32) (S : Nat) (hC : A 0 1 = nI C) (hC8 : C ≤ 8) (hS : S < 256) : Met l yX9_hear (Cond.code yX9_hear cX9_hear 8 none :: TBL) { frames := 3, cells := 0, slots := 0, locals := 74 } (zPc [.ref o, .int tw, .int ac, .int dd, .int dy, .int sh, .int (nI S)] g (mW g o a F L A ++ X)) (zQv g (fun ws => ∃ (F1 : Nat → Int32), ws = mW g o a F1 L A ++ X ∧ F1 16 = F 16 ∧ F1 6 = oI (hF (hP (A 0) S tw ac dd dy sh) C) ∧ F1 7 = oI (hL (hP (A 0) S tw ac dd dy sh) C) ∧ F1 8 = oI (hF (hA (A 0) (hP (A 0) S tw ac dd dy sh)) C) ∧ F1 9 = oI (hF (hB' (A 0) (hP (A 0) S tw ac dd dy sh)) C) ∧ F1 10 = nI (cn (hA (A 0) (hP (A 0) S tw ac dd dy sh)) C) ∧ F1 11 = nI (cn (hB' (A 0) (hP (A 0) S tw ac dd dy sh)) C))) 0 0 (zA (gz g)) := by
  refine z_start (by decide +kernel) rfl (Nat.le_of_ble_eq_true rfl) ?_
  intro p e s m args below meth c ls hE hr hnm hB hl
  have hl : lv_has ls 8 [(0, .ref o), (1, .int tw), (2, .int ac), (3, .int dd), (4, .int dy), (5, .int sh), (6, .int (nI S))] := hl
  revert hB
  generalize s.heap = H
  generalize ([] : List Loc) = locs
  intro hB
  refine lv_aload_n hE.x hE.b dX9_hear_0 rfl (lv_at hl 0 rfl) ?_
  refine lv_iconst (v := (-1)) hE.x hE.b dX9_hear_1 rfl ?_
  refine z_put (v := .int (-1)) (ty := .int) (ws' := mW g o a (upd F 6 (-1)) L A ++ X) hE hB inX9 tyX9 tyX9_ok nmX9 0 rfl rfl 6 (by decide) q4_7 (fun _ h9 => h9) rfl (by decide +kernel) rfl rfl (Nat.le_of_ble_eq_true rfl) rfl dX9_hear_2 (fun H locs hB => ?_)
  refine lv_aload_n hE.x hE.b dX9_hear_5 rfl (lv_at hl 0 rfl) ?_
  refine lv_iconst (v := (-1)) hE.x hE.b dX9_hear_6 rfl ?_
  refine z_put (v := .int (-1)) (ty := .int) (ws' := mW g o a (upd (upd F 6 (-1)) 7 (-1)) L A ++ X) hE hB inX9 tyX9 tyX9_ok nmX9 0 rfl rfl 7 (by decide) q4_8 (fun _ h9 => h9) rfl (by decide +kernel) rfl rfl (Nat.le_of_ble_eq_true rfl) rfl dX9_hear_7 (fun H locs hB => ?_)
  refine lv_aload_n hE.x hE.b dX9_hear_10 rfl (lv_at hl 0 rfl) ?_
  refine lv_iconst (v := (-1)) hE.x hE.b dX9_hear_11 rfl ?_
  refine z_put (v := .int (-1)) (ty := .int) (ws' := mW g o a (upd (upd (upd F 6 (-1)) 7 (-1)) 8 (-1)) L A ++ X) hE hB inX9 tyX9 tyX9_ok nmX9 0 rfl rfl 8 (by decide) q4_9 (fun _ h9 => h9) rfl (by decide +kernel) rfl rfl (Nat.le_of_ble_eq_true rfl) rfl dX9_hear_12 (fun H locs hB => ?_)
  refine lv_aload_n hE.x hE.b dX9_hear_15 rfl (lv_at hl 0 rfl) ?_
  refine lv_iconst (v := (-1)) hE.x hE.b dX9_hear_16 rfl ?_
  refine z_put (v := .int (-1)) (ty := .int) (ws' := mW g o a (upd (upd (upd (upd F 6 (-1)) 7 (-1)) 8 (-1)) 9 (-1)) L A ++ X) hE hB inX9 tyX9 tyX9_ok nmX9 0 rfl rfl 9 (by decide) q4_10 (fun _ h9 => h9) rfl (by decide +kernel) rfl rfl (Nat.le_of_ble_eq_true rfl) rfl dX9_hear_17 (fun H locs hB => ?_)
  refine lv_aload_n hE.x hE.b dX9_hear_20 rfl (lv_at hl 0 rfl) ?_
  refine lv_iconst (v := nI 0) hE.x hE.b dX9_hear_21 rfl ?_
  refine z_put (v := .int (nI 0)) (ty := .int) (ws' := mW g o a (upd (upd (upd (upd (upd F 6 (-1)) 7 (-1)) 8 (-1)) 9 (-1)) 10 (nI 0)) L A ++ X) hE hB inX9 tyX9 tyX9_ok nmX9 0 rfl rfl 10 (by decide) q4_11 (fun _ h9 => h9) rfl (by decide +kernel) rfl rfl (Nat.le_of_ble_eq_true rfl) rfl dX9_hear_22 (fun H locs hB => ?_)
  refine lv_aload_n hE.x hE.b dX9_hear_25 rfl (lv_at hl 0 rfl) ?_
  refine lv_iconst (v := nI 0) hE.x hE.b dX9_hear_26 rfl ?_
  refine z_put (v := .int (nI 0)) (ty := .int) (ws' := mW g o a (upd (upd (upd (upd (upd (upd F 6 (-1)) 7 (-1)) 8 (-1)) 9 (-1)) 10 (nI 0)) 11 (nI 0)) L A ++ X) hE hB inX9 tyX9 tyX9_ok nmX9 0 rfl rfl 11 (by decide) q4_12 (fun _ h9 => h9) rfl (by decide +kernel) rfl rfl (Nat.le_of_ble_eq_true rfl) rfl dX9_hear_27 (fun H locs hB => ?_)
  refine lv_iconst (v := nI 0) hE.x hE.b dX9_hear_30 rfl ?_
  refine lv_istore (lv' := [(7, .int (nI 0)), (0, .ref o), (1, .int tw), (2, .int ac), (3, .int dd), (4, .int dy), (5, .int sh), (6, .int (nI S))]) hE.x hE.b dX9_hear_31 hl (by decide) rfl (fun ls hl => ?_)
  have k33 : ∀ (fu : Nat) (i : Nat) (F1 : Nat → Int32) (H : Heap) (locs : List Loc) (ls : Array Slot), C - i < fu → (i ≤ C) → (F1 16 = F 16) → (F1 6 = oI (hF (hP (A 0) S tw ac dd dy sh) i)) → (F1 7 = oI (hL (hP (A 0) S tw ac dd dy sh) i)) → (F1 8 = oI (hF (hA (A 0) (hP (A 0) S tw ac dd dy sh)) i)) → (F1 9 = oI (hF (hB' (A 0) (hP (A 0) S tw ac dd dy sh)) i)) → (F1 10 = nI (cn (hA (A 0) (hP (A 0) S tw ac dd dy sh)) i)) → (F1 11 = nI (cn (hB' (A 0) (hP (A 0) S tw ac dd dy sh)) i)) → zB g s (mW g o a F1 L A ++ X) H locs → lv_has ls 8 [(7, .int (nI i)), (0, .ref o), (1, .int tw), (2, .int ac), (3, .int dd), (4, .int dy), (5, .int sh), (6, .int (nI S))] → W p l e { frames := 3, cells := 0, slots := 0, locals := 74 } s m args below meth c H locs 0 0 (MQ below (zQv g (fun ws => ∃ (F1 : Nat → Int32), ws = mW g o a F1 L A ++ X ∧ F1 16 = F 16 ∧ F1 6 = oI (hF (hP (A 0) S tw ac dd dy sh) C) ∧ F1 7 = oI (hL (hP (A 0) S tw ac dd dy sh) C) ∧ F1 8 = oI (hF (hA (A 0) (hP (A 0) S tw ac dd dy sh)) C) ∧ F1 9 = oI (hF (hB' (A 0) (hP (A 0) S tw ac dd dy sh)) C) ∧ F1 10 = nI (cn (hA (A 0) (hP (A 0) S tw ac dd dy sh)) C) ∧ F1 11 = nI (cn (hB' (A 0) (hP (A 0) S tw ac dd dy sh)) C))) args s 0 0 (zA (gz g))) (F0 m 33 ls []) := by
    intro fu
    induction fu with
    | zero => intro i F1 H locs ls hfu hi h16 h6 h7 h8 h9 h10 h11 hB hl; exact absurd hfu (Nat.not_lt_zero _)
    | succ fu ih33 =>
      intro i F1 H locs ls hfu hi h16 h6 h7 h8 h9 h10 h11 hB hl
      refine lv_iload hE.x hE.b dX9_hear_33 (lv_at hl 0 rfl) ?_
      refine lv_aload_n hE.x hE.b dX9_hear_35 rfl (lv_at hl 1 rfl) ?_
      refine z_qi hB (z_cV hE hB (c_X9_clauses l g o a F1 L A X C hC) q4_123 kX9_clauses ⟨rfl, rfl⟩ ⟨Nat.le_of_ble_eq_true rfl, Nat.le_of_ble_eq_true rfl⟩ 0 rfl rfl rfl hl.1 rfl (Nat.le_of_ble_eq_true rfl) dX9_hear_36 ⟨Nat.le_of_ble_eq_true rfl, Nat.le_of_ble_eq_true rfl⟩) (fun r_1 w_2 H locs hw hB => ?_)
      obtain ⟨hr9, hw9⟩ := hw
      have hr9 := hr9.symm
      subst hr9
      have hw9 := hw9.symm
      subst hw9
      refine z_ge (tgt := 179) (X := ((i : Nat) : Int)) (Y := ((C : Nat) : Int)) hE dX9_hear_39 (by decide) (nI_toInt (n := i) (by omega)) (nI_toInt (n := C) (by omega)) (fun c_3 => ?_) (fun c_3 => ?_)
      · exact z_vret (ws := mW g o a F1 L A ++ X) hE hB hr (by rw [show i = C by omega] at h6 h7 h8 h9 h10 h11; exact ⟨F1, rfl, h16, h6, h7, h8, h9, h10, h11⟩) dX9_hear_179
      · refine lv_iload hE.x hE.b dX9_hear_42 (lv_at hl 7 rfl) ?_
        refine lv_iload hE.x hE.b dX9_hear_44 (lv_at hl 0 rfl) ?_
        refine lv_ishr hE.x hE.b dX9_hear_46 ?_
        refine z_top (y := (nI (S / 2 ^ i))) (shr_nI (by omega) (by omega)) ?_
        refine lv_iconst (v := nI 1) hE.x hE.b dX9_hear_47 rfl ?_
        refine lv_iand hE.x hE.b dX9_hear_48 ?_
        refine z_top (y := (nI (S / 2 ^ i % 2))) (and1_nI (by have := Nat.div_le_self S (2 ^ i); omega)) ?_
        have hd31 : S / 2 ^ i % 2 < 2 := Nat.mod_lt _ (by omega)
        refine z_ne0 (tgt := 173) (X := (((S / 2 ^ i % 2) : Nat) : Int)) hE dX9_hear_49 (by decide) (nI_toInt (n := (S / 2 ^ i % 2)) (by omega)) (fun c_4 => ?_) (fun c_4 => ?_)
        · have hp : (hP (A 0) S tw ac dd dy sh) i = false := by unfold hP; rw [decide_eq_false (by omega)]; rfl
          have hpa : hA (A 0) (hP (A 0) S tw ac dd dy sh) i = false := by unfold hA; rw [hp]; rfl
          have hpb : hB' (A 0) (hP (A 0) S tw ac dd dy sh) i = false := by unfold hB'; rw [hp]; rfl
          refine lv_iinc (v := (nI (i + 1))) (lv' := [(7, .int (nI (i + 1))), (0, .ref o), (1, .int tw), (2, .int ac), (3, .int dd), (4, .int dy), (5, .int sh), (6, .int (nI S))]) hE.x hE.b dX9_hear_173 hl (k := 0) rfl (nI_add _ _) (by decide) rfl (fun ls hl => ?_)
          refine lv_goto (tgt := 33) hE.x hE.b dX9_hear_176 (by decide) ?_
          exact ih33 (i + 1) F1 _ _ _ (by omega) (by omega) (by show F1 16 = _; exact h16) (by rw [hF_f hp]; exact h6) (by rw [hL_f hp]; exact h7) (by rw [hF_f hpa]; exact h8) (by rw [hF_f hpb]; exact h9) (by rw [cn_f hpa]; exact h10) (by rw [cn_f hpb]; exact h11) hB hl
        · refine lv_aload_n hE.x hE.b dX9_hear_52 rfl (lv_at hl 1 rfl) ?_
          refine lv_iload hE.x hE.b dX9_hear_53 (lv_at hl 0 rfl) ?_
          refine lv_iload_n hE.x hE.b dX9_hear_55 rfl (lv_at hl 2 rfl) ?_
          refine lv_iload_n hE.x hE.b dX9_hear_56 rfl (lv_at hl 3 rfl) ?_
          refine lv_iload_n hE.x hE.b dX9_hear_57 rfl (lv_at hl 4 rfl) ?_
          refine lv_iload hE.x hE.b dX9_hear_58 (lv_at hl 5 rfl) ?_
          refine lv_iload hE.x hE.b dX9_hear_60 (lv_at hl 6 rfl) ?_
          refine z_qi hB (z_cV hE hB (c_X9_speaks l g o a F1 L A X i tw ac dd dy sh (by omega)) q4_185 kX9_speaks ⟨rfl, rfl⟩ ⟨Nat.le_of_ble_eq_true rfl, Nat.le_of_ble_eq_true rfl⟩ 0 rfl rfl rfl hl.1 rfl (Nat.le_of_ble_eq_true rfl) dX9_hear_62 ⟨Nat.le_of_ble_eq_true rfl, Nat.le_of_ble_eq_true rfl⟩) (fun r_5 w_6 H locs hw hB => ?_)
          obtain ⟨hr9, hw9⟩ := hw
          have hr9 := hr9.symm
          subst hr9
          have hw9 := hw9.symm
          subst hw9
          refine z_bf (b := (spk (A 0) i tw ac dd dy sh)) (tgt := 173) hE dX9_hear_65 (by decide) (fun c_7 => ?_) (fun c_7 => ?_)
          · have hp : (hP (A 0) S tw ac dd dy sh) i = false := by unfold hP; rw [c_7]; exact Bool.and_false _
            have hpa : hA (A 0) (hP (A 0) S tw ac dd dy sh) i = false := by unfold hA; rw [hp]; rfl
            have hpb : hB' (A 0) (hP (A 0) S tw ac dd dy sh) i = false := by unfold hB'; rw [hp]; rfl
            refine lv_iinc (v := (nI (i + 1))) (lv' := [(7, .int (nI (i + 1))), (0, .ref o), (1, .int tw), (2, .int ac), (3, .int dd), (4, .int dy), (5, .int sh), (6, .int (nI S))]) hE.x hE.b dX9_hear_173 hl (k := 0) rfl (nI_add _ _) (by decide) rfl (fun ls hl => ?_)
            refine lv_goto (tgt := 33) hE.x hE.b dX9_hear_176 (by decide) ?_
            exact ih33 (i + 1) F1 _ _ _ (by omega) (by omega) (by show F1 16 = _; exact h16) (by rw [hF_f hp]; exact h6) (by rw [hL_f hp]; exact h7) (by rw [hF_f hpa]; exact h8) (by rw [hF_f hpb]; exact h9) (by rw [cn_f hpa]; exact h10) (by rw [cn_f hpb]; exact h11) hB hl
          · have hp : (hP (A 0) S tw ac dd dy sh) i = true := by unfold hP; rw [c_7, decide_eq_true (by omega)]; rfl
            refine lv_aload_n hE.x hE.b dX9_hear_68 rfl (lv_at hl 1 rfl) ?_
            refine lv_aload_n hE.x hE.b dX9_hear_69 rfl (lv_at hl 1 rfl) ?_
            refine z_get (v := .int (F1 6)) hE hB inX9 0 rfl rfl 6 (by decide) q4_7 (fun _ h9 => h9) rfl dX9_hear_70 ?_
            refine lv_iconst (v := (-1)) hE.x hE.b dX9_hear_73 rfl ?_
            refine lv_icmp_ne (tgt := 82) hE.x hE.b dX9_hear_74 (by decide) (fun c_8 => ?_) (fun c_8 => ?_)
            · refine lv_aload_n hE.x hE.b dX9_hear_82 rfl (lv_at hl 1 rfl) ?_
              refine z_get (v := .int (F1 6)) hE hB inX9 0 rfl rfl 6 (by decide) q4_7 (fun _ h9 => h9) rfl dX9_hear_83 ?_
              refine z_put (v := .int (F1 6)) (ty := .int) (ws' := mW g o a (upd F1 6 (F1 6)) L A ++ X) hE hB inX9 tyX9 tyX9_ok nmX9 0 rfl rfl 6 (by decide) q4_7 (fun _ h9 => h9) rfl (by decide +kernel) rfl rfl (Nat.le_of_ble_eq_true rfl) rfl dX9_hear_86 (fun H locs hB => ?_)
              refine lv_aload_n hE.x hE.b dX9_hear_89 rfl (lv_at hl 1 rfl) ?_
              refine lv_iload hE.x hE.b dX9_hear_90 (lv_at hl 0 rfl) ?_
              refine z_put (v := .int (nI i)) (ty := .int) (ws' := mW g o a (upd (upd F1 6 (F1 6)) 7 (nI i)) L A ++ X) hE hB inX9 tyX9 tyX9_ok nmX9 0 rfl rfl 7 (by decide) q4_8 (fun _ h9 => h9) rfl (by decide +kernel) rfl rfl (Nat.le_of_ble_eq_true rfl) rfl dX9_hear_92 (fun H locs hB => ?_)
              refine lv_aload_n hE.x hE.b dX9_hear_95 rfl (lv_at hl 1 rfl) ?_
              refine lv_iload hE.x hE.b dX9_hear_96 (lv_at hl 0 rfl) ?_
              refine lv_iconst (v := nI 0) hE.x hE.b dX9_hear_98 rfl ?_
              refine z_qi hB (z_cV hE hB (c_X9_has l g o a (upd (upd F1 6 (F1 6)) 7 (nI i)) L A X i 0 (by omega) (by omega)) q4_155 kX9_has ⟨rfl, rfl⟩ ⟨Nat.le_of_ble_eq_true rfl, Nat.le_of_ble_eq_true rfl⟩ 0 rfl rfl rfl hl.1 rfl (Nat.le_of_ble_eq_true rfl) dX9_hear_99 ⟨Nat.le_of_ble_eq_true rfl, Nat.le_of_ble_eq_true rfl⟩) (fun r_9 w_10 H locs hw hB => ?_)
              obtain ⟨hr9, hw9⟩ := hw
              have hr9 := hr9.symm
              subst hr9
              have hw9 := hw9.symm
              subst hw9
              refine z_qi hB (z_cS hE hB (c_X9_allows l g (A 0 (46 + 5 * i + 0)) (mW g o a (upd (upd F1 6 (F1 6)) 7 (nI i)) L A ++ X)) q4_159 kX9_allows ⟨rfl, rfl⟩ ⟨Nat.le_of_ble_eq_true rfl, Nat.le_of_ble_eq_true rfl⟩ rfl hl.1 rfl (Nat.le_of_ble_eq_true rfl) dX9_hear_102 ⟨Nat.le_of_ble_eq_true rfl, Nat.le_of_ble_eq_true rfl⟩) (fun r_11 w_12 H locs hw hB => ?_)
              obtain ⟨hr9, hw9⟩ := hw
              have hr9 := hr9.symm
              subst hr9
              have hw9 := hw9.symm
              subst hw9
              refine z_bf (b := (alw (A 0 (46 + 5 * i + 0)))) (tgt := 142) hE dX9_hear_105 (by decide) (fun c_13 => ?_) (fun c_13 => ?_)
              · have hpa : hA (A 0) (hP (A 0) S tw ac dd dy sh) i = false := by unfold hA; rw [c_13]; exact Bool.and_false _
                have hpb : hB' (A 0) (hP (A 0) S tw ac dd dy sh) i = true := by unfold hB'; rw [c_13, hp]; rfl
                refine lv_aload_n hE.x hE.b dX9_hear_142 rfl (lv_at hl 1 rfl) ?_
                refine lv_aload_n hE.x hE.b dX9_hear_143 rfl (lv_at hl 1 rfl) ?_
                refine z_get (v := .int (F1 9)) hE hB inX9 0 rfl rfl 9 (by decide) q4_10 (fun _ h9 => h9) rfl dX9_hear_144 ?_
                refine lv_iconst (v := (-1)) hE.x hE.b dX9_hear_147 rfl ?_
                refine lv_icmp_ne (tgt := 156) hE.x hE.b dX9_hear_148 (by decide) (fun c_14 => ?_) (fun c_14 => ?_)
                · refine lv_aload_n hE.x hE.b dX9_hear_156 rfl (lv_at hl 1 rfl) ?_
                  refine z_get (v := .int (F1 9)) hE hB inX9 0 rfl rfl 9 (by decide) q4_10 (fun _ h9 => h9) rfl dX9_hear_157 ?_
                  refine z_put (v := .int (F1 9)) (ty := .int) (ws' := mW g o a (upd (upd (upd F1 6 (F1 6)) 7 (nI i)) 9 (F1 9)) L A ++ X) hE hB inX9 tyX9 tyX9_ok nmX9 0 rfl rfl 9 (by decide) q4_10 (fun _ h9 => h9) rfl (by decide +kernel) rfl rfl (Nat.le_of_ble_eq_true rfl) rfl dX9_hear_160 (fun H locs hB => ?_)
                  refine lv_aload_n hE.x hE.b dX9_hear_163 rfl (lv_at hl 1 rfl) ?_
                  refine lv_dup hE.x hE.b dX9_hear_164 rfl ?_
                  refine z_get (v := .int (F1 11)) hE hB inX9 0 rfl rfl 11 (by decide) q4_12 (fun _ h9 => h9) rfl dX9_hear_165 ?_
                  refine lv_iconst (v := nI 1) hE.x hE.b dX9_hear_168 rfl ?_
                  refine lv_iadd hE.x hE.b dX9_hear_169 ?_
                  refine z_put (v := .int ((F1 11) + (nI 1))) (ty := .int) (ws' := mW g o a (upd (upd (upd (upd F1 6 (F1 6)) 7 (nI i)) 9 (F1 9)) 11 ((F1 11) + (nI 1))) L A ++ X) hE hB inX9 tyX9 tyX9_ok nmX9 0 rfl rfl 11 (by decide) q4_12 (fun _ h9 => h9) rfl (by decide +kernel) rfl rfl (Nat.le_of_ble_eq_true rfl) rfl dX9_hear_170 (fun H locs hB => ?_)
                  refine lv_iinc (v := (nI (i + 1))) (lv' := [(7, .int (nI (i + 1))), (0, .ref o), (1, .int tw), (2, .int ac), (3, .int dd), (4, .int dy), (5, .int sh), (6, .int (nI S))]) hE.x hE.b dX9_hear_173 hl (k := 0) rfl (nI_add _ _) (by decide) rfl (fun ls hl => ?_)
                  refine lv_goto (tgt := 33) hE.x hE.b dX9_hear_176 (by decide) ?_
                  exact ih33 (i + 1) (upd (upd (upd (upd F1 6 (F1 6)) 7 (nI i)) 9 (F1 9)) 11 ((F1 11) + (nI 1))) _ _ _ (by omega) (by omega) (by show F1 16 = _; exact h16) (by show (F1 6) = _; exact hF_k h6 c_8) (by show (nI i) = _; rw [hL_t hp]; rfl) (by show (F1 8) = _; rw [hF_f hpa]; exact h8) (by show (F1 9) = _; exact hF_k h9 c_14) (by show (F1 10) = _; rw [cn_f hpa]; exact h10) (by show ((F1 11) + (nI 1)) = _; rw [cn_t hpb, h11, nI_add]) hB hl
                · refine lv_iload hE.x hE.b dX9_hear_151 (lv_at hl 0 rfl) ?_
                  refine lv_goto (tgt := 160) hE.x hE.b dX9_hear_153 (by decide) ?_
                  refine z_put (v := .int (nI i)) (ty := .int) (ws' := mW g o a (upd (upd (upd F1 6 (F1 6)) 7 (nI i)) 9 (nI i)) L A ++ X) hE hB inX9 tyX9 tyX9_ok nmX9 0 rfl rfl 9 (by decide) q4_10 (fun _ h9 => h9) rfl (by decide +kernel) rfl rfl (Nat.le_of_ble_eq_true rfl) rfl dX9_hear_160 (fun H locs hB => ?_)
                  refine lv_aload_n hE.x hE.b dX9_hear_163 rfl (lv_at hl 1 rfl) ?_
                  refine lv_dup hE.x hE.b dX9_hear_164 rfl ?_
                  refine z_get (v := .int (F1 11)) hE hB inX9 0 rfl rfl 11 (by decide) q4_12 (fun _ h9 => h9) rfl dX9_hear_165 ?_
                  refine lv_iconst (v := nI 1) hE.x hE.b dX9_hear_168 rfl ?_
                  refine lv_iadd hE.x hE.b dX9_hear_169 ?_
                  refine z_put (v := .int ((F1 11) + (nI 1))) (ty := .int) (ws' := mW g o a (upd (upd (upd (upd F1 6 (F1 6)) 7 (nI i)) 9 (nI i)) 11 ((F1 11) + (nI 1))) L A ++ X) hE hB inX9 tyX9 tyX9_ok nmX9 0 rfl rfl 11 (by decide) q4_12 (fun _ h9 => h9) rfl (by decide +kernel) rfl rfl (Nat.le_of_ble_eq_true rfl) rfl dX9_hear_170 (fun H locs hB => ?_)
                  refine lv_iinc (v := (nI (i + 1))) (lv' := [(7, .int (nI (i + 1))), (0, .ref o), (1, .int tw), (2, .int ac), (3, .int dd), (4, .int dy), (5, .int sh), (6, .int (nI S))]) hE.x hE.b dX9_hear_173 hl (k := 0) rfl (nI_add _ _) (by decide) rfl (fun ls hl => ?_)
                  refine lv_goto (tgt := 33) hE.x hE.b dX9_hear_176 (by decide) ?_
                  exact ih33 (i + 1) (upd (upd (upd (upd F1 6 (F1 6)) 7 (nI i)) 9 (nI i)) 11 ((F1 11) + (nI 1))) _ _ _ (by omega) (by omega) (by show F1 16 = _; exact h16) (by show (F1 6) = _; exact hF_k h6 c_8) (by show (nI i) = _; rw [hL_t hp]; rfl) (by show (F1 8) = _; rw [hF_f hpa]; exact h8) (by show (nI i) = _; exact hF_m h9 hpb (by omega) c_14) (by show (F1 10) = _; rw [cn_f hpa]; exact h10) (by show ((F1 11) + (nI 1)) = _; rw [cn_t hpb, h11, nI_add]) hB hl
              · have hpa : hA (A 0) (hP (A 0) S tw ac dd dy sh) i = true := by unfold hA; rw [c_13, hp]; rfl
                have hpb : hB' (A 0) (hP (A 0) S tw ac dd dy sh) i = false := by unfold hB'; rw [c_13]; exact Bool.and_false _
                refine lv_aload_n hE.x hE.b dX9_hear_108 rfl (lv_at hl 1 rfl) ?_
                refine lv_aload_n hE.x hE.b dX9_hear_109 rfl (lv_at hl 1 rfl) ?_
                refine z_get (v := .int (F1 8)) hE hB inX9 0 rfl rfl 8 (by decide) q4_9 (fun _ h9 => h9) rfl dX9_hear_110 ?_
                refine lv_iconst (v := (-1)) hE.x hE.b dX9_hear_113 rfl ?_
                refine lv_icmp_ne (tgt := 122) hE.x hE.b dX9_hear_114 (by decide) (fun c_15 => ?_) (fun c_15 => ?_)
                · refine lv_aload_n hE.x hE.b dX9_hear_122 rfl (lv_at hl 1 rfl) ?_
                  refine z_get (v := .int (F1 8)) hE hB inX9 0 rfl rfl 8 (by decide) q4_9 (fun _ h9 => h9) rfl dX9_hear_123 ?_
                  refine z_put (v := .int (F1 8)) (ty := .int) (ws' := mW g o a (upd (upd (upd F1 6 (F1 6)) 7 (nI i)) 8 (F1 8)) L A ++ X) hE hB inX9 tyX9 tyX9_ok nmX9 0 rfl rfl 8 (by decide) q4_9 (fun _ h9 => h9) rfl (by decide +kernel) rfl rfl (Nat.le_of_ble_eq_true rfl) rfl dX9_hear_126 (fun H locs hB => ?_)
                  refine lv_aload_n hE.x hE.b dX9_hear_129 rfl (lv_at hl 1 rfl) ?_
                  refine lv_dup hE.x hE.b dX9_hear_130 rfl ?_
                  refine z_get (v := .int (F1 10)) hE hB inX9 0 rfl rfl 10 (by decide) q4_11 (fun _ h9 => h9) rfl dX9_hear_131 ?_
                  refine lv_iconst (v := nI 1) hE.x hE.b dX9_hear_134 rfl ?_
                  refine lv_iadd hE.x hE.b dX9_hear_135 ?_
                  refine z_put (v := .int ((F1 10) + (nI 1))) (ty := .int) (ws' := mW g o a (upd (upd (upd (upd F1 6 (F1 6)) 7 (nI i)) 8 (F1 8)) 10 ((F1 10) + (nI 1))) L A ++ X) hE hB inX9 tyX9 tyX9_ok nmX9 0 rfl rfl 10 (by decide) q4_11 (fun _ h9 => h9) rfl (by decide +kernel) rfl rfl (Nat.le_of_ble_eq_true rfl) rfl dX9_hear_136 (fun H locs hB => ?_)
                  refine lv_goto (tgt := 173) hE.x hE.b dX9_hear_139 (by decide) ?_
                  refine lv_iinc (v := (nI (i + 1))) (lv' := [(7, .int (nI (i + 1))), (0, .ref o), (1, .int tw), (2, .int ac), (3, .int dd), (4, .int dy), (5, .int sh), (6, .int (nI S))]) hE.x hE.b dX9_hear_173 hl (k := 0) rfl (nI_add _ _) (by decide) rfl (fun ls hl => ?_)
                  refine lv_goto (tgt := 33) hE.x hE.b dX9_hear_176 (by decide) ?_
                  exact ih33 (i + 1) (upd (upd (upd (upd F1 6 (F1 6)) 7 (nI i)) 8 (F1 8)) 10 ((F1 10) + (nI 1))) _ _ _ (by omega) (by omega) (by show F1 16 = _; exact h16) (by show (F1 6) = _; exact hF_k h6 c_8) (by show (nI i) = _; rw [hL_t hp]; rfl) (by show (F1 8) = _; exact hF_k h8 c_15) (by show (F1 9) = _; rw [hF_f hpb]; exact h9) (by show ((F1 10) + (nI 1)) = _; rw [cn_t hpa, h10, nI_add]) (by show (F1 11) = _; rw [cn_f hpb]; exact h11) hB hl
                · refine lv_iload hE.x hE.b dX9_hear_117 (lv_at hl 0 rfl) ?_
                  refine lv_goto (tgt := 126) hE.x hE.b dX9_hear_119 (by decide) ?_
                  refine z_put (v := .int (nI i)) (ty := .int) (ws' := mW g o a (upd (upd (upd F1 6 (F1 6)) 7 (nI i)) 8 (nI i)) L A ++ X) hE hB inX9 tyX9 tyX9_ok nmX9 0 rfl rfl 8 (by decide) q4_9 (fun _ h9 => h9) rfl (by decide +kernel) rfl rfl (Nat.le_of_ble_eq_true rfl) rfl dX9_hear_126 (fun H locs hB => ?_)
                  refine lv_aload_n hE.x hE.b dX9_hear_129 rfl (lv_at hl 1 rfl) ?_
                  refine lv_dup hE.x hE.b dX9_hear_130 rfl ?_
                  refine z_get (v := .int (F1 10)) hE hB inX9 0 rfl rfl 10 (by decide) q4_11 (fun _ h9 => h9) rfl dX9_hear_131 ?_
                  refine lv_iconst (v := nI 1) hE.x hE.b dX9_hear_134 rfl ?_
                  refine lv_iadd hE.x hE.b dX9_hear_135 ?_
                  refine z_put (v := .int ((F1 10) + (nI 1))) (ty := .int) (ws' := mW g o a (upd (upd (upd (upd F1 6 (F1 6)) 7 (nI i)) 8 (nI i)) 10 ((F1 10) + (nI 1))) L A ++ X) hE hB inX9 tyX9 tyX9_ok nmX9 0 rfl rfl 10 (by decide) q4_11 (fun _ h9 => h9) rfl (by decide +kernel) rfl rfl (Nat.le_of_ble_eq_true rfl) rfl dX9_hear_136 (fun H locs hB => ?_)
                  refine lv_goto (tgt := 173) hE.x hE.b dX9_hear_139 (by decide) ?_
                  refine lv_iinc (v := (nI (i + 1))) (lv' := [(7, .int (nI (i + 1))), (0, .ref o), (1, .int tw), (2, .int ac), (3, .int dd), (4, .int dy), (5, .int sh), (6, .int (nI S))]) hE.x hE.b dX9_hear_173 hl (k := 0) rfl (nI_add _ _) (by decide) rfl (fun ls hl => ?_)
                  refine lv_goto (tgt := 33) hE.x hE.b dX9_hear_176 (by decide) ?_
                  exact ih33 (i + 1) (upd (upd (upd (upd F1 6 (F1 6)) 7 (nI i)) 8 (nI i)) 10 ((F1 10) + (nI 1))) _ _ _ (by omega) (by omega) (by show F1 16 = _; exact h16) (by show (F1 6) = _; exact hF_k h6 c_8) (by show (nI i) = _; rw [hL_t hp]; rfl) (by show (nI i) = _; exact hF_m h8 hpa (by omega) c_15) (by show (F1 9) = _; rw [hF_f hpb]; exact h9) (by show ((F1 10) + (nI 1)) = _; rw [cn_t hpa, h10, nI_add]) (by show (F1 11) = _; rw [cn_f hpb]; exact h11) hB hl
            · refine lv_iload hE.x hE.b dX9_hear_77 (lv_at hl 0 rfl) ?_
              refine lv_goto (tgt := 86) hE.x hE.b dX9_hear_79 (by decide) ?_
              refine z_put (v := .int (nI i)) (ty := .int) (ws' := mW g o a (upd F1 6 (nI i)) L A ++ X) hE hB inX9 tyX9 tyX9_ok nmX9 0 rfl rfl 6 (by decide) q4_7 (fun _ h9 => h9) rfl (by decide +kernel) rfl rfl (Nat.le_of_ble_eq_true rfl) rfl dX9_hear_86 (fun H locs hB => ?_)
              refine lv_aload_n hE.x hE.b dX9_hear_89 rfl (lv_at hl 1 rfl) ?_
              refine lv_iload hE.x hE.b dX9_hear_90 (lv_at hl 0 rfl) ?_
              refine z_put (v := .int (nI i)) (ty := .int) (ws' := mW g o a (upd (upd F1 6 (nI i)) 7 (nI i)) L A ++ X) hE hB inX9 tyX9 tyX9_ok nmX9 0 rfl rfl 7 (by decide) q4_8 (fun _ h9 => h9) rfl (by decide +kernel) rfl rfl (Nat.le_of_ble_eq_true rfl) rfl dX9_hear_92 (fun H locs hB => ?_)
              refine lv_aload_n hE.x hE.b dX9_hear_95 rfl (lv_at hl 1 rfl) ?_
              refine lv_iload hE.x hE.b dX9_hear_96 (lv_at hl 0 rfl) ?_
              refine lv_iconst (v := nI 0) hE.x hE.b dX9_hear_98 rfl ?_
              refine z_qi hB (z_cV hE hB (c_X9_has l g o a (upd (upd F1 6 (nI i)) 7 (nI i)) L A X i 0 (by omega) (by omega)) q4_155 kX9_has ⟨rfl, rfl⟩ ⟨Nat.le_of_ble_eq_true rfl, Nat.le_of_ble_eq_true rfl⟩ 0 rfl rfl rfl hl.1 rfl (Nat.le_of_ble_eq_true rfl) dX9_hear_99 ⟨Nat.le_of_ble_eq_true rfl, Nat.le_of_ble_eq_true rfl⟩) (fun r_16 w_17 H locs hw hB => ?_)
              obtain ⟨hr9, hw9⟩ := hw
              have hr9 := hr9.symm
              subst hr9
              have hw9 := hw9.symm
              subst hw9
              refine z_qi hB (z_cS hE hB (c_X9_allows l g (A 0 (46 + 5 * i + 0)) (mW g o a (upd (upd F1 6 (nI i)) 7 (nI i)) L A ++ X)) q4_159 kX9_allows ⟨rfl, rfl⟩ ⟨Nat.le_of_ble_eq_true rfl, Nat.le_of_ble_eq_true rfl⟩ rfl hl.1 rfl (Nat.le_of_ble_eq_true rfl) dX9_hear_102 ⟨Nat.le_of_ble_eq_true rfl, Nat.le_of_ble_eq_true rfl⟩) (fun r_18 w_19 H locs hw hB => ?_)
              obtain ⟨hr9, hw9⟩ := hw
              have hr9 := hr9.symm
              subst hr9
              have hw9 := hw9.symm
              subst hw9
              refine z_bf (b := (alw (A 0 (46 + 5 * i + 0)))) (tgt := 142) hE dX9_hear_105 (by decide) (fun c_20 => ?_) (fun c_20 => ?_)
              · have hpa : hA (A 0) (hP (A 0) S tw ac dd dy sh) i = false := by unfold hA; rw [c_20]; exact Bool.and_false _
                have hpb : hB' (A 0) (hP (A 0) S tw ac dd dy sh) i = true := by unfold hB'; rw [c_20, hp]; rfl
                refine lv_aload_n hE.x hE.b dX9_hear_142 rfl (lv_at hl 1 rfl) ?_
                refine lv_aload_n hE.x hE.b dX9_hear_143 rfl (lv_at hl 1 rfl) ?_
                refine z_get (v := .int (F1 9)) hE hB inX9 0 rfl rfl 9 (by decide) q4_10 (fun _ h9 => h9) rfl dX9_hear_144 ?_
                refine lv_iconst (v := (-1)) hE.x hE.b dX9_hear_147 rfl ?_
                refine lv_icmp_ne (tgt := 156) hE.x hE.b dX9_hear_148 (by decide) (fun c_21 => ?_) (fun c_21 => ?_)
                · refine lv_aload_n hE.x hE.b dX9_hear_156 rfl (lv_at hl 1 rfl) ?_
                  refine z_get (v := .int (F1 9)) hE hB inX9 0 rfl rfl 9 (by decide) q4_10 (fun _ h9 => h9) rfl dX9_hear_157 ?_
                  refine z_put (v := .int (F1 9)) (ty := .int) (ws' := mW g o a (upd (upd (upd F1 6 (nI i)) 7 (nI i)) 9 (F1 9)) L A ++ X) hE hB inX9 tyX9 tyX9_ok nmX9 0 rfl rfl 9 (by decide) q4_10 (fun _ h9 => h9) rfl (by decide +kernel) rfl rfl (Nat.le_of_ble_eq_true rfl) rfl dX9_hear_160 (fun H locs hB => ?_)
                  refine lv_aload_n hE.x hE.b dX9_hear_163 rfl (lv_at hl 1 rfl) ?_
                  refine lv_dup hE.x hE.b dX9_hear_164 rfl ?_
                  refine z_get (v := .int (F1 11)) hE hB inX9 0 rfl rfl 11 (by decide) q4_12 (fun _ h9 => h9) rfl dX9_hear_165 ?_
                  refine lv_iconst (v := nI 1) hE.x hE.b dX9_hear_168 rfl ?_
                  refine lv_iadd hE.x hE.b dX9_hear_169 ?_
                  refine z_put (v := .int ((F1 11) + (nI 1))) (ty := .int) (ws' := mW g o a (upd (upd (upd (upd F1 6 (nI i)) 7 (nI i)) 9 (F1 9)) 11 ((F1 11) + (nI 1))) L A ++ X) hE hB inX9 tyX9 tyX9_ok nmX9 0 rfl rfl 11 (by decide) q4_12 (fun _ h9 => h9) rfl (by decide +kernel) rfl rfl (Nat.le_of_ble_eq_true rfl) rfl dX9_hear_170 (fun H locs hB => ?_)
                  refine lv_iinc (v := (nI (i + 1))) (lv' := [(7, .int (nI (i + 1))), (0, .ref o), (1, .int tw), (2, .int ac), (3, .int dd), (4, .int dy), (5, .int sh), (6, .int (nI S))]) hE.x hE.b dX9_hear_173 hl (k := 0) rfl (nI_add _ _) (by decide) rfl (fun ls hl => ?_)
                  refine lv_goto (tgt := 33) hE.x hE.b dX9_hear_176 (by decide) ?_
                  exact ih33 (i + 1) (upd (upd (upd (upd F1 6 (nI i)) 7 (nI i)) 9 (F1 9)) 11 ((F1 11) + (nI 1))) _ _ _ (by omega) (by omega) (by show F1 16 = _; exact h16) (by show (nI i) = _; exact hF_m h6 hp (by omega) c_8) (by show (nI i) = _; rw [hL_t hp]; rfl) (by show (F1 8) = _; rw [hF_f hpa]; exact h8) (by show (F1 9) = _; exact hF_k h9 c_21) (by show (F1 10) = _; rw [cn_f hpa]; exact h10) (by show ((F1 11) + (nI 1)) = _; rw [cn_t hpb, h11, nI_add]) hB hl
                · refine lv_iload hE.x hE.b dX9_hear_151 (lv_at hl 0 rfl) ?_
                  refine lv_goto (tgt := 160) hE.x hE.b dX9_hear_153 (by decide) ?_
                  refine z_put (v := .int (nI i)) (ty := .int) (ws' := mW g o a (upd (upd (upd F1 6 (nI i)) 7 (nI i)) 9 (nI i)) L A ++ X) hE hB inX9 tyX9 tyX9_ok nmX9 0 rfl rfl 9 (by decide) q4_10 (fun _ h9 => h9) rfl (by decide +kernel) rfl rfl (Nat.le_of_ble_eq_true rfl) rfl dX9_hear_160 (fun H locs hB => ?_)
                  refine lv_aload_n hE.x hE.b dX9_hear_163 rfl (lv_at hl 1 rfl) ?_
                  refine lv_dup hE.x hE.b dX9_hear_164 rfl ?_
                  refine z_get (v := .int (F1 11)) hE hB inX9 0 rfl rfl 11 (by decide) q4_12 (fun _ h9 => h9) rfl dX9_hear_165 ?_
                  refine lv_iconst (v := nI 1) hE.x hE.b dX9_hear_168 rfl ?_
                  refine lv_iadd hE.x hE.b dX9_hear_169 ?_
                  refine z_put (v := .int ((F1 11) + (nI 1))) (ty := .int) (ws' := mW g o a (upd (upd (upd (upd F1 6 (nI i)) 7 (nI i)) 9 (nI i)) 11 ((F1 11) + (nI 1))) L A ++ X) hE hB inX9 tyX9 tyX9_ok nmX9 0 rfl rfl 11 (by decide) q4_12 (fun _ h9 => h9) rfl (by decide +kernel) rfl rfl (Nat.le_of_ble_eq_true rfl) rfl dX9_hear_170 (fun H locs hB => ?_)
                  refine lv_iinc (v := (nI (i + 1))) (lv' := [(7, .int (nI (i + 1))), (0, .ref o), (1, .int tw), (2, .int ac), (3, .int dd), (4, .int dy), (5, .int sh), (6, .int (nI S))]) hE.x hE.b dX9_hear_173 hl (k := 0) rfl (nI_add _ _) (by decide) rfl (fun ls hl => ?_)
                  refine lv_goto (tgt := 33) hE.x hE.b dX9_hear_176 (by decide) ?_
                  exact ih33 (i + 1) (upd (upd (upd (upd F1 6 (nI i)) 7 (nI i)) 9 (nI i)) 11 ((F1 11) + (nI 1))) _ _ _ (by omega) (by omega) (by show F1 16 = _; exact h16) (by show (nI i) = _; exact hF_m h6 hp (by omega) c_8) (by show (nI i) = _; rw [hL_t hp]; rfl) (by show (F1 8) = _; rw [hF_f hpa]; exact h8) (by show (nI i) = _; exact hF_m h9 hpb (by omega) c_21) (by show (F1 10) = _; rw [cn_f hpa]; exact h10) (by show ((F1 11) + (nI 1)) = _; rw [cn_t hpb, h11, nI_add]) hB hl
              · have hpa : hA (A 0) (hP (A 0) S tw ac dd dy sh) i = true := by unfold hA; rw [c_20, hp]; rfl
                have hpb : hB' (A 0) (hP (A 0) S tw ac dd dy sh) i = false := by unfold hB'; rw [c_20]; exact Bool.and_false _
                refine lv_aload_n hE.x hE.b dX9_hear_108 rfl (lv_at hl 1 rfl) ?_
                refine lv_aload_n hE.x hE.b dX9_hear_109 rfl (lv_at hl 1 rfl) ?_
                refine z_get (v := .int (F1 8)) hE hB inX9 0 rfl rfl 8 (by decide) q4_9 (fun _ h9 => h9) rfl dX9_hear_110 ?_
                refine lv_iconst (v := (-1)) hE.x hE.b dX9_hear_113 rfl ?_
                refine lv_icmp_ne (tgt := 122) hE.x hE.b dX9_hear_114 (by decide) (fun c_22 => ?_) (fun c_22 => ?_)
                · refine lv_aload_n hE.x hE.b dX9_hear_122 rfl (lv_at hl 1 rfl) ?_
                  refine z_get (v := .int (F1 8)) hE hB inX9 0 rfl rfl 8 (by decide) q4_9 (fun _ h9 => h9) rfl dX9_hear_123 ?_
                  refine z_put (v := .int (F1 8)) (ty := .int) (ws' := mW g o a (upd (upd (upd F1 6 (nI i)) 7 (nI i)) 8 (F1 8)) L A ++ X) hE hB inX9 tyX9 tyX9_ok nmX9 0 rfl rfl 8 (by decide) q4_9 (fun _ h9 => h9) rfl (by decide +kernel) rfl rfl (Nat.le_of_ble_eq_true rfl) rfl dX9_hear_126 (fun H locs hB => ?_)
                  refine lv_aload_n hE.x hE.b dX9_hear_129 rfl (lv_at hl 1 rfl) ?_
                  refine lv_dup hE.x hE.b dX9_hear_130 rfl ?_
                  refine z_get (v := .int (F1 10)) hE hB inX9 0 rfl rfl 10 (by decide) q4_11 (fun _ h9 => h9) rfl dX9_hear_131 ?_
                  refine lv_iconst (v := nI 1) hE.x hE.b dX9_hear_134 rfl ?_
                  refine lv_iadd hE.x hE.b dX9_hear_135 ?_
                  refine z_put (v := .int ((F1 10) + (nI 1))) (ty := .int) (ws' := mW g o a (upd (upd (upd (upd F1 6 (nI i)) 7 (nI i)) 8 (F1 8)) 10 ((F1 10) + (nI 1))) L A ++ X) hE hB inX9 tyX9 tyX9_ok nmX9 0 rfl rfl 10 (by decide) q4_11 (fun _ h9 => h9) rfl (by decide +kernel) rfl rfl (Nat.le_of_ble_eq_true rfl) rfl dX9_hear_136 (fun H locs hB => ?_)
                  refine lv_goto (tgt := 173) hE.x hE.b dX9_hear_139 (by decide) ?_
                  refine lv_iinc (v := (nI (i + 1))) (lv' := [(7, .int (nI (i + 1))), (0, .ref o), (1, .int tw), (2, .int ac), (3, .int dd), (4, .int dy), (5, .int sh), (6, .int (nI S))]) hE.x hE.b dX9_hear_173 hl (k := 0) rfl (nI_add _ _) (by decide) rfl (fun ls hl => ?_)
                  refine lv_goto (tgt := 33) hE.x hE.b dX9_hear_176 (by decide) ?_
                  exact ih33 (i + 1) (upd (upd (upd (upd F1 6 (nI i)) 7 (nI i)) 8 (F1 8)) 10 ((F1 10) + (nI 1))) _ _ _ (by omega) (by omega) (by show F1 16 = _; exact h16) (by show (nI i) = _; exact hF_m h6 hp (by omega) c_8) (by show (nI i) = _; rw [hL_t hp]; rfl) (by show (F1 8) = _; exact hF_k h8 c_22) (by show (F1 9) = _; rw [hF_f hpb]; exact h9) (by show ((F1 10) + (nI 1)) = _; rw [cn_t hpa, h10, nI_add]) (by show (F1 11) = _; rw [cn_f hpb]; exact h11) hB hl
                · refine lv_iload hE.x hE.b dX9_hear_117 (lv_at hl 0 rfl) ?_
                  refine lv_goto (tgt := 126) hE.x hE.b dX9_hear_119 (by decide) ?_
                  refine z_put (v := .int (nI i)) (ty := .int) (ws' := mW g o a (upd (upd (upd F1 6 (nI i)) 7 (nI i)) 8 (nI i)) L A ++ X) hE hB inX9 tyX9 tyX9_ok nmX9 0 rfl rfl 8 (by decide) q4_9 (fun _ h9 => h9) rfl (by decide +kernel) rfl rfl (Nat.le_of_ble_eq_true rfl) rfl dX9_hear_126 (fun H locs hB => ?_)
                  refine lv_aload_n hE.x hE.b dX9_hear_129 rfl (lv_at hl 1 rfl) ?_
                  refine lv_dup hE.x hE.b dX9_hear_130 rfl ?_
                  refine z_get (v := .int (F1 10)) hE hB inX9 0 rfl rfl 10 (by decide) q4_11 (fun _ h9 => h9) rfl dX9_hear_131 ?_
                  refine lv_iconst (v := nI 1) hE.x hE.b dX9_hear_134 rfl ?_
                  refine lv_iadd hE.x hE.b dX9_hear_135 ?_
                  refine z_put (v := .int ((F1 10) + (nI 1))) (ty := .int) (ws' := mW g o a (upd (upd (upd (upd F1 6 (nI i)) 7 (nI i)) 8 (nI i)) 10 ((F1 10) + (nI 1))) L A ++ X) hE hB inX9 tyX9 tyX9_ok nmX9 0 rfl rfl 10 (by decide) q4_11 (fun _ h9 => h9) rfl (by decide +kernel) rfl rfl (Nat.le_of_ble_eq_true rfl) rfl dX9_hear_136 (fun H locs hB => ?_)
                  refine lv_goto (tgt := 173) hE.x hE.b dX9_hear_139 (by decide) ?_
                  refine lv_iinc (v := (nI (i + 1))) (lv' := [(7, .int (nI (i + 1))), (0, .ref o), (1, .int tw), (2, .int ac), (3, .int dd), (4, .int dy), (5, .int sh), (6, .int (nI S))]) hE.x hE.b dX9_hear_173 hl (k := 0) rfl (nI_add _ _) (by decide) rfl (fun ls hl => ?_)
                  refine lv_goto (tgt := 33) hE.x hE.b dX9_hear_176 (by decide) ?_
                  exact ih33 (i + 1) (upd (upd (upd (upd F1 6 (nI i)) 7 (nI i)) 8 (nI i)) 10 ((F1 10) + (nI 1))) _ _ _ (by omega) (by omega) (by show F1 16 = _; exact h16) (by show (nI i) = _; exact hF_m h6 hp (by omega) c_8) (by show (nI i) = _; rw [hL_t hp]; rfl) (by show (nI i) = _; exact hF_m h8 hpa (by omega) c_22) (by show (F1 9) = _; rw [hF_f hpb]; exact h9) (by show ((F1 10) + (nI 1)) = _; rw [cn_t hpa, h10, nI_add]) (by show (F1 11) = _; rw [cn_f hpb]; exact h11) hB hl
  exact k33 (C - 0 + 1) 0 (upd (upd (upd (upd (upd (upd F 6 (-1)) 7 (-1)) 8 (-1)) 9 (-1)) 10 (nI 0)) 11 (nI 0)) _ _ _ (Nat.lt_succ_self _) (by omega) (by rfl) (by rfl) (by rfl) (by rfl) (by rfl) (by rfl) (by rfl) hB hl

set_option maxHeartbeats 4000000 in
set_option maxRecDepth 100000 in
theorem c_X9_decides (l : Launch) (g : zG) (o : Nat) (a : Nat → Nat) (F : Nat → Int32) (L : Nat → Int64) (A : Nat → Nat → Int32) (X : va_W) (rd : Int32)  : Met l yX9_decides (Cond.code yX9_decides cX9_decides 2 (some .int) :: TBL) { frames := 0, cells := 0, slots := 0, locals := 0 } (zPc [.ref o, .int rd] g (mW g o a F L A ++ X)) (zQi g (fun r ws => r = (dcF rd F) ∧ ws = mW g o a F L A ++ X)) 0 0 (zA (gz g)) := by
  refine z_start (by decide +kernel) rfl (Nat.le_of_ble_eq_true rfl) ?_
  intro p e s m args below meth c ls hE hr hnm hB hl
  have hl : lv_has ls 2 [(0, .ref o), (1, .int rd)] := hl
  revert hB
  generalize s.heap = H
  generalize ([] : List Loc) = locs
  intro hB
  refine lv_iload_n hE.x hE.b dX9_decides_0 rfl (lv_at hl 1 rfl) ?_
  by_cases e_1 : rd = nI 0
  · refine lv_tableIn (tgt := 28) hE.x hE.b dX9_decides_1 (by rw [e_1]; decide) (by rw [e_1]; decide) (by rw [e_1]; rfl) (by decide) ?_
    refine lv_aload_n hE.x hE.b dX9_decides_28 rfl (lv_at hl 0 rfl) ?_
    refine z_get (v := .int (F 6)) hE hB inX9 0 rfl rfl 6 (by decide) q4_7 (fun _ h9 => h9) rfl dX9_decides_29 ?_
    exact z_iret (v := (F 6)) (ws := mW g o a F L A ++ X) hE hB hr (⟨by unfold dcF; rw [if_pos e_1], rfl⟩) dX9_decides_32
  by_cases e_2 : rd = nI 1
  · refine lv_tableIn (tgt := 33) hE.x hE.b dX9_decides_1 (by rw [e_2]; decide) (by rw [e_2]; decide) (by rw [e_2]; rfl) (by decide) ?_
    refine lv_aload_n hE.x hE.b dX9_decides_33 rfl (lv_at hl 0 rfl) ?_
    refine z_get (v := .int (F 7)) hE hB inX9 0 rfl rfl 7 (by decide) q4_8 (fun _ h9 => h9) rfl dX9_decides_34 ?_
    exact z_iret (v := (F 7)) (ws := mW g o a F L A ++ X) hE hB hr (⟨by unfold dcF; rw [if_neg e_1, if_pos e_2], rfl⟩) dX9_decides_37
  by_cases e_3 : rd = nI 2
  · refine lv_tableIn (tgt := 38) hE.x hE.b dX9_decides_1 (by rw [e_3]; decide) (by rw [e_3]; decide) (by rw [e_3]; rfl) (by decide) ?_
    refine lv_aload_n hE.x hE.b dX9_decides_38 rfl (lv_at hl 0 rfl) ?_
    refine z_get (v := .int (F 8)) hE hB inX9 0 rfl rfl 8 (by decide) q4_9 (fun _ h9 => h9) rfl dX9_decides_39 ?_
    refine lv_iconst (v := (-1)) hE.x hE.b dX9_decides_42 rfl ?_
    refine lv_icmp_eq (tgt := 53) hE.x hE.b dX9_decides_43 (by decide) (fun c_4 => ?_) (fun c_4 => ?_)
    · refine lv_aload_n hE.x hE.b dX9_decides_53 rfl (lv_at hl 0 rfl) ?_
      refine z_get (v := .int (F 6)) hE hB inX9 0 rfl rfl 6 (by decide) q4_7 (fun _ h9 => h9) rfl dX9_decides_54 ?_
      exact z_iret (v := (F 6)) (ws := mW g o a F L A ++ X) hE hB hr (⟨by unfold dcF; rw [if_neg e_1, if_neg e_2, if_pos e_3, if_pos c_4], rfl⟩) dX9_decides_57
    · refine lv_aload_n hE.x hE.b dX9_decides_46 rfl (lv_at hl 0 rfl) ?_
      refine z_get (v := .int (F 8)) hE hB inX9 0 rfl rfl 8 (by decide) q4_9 (fun _ h9 => h9) rfl dX9_decides_47 ?_
      refine lv_goto (tgt := 57) hE.x hE.b dX9_decides_50 (by decide) ?_
      exact z_iret (v := (F 8)) (ws := mW g o a F L A ++ X) hE hB hr (⟨by unfold dcF; rw [if_neg e_1, if_neg e_2, if_pos e_3, if_neg c_4], rfl⟩) dX9_decides_57
  refine lv_tableOut (tgt := 58) hE.x hE.b dX9_decides_1 (by have g0 := ne_toInt e_1 (by decide); have g1 := ne_toInt e_2 (by decide); have g2 := ne_toInt e_3 (by decide); omega) (by decide) ?_
  refine lv_aload_n hE.x hE.b dX9_decides_58 rfl (lv_at hl 0 rfl) ?_
  refine z_get (v := .int (F 10)) hE hB inX9 0 rfl rfl 10 (by decide) q4_11 (fun _ h9 => h9) rfl dX9_decides_59 ?_
  refine lv_aload_n hE.x hE.b dX9_decides_62 rfl (lv_at hl 0 rfl) ?_
  refine z_get (v := .int (F 11)) hE hB inX9 0 rfl rfl 11 (by decide) q4_12 (fun _ h9 => h9) rfl dX9_decides_63 ?_
  refine z_le (tgt := 76) (X := (F 10).toInt) (Y := (F 11).toInt) hE dX9_decides_66 (by decide) rfl rfl (fun c_5 => ?_) (fun c_5 => ?_)
  · refine lv_aload_n hE.x hE.b dX9_decides_76 rfl (lv_at hl 0 rfl) ?_
    refine z_get (v := .int (F 9)) hE hB inX9 0 rfl rfl 9 (by decide) q4_10 (fun _ h9 => h9) rfl dX9_decides_77 ?_
    exact z_iret (v := (F 9)) (ws := mW g o a F L A ++ X) hE hB hr (⟨by unfold dcF; rw [if_neg e_1, if_neg e_2, if_neg e_3, if_neg (by omega)], rfl⟩) dX9_decides_80
  · refine lv_aload_n hE.x hE.b dX9_decides_69 rfl (lv_at hl 0 rfl) ?_
    refine z_get (v := .int (F 8)) hE hB inX9 0 rfl rfl 8 (by decide) q4_9 (fun _ h9 => h9) rfl dX9_decides_70 ?_
    refine lv_goto (tgt := 80) hE.x hE.b dX9_decides_73 (by decide) ?_
    exact z_iret (v := (F 8)) (ws := mW g o a F L A ++ X) hE hB hr (⟨by unfold dcF; rw [if_neg e_1, if_neg e_2, if_neg e_3, if_pos (by omega)], rfl⟩) dX9_decides_80

set_option maxHeartbeats 4000000 in
set_option maxRecDepth 100000 in
theorem c_X9_decidesIn (l : Launch) (g : zG) (o : Nat) (a : Nat → Nat) (F : Nat → Int32) (L : Nat → Int64) (A : Nat → Nat → Int32) (X : va_W) (C : Nat) (t : Nat) (ac : Int32) (dd : Int32) (dy : Int32) (sh : Int32) (S : Nat) (hC : A 0 1 = nI C) (hC8 : C ≤ 8) (ht : t < 6) (hS : S < 256) : Met l yX9_decidesIn (Cond.code yX9_decidesIn cX9_decidesIn 7 (some .int) :: TBL) { frames := 4, cells := 0, slots := 0, locals := 101 } (zPc [.ref o, .int (nI t), .int ac, .int dd, .int dy, .int sh, .int (nI S)] g (mW g o a F L A ++ X)) (zQi g (fun r ws => ∃ (F1 : Nat → Int32), r = (oI (decN (A 0) C t ac dd dy sh S)) ∧ ws = mW g o a F1 L A ++ X ∧ F1 16 = F 16)) 0 0 (zA (gz g)) := by
  refine z_start (by decide +kernel) rfl (Nat.le_of_ble_eq_true rfl) ?_
  intro p e s m args below meth c ls hE hr hnm hB hl
  have hl : lv_has ls 7 [(0, .ref o), (1, .int (nI t)), (2, .int ac), (3, .int dd), (4, .int dy), (5, .int sh), (6, .int (nI S))] := hl
  revert hB
  generalize s.heap = H
  generalize ([] : List Loc) = locs
  intro hB
  refine lv_aload_n hE.x hE.b dX9_decidesIn_0 rfl (lv_at hl 0 rfl) ?_
  refine lv_iload_n hE.x hE.b dX9_decidesIn_1 rfl (lv_at hl 1 rfl) ?_
  refine lv_iload_n hE.x hE.b dX9_decidesIn_2 rfl (lv_at hl 2 rfl) ?_
  refine lv_iload_n hE.x hE.b dX9_decidesIn_3 rfl (lv_at hl 3 rfl) ?_
  refine lv_iload hE.x hE.b dX9_decidesIn_4 (lv_at hl 4 rfl) ?_
  refine lv_iload hE.x hE.b dX9_decidesIn_6 (lv_at hl 5 rfl) ?_
  refine lv_iload hE.x hE.b dX9_decidesIn_8 (lv_at hl 6 rfl) ?_
  refine z_qv hB (z_cV hE hB (c_X9_hear l g o a F L A X C (nI t) ac dd dy sh S hC (by omega) (by omega)) q4_181 kX9_hear ⟨rfl, rfl⟩ ⟨Nat.le_of_ble_eq_true rfl, Nat.le_of_ble_eq_true rfl⟩ 0 rfl rfl rfl hl.1 rfl (Nat.le_of_ble_eq_true rfl) dX9_decidesIn_10 ⟨Nat.le_of_ble_eq_true rfl, Nat.le_of_ble_eq_true rfl⟩) (fun w_2 H locs hw hB => ?_)
  obtain ⟨F1_3, hw9, hf_4, hf_5, hf_6, hf_7, hf_8, hf_9, hf_10⟩ := hw
  have hw9 := hw9.symm
  subst hw9
  refine lv_aload_n hE.x hE.b dX9_decidesIn_13 rfl (lv_at hl 0 rfl) ?_
  refine lv_aload_n hE.x hE.b dX9_decidesIn_14 rfl (lv_at hl 0 rfl) ?_
  refine z_get (v := .ref (a 0)) hE hB inX9 0 rfl rfl 0 (by decide) q4_1 (fun _ h9 => h9) rfl dX9_decidesIn_15 ?_
  refine lv_iconst (v := nI 4) hE.x hE.b dX9_decidesIn_18 rfl ?_
  refine lv_iload_n hE.x hE.b dX9_decidesIn_19 rfl (lv_at hl 1 rfl) ?_
  refine z_iaddN hE dX9_decidesIn_20 ?_
  refine z_iald (k := (4 + t)) (f := (A 0)) hE hB 1 rfl (by omega) (by decide) dX9_decidesIn_21 ?_
  refine z_qi hB (z_cV hE hB (c_X9_decides l g o a F1_3 L A X ((A 0) (4 + t))) q4_189 kX9_decides ⟨rfl, rfl⟩ ⟨Nat.le_of_ble_eq_true rfl, Nat.le_of_ble_eq_true rfl⟩ 0 rfl rfl rfl hl.1 rfl (Nat.le_of_ble_eq_true rfl) dX9_decidesIn_22 ⟨Nat.le_of_ble_eq_true rfl, Nat.le_of_ble_eq_true rfl⟩) (fun r_11 w_12 H locs hw hB => ?_)
  obtain ⟨hr9, hw9⟩ := hw
  have hr9 := hr9.symm
  subst hr9
  have hw9 := hw9.symm
  subst hw9
  exact z_iret (v := (dcF ((A 0) (4 + t)) F1_3)) (ws := mW g o a F1_3 L A ++ X) hE hB hr (⟨F1_3, by exact dcF_eq hf_5 hf_6 hf_7 hf_8 hf_9 hf_10 (Nat.lt_of_le_of_lt (cn_le _ _) (by omega)) (Nat.lt_of_le_of_lt (cn_le _ _) (by omega)) (hF_32 hC8), rfl, hf_4⟩) dX9_decidesIn_25

set_option maxHeartbeats 4000000 in
set_option maxRecDepth 100000 in
theorem c_X9_isAllowed (l : Launch) (g : zG) (o : Nat) (a : Nat → Nat) (F : Nat → Int32) (L : Nat → Int64) (A : Nat → Nat → Int32) (X : va_W) (C : Nat) (t : Nat) (ac : Int32) (dd : Int32) (dy : Int32) (sh : Int32) (S : Nat) (hC : A 0 1 = nI C) (hC8 : C ≤ 8) (ht : t < 6) (hS : S < 256) : Met l yX9_isAllowed (Cond.code yX9_isAllowed cX9_isAllowed 8 (some .boolean) :: TBL) { frames := 5, cells := 0, slots := 0, locals := 127 } (zPc [.ref o, .int (nI t), .int ac, .int dd, .int dy, .int sh, .int (nI S)] g (mW g o a F L A ++ X)) (zQi g (fun r ws => ∃ (F1 : Nat → Int32), r = bI (isA (A 0) C t ac dd dy sh S) ∧ ws = mW g o a F1 L A ++ X ∧ F1 16 = F 16)) 0 0 (zA (gz g)) := by
  refine z_start (by decide +kernel) rfl (Nat.le_of_ble_eq_true rfl) ?_
  intro p e s m args below meth c ls hE hr hnm hB hl
  have hl : lv_has ls 8 [(0, .ref o), (1, .int (nI t)), (2, .int ac), (3, .int dd), (4, .int dy), (5, .int sh), (6, .int (nI S))] := hl
  revert hB
  generalize s.heap = H
  generalize ([] : List Loc) = locs
  intro hB
  refine lv_aload_n hE.x hE.b dX9_isAllowed_0 rfl (lv_at hl 0 rfl) ?_
  refine lv_iload_n hE.x hE.b dX9_isAllowed_1 rfl (lv_at hl 1 rfl) ?_
  refine lv_iload_n hE.x hE.b dX9_isAllowed_2 rfl (lv_at hl 2 rfl) ?_
  refine lv_iload_n hE.x hE.b dX9_isAllowed_3 rfl (lv_at hl 3 rfl) ?_
  refine lv_iload hE.x hE.b dX9_isAllowed_4 (lv_at hl 4 rfl) ?_
  refine lv_iload hE.x hE.b dX9_isAllowed_6 (lv_at hl 5 rfl) ?_
  refine lv_iload hE.x hE.b dX9_isAllowed_8 (lv_at hl 6 rfl) ?_
  refine z_qi hB (z_cV hE hB (c_X9_decidesIn l g o a F L A X C t ac dd dy sh S hC (by omega) (by omega) (by omega)) q4_177 kX9_decidesIn ⟨rfl, rfl⟩ ⟨Nat.le_of_ble_eq_true rfl, Nat.le_of_ble_eq_true rfl⟩ 0 rfl rfl rfl hl.1 rfl (Nat.le_of_ble_eq_true rfl) dX9_isAllowed_10 ⟨Nat.le_of_ble_eq_true rfl, Nat.le_of_ble_eq_true rfl⟩) (fun r_1 w_2 H locs hw hB => ?_)
  obtain ⟨F1_3, hr9, hw9, hf_4⟩ := hw
  have hr9 := hr9.symm
  subst hr9
  have hw9 := hw9.symm
  subst hw9
  refine lv_istore (lv' := [(7, .int (oI (decN (A 0) C t ac dd dy sh S))), (0, .ref o), (1, .int (nI t)), (2, .int ac), (3, .int dd), (4, .int dy), (5, .int sh), (6, .int (nI S))]) hE.x hE.b dX9_isAllowed_13 hl (by decide) rfl (fun ls hl => ?_)
  refine lv_iload hE.x hE.b dX9_isAllowed_15 (lv_at hl 0 rfl) ?_
  refine lv_iconst (v := (-1)) hE.x hE.b dX9_isAllowed_17 rfl ?_
  refine lv_icmp_eq (tgt := 34) hE.x hE.b dX9_isAllowed_18 (by decide) (fun c_5 => ?_) (fun c_5 => ?_)
  · refine lv_iconst (v := nI 1) hE.x hE.b dX9_isAllowed_34 rfl ?_
    refine lv_goto (tgt := 39) hE.x hE.b dX9_isAllowed_35 (by decide) ?_
    exact z_bret (b := true) (ws := mW g o a F1_3 L A ++ X) hE hB hr (⟨F1_3, congrArg bI (by unfold isA; rw [oI_none c_5 (fun k h => by have := decN_lt h; omega)]; rfl), rfl, hf_4⟩) dX9_isAllowed_39
  · obtain ⟨q, hq⟩ := oI_some c_5
    have hq8 := decN_lt hq
    rw [hq] at hl
    have hl : lv_has ls 8 [(7, .int (nI q)), (0, .ref o), (1, .int (nI t)), (2, .int ac), (3, .int dd), (4, .int dy), (5, .int sh), (6, .int (nI S))] := hl
    refine lv_aload_n hE.x hE.b dX9_isAllowed_21 rfl (lv_at hl 1 rfl) ?_
    refine lv_iload hE.x hE.b dX9_isAllowed_22 (lv_at hl 0 rfl) ?_
    refine lv_iconst (v := nI 0) hE.x hE.b dX9_isAllowed_24 rfl ?_
    refine z_qi hB (z_cV hE hB (c_X9_has l g o a F1_3 L A X q 0 (by omega) (by omega)) q4_155 kX9_has ⟨rfl, rfl⟩ ⟨Nat.le_of_ble_eq_true rfl, Nat.le_of_ble_eq_true rfl⟩ 0 rfl rfl rfl hl.1 rfl (Nat.le_of_ble_eq_true rfl) dX9_isAllowed_25 ⟨Nat.le_of_ble_eq_true rfl, Nat.le_of_ble_eq_true rfl⟩) (fun r_6 w_7 H locs hw hB => ?_)
    obtain ⟨hr9, hw9⟩ := hw
    have hr9 := hr9.symm
    subst hr9
    have hw9 := hw9.symm
    subst hw9
    refine z_qi hB (z_cS hE hB (c_X9_allows l g (A 0 (46 + 5 * q + 0)) (mW g o a F1_3 L A ++ X)) q4_159 kX9_allows ⟨rfl, rfl⟩ ⟨Nat.le_of_ble_eq_true rfl, Nat.le_of_ble_eq_true rfl⟩ rfl hl.1 rfl (Nat.le_of_ble_eq_true rfl) dX9_isAllowed_28 ⟨Nat.le_of_ble_eq_true rfl, Nat.le_of_ble_eq_true rfl⟩) (fun r_8 w_9 H locs hw hB => ?_)
    obtain ⟨hr9, hw9⟩ := hw
    have hr9 := hr9.symm
    subst hr9
    have hw9 := hw9.symm
    subst hw9
    refine z_bf (b := (alw (A 0 (46 + 5 * q + 0)))) (tgt := 38) hE dX9_isAllowed_31 (by decide) (fun c_10 => ?_) (fun c_10 => ?_)
    · refine lv_iconst (v := nI 0) hE.x hE.b dX9_isAllowed_38 rfl ?_
      exact z_bret (b := false) (ws := mW g o a F1_3 L A ++ X) hE hB hr (⟨F1_3, congrArg bI (by unfold isA alO; rw [hq]; exact c_10.symm), rfl, hf_4⟩) dX9_isAllowed_39
    · refine lv_iconst (v := nI 1) hE.x hE.b dX9_isAllowed_34 rfl ?_
      refine lv_goto (tgt := 39) hE.x hE.b dX9_isAllowed_35 (by decide) ?_
      exact z_bret (b := true) (ws := mW g o a F1_3 L A ++ X) hE hB hr (⟨F1_3, congrArg bI (by unfold isA alO; rw [hq]; exact c_10.symm), rfl, hf_4⟩) dX9_isAllowed_39

set_option maxHeartbeats 4000000 in
set_option maxRecDepth 100000 in
theorem c_X9_allowed (l : Launch) (g : zG) (o : Nat) (a : Nat → Nat) (F : Nat → Int32) (L : Nat → Int64) (A : Nat → Nat → Int32) (X : va_W) (T : Nat) (C : Nat) (V : Nat) (U : Nat) (tw : Int32) (ac : Int32) (dd : Int32) (dy : Int32) (sh : Int32) (w : Int32) (hn : nOK (A 0) T C V U) : Met l yX9_allowed (Cond.code yX9_allowed cX9_allowed 8 (some .int) :: TBL) { frames := 5, cells := 0, slots := 0, locals := 127 } (zPc [.ref o, .int tw, .int ac, .int dd, .int dy, .int sh, .int w] g (mW g o a F L A ++ X)) (zQi g (fun r ws => ∃ (F1 : Nat → Int32), r = (allowedR (A 0) T C tw ac dd dy sh w) ∧ ws = mW g o a F1 L (chk (askOK T tw ac dd dy sh && pIn 0 1 w) A) ++ X ∧ F1 16 = F 16)) 0 0 (zA (gz g)) := by
  refine z_start (by decide +kernel) rfl (Nat.le_of_ble_eq_true rfl) ?_
  intro p e s m args below meth c ls hE hr hnm hB hl
  have hl : lv_has ls 8 [(0, .ref o), (1, .int tw), (2, .int ac), (3, .int dd), (4, .int dy), (5, .int sh), (6, .int w)] := hl
  revert hB
  generalize s.heap = H
  generalize ([] : List Loc) = locs
  intro hB
  have hT := hn.T
  have hT6 := hn.T6
  have hC := hn.C
  have hC8 := hn.C8
  have hV := hn.V
  have hV8 := hn.V8
  have hU := hn.U
  have hU8 := hn.U8
  refine lv_aload_n hE.x hE.b dX9_allowed_0 rfl (lv_at hl 0 rfl) ?_
  refine lv_iload_n hE.x hE.b dX9_allowed_1 rfl (lv_at hl 1 rfl) ?_
  refine z_qi hB (z_cV hE hB (c_X9_isTown l g o a F L A X T tw hT (by omega)) q4_106 kX9_isTown ⟨rfl, rfl⟩ ⟨Nat.le_of_ble_eq_true rfl, Nat.le_of_ble_eq_true rfl⟩ 0 rfl rfl rfl hl.1 rfl (Nat.le_of_ble_eq_true rfl) dX9_allowed_2 ⟨Nat.le_of_ble_eq_true rfl, Nat.le_of_ble_eq_true rfl⟩) (fun r_1 w_2 H locs hw hB => ?_)
  obtain ⟨hr9, hw9⟩ := hw
  have hr9 := hr9.symm
  subst hr9
  have hw9 := hw9.symm
  subst hw9
  refine z_bf (b := (pTown T tw)) (tgt := 43) hE dX9_allowed_5 (by decide) (fun c_3 => ?_) (fun c_3 => ?_)
  · refine lv_aload_n hE.x hE.b dX9_allowed_43 rfl (lv_at hl 0 rfl) ?_
    refine lv_bipush (v := (-10)) hE.x hE.b dX9_allowed_44 rfl ?_
    refine z_qi hB (z_cV hE hB (c_X9_bad l g o a F L A X (-10)) q4_91 kX9_bad ⟨rfl, rfl⟩ ⟨Nat.le_of_ble_eq_true rfl, Nat.le_of_ble_eq_true rfl⟩ 0 rfl rfl rfl hl.1 rfl (Nat.le_of_ble_eq_true rfl) dX9_allowed_46 ⟨Nat.le_of_ble_eq_true rfl, Nat.le_of_ble_eq_true rfl⟩) (fun r_4 w_5 H locs hw hB => ?_)
    obtain ⟨hr9, hw9⟩ := hw
    have hr9 := hr9.symm
    subst hr9
    have hw9 := hw9.symm
    subst hw9
    exact z_iret (v := (-10)) (ws := mW g o a F L (bump 0 A) ++ X) hE hB hr (⟨F, by unfold allowedR askOK; simp [c_3], by unfold chk askOK; simp [c_3], rfl⟩) dX9_allowed_49
  · refine lv_iload_n hE.x hE.b dX9_allowed_8 rfl (lv_at hl 2 rfl) ?_
    refine z_qi hB (z_cS hE hB (c_X9_isAct l g ac (mW g o a F L A ++ X)) q4_119 kX9_isAct ⟨rfl, rfl⟩ ⟨Nat.le_of_ble_eq_true rfl, Nat.le_of_ble_eq_true rfl⟩ rfl hl.1 rfl (Nat.le_of_ble_eq_true rfl) dX9_allowed_9 ⟨Nat.le_of_ble_eq_true rfl, Nat.le_of_ble_eq_true rfl⟩) (fun r_6 w_7 H locs hw hB => ?_)
    obtain ⟨hr9, hw9⟩ := hw
    have hr9 := hr9.symm
    subst hr9
    have hw9 := hw9.symm
    subst hw9
    refine z_bf (b := (pIn 0 5 ac)) (tgt := 43) hE dX9_allowed_12 (by decide) (fun c_8 => ?_) (fun c_8 => ?_)
    · refine lv_aload_n hE.x hE.b dX9_allowed_43 rfl (lv_at hl 0 rfl) ?_
      refine lv_bipush (v := (-10)) hE.x hE.b dX9_allowed_44 rfl ?_
      refine z_qi hB (z_cV hE hB (c_X9_bad l g o a F L A X (-10)) q4_91 kX9_bad ⟨rfl, rfl⟩ ⟨Nat.le_of_ble_eq_true rfl, Nat.le_of_ble_eq_true rfl⟩ 0 rfl rfl rfl hl.1 rfl (Nat.le_of_ble_eq_true rfl) dX9_allowed_46 ⟨Nat.le_of_ble_eq_true rfl, Nat.le_of_ble_eq_true rfl⟩) (fun r_9 w_10 H locs hw hB => ?_)
      obtain ⟨hr9, hw9⟩ := hw
      have hr9 := hr9.symm
      subst hr9
      have hw9 := hw9.symm
      subst hw9
      exact z_iret (v := (-10)) (ws := mW g o a F L (bump 0 A) ++ X) hE hB hr (⟨F, by unfold allowedR askOK; simp [c_3, c_8], by unfold chk askOK; simp [c_3, c_8], rfl⟩) dX9_allowed_49
    · refine lv_iload_n hE.x hE.b dX9_allowed_15 rfl (lv_at hl 3 rfl) ?_
      refine z_qi hB (z_cS hE hB (c_X9_isDay l g dd (mW g o a F L A ++ X)) q4_170 kX9_isDay ⟨rfl, rfl⟩ ⟨Nat.le_of_ble_eq_true rfl, Nat.le_of_ble_eq_true rfl⟩ rfl hl.1 rfl (Nat.le_of_ble_eq_true rfl) dX9_allowed_16 ⟨Nat.le_of_ble_eq_true rfl, Nat.le_of_ble_eq_true rfl⟩) (fun r_11 w_12 H locs hw hB => ?_)
      obtain ⟨hr9, hw9⟩ := hw
      have hr9 := hr9.symm
      subst hr9
      have hw9 := hw9.symm
      subst hw9
      refine z_bf (b := (pIn 0 59 dd)) (tgt := 43) hE dX9_allowed_19 (by decide) (fun c_13 => ?_) (fun c_13 => ?_)
      · refine lv_aload_n hE.x hE.b dX9_allowed_43 rfl (lv_at hl 0 rfl) ?_
        refine lv_bipush (v := (-10)) hE.x hE.b dX9_allowed_44 rfl ?_
        refine z_qi hB (z_cV hE hB (c_X9_bad l g o a F L A X (-10)) q4_91 kX9_bad ⟨rfl, rfl⟩ ⟨Nat.le_of_ble_eq_true rfl, Nat.le_of_ble_eq_true rfl⟩ 0 rfl rfl rfl hl.1 rfl (Nat.le_of_ble_eq_true rfl) dX9_allowed_46 ⟨Nat.le_of_ble_eq_true rfl, Nat.le_of_ble_eq_true rfl⟩) (fun r_14 w_15 H locs hw hB => ?_)
        obtain ⟨hr9, hw9⟩ := hw
        have hr9 := hr9.symm
        subst hr9
        have hw9 := hw9.symm
        subst hw9
        exact z_iret (v := (-10)) (ws := mW g o a F L (bump 0 A) ++ X) hE hB hr (⟨F, by unfold allowedR askOK; simp [c_3, c_8, c_13], by unfold chk askOK; simp [c_3, c_8, c_13], rfl⟩) dX9_allowed_49
      · refine lv_iload hE.x hE.b dX9_allowed_22 (lv_at hl 4 rfl) ?_
        refine lv_iload hE.x hE.b dX9_allowed_24 (lv_at hl 5 rfl) ?_
        refine z_qi hB (z_cS hE hB (c_X9_isAsker l g dy sh (mW g o a F L A ++ X)) q4_174 kX9_isAsker ⟨rfl, rfl⟩ ⟨Nat.le_of_ble_eq_true rfl, Nat.le_of_ble_eq_true rfl⟩ rfl hl.1 rfl (Nat.le_of_ble_eq_true rfl) dX9_allowed_26 ⟨Nat.le_of_ble_eq_true rfl, Nat.le_of_ble_eq_true rfl⟩) (fun r_16 w_17 H locs hw hB => ?_)
        obtain ⟨hr9, hw9⟩ := hw
        have hr9 := hr9.symm
        subst hr9
        have hw9 := hw9.symm
        subst hw9
        refine z_bf (b := (pIn 0 1 dy && pIn 0 1 sh)) (tgt := 43) hE dX9_allowed_29 (by decide) (fun c_18 => ?_) (fun c_18 => ?_)
        · refine lv_aload_n hE.x hE.b dX9_allowed_43 rfl (lv_at hl 0 rfl) ?_
          refine lv_bipush (v := (-10)) hE.x hE.b dX9_allowed_44 rfl ?_
          refine z_qi hB (z_cV hE hB (c_X9_bad l g o a F L A X (-10)) q4_91 kX9_bad ⟨rfl, rfl⟩ ⟨Nat.le_of_ble_eq_true rfl, Nat.le_of_ble_eq_true rfl⟩ 0 rfl rfl rfl hl.1 rfl (Nat.le_of_ble_eq_true rfl) dX9_allowed_46 ⟨Nat.le_of_ble_eq_true rfl, Nat.le_of_ble_eq_true rfl⟩) (fun r_19 w_20 H locs hw hB => ?_)
          obtain ⟨hr9, hw9⟩ := hw
          have hr9 := hr9.symm
          subst hr9
          have hw9 := hw9.symm
          subst hw9
          exact z_iret (v := (-10)) (ws := mW g o a F L (bump 0 A) ++ X) hE hB hr (⟨F, by unfold allowedR askOK; simp [c_3, c_8, c_13, c_18], by unfold chk askOK; simp [c_3, c_8, c_13, c_18], rfl⟩) dX9_allowed_49
        · refine lv_iload hE.x hE.b dX9_allowed_32 (lv_at hl 6 rfl) ?_
          refine lv_i2l hE.x hE.b dX9_allowed_34 rfl ?_
          refine lv_lconst (v := lN 0) hE.x hE.b dX9_allowed_35 rfl ?_
          refine lv_lconst (v := lN 1) hE.x hE.b dX9_allowed_36 rfl ?_
          refine z_qi hB (z_cS hE hB (c_X9_in l g (w.toInt64) (lN 0) (lN 1) w.toInt 0 1 (mW g o a F L A ++ X) (Int32.toInt_toInt64 _) (by decide) (by decide)) q4_88 kX9_in ⟨rfl, rfl⟩ ⟨Nat.le_of_ble_eq_true rfl, Nat.le_of_ble_eq_true rfl⟩ rfl hl.1 rfl (Nat.le_of_ble_eq_true rfl) dX9_allowed_37 ⟨Nat.le_of_ble_eq_true rfl, Nat.le_of_ble_eq_true rfl⟩) (fun r_21 w_22 H locs hw hB => ?_)
          obtain ⟨hr9, hw9⟩ := hw
          have hr9 := hr9.symm
          subst hr9
          have hw9 := hw9.symm
          subst hw9
          refine z_bt (b := (inZ 0 1 w.toInt)) (tgt := 50) hE dX9_allowed_40 (by decide) (fun c_23 => ?_) (fun c_23 => ?_)
          · obtain ⟨t, ht, rfl⟩ := pTown_nI c_3 (by omega)
            refine lv_aload_n hE.x hE.b dX9_allowed_50 rfl (lv_at hl 0 rfl) ?_
            refine lv_iload_n hE.x hE.b dX9_allowed_51 rfl (lv_at hl 1 rfl) ?_
            refine lv_iload_n hE.x hE.b dX9_allowed_52 rfl (lv_at hl 2 rfl) ?_
            refine lv_iload_n hE.x hE.b dX9_allowed_53 rfl (lv_at hl 3 rfl) ?_
            refine lv_iload hE.x hE.b dX9_allowed_54 (lv_at hl 4 rfl) ?_
            refine lv_iload hE.x hE.b dX9_allowed_56 (lv_at hl 5 rfl) ?_
            refine lv_iconst (v := nI 0) hE.x hE.b dX9_allowed_58 rfl ?_
            refine z_qi hB (z_cV hE hB (c_X9_decidesIn l g o a F L A X C t ac dd dy sh 0 hC (by omega) (by omega) (by omega)) q4_177 kX9_decidesIn ⟨rfl, rfl⟩ ⟨Nat.le_of_ble_eq_true rfl, Nat.le_of_ble_eq_true rfl⟩ 0 rfl rfl rfl hl.1 rfl (Nat.le_of_ble_eq_true rfl) dX9_allowed_59 ⟨Nat.le_of_ble_eq_true rfl, Nat.le_of_ble_eq_true rfl⟩) (fun r_24 w_25 H locs hw hB => ?_)
            obtain ⟨F1_26, hr9, hw9, hf_27⟩ := hw
            have hr9 := hr9.symm
            subst hr9
            have hw9 := hw9.symm
            subst hw9
            refine lv_istore (lv' := [(7, .int (oI (decN (A 0) C t ac dd dy sh 0))), (0, .ref o), (1, .int (nI t)), (2, .int ac), (3, .int dd), (4, .int dy), (5, .int sh), (6, .int w)]) hE.x hE.b dX9_allowed_62 hl (by decide) rfl (fun ls hl => ?_)
            refine lv_iload hE.x hE.b dX9_allowed_64 (lv_at hl 7 rfl) ?_
            refine lv_iconst (v := nI 1) hE.x hE.b dX9_allowed_66 rfl ?_
            refine lv_icmp_ne (tgt := 75) hE.x hE.b dX9_allowed_67 (by decide) (fun c_28 => ?_) (fun c_28 => ?_)
            · refine lv_iload hE.x hE.b dX9_allowed_75 (lv_at hl 0 rfl) ?_
              refine lv_iconst (v := (-1)) hE.x hE.b dX9_allowed_77 rfl ?_
              refine lv_icmp_eq (tgt := 94) hE.x hE.b dX9_allowed_78 (by decide) (fun c_29 => ?_) (fun c_29 => ?_)
              · refine lv_iconst (v := nI 1) hE.x hE.b dX9_allowed_94 rfl ?_
                refine lv_goto (tgt := 99) hE.x hE.b dX9_allowed_95 (by decide) ?_
                exact z_iret (v := (nI 1)) (ws := mW g o a F1_26 L A ++ X) hE hB hr (⟨F1_26, by unfold allowedR askOK; simp only [c_3, c_8, c_13, c_18, c_23, Bool.and_true, if_true, rcl (show t < 2 ^ 31 by omega)]; rw [if_neg c_28]; unfold isA; rw [oI_none c_29 (fun k h => by have := decN_lt h; omega)]; rfl, by unfold chk askOK; simp only [c_3, c_8, c_13, c_18, c_23, Bool.and_true, if_true], hf_27⟩) dX9_allowed_99
              · obtain ⟨q, hq⟩ := oI_some c_29
                have hq8 := decN_lt hq
                rw [hq] at hl
                have hl : lv_has ls 8 [(7, .int (nI q)), (0, .ref o), (1, .int (nI t)), (2, .int ac), (3, .int dd), (4, .int dy), (5, .int sh), (6, .int w)] := hl
                refine lv_aload_n hE.x hE.b dX9_allowed_81 rfl (lv_at hl 1 rfl) ?_
                refine lv_iload hE.x hE.b dX9_allowed_82 (lv_at hl 0 rfl) ?_
                refine lv_iconst (v := nI 0) hE.x hE.b dX9_allowed_84 rfl ?_
                refine z_qi hB (z_cV hE hB (c_X9_has l g o a F1_26 L A X q 0 (by omega) (by omega)) q4_155 kX9_has ⟨rfl, rfl⟩ ⟨Nat.le_of_ble_eq_true rfl, Nat.le_of_ble_eq_true rfl⟩ 0 rfl rfl rfl hl.1 rfl (Nat.le_of_ble_eq_true rfl) dX9_allowed_85 ⟨Nat.le_of_ble_eq_true rfl, Nat.le_of_ble_eq_true rfl⟩) (fun r_30 w_31 H locs hw hB => ?_)
                obtain ⟨hr9, hw9⟩ := hw
                have hr9 := hr9.symm
                subst hr9
                have hw9 := hw9.symm
                subst hw9
                refine z_qi hB (z_cS hE hB (c_X9_allows l g (A 0 (46 + 5 * q + 0)) (mW g o a F1_26 L A ++ X)) q4_159 kX9_allows ⟨rfl, rfl⟩ ⟨Nat.le_of_ble_eq_true rfl, Nat.le_of_ble_eq_true rfl⟩ rfl hl.1 rfl (Nat.le_of_ble_eq_true rfl) dX9_allowed_88 ⟨Nat.le_of_ble_eq_true rfl, Nat.le_of_ble_eq_true rfl⟩) (fun r_32 w_33 H locs hw hB => ?_)
                obtain ⟨hr9, hw9⟩ := hw
                have hr9 := hr9.symm
                subst hr9
                have hw9 := hw9.symm
                subst hw9
                refine z_bf (b := (alw (A 0 (46 + 5 * q + 0)))) (tgt := 98) hE dX9_allowed_91 (by decide) (fun c_34 => ?_) (fun c_34 => ?_)
                · refine lv_iconst (v := nI 0) hE.x hE.b dX9_allowed_98 rfl ?_
                  exact z_iret (v := (nI 0)) (ws := mW g o a F1_26 L A ++ X) hE hB hr (⟨F1_26, by unfold allowedR askOK; simp only [c_3, c_8, c_13, c_18, c_23, Bool.and_true, if_true, rcl (show t < 2 ^ 31 by omega)]; rw [if_neg c_28]; unfold isA alO; rw [hq]; exact congrArg bI c_34.symm, by unfold chk askOK; simp only [c_3, c_8, c_13, c_18, c_23, Bool.and_true, if_true], hf_27⟩) dX9_allowed_99
                · refine lv_iconst (v := nI 1) hE.x hE.b dX9_allowed_94 rfl ?_
                  refine lv_goto (tgt := 99) hE.x hE.b dX9_allowed_95 (by decide) ?_
                  exact z_iret (v := (nI 1)) (ws := mW g o a F1_26 L A ++ X) hE hB hr (⟨F1_26, by unfold allowedR askOK; simp only [c_3, c_8, c_13, c_18, c_23, Bool.and_true, if_true, rcl (show t < 2 ^ 31 by omega)]; rw [if_neg c_28]; unfold isA alO; rw [hq]; exact congrArg bI c_34.symm, by unfold chk askOK; simp only [c_3, c_8, c_13, c_18, c_23, Bool.and_true, if_true], hf_27⟩) dX9_allowed_99
            · refine lv_iload hE.x hE.b dX9_allowed_70 (lv_at hl 0 rfl) ?_
              refine lv_goto (tgt := 99) hE.x hE.b dX9_allowed_72 (by decide) ?_
              exact z_iret (v := (oI (decN (A 0) C t ac dd dy sh 0))) (ws := mW g o a F1_26 L A ++ X) hE hB hr (⟨F1_26, by unfold allowedR askOK; simp only [c_3, c_8, c_13, c_18, c_23, Bool.and_true, if_true, rcl (show t < 2 ^ 31 by omega)]; rw [if_pos c_28], by unfold chk askOK; simp only [c_3, c_8, c_13, c_18, c_23, Bool.and_true, if_true], hf_27⟩) dX9_allowed_99
          · refine lv_aload_n hE.x hE.b dX9_allowed_43 rfl (lv_at hl 0 rfl) ?_
            refine lv_bipush (v := (-10)) hE.x hE.b dX9_allowed_44 rfl ?_
            refine z_qi hB (z_cV hE hB (c_X9_bad l g o a F L A X (-10)) q4_91 kX9_bad ⟨rfl, rfl⟩ ⟨Nat.le_of_ble_eq_true rfl, Nat.le_of_ble_eq_true rfl⟩ 0 rfl rfl rfl hl.1 rfl (Nat.le_of_ble_eq_true rfl) dX9_allowed_46 ⟨Nat.le_of_ble_eq_true rfl, Nat.le_of_ble_eq_true rfl⟩) (fun r_35 w_36 H locs hw hB => ?_)
            obtain ⟨hr9, hw9⟩ := hw
            have hr9 := hr9.symm
            subst hr9
            have hw9 := hw9.symm
            subst hw9
            exact z_iret (v := (-10)) (ws := mW g o a F L (bump 0 A) ++ X) hE hB hr (⟨F, by unfold allowedR askOK; simp [c_3, c_8, c_13, c_18, c_23], by unfold chk askOK; simp [c_3, c_8, c_13, c_18, c_23], rfl⟩) dX9_allowed_49
end
section
/-! Ways on roads, the nearest, pairs that contradict, what is struck that all agree. -/
theorem shl1_9 : ∀ k, k < 9 → nI 1 <<< (nI k &&& 31) = nI (2 ^ k) := by decide +kernel
def rwE (n : Nat → Int32) (i : Nat) : Nat := rc (n (10 + i))
theorem rwE_v {n : Nat → Int32} {T C V U i j : Nat} (h : nOK n T C V U) (hi : i < 6) (hj : j < 6) : n (10 + 6 * i + j) = nI (rwE n (6 * i + j)) := by
  obtain ⟨d, hd, e⟩ := h.R (6 * i + j) (by omega)
  unfold rwE
  rw [Nat.add_assoc, e, rcl (show d < 2 ^ 31 by omega)]
theorem rwE_9 {n : Nat → Int32} {T C V U i : Nat} (h : nOK n T C V U) (hi : i < 36) : rwE n i ≤ 9 := by
  obtain ⟨d, hd, e⟩ := h.R i hi
  unfold rwE
  rw [e, rcl (show d < 2 ^ 31 by omega)]
  exact hd
def rl (w d : Nat → Nat) (a b : Nat) : Nat → Nat := fun x => if x = b ∧ 0 < w (6 * a + b) ∧ d a + w (6 * a + b) < d b then d a + w (6 * a + b) else d x
def rB (w d : Nat → Nat) (a : Nat) : Nat → Nat → Nat
  | 0 => d
  | k + 1 => rl w (rB w d a k) a k
def rA (w : Nat → Nat) (T : Nat) (d : Nat → Nat) : Nat → Nat → Nat
  | 0 => d
  | k + 1 => rB w (rA w T d k) k T
def rN (w : Nat → Nat) (T : Nat) (d : Nat → Nat) : Nat → Nat → Nat
  | 0 => d
  | k + 1 => rA w T (rN w T d k) T
def d0 (fr big : Nat) : Nat → Nat := fun x => if x = fr then 0 else big
theorem rl_le {w d : Nat → Nat} {a b x : Nat} : rl w d a b x ≤ d x := by
  unfold rl
  split
  · next h => rw [h.1]; omega
  · exact Nat.le_refl _
theorem rB_le {w d : Nat → Nat} {a x : Nat} : ∀ {k}, rB w d a k x ≤ d x := by
  intro k
  induction k with
  | zero => exact Nat.le_refl _
  | succ k ih => exact Nat.le_trans rl_le ih
theorem rA_le {w d : Nat → Nat} {T x : Nat} : ∀ {k}, rA w T d k x ≤ d x := by
  intro k
  induction k with
  | zero => exact Nat.le_refl _
  | succ k ih => exact Nat.le_trans rB_le ih
theorem rN_le {w d : Nat → Nat} {T x : Nat} : ∀ {k}, rN w T d k x ≤ d x := by
  intro k
  induction k with
  | zero => exact Nat.le_refl _
  | succ k ih => exact Nat.le_trans rA_le ih
theorem d0_le {fr big x : Nat} : d0 fr big x ≤ big := by unfold d0; split <;> omega
theorem rl_yes {w d : Nat → Nat} {f : Nat → Int32} {a b : Nat} (h0 : 0 < w (6 * a + b)) (h1 : d a + w (6 * a + b) < d b) (hf : ∀ t, t < 6 → f t = nI (d t)) : ∀ t, t < 6 → upd f b (nI (d a + w (6 * a + b))) t = nI (rl w d a b t) := by
  intro t ht
  simp only [upd, rl]
  by_cases h : t = b
  · rw [if_pos h, if_pos ⟨h, h0, h1⟩]
  · rw [if_neg h, if_neg (show ¬ (t = b ∧ 0 < w (6 * a + b) ∧ d a + w (6 * a + b) < d b) from fun z => h z.1)]
    exact hf t ht
theorem rl_no {w d : Nat → Nat} {f : Nat → Int32} {a b : Nat} (h0 : ¬ (0 < w (6 * a + b) ∧ d a + w (6 * a + b) < d b)) (hf : ∀ t, t < 6 → f t = nI (d t)) : ∀ t, t < 6 → upd f b (nI (d b)) t = nI (rl w d a b t) := by
  intro t ht
  simp only [upd, rl]
  rw [if_neg (show ¬ (t = b ∧ 0 < w (6 * a + b) ∧ d a + w (6 * a + b) < d b) from fun z => h0 z.2)]
  by_cases h : t = b
  · rw [if_pos h, h]
  · rw [if_neg h]
    exact hf t ht
/-- the model's ways: 1000000 where there is none -/
def fD (n : Nat → Int32) (T fr : Nat) : Nat → Nat := rN (rwE n) T (d0 fr 1000000) T
theorem fD_le {n : Nat → Int32} {T fr x : Nat} : fD n T fr x ≤ 1000000 := Nat.le_trans rN_le d0_le
def farR (n : Nat → Int32) (T : Nat) (x y : Int32) : Int32 := if (pTown T x && pTown T y) = true then (if fD n T (rc x) (rc y) < 1000000 then nI (fD n T (rc x) (rc y)) else (-1)) else (-2)
/-- the nearest on one day: of those that allow and can be reached by then -/
def nrT (al : Nat → Bool) (fd : Nat → Nat) (most : Nat) : Nat → Option Nat
  | 0 => none
  | k + 1 => match nrT al fd most k with
    | none => if fd k ≤ most ∧ al k = true then some k else none
    | some b => if fd k ≤ most ∧ fd k < fd b ∧ al k = true then some k else some b
theorem nrT_lt {al : Nat → Bool} {fd : Nat → Nat} {most : Nat} : ∀ {k b : Nat}, nrT al fd most k = some b → b < k ∧ fd b ≤ most := by
  intro k
  induction k with
  | zero => intro b h; cases h
  | succ k ih =>
    intro b h
    simp only [nrT] at h
    cases h2 : nrT al fd most k with
    | none =>
      rw [h2] at h
      simp only at h
      split at h
      · next h3 => cases h; exact ⟨Nat.lt_succ_self _, h3.1⟩
      · cases h
    | some c =>
      rw [h2] at h
      simp only at h
      split at h
      · next h3 => cases h; exact ⟨Nat.lt_succ_self _, h3.1⟩
      · cases h; exact ⟨Nat.lt_succ_of_lt (ih h2).1, (ih h2).2⟩
/-- from a day on, r days: the first day on which there is one -/
def nrS (P : Nat → Option Nat) : Nat → Nat → Option (Nat × Nat)
  | 0, _ => none
  | r + 1, d => match P d with
    | some t => some (d, t)
    | none => nrS P r (d + 1)
def nrP (n : Nat → Int32) (T C : Nat) (fr : Nat) (ac : Int32) (day : Nat) (dy sh : Int32) (d : Nat) : Option Nat := nrT (fun t => isA n C t ac (nI d) dy sh 0) (fD n T fr) (d - day) T
def nearestR (n : Nat → Int32) (T C : Nat) (tw ac dd dy sh w : Int32) : Int32 := if (askOK T tw ac dd dy sh && pIn 0 2 w) = true then (match nrS (nrP n T C (rc tw) ac (rc dd) dy sh) (60 - rc dd) (rc dd) with
  | none => (-1)
  | some (d, t) => if w = 0 then nI d else if w = nI 1 then nI t else nI (fD n T (rc tw) t)) else (-2)
/-- pairs: how many, and the i-th -/
def cdB (al : Nat → Bool) (i : Int32) (a : Nat) (x : Nat × Int32) : Nat → Nat × Int32
  | 0 => x
  | k + 1 => if al a = al (a + 1 + k) then cdB al i a x k else ((cdB al i a x k).1 + 1, if nI (cdB al i a x k).1 = i then nI (10 * a + (a + 1 + k)) else (cdB al i a x k).2)
def cdA (al : Nat → Bool) (T : Nat) (i : Int32) : Nat → Nat × Int32
  | 0 => (0, (-5))
  | a + 1 => cdB al i a (cdA al T i a) (T - (a + 1))
theorem cdB_le {al : Nat → Bool} {i : Int32} {a : Nat} {x : Nat × Int32} : ∀ k, (cdB al i a x k).1 ≤ x.1 + k := by
  intro k
  induction k with
  | zero => exact Nat.le_refl _
  | succ k ih =>
    simp only [cdB]
    split
    · omega
    · show (cdB al i a x k).1 + 1 ≤ _
      omega
theorem cdA_le {al : Nat → Bool} {T : Nat} {i : Int32} : ∀ a, (cdA al T i a).1 ≤ a * T := by
  intro a
  induction a with
  | zero => exact Nat.zero_le _
  | succ a ih =>
    have h1 := cdB_le (al := al) (i := i) (a := a) (x := cdA al T i a) (T - (a + 1))
    simp only [cdA]
    rw [Nat.succ_mul]
    omega
def cdAl (n : Nat → Int32) (C : Nat) (ac dd : Int32) (t : Nat) : Bool := isA n C t ac dd (nI 0) (nI 0) 0
def contradictOK (ac dd i : Int32) : Bool := pIn 0 5 ac && (pIn 0 59 dd && decide (-1 ≤ i.toInt))
def contradictR (n : Nat → Int32) (T C : Nat) (ac dd i : Int32) : Int32 := if contradictOK ac dd i = true then (if i = (-1) then nI (cdA (cdAl n C ac dd) T i T).1 else (cdA (cdAl n C ac dd) T i T).2) else (-10)
/-- all towns agree in the acts -/
def acAl (n : Nat → Int32) (C : Nat) (dd : Int32) (S : Nat) (a t : Nat) : Bool := isA n C t (nI a) dd (nI 0) (nI 0) S
def agP (al : Nat → Nat → Bool) (T acts k : Nat) : Prop := ∀ a, a < k → acts / 2 ^ a % 2 = 1 → ∀ t, 1 ≤ t → t < T → al a t = al a 0
noncomputable def agB (al : Nat → Nat → Bool) (T acts : Nat) : Bool := @decide (agP al T acts 6) (Classical.propDecidable _)
theorem agB_t {al : Nat → Nat → Bool} {T acts : Nat} (h : agP al T acts 6) : agB al T acts = true := by unfold agB; exact @decide_eq_true _ (Classical.propDecidable _) h
theorem agB_f {al : Nat → Nat → Bool} {T acts : Nat} (h : ¬ agP al T acts 6) : agB al T acts = false := by unfold agB; exact @decide_eq_false _ (Classical.propDecidable _) h
/-- the fewest struck -/
def stl (ag : Nat → Bool) (all : Nat) : Nat → Nat
  | 0 => all
  | k + 1 => if pop k < pop (stl ag all k) ∧ ag k = true then k else stl ag all k
theorem stl_lt {ag : Nat → Bool} {all : Nat} : ∀ k, k ≤ all + 1 → stl ag all k ≤ all := by
  intro k
  induction k with
  | zero => intro _; exact Nat.le_refl _
  | succ k ih => intro h; simp only [stl]; split
                 · omega
                 · exact ih (by omega)
noncomputable def settleR (n : Nat → Int32) (T C : Nat) (ac dd : Int32) : Int32 := if (pIn 0 63 ac && pIn 0 59 dd) = true then nI (stl (fun S => agB (acAl n C dd S) T (rc ac)) (2 ^ C - 1) (2 ^ C)) else (-2)
/-- readings by which it is allowed, as bits -/
def rdB (P : Nat → Bool) : Nat → Nat
  | 0 => 0
  | r + 1 => rdB P r ||| (if P r = true then 2 ^ r else 0)
def readsR (n : Nat → Int32) (T C : Nat) (tw ac dd dy sh : Int32) : Int32 := if askOK T tw ac dd dy sh = true then nI (rdB (fun r => alO n (decP n C (nI r) (hP n 0 tw ac dd dy sh))) 4) else (-2)
/-- one of the acts is forbidden -/
def fbP (al : Nat → Nat → Bool) (acts t k : Nat) : Prop := ∃ a, a < k ∧ acts / 2 ^ a % 2 = 1 ∧ al a t = false
noncomputable def fbB (al : Nat → Nat → Bool) (acts t : Nat) : Bool := @decide (fbP al acts t 6) (Classical.propDecidable _)
theorem fbB_t {al : Nat → Nat → Bool} {acts t : Nat} (h : fbP al acts t 6) : fbB al acts t = true := by unfold fbB; exact @decide_eq_true _ (Classical.propDecidable _) h
theorem fbB_f {al : Nat → Nat → Bool} {acts t : Nat} (h : ¬ fbP al acts t 6) : fbB al acts t = false := by unfold fbB; exact @decide_eq_false _ (Classical.propDecidable _) h
end
section
theorem d0_st {f : Nat → Int32} {fr big t : Nat} {v : Int32} (hv : v = nI (d0 fr big t)) (hf : ∀ x, x < t → f x = nI (d0 fr big x)) : ∀ x, x < t + 1 → upd f t v x = nI (d0 fr big x) := by
  intro x hx
  simp only [upd]
  by_cases h : x = t
  · rw [if_pos h, hv, h]
  · rw [if_neg h]
    exact hf x (by omega)
theorem nrT_no {al : Nat → Bool} {fd : Nat → Nat} {most k : Nat} {b : Option Nat} (hb : b = nrT al fd most k) (h : ¬ (fd k ≤ most ∧ ∀ q, b = some q → fd k < fd q) ∨ al k = false) : b = nrT al fd most (k + 1) := by
  simp only [nrT]
  rw [← hb]
  cases b with
  | none =>
    simp only
    rw [if_neg]
    intro z
    rcases h with h | h
    · exact h ⟨z.1, fun q hq => by cases hq⟩
    · rw [h] at z; exact absurd z.2 (by decide)
  | some c =>
    simp only
    rw [if_neg]
    intro z
    rcases h with h | h
    · exact h ⟨z.1, fun q hq => by cases hq; exact z.2.1⟩
    · rw [h] at z; exact absurd z.2.2 (by decide)
theorem nrT_yes {al : Nat → Bool} {fd : Nat → Nat} {most k : Nat} {b : Option Nat} (hb : b = nrT al fd most k) (h : fd k ≤ most ∧ ∀ q, b = some q → fd k < fd q) (ha : al k = true) : some k = nrT al fd most (k + 1) := by
  simp only [nrT]
  rw [← hb]
  cases b with
  | none => simp only; rw [if_pos ⟨h.1, ha⟩]
  | some c => simp only; rw [if_pos ⟨h.1, h.2 c rfl, ha⟩]
theorem nrS_yes {P : Nat → Option Nat} {r d q : Nat} (h : 0 < r) (hp : P d = some q) : nrS P r d = some (d, q) := by
  cases r with
  | zero => omega
  | succ r => simp only [nrS, hp]
theorem nrS_no {P : Nat → Option Nat} {d : Nat} (h : d < 60) (hp : P d = none) : nrS P (60 - d) d = nrS P (60 - (d + 1)) (d + 1) := by
  rw [show 60 - d = (60 - (d + 1)) + 1 by omega]
  simp only [nrS, hp]
end
section
theorem dX9_layFar_0 : decode cX9_layFar 0 = .ok (.iconst 0, 1) := by decide +kernel
theorem dX9_layFar_1 : decode cX9_layFar 1 = .ok (.istore_n 2, 1) := by decide +kernel
theorem dX9_layFar_2 : decode cX9_layFar 2 = .ok (.iload_n 2, 1) := by decide +kernel
theorem dX9_layFar_3 : decode cX9_layFar 3 = .ok (.bipush 6, 2) := by decide +kernel
theorem dX9_layFar_5 : decode cX9_layFar 5 = .ok (.if_icmp .ge 26, 3) := by decide +kernel
theorem dX9_layFar_8 : decode cX9_layFar 8 = .ok (.aload_n 0, 1) := by decide +kernel
theorem dX9_layFar_9 : decode cX9_layFar 9 = .ok (.getfield 27, 3) := by decide +kernel
theorem dX9_layFar_12 : decode cX9_layFar 12 = .ok (.iload_n 2, 1) := by decide +kernel
theorem dX9_layFar_13 : decode cX9_layFar 13 = .ok (.iload_n 2, 1) := by decide +kernel
theorem dX9_layFar_14 : decode cX9_layFar 14 = .ok (.iload_n 1, 1) := by decide +kernel
theorem dX9_layFar_15 : decode cX9_layFar 15 = .ok (.if_icmp .ne 7, 3) := by decide +kernel
theorem dX9_layFar_18 : decode cX9_layFar 18 = .ok (.iconst 0, 1) := by decide +kernel
theorem dX9_layFar_19 : decode cX9_layFar 19 = .ok (.goto 5, 3) := by decide +kernel
theorem dX9_layFar_22 : decode cX9_layFar 22 = .ok (.ldc 154, 2) := by decide +kernel
theorem dX9_layFar_24 : decode cX9_layFar 24 = .ok (.iastore, 1) := by decide +kernel
theorem dX9_layFar_25 : decode cX9_layFar 25 = .ok (.iinc 2 1, 3) := by decide +kernel
theorem dX9_layFar_28 : decode cX9_layFar 28 = .ok (.goto (-26), 3) := by decide +kernel
theorem dX9_layFar_31 : decode cX9_layFar 31 = .ok (.iconst 0, 1) := by decide +kernel
theorem dX9_layFar_32 : decode cX9_layFar 32 = .ok (.istore_n 2, 1) := by decide +kernel
theorem dX9_layFar_33 : decode cX9_layFar 33 = .ok (.iload_n 2, 1) := by decide +kernel
theorem dX9_layFar_34 : decode cX9_layFar 34 = .ok (.aload_n 0, 1) := by decide +kernel
theorem dX9_layFar_35 : decode cX9_layFar 35 = .ok (.invokevirtual 39, 3) := by decide +kernel
theorem dX9_layFar_38 : decode cX9_layFar 38 = .ok (.if_icmp .ge 110, 3) := by decide +kernel
theorem dX9_layFar_41 : decode cX9_layFar 41 = .ok (.iconst 0, 1) := by decide +kernel
theorem dX9_layFar_42 : decode cX9_layFar 42 = .ok (.istore_n 3, 1) := by decide +kernel
theorem dX9_layFar_43 : decode cX9_layFar 43 = .ok (.iload_n 3, 1) := by decide +kernel
theorem dX9_layFar_44 : decode cX9_layFar 44 = .ok (.aload_n 0, 1) := by decide +kernel
theorem dX9_layFar_45 : decode cX9_layFar 45 = .ok (.invokevirtual 39, 3) := by decide +kernel
theorem dX9_layFar_48 : decode cX9_layFar 48 = .ok (.if_icmp .ge 94, 3) := by decide +kernel
theorem dX9_layFar_51 : decode cX9_layFar 51 = .ok (.iconst 0, 1) := by decide +kernel
theorem dX9_layFar_52 : decode cX9_layFar 52 = .ok (.istore 4, 2) := by decide +kernel
theorem dX9_layFar_54 : decode cX9_layFar 54 = .ok (.iload 4, 2) := by decide +kernel
theorem dX9_layFar_56 : decode cX9_layFar 56 = .ok (.aload_n 0, 1) := by decide +kernel
theorem dX9_layFar_57 : decode cX9_layFar 57 = .ok (.invokevirtual 39, 3) := by decide +kernel
theorem dX9_layFar_60 : decode cX9_layFar 60 = .ok (.if_icmp .ge 76, 3) := by decide +kernel
theorem dX9_layFar_63 : decode cX9_layFar 63 = .ok (.aload_n 0, 1) := by decide +kernel
theorem dX9_layFar_64 : decode cX9_layFar 64 = .ok (.getfield 7, 3) := by decide +kernel
theorem dX9_layFar_67 : decode cX9_layFar 67 = .ok (.bipush 10, 2) := by decide +kernel
theorem dX9_layFar_69 : decode cX9_layFar 69 = .ok (.bipush 6, 2) := by decide +kernel
theorem dX9_layFar_71 : decode cX9_layFar 71 = .ok (.iload_n 3, 1) := by decide +kernel
theorem dX9_layFar_72 : decode cX9_layFar 72 = .ok (.imul, 1) := by decide +kernel
theorem dX9_layFar_73 : decode cX9_layFar 73 = .ok (.iadd, 1) := by decide +kernel
theorem dX9_layFar_74 : decode cX9_layFar 74 = .ok (.iload 4, 2) := by decide +kernel
theorem dX9_layFar_76 : decode cX9_layFar 76 = .ok (.iadd, 1) := by decide +kernel
theorem dX9_layFar_77 : decode cX9_layFar 77 = .ok (.iaload, 1) := by decide +kernel
theorem dX9_layFar_78 : decode cX9_layFar 78 = .ok (.istore 5, 2) := by decide +kernel
theorem dX9_layFar_80 : decode cX9_layFar 80 = .ok (.aload_n 0, 1) := by decide +kernel
theorem dX9_layFar_81 : decode cX9_layFar 81 = .ok (.getfield 27, 3) := by decide +kernel
theorem dX9_layFar_84 : decode cX9_layFar 84 = .ok (.iload 4, 2) := by decide +kernel
theorem dX9_layFar_86 : decode cX9_layFar 86 = .ok (.iload 5, 2) := by decide +kernel
theorem dX9_layFar_88 : decode cX9_layFar 88 = .ok (.ifCond .le 34, 3) := by decide +kernel
theorem dX9_layFar_91 : decode cX9_layFar 91 = .ok (.aload_n 0, 1) := by decide +kernel
theorem dX9_layFar_92 : decode cX9_layFar 92 = .ok (.getfield 27, 3) := by decide +kernel
theorem dX9_layFar_95 : decode cX9_layFar 95 = .ok (.iload_n 3, 1) := by decide +kernel
theorem dX9_layFar_96 : decode cX9_layFar 96 = .ok (.iaload, 1) := by decide +kernel
theorem dX9_layFar_97 : decode cX9_layFar 97 = .ok (.iload 5, 2) := by decide +kernel
theorem dX9_layFar_99 : decode cX9_layFar 99 = .ok (.iadd, 1) := by decide +kernel
theorem dX9_layFar_100 : decode cX9_layFar 100 = .ok (.aload_n 0, 1) := by decide +kernel
theorem dX9_layFar_101 : decode cX9_layFar 101 = .ok (.getfield 27, 3) := by decide +kernel
theorem dX9_layFar_104 : decode cX9_layFar 104 = .ok (.iload 4, 2) := by decide +kernel
theorem dX9_layFar_106 : decode cX9_layFar 106 = .ok (.iaload, 1) := by decide +kernel
theorem dX9_layFar_107 : decode cX9_layFar 107 = .ok (.if_icmp .ge 15, 3) := by decide +kernel
theorem dX9_layFar_110 : decode cX9_layFar 110 = .ok (.aload_n 0, 1) := by decide +kernel
theorem dX9_layFar_111 : decode cX9_layFar 111 = .ok (.getfield 27, 3) := by decide +kernel
theorem dX9_layFar_114 : decode cX9_layFar 114 = .ok (.iload_n 3, 1) := by decide +kernel
theorem dX9_layFar_115 : decode cX9_layFar 115 = .ok (.iaload, 1) := by decide +kernel
theorem dX9_layFar_116 : decode cX9_layFar 116 = .ok (.iload 5, 2) := by decide +kernel
theorem dX9_layFar_118 : decode cX9_layFar 118 = .ok (.iadd, 1) := by decide +kernel
theorem dX9_layFar_119 : decode cX9_layFar 119 = .ok (.goto 10, 3) := by decide +kernel
theorem dX9_layFar_122 : decode cX9_layFar 122 = .ok (.aload_n 0, 1) := by decide +kernel
theorem dX9_layFar_123 : decode cX9_layFar 123 = .ok (.getfield 27, 3) := by decide +kernel
theorem dX9_layFar_126 : decode cX9_layFar 126 = .ok (.iload 4, 2) := by decide +kernel
theorem dX9_layFar_128 : decode cX9_layFar 128 = .ok (.iaload, 1) := by decide +kernel
theorem dX9_layFar_129 : decode cX9_layFar 129 = .ok (.iastore, 1) := by decide +kernel
theorem dX9_layFar_130 : decode cX9_layFar 130 = .ok (.iinc 4 1, 3) := by decide +kernel
theorem dX9_layFar_133 : decode cX9_layFar 133 = .ok (.goto (-79), 3) := by decide +kernel
theorem dX9_layFar_136 : decode cX9_layFar 136 = .ok (.iinc 3 1, 3) := by decide +kernel
theorem dX9_layFar_139 : decode cX9_layFar 139 = .ok (.goto (-96), 3) := by decide +kernel
theorem dX9_layFar_142 : decode cX9_layFar 142 = .ok (.iinc 2 1, 3) := by decide +kernel
theorem dX9_layFar_145 : decode cX9_layFar 145 = .ok (.goto (-112), 3) := by decide +kernel
theorem dX9_layFar_148 : decode cX9_layFar 148 = .ok (.return_, 1) := by decide +kernel
theorem dX9_far_0 : decode cX9_far 0 = .ok (.aload_n 0, 1) := by decide +kernel
theorem dX9_far_1 : decode cX9_far 1 = .ok (.iload_n 1, 1) := by decide +kernel
theorem dX9_far_2 : decode cX9_far 2 = .ok (.invokevirtual 73, 3) := by decide +kernel
theorem dX9_far_5 : decode cX9_far 5 = .ok (.ifCond .eq 11, 3) := by decide +kernel
theorem dX9_far_8 : decode cX9_far 8 = .ok (.aload_n 0, 1) := by decide +kernel
theorem dX9_far_9 : decode cX9_far 9 = .ok (.iload_n 2, 1) := by decide +kernel
theorem dX9_far_10 : decode cX9_far 10 = .ok (.invokevirtual 73, 3) := by decide +kernel
theorem dX9_far_13 : decode cX9_far 13 = .ok (.ifCond .ne 10, 3) := by decide +kernel
theorem dX9_far_16 : decode cX9_far 16 = .ok (.aload_n 0, 1) := by decide +kernel
theorem dX9_far_17 : decode cX9_far 17 = .ok (.bipush (-2), 2) := by decide +kernel
theorem dX9_far_19 : decode cX9_far 19 = .ok (.invokevirtual 62, 3) := by decide +kernel
theorem dX9_far_22 : decode cX9_far 22 = .ok (.ireturn, 1) := by decide +kernel
theorem dX9_far_23 : decode cX9_far 23 = .ok (.aload_n 0, 1) := by decide +kernel
theorem dX9_far_24 : decode cX9_far 24 = .ok (.iload_n 1, 1) := by decide +kernel
theorem dX9_far_25 : decode cX9_far 25 = .ok (.invokevirtual 155, 3) := by decide +kernel
theorem dX9_far_28 : decode cX9_far 28 = .ok (.aload_n 0, 1) := by decide +kernel
theorem dX9_far_29 : decode cX9_far 29 = .ok (.getfield 27, 3) := by decide +kernel
theorem dX9_far_32 : decode cX9_far 32 = .ok (.iload_n 2, 1) := by decide +kernel
theorem dX9_far_33 : decode cX9_far 33 = .ok (.iaload, 1) := by decide +kernel
theorem dX9_far_34 : decode cX9_far 34 = .ok (.ldc 154, 2) := by decide +kernel
theorem dX9_far_36 : decode cX9_far 36 = .ok (.if_icmp .ge 12, 3) := by decide +kernel
theorem dX9_far_39 : decode cX9_far 39 = .ok (.aload_n 0, 1) := by decide +kernel
theorem dX9_far_40 : decode cX9_far 40 = .ok (.getfield 27, 3) := by decide +kernel
theorem dX9_far_43 : decode cX9_far 43 = .ok (.iload_n 2, 1) := by decide +kernel
theorem dX9_far_44 : decode cX9_far 44 = .ok (.iaload, 1) := by decide +kernel
theorem dX9_far_45 : decode cX9_far 45 = .ok (.goto 4, 3) := by decide +kernel
theorem dX9_far_48 : decode cX9_far 48 = .ok (.iconst (-1), 1) := by decide +kernel
theorem dX9_far_49 : decode cX9_far 49 = .ok (.ireturn, 1) := by decide +kernel
theorem dX9_nearest_0 : decode cX9_nearest 0 = .ok (.aload_n 0, 1) := by decide +kernel
theorem dX9_nearest_1 : decode cX9_nearest 1 = .ok (.iload_n 1, 1) := by decide +kernel
theorem dX9_nearest_2 : decode cX9_nearest 2 = .ok (.invokevirtual 73, 3) := by decide +kernel
theorem dX9_nearest_5 : decode cX9_nearest 5 = .ok (.ifCond .eq 40, 3) := by decide +kernel
theorem dX9_nearest_8 : decode cX9_nearest 8 = .ok (.iload_n 2, 1) := by decide +kernel
theorem dX9_nearest_9 : decode cX9_nearest 9 = .ok (.invokestatic 83, 3) := by decide +kernel
theorem dX9_nearest_12 : decode cX9_nearest 12 = .ok (.ifCond .eq 33, 3) := by decide +kernel
theorem dX9_nearest_15 : decode cX9_nearest 15 = .ok (.iload_n 3, 1) := by decide +kernel
theorem dX9_nearest_16 : decode cX9_nearest 16 = .ok (.invokestatic 147, 3) := by decide +kernel
theorem dX9_nearest_19 : decode cX9_nearest 19 = .ok (.ifCond .eq 26, 3) := by decide +kernel
theorem dX9_nearest_22 : decode cX9_nearest 22 = .ok (.iload 4, 2) := by decide +kernel
theorem dX9_nearest_24 : decode cX9_nearest 24 = .ok (.iload 5, 2) := by decide +kernel
theorem dX9_nearest_26 : decode cX9_nearest 26 = .ok (.invokestatic 150, 3) := by decide +kernel
theorem dX9_nearest_29 : decode cX9_nearest 29 = .ok (.ifCond .eq 16, 3) := by decide +kernel
theorem dX9_nearest_32 : decode cX9_nearest 32 = .ok (.iload 6, 2) := by decide +kernel
theorem dX9_nearest_34 : decode cX9_nearest 34 = .ok (.i2l, 1) := by decide +kernel
theorem dX9_nearest_35 : decode cX9_nearest 35 = .ok (.lconst 0, 1) := by decide +kernel
theorem dX9_nearest_36 : decode cX9_nearest 36 = .ok (.ldc2_w 159, 3) := by decide +kernel
theorem dX9_nearest_39 : decode cX9_nearest 39 = .ok (.invokestatic 43, 3) := by decide +kernel
theorem dX9_nearest_42 : decode cX9_nearest 42 = .ok (.ifCond .ne 10, 3) := by decide +kernel
theorem dX9_nearest_45 : decode cX9_nearest 45 = .ok (.aload_n 0, 1) := by decide +kernel
theorem dX9_nearest_46 : decode cX9_nearest 46 = .ok (.bipush (-2), 2) := by decide +kernel
theorem dX9_nearest_48 : decode cX9_nearest 48 = .ok (.invokevirtual 62, 3) := by decide +kernel
theorem dX9_nearest_51 : decode cX9_nearest 51 = .ok (.ireturn, 1) := by decide +kernel
theorem dX9_nearest_52 : decode cX9_nearest 52 = .ok (.aload_n 0, 1) := by decide +kernel
theorem dX9_nearest_53 : decode cX9_nearest 53 = .ok (.iload_n 1, 1) := by decide +kernel
theorem dX9_nearest_54 : decode cX9_nearest 54 = .ok (.invokevirtual 155, 3) := by decide +kernel
theorem dX9_nearest_57 : decode cX9_nearest 57 = .ok (.iload_n 3, 1) := by decide +kernel
theorem dX9_nearest_58 : decode cX9_nearest 58 = .ok (.istore 7, 2) := by decide +kernel
theorem dX9_nearest_60 : decode cX9_nearest 60 = .ok (.iload 7, 2) := by decide +kernel
theorem dX9_nearest_62 : decode cX9_nearest 62 = .ok (.bipush 60, 2) := by decide +kernel
theorem dX9_nearest_64 : decode cX9_nearest 64 = .ok (.if_icmp .ge 140, 3) := by decide +kernel
theorem dX9_nearest_67 : decode cX9_nearest 67 = .ok (.iconst (-1), 1) := by decide +kernel
theorem dX9_nearest_68 : decode cX9_nearest 68 = .ok (.istore 8, 2) := by decide +kernel
theorem dX9_nearest_70 : decode cX9_nearest 70 = .ok (.iconst 0, 1) := by decide +kernel
theorem dX9_nearest_71 : decode cX9_nearest 71 = .ok (.istore 9, 2) := by decide +kernel
theorem dX9_nearest_73 : decode cX9_nearest 73 = .ok (.iload 9, 2) := by decide +kernel
theorem dX9_nearest_75 : decode cX9_nearest 75 = .ok (.aload_n 0, 1) := by decide +kernel
theorem dX9_nearest_76 : decode cX9_nearest 76 = .ok (.invokevirtual 39, 3) := by decide +kernel
theorem dX9_nearest_79 : decode cX9_nearest 79 = .ok (.if_icmp .ge 84, 3) := by decide +kernel
theorem dX9_nearest_82 : decode cX9_nearest 82 = .ok (.aload_n 0, 1) := by decide +kernel
theorem dX9_nearest_83 : decode cX9_nearest 83 = .ok (.getfield 27, 3) := by decide +kernel
theorem dX9_nearest_86 : decode cX9_nearest 86 = .ok (.iload 9, 2) := by decide +kernel
theorem dX9_nearest_88 : decode cX9_nearest 88 = .ok (.iaload, 1) := by decide +kernel
theorem dX9_nearest_89 : decode cX9_nearest 89 = .ok (.iload 7, 2) := by decide +kernel
theorem dX9_nearest_91 : decode cX9_nearest 91 = .ok (.iload_n 3, 1) := by decide +kernel
theorem dX9_nearest_92 : decode cX9_nearest 92 = .ok (.isub, 1) := by decide +kernel
theorem dX9_nearest_93 : decode cX9_nearest 93 = .ok (.if_icmp .gt 30, 3) := by decide +kernel
theorem dX9_nearest_96 : decode cX9_nearest 96 = .ok (.iload 8, 2) := by decide +kernel
theorem dX9_nearest_98 : decode cX9_nearest 98 = .ok (.iconst (-1), 1) := by decide +kernel
theorem dX9_nearest_99 : decode cX9_nearest 99 = .ok (.if_icmp .eq 20, 3) := by decide +kernel
theorem dX9_nearest_102 : decode cX9_nearest 102 = .ok (.aload_n 0, 1) := by decide +kernel
theorem dX9_nearest_103 : decode cX9_nearest 103 = .ok (.getfield 27, 3) := by decide +kernel
theorem dX9_nearest_106 : decode cX9_nearest 106 = .ok (.iload 9, 2) := by decide +kernel
theorem dX9_nearest_108 : decode cX9_nearest 108 = .ok (.iaload, 1) := by decide +kernel
theorem dX9_nearest_109 : decode cX9_nearest 109 = .ok (.aload_n 0, 1) := by decide +kernel
theorem dX9_nearest_110 : decode cX9_nearest 110 = .ok (.getfield 27, 3) := by decide +kernel
theorem dX9_nearest_113 : decode cX9_nearest 113 = .ok (.iload 8, 2) := by decide +kernel
theorem dX9_nearest_115 : decode cX9_nearest 115 = .ok (.iaload, 1) := by decide +kernel
theorem dX9_nearest_116 : decode cX9_nearest 116 = .ok (.if_icmp .ge 7, 3) := by decide +kernel
theorem dX9_nearest_119 : decode cX9_nearest 119 = .ok (.iconst 1, 1) := by decide +kernel
theorem dX9_nearest_120 : decode cX9_nearest 120 = .ok (.goto 4, 3) := by decide +kernel
theorem dX9_nearest_123 : decode cX9_nearest 123 = .ok (.iconst 0, 1) := by decide +kernel
theorem dX9_nearest_124 : decode cX9_nearest 124 = .ok (.istore 10, 2) := by decide +kernel
theorem dX9_nearest_126 : decode cX9_nearest 126 = .ok (.iload 10, 2) := by decide +kernel
theorem dX9_nearest_128 : decode cX9_nearest 128 = .ok (.ifCond .eq 25, 3) := by decide +kernel
theorem dX9_nearest_131 : decode cX9_nearest 131 = .ok (.aload_n 0, 1) := by decide +kernel
theorem dX9_nearest_132 : decode cX9_nearest 132 = .ok (.iload 9, 2) := by decide +kernel
theorem dX9_nearest_134 : decode cX9_nearest 134 = .ok (.iload_n 2, 1) := by decide +kernel
theorem dX9_nearest_135 : decode cX9_nearest 135 = .ok (.iload 7, 2) := by decide +kernel
theorem dX9_nearest_137 : decode cX9_nearest 137 = .ok (.iload 4, 2) := by decide +kernel
theorem dX9_nearest_139 : decode cX9_nearest 139 = .ok (.iload 5, 2) := by decide +kernel
theorem dX9_nearest_141 : decode cX9_nearest 141 = .ok (.iconst 0, 1) := by decide +kernel
theorem dX9_nearest_142 : decode cX9_nearest 142 = .ok (.invokevirtual 161, 3) := by decide +kernel
theorem dX9_nearest_145 : decode cX9_nearest 145 = .ok (.ifCond .eq 8, 3) := by decide +kernel
theorem dX9_nearest_148 : decode cX9_nearest 148 = .ok (.iload 9, 2) := by decide +kernel
theorem dX9_nearest_150 : decode cX9_nearest 150 = .ok (.goto 5, 3) := by decide +kernel
theorem dX9_nearest_153 : decode cX9_nearest 153 = .ok (.iload 8, 2) := by decide +kernel
theorem dX9_nearest_155 : decode cX9_nearest 155 = .ok (.istore 8, 2) := by decide +kernel
theorem dX9_nearest_157 : decode cX9_nearest 157 = .ok (.iinc 9 1, 3) := by decide +kernel
theorem dX9_nearest_160 : decode cX9_nearest 160 = .ok (.goto (-87), 3) := by decide +kernel
theorem dX9_nearest_163 : decode cX9_nearest 163 = .ok (.iload 8, 2) := by decide +kernel
theorem dX9_nearest_165 : decode cX9_nearest 165 = .ok (.iconst (-1), 1) := by decide +kernel
theorem dX9_nearest_166 : decode cX9_nearest 166 = .ok (.if_icmp .eq 32, 3) := by decide +kernel
theorem dX9_nearest_169 : decode cX9_nearest 169 = .ok (.iload 6, 2) := by decide +kernel
theorem dX9_nearest_171 : decode cX9_nearest 171 = .ok (.ifCond .ne 8, 3) := by decide +kernel
theorem dX9_nearest_174 : decode cX9_nearest 174 = .ok (.iload 7, 2) := by decide +kernel
theorem dX9_nearest_176 : decode cX9_nearest 176 = .ok (.goto 21, 3) := by decide +kernel
theorem dX9_nearest_179 : decode cX9_nearest 179 = .ok (.iload 6, 2) := by decide +kernel
theorem dX9_nearest_181 : decode cX9_nearest 181 = .ok (.iconst 1, 1) := by decide +kernel
theorem dX9_nearest_182 : decode cX9_nearest 182 = .ok (.if_icmp .ne 8, 3) := by decide +kernel
theorem dX9_nearest_185 : decode cX9_nearest 185 = .ok (.iload 8, 2) := by decide +kernel
theorem dX9_nearest_187 : decode cX9_nearest 187 = .ok (.goto 10, 3) := by decide +kernel
theorem dX9_nearest_190 : decode cX9_nearest 190 = .ok (.aload_n 0, 1) := by decide +kernel
theorem dX9_nearest_191 : decode cX9_nearest 191 = .ok (.getfield 27, 3) := by decide +kernel
theorem dX9_nearest_194 : decode cX9_nearest 194 = .ok (.iload 8, 2) := by decide +kernel
theorem dX9_nearest_196 : decode cX9_nearest 196 = .ok (.iaload, 1) := by decide +kernel
theorem dX9_nearest_197 : decode cX9_nearest 197 = .ok (.ireturn, 1) := by decide +kernel
theorem dX9_nearest_198 : decode cX9_nearest 198 = .ok (.iinc 7 1, 3) := by decide +kernel
theorem dX9_nearest_201 : decode cX9_nearest 201 = .ok (.goto (-141), 3) := by decide +kernel
theorem dX9_nearest_204 : decode cX9_nearest 204 = .ok (.iconst (-1), 1) := by decide +kernel
theorem dX9_nearest_205 : decode cX9_nearest 205 = .ok (.ireturn, 1) := by decide +kernel
theorem kX9_layFar : zCV yX9_layFar RX9 cX9_layFar 6 none 1 := ⟨q4_199, qp31, q1_3, q4_200, rfl, by decide +kernel, by decide +kernel, by decide +kernel⟩
theorem kX9_far : zCV yX9_far RX9 cX9_far 3 (some .int) 2 := ⟨q4_194, q4_195, q1_3, q4_196, rfl, by decide +kernel, by decide +kernel, by decide +kernel⟩
theorem kX9_nearest : zCV yX9_nearest RX9 cX9_nearest 11 (some .int) 6 := ⟨q4_203, q4_204, q1_3, q4_205, rfl, by decide +kernel, by decide +kernel, by decide +kernel⟩
set_option maxHeartbeats 4000000 in
set_option maxRecDepth 100000 in
theorem c_X9_layFar (l : Launch) (g : zG) (o : Nat) (a : Nat → Nat) (F : Nat → Int32) (L : Nat → Int64) (A : Nat → Nat → Int32) (X : va_W) (T : Nat) (C : Nat) (V : Nat) (U : Nat) (fr : Nat) (hn : nOK (A 0) T C V U) (hfr : fr < 6) : Met l yX9_layFar (Cond.code yX9_layFar cX9_layFar 6 none :: TBL) { frames := 1, cells := 0, slots := 0, locals := 20 } (zPc [.ref o, .int (nI fr)] g (mW g o a F L A ++ X)) (zQv g (fun ws => ∃ (f1 : Nat → Int32), ws = mW g o a F L (updA A 4 f1) ++ X ∧ (∀ x, x < 6 → f1 x = nI (fD (A 0) T fr x)))) 0 0 (zA (gz g)) := by
  refine z_start (by decide +kernel) rfl (Nat.le_of_ble_eq_true rfl) ?_
  intro p e s m args below meth c ls hE hr hnm hB hl
  have hl : lv_has ls 6 [(0, .ref o), (1, .int (nI fr))] := hl
  revert hB
  generalize s.heap = H
  generalize ([] : List Loc) = locs
  intro hB
  have hT := hn.T
  have hT6 := hn.T6
  have hC := hn.C
  have hC8 := hn.C8
  have hV := hn.V
  have hV8 := hn.V8
  have hU := hn.U
  have hU8 := hn.U8
  refine lv_iconst (v := nI 0) hE.x hE.b dX9_layFar_0 rfl ?_
  refine lv_istore_n (lv' := [(2, .int (nI 0)), (0, .ref o), (1, .int (nI fr))]) hE.x hE.b dX9_layFar_1 rfl hl (by decide) rfl (fun ls hl => ?_)
  have k2 : ∀ (fu : Nat) (t : Nat) (f : Nat → Int32) (H : Heap) (locs : List Loc) (ls : Array Slot), 6 - t < fu → (t ≤ 6) → (∀ x, x < t → f x = nI (d0 fr 1000000 x)) → zB g s (mW g o a F L (updA A 4 f) ++ X) H locs → lv_has ls 6 [(2, .int (nI t)), (0, .ref o), (1, .int (nI fr))] → W p l e { frames := 1, cells := 0, slots := 0, locals := 20 } s m args below meth c H locs 0 0 (MQ below (zQv g (fun ws => ∃ (f1 : Nat → Int32), ws = mW g o a F L (updA A 4 f1) ++ X ∧ (∀ x, x < 6 → f1 x = nI (fD (A 0) T fr x)))) args s 0 0 (zA (gz g))) (F0 m 2 ls []) := by
    intro fu
    induction fu with
    | zero => intro t f H locs ls hfu ht hf hB hl; exact absurd hfu (Nat.not_lt_zero _)
    | succ fu ih2 =>
      intro t f H locs ls hfu ht hf hB hl
      refine lv_iload_n hE.x hE.b dX9_layFar_2 rfl (lv_at hl 0 rfl) ?_
      refine lv_bipush (v := (nI 6)) hE.x hE.b dX9_layFar_3 rfl ?_
      refine z_ge (tgt := 31) (X := ((t : Nat) : Int)) (Y := (6 : Int)) hE dX9_layFar_5 (by decide) (nI_toInt (n := t) (by omega)) rfl (fun c_1 => ?_) (fun c_1 => ?_)
      · refine lv_iconst (v := nI 0) hE.x hE.b dX9_layFar_31 rfl ?_
        refine lv_istore_n (lv' := [(2, .int (nI 0)), (0, .ref o), (1, .int (nI fr))]) hE.x hE.b dX9_layFar_32 rfl hl (by decide) rfl (fun ls hl => ?_)
        have k33 : ∀ (fu : Nat) (tu : Nat) (f : Nat → Int32) (H : Heap) (locs : List Loc) (ls : Array Slot), T - tu < fu → (tu ≤ T) → (∀ x, x < 6 → f x = nI (rN (rwE (A 0)) T (d0 fr 1000000) tu x)) → zB g s (mW g o a F L (updA A 4 f) ++ X) H locs → lv_has ls 6 [(2, .int (nI tu)), (0, .ref o), (1, .int (nI fr))] → W p l e { frames := 1, cells := 0, slots := 0, locals := 20 } s m args below meth c H locs 0 0 (MQ below (zQv g (fun ws => ∃ (f1 : Nat → Int32), ws = mW g o a F L (updA A 4 f1) ++ X ∧ (∀ x, x < 6 → f1 x = nI (fD (A 0) T fr x)))) args s 0 0 (zA (gz g))) (F0 m 33 ls []) := by
          intro fu
          induction fu with
          | zero => intro tu f H locs ls hfu htu hf hB hl; exact absurd hfu (Nat.not_lt_zero _)
          | succ fu ih33 =>
            intro tu f H locs ls hfu htu hf hB hl
            refine lv_iload_n hE.x hE.b dX9_layFar_33 rfl (lv_at hl 0 rfl) ?_
            refine lv_aload_n hE.x hE.b dX9_layFar_34 rfl (lv_at hl 1 rfl) ?_
            refine z_qi hB (z_cV hE hB (c_X9_towns l g o a F L (updA A 4 f) X T hT) q4_76 kX9_towns ⟨rfl, rfl⟩ ⟨Nat.le_of_ble_eq_true rfl, Nat.le_of_ble_eq_true rfl⟩ 0 rfl rfl rfl hl.1 rfl (Nat.le_of_ble_eq_true rfl) dX9_layFar_35 ⟨Nat.le_of_ble_eq_true rfl, Nat.le_of_ble_eq_true rfl⟩) (fun r_2 w_3 H locs hw hB => ?_)
            obtain ⟨hr9, hw9⟩ := hw
            have hr9 := hr9.symm
            subst hr9
            have hw9 := hw9.symm
            subst hw9
            refine z_ge (tgt := 148) (X := ((tu : Nat) : Int)) (Y := ((T : Nat) : Int)) hE dX9_layFar_38 (by decide) (nI_toInt (n := tu) (by omega)) (nI_toInt (n := T) (by omega)) (fun c_4 => ?_) (fun c_4 => ?_)
            · exact z_vret (ws := mW g o a F L (updA A 4 f) ++ X) hE hB hr (by rw [show tu = T by omega] at hf; exact ⟨f, rfl, hf⟩) dX9_layFar_148
            · refine lv_iconst (v := nI 0) hE.x hE.b dX9_layFar_41 rfl ?_
              refine lv_istore_n (lv' := [(3, .int (nI 0)), (2, .int (nI tu)), (0, .ref o), (1, .int (nI fr))]) hE.x hE.b dX9_layFar_42 rfl hl (by decide) rfl (fun ls hl => ?_)
              have k43 : ∀ (fu : Nat) (i : Nat) (f : Nat → Int32) (H : Heap) (locs : List Loc) (ls : Array Slot), T - i < fu → (i ≤ T) → (∀ x, x < 6 → f x = nI (rA (rwE (A 0)) T (rN (rwE (A 0)) T (d0 fr 1000000) tu) i x)) → zB g s (mW g o a F L (updA A 4 f) ++ X) H locs → lv_has ls 6 [(3, .int (nI i)), (2, .int (nI tu)), (0, .ref o), (1, .int (nI fr))] → W p l e { frames := 1, cells := 0, slots := 0, locals := 20 } s m args below meth c H locs 0 0 (MQ below (zQv g (fun ws => ∃ (f1 : Nat → Int32), ws = mW g o a F L (updA A 4 f1) ++ X ∧ (∀ x, x < 6 → f1 x = nI (fD (A 0) T fr x)))) args s 0 0 (zA (gz g))) (F0 m 43 ls []) := by
                intro fu
                induction fu with
                | zero => intro i f H locs ls hfu hi hf hB hl; exact absurd hfu (Nat.not_lt_zero _)
                | succ fu ih43 =>
                  intro i f H locs ls hfu hi hf hB hl
                  refine lv_iload_n hE.x hE.b dX9_layFar_43 rfl (lv_at hl 0 rfl) ?_
                  refine lv_aload_n hE.x hE.b dX9_layFar_44 rfl (lv_at hl 2 rfl) ?_
                  refine z_qi hB (z_cV hE hB (c_X9_towns l g o a F L (updA A 4 f) X T hT) q4_76 kX9_towns ⟨rfl, rfl⟩ ⟨Nat.le_of_ble_eq_true rfl, Nat.le_of_ble_eq_true rfl⟩ 0 rfl rfl rfl hl.1 rfl (Nat.le_of_ble_eq_true rfl) dX9_layFar_45 ⟨Nat.le_of_ble_eq_true rfl, Nat.le_of_ble_eq_true rfl⟩) (fun r_5 w_6 H locs hw hB => ?_)
                  obtain ⟨hr9, hw9⟩ := hw
                  have hr9 := hr9.symm
                  subst hr9
                  have hw9 := hw9.symm
                  subst hw9
                  refine z_ge (tgt := 142) (X := ((i : Nat) : Int)) (Y := ((T : Nat) : Int)) hE dX9_layFar_48 (by decide) (nI_toInt (n := i) (by omega)) (nI_toInt (n := T) (by omega)) (fun c_7 => ?_) (fun c_7 => ?_)
                  · refine lv_iinc (v := (nI (tu + 1))) (lv' := [(2, .int (nI (tu + 1))), (3, .int (nI i)), (0, .ref o), (1, .int (nI fr))]) hE.x hE.b dX9_layFar_142 hl (k := 1) rfl (nI_add _ _) (by decide) rfl (fun ls hl => ?_)
                    refine lv_goto (tgt := 33) hE.x hE.b dX9_layFar_145 (by decide) ?_
                    exact ih33 (tu + 1) f _ _ _ (by omega) (by omega) (by rw [show i = T by omega] at hf; exact hf) hB (lv_sub hl [0, 2, 3] rfl)
                  · refine lv_iconst (v := nI 0) hE.x hE.b dX9_layFar_51 rfl ?_
                    refine lv_istore (lv' := [(4, .int (nI 0)), (3, .int (nI i)), (2, .int (nI tu)), (0, .ref o), (1, .int (nI fr))]) hE.x hE.b dX9_layFar_52 hl (by decide) rfl (fun ls hl => ?_)
                    have k54 : ∀ (fu : Nat) (j : Nat) (f : Nat → Int32) (d : Nat → Nat) (H : Heap) (locs : List Loc) (ls : Array Slot), T - j < fu → (j ≤ T) → (d = rB (rwE (A 0)) (rA (rwE (A 0)) T (rN (rwE (A 0)) T (d0 fr 1000000) tu) i) i j) → (∀ x, d x ≤ 1000000) → (∀ x, x < 6 → f x = nI (d x)) → zB g s (mW g o a F L (updA A 4 f) ++ X) H locs → lv_has ls 6 [(4, .int (nI j)), (3, .int (nI i)), (2, .int (nI tu)), (0, .ref o), (1, .int (nI fr))] → W p l e { frames := 1, cells := 0, slots := 0, locals := 20 } s m args below meth c H locs 0 0 (MQ below (zQv g (fun ws => ∃ (f1 : Nat → Int32), ws = mW g o a F L (updA A 4 f1) ++ X ∧ (∀ x, x < 6 → f1 x = nI (fD (A 0) T fr x)))) args s 0 0 (zA (gz g))) (F0 m 54 ls []) := by
                      intro fu
                      induction fu with
                      | zero => intro j f d H locs ls hfu hj hd hle hf hB hl; exact absurd hfu (Nat.not_lt_zero _)
                      | succ fu ih54 =>
                        intro j f d H locs ls hfu hj hd hle hf hB hl
                        refine lv_iload hE.x hE.b dX9_layFar_54 (lv_at hl 0 rfl) ?_
                        refine lv_aload_n hE.x hE.b dX9_layFar_56 rfl (lv_at hl 3 rfl) ?_
                        refine z_qi hB (z_cV hE hB (c_X9_towns l g o a F L (updA A 4 f) X T hT) q4_76 kX9_towns ⟨rfl, rfl⟩ ⟨Nat.le_of_ble_eq_true rfl, Nat.le_of_ble_eq_true rfl⟩ 0 rfl rfl rfl hl.1 rfl (Nat.le_of_ble_eq_true rfl) dX9_layFar_57 ⟨Nat.le_of_ble_eq_true rfl, Nat.le_of_ble_eq_true rfl⟩) (fun r_8 w_9 H locs hw hB => ?_)
                        obtain ⟨hr9, hw9⟩ := hw
                        have hr9 := hr9.symm
                        subst hr9
                        have hw9 := hw9.symm
                        subst hw9
                        refine z_ge (tgt := 136) (X := ((j : Nat) : Int)) (Y := ((T : Nat) : Int)) hE dX9_layFar_60 (by decide) (nI_toInt (n := j) (by omega)) (nI_toInt (n := T) (by omega)) (fun c_10 => ?_) (fun c_10 => ?_)
                        · refine lv_iinc (v := (nI (i + 1))) (lv' := [(3, .int (nI (i + 1))), (4, .int (nI j)), (2, .int (nI tu)), (0, .ref o), (1, .int (nI fr))]) hE.x hE.b dX9_layFar_136 hl (k := 1) rfl (nI_add _ _) (by decide) rfl (fun ls hl => ?_)
                          refine lv_goto (tgt := 43) hE.x hE.b dX9_layFar_139 (by decide) ?_
                          exact ih43 (i + 1) f _ _ _ (by omega) (by omega) (by rw [show j = T by omega] at hd; rw [hd] at hf; exact hf) hB (lv_sub hl [0, 2, 3, 4] rfl)
                        · refine lv_aload_n hE.x hE.b dX9_layFar_63 rfl (lv_at hl 3 rfl) ?_
                          refine z_get (v := .ref (a 0)) hE hB inX9 0 rfl rfl 0 (by decide) q4_1 (fun _ h9 => h9) rfl dX9_layFar_64 ?_
                          refine lv_bipush (v := (nI 10)) hE.x hE.b dX9_layFar_67 rfl ?_
                          refine lv_bipush (v := (nI 6)) hE.x hE.b dX9_layFar_69 rfl ?_
                          refine lv_iload_n hE.x hE.b dX9_layFar_71 rfl (lv_at hl 1 rfl) ?_
                          refine z_imulN hE dX9_layFar_72 ?_
                          refine z_iaddN hE dX9_layFar_73 ?_
                          refine lv_iload hE.x hE.b dX9_layFar_74 (lv_at hl 0 rfl) ?_
                          refine z_iaddN hE dX9_layFar_76 ?_
                          refine z_iald (k := ((10 + (6 * i)) + j)) (f := (A 0)) hE hB 1 rfl (by omega) (by decide) dX9_layFar_77 ?_
                          refine z_top (y := (nI (rwE (A 0) (6 * i + j)))) (rwE_v hn (by omega) (by omega)) ?_
                          refine lv_istore (lv' := [(5, .int (nI (rwE (A 0) (6 * i + j)))), (4, .int (nI j)), (3, .int (nI i)), (2, .int (nI tu)), (0, .ref o), (1, .int (nI fr))]) hE.x hE.b dX9_layFar_78 hl (by decide) rfl (fun ls hl => ?_)
                          have hw9 := rwE_9 hn (i := 6 * i + j) (by omega)
                          have hdi := hle i
                          have hdj := hle j
                          refine lv_aload_n hE.x hE.b dX9_layFar_80 rfl (lv_at hl 4 rfl) ?_
                          refine z_get (v := .ref (a 4)) hE hB inX9 0 rfl rfl 12 (by decide) q4_13 (fun _ h9 => h9) rfl dX9_layFar_81 ?_
                          refine lv_iload hE.x hE.b dX9_layFar_84 (lv_at hl 1 rfl) ?_
                          refine lv_iload hE.x hE.b dX9_layFar_86 (lv_at hl 0 rfl) ?_
                          refine z_le0 (tgt := 122) (X := (((rwE (A 0) (6 * i + j)) : Nat) : Int)) hE dX9_layFar_88 (by decide) (nI_toInt (n := (rwE (A 0) (6 * i + j))) (by omega)) (fun c_11 => ?_) (fun c_11 => ?_)
                          · refine lv_aload_n hE.x hE.b dX9_layFar_122 rfl (lv_at hl 4 rfl) ?_
                            refine z_get (v := .ref (a 4)) hE hB inX9 0 rfl rfl 12 (by decide) q4_13 (fun _ h9 => h9) rfl dX9_layFar_123 ?_
                            refine lv_iload hE.x hE.b dX9_layFar_126 (lv_at hl 1 rfl) ?_
                            refine z_iald (k := j) (f := f) hE hB 5 rfl (by omega) (by decide) dX9_layFar_128 ?_
                            refine z_top (y := (nI (d j))) (hf j (by omega)) ?_
                            refine z_iast (k := j) (f := f) (x := (nI (d j))) (ws' := mW g o a F L (updA A 4 (upd f j (nI (d j)))) ++ X) hE hB 5 rfl (by omega) (by decide) rfl dX9_layFar_129 (fun H locs hB => ?_)
                            refine lv_iinc (v := (nI (j + 1))) (lv' := [(4, .int (nI (j + 1))), (5, .int (nI (rwE (A 0) (6 * i + j)))), (3, .int (nI i)), (2, .int (nI tu)), (0, .ref o), (1, .int (nI fr))]) hE.x hE.b dX9_layFar_130 hl (k := 1) rfl (nI_add _ _) (by decide) rfl (fun ls hl => ?_)
                            refine lv_goto (tgt := 54) hE.x hE.b dX9_layFar_133 (by decide) ?_
                            exact ih54 (j + 1) (upd f j (nI (d j))) (rl (rwE (A 0)) d i j) _ _ _ (by omega) (by omega) (by rw [hd]; rfl) (fun x => Nat.le_trans rl_le (hle x)) (rl_no (by omega) hf) hB (lv_sub hl [0, 2, 3, 4, 5] rfl)
                          · refine lv_aload_n hE.x hE.b dX9_layFar_91 rfl (lv_at hl 4 rfl) ?_
                            refine z_get (v := .ref (a 4)) hE hB inX9 0 rfl rfl 12 (by decide) q4_13 (fun _ h9 => h9) rfl dX9_layFar_92 ?_
                            refine lv_iload_n hE.x hE.b dX9_layFar_95 rfl (lv_at hl 2 rfl) ?_
                            refine z_iald (k := i) (f := f) hE hB 5 rfl (by omega) (by decide) dX9_layFar_96 ?_
                            refine z_top (y := (nI (d i))) (hf i (by omega)) ?_
                            refine lv_iload hE.x hE.b dX9_layFar_97 (lv_at hl 0 rfl) ?_
                            refine z_iaddN hE dX9_layFar_99 ?_
                            refine lv_aload_n hE.x hE.b dX9_layFar_100 rfl (lv_at hl 4 rfl) ?_
                            refine z_get (v := .ref (a 4)) hE hB inX9 0 rfl rfl 12 (by decide) q4_13 (fun _ h9 => h9) rfl dX9_layFar_101 ?_
                            refine lv_iload hE.x hE.b dX9_layFar_104 (lv_at hl 1 rfl) ?_
                            refine z_iald (k := j) (f := f) hE hB 5 rfl (by omega) (by decide) dX9_layFar_106 ?_
                            refine z_top (y := (nI (d j))) (hf j (by omega)) ?_
                            refine z_ge (tgt := 122) (X := ((((d i) + (rwE (A 0) (6 * i + j))) : Nat) : Int)) (Y := (((d j) : Nat) : Int)) hE dX9_layFar_107 (by decide) (nI_toInt (n := ((d i) + (rwE (A 0) (6 * i + j)))) (by omega)) (nI_toInt (n := (d j)) (by omega)) (fun c_12 => ?_) (fun c_12 => ?_)
                            · refine lv_aload_n hE.x hE.b dX9_layFar_122 rfl (lv_at hl 4 rfl) ?_
                              refine z_get (v := .ref (a 4)) hE hB inX9 0 rfl rfl 12 (by decide) q4_13 (fun _ h9 => h9) rfl dX9_layFar_123 ?_
                              refine lv_iload hE.x hE.b dX9_layFar_126 (lv_at hl 1 rfl) ?_
                              refine z_iald (k := j) (f := f) hE hB 5 rfl (by omega) (by decide) dX9_layFar_128 ?_
                              refine z_top (y := (nI (d j))) (hf j (by omega)) ?_
                              refine z_iast (k := j) (f := f) (x := (nI (d j))) (ws' := mW g o a F L (updA A 4 (upd f j (nI (d j)))) ++ X) hE hB 5 rfl (by omega) (by decide) rfl dX9_layFar_129 (fun H locs hB => ?_)
                              refine lv_iinc (v := (nI (j + 1))) (lv' := [(4, .int (nI (j + 1))), (5, .int (nI (rwE (A 0) (6 * i + j)))), (3, .int (nI i)), (2, .int (nI tu)), (0, .ref o), (1, .int (nI fr))]) hE.x hE.b dX9_layFar_130 hl (k := 1) rfl (nI_add _ _) (by decide) rfl (fun ls hl => ?_)
                              refine lv_goto (tgt := 54) hE.x hE.b dX9_layFar_133 (by decide) ?_
                              exact ih54 (j + 1) (upd f j (nI (d j))) (rl (rwE (A 0)) d i j) _ _ _ (by omega) (by omega) (by rw [hd]; rfl) (fun x => Nat.le_trans rl_le (hle x)) (rl_no (by omega) hf) hB (lv_sub hl [0, 2, 3, 4, 5] rfl)
                            · refine lv_aload_n hE.x hE.b dX9_layFar_110 rfl (lv_at hl 4 rfl) ?_
                              refine z_get (v := .ref (a 4)) hE hB inX9 0 rfl rfl 12 (by decide) q4_13 (fun _ h9 => h9) rfl dX9_layFar_111 ?_
                              refine lv_iload_n hE.x hE.b dX9_layFar_114 rfl (lv_at hl 2 rfl) ?_
                              refine z_iald (k := i) (f := f) hE hB 5 rfl (by omega) (by decide) dX9_layFar_115 ?_
                              refine z_top (y := (nI (d i))) (hf i (by omega)) ?_
                              refine lv_iload hE.x hE.b dX9_layFar_116 (lv_at hl 0 rfl) ?_
                              refine z_iaddN hE dX9_layFar_118 ?_
                              refine lv_goto (tgt := 129) hE.x hE.b dX9_layFar_119 (by decide) ?_
                              refine z_iast (k := j) (f := f) (x := (nI ((d i) + (rwE (A 0) (6 * i + j))))) (ws' := mW g o a F L (updA A 4 (upd f j (nI ((d i) + (rwE (A 0) (6 * i + j)))))) ++ X) hE hB 5 rfl (by omega) (by decide) rfl dX9_layFar_129 (fun H locs hB => ?_)
                              refine lv_iinc (v := (nI (j + 1))) (lv' := [(4, .int (nI (j + 1))), (5, .int (nI (rwE (A 0) (6 * i + j)))), (3, .int (nI i)), (2, .int (nI tu)), (0, .ref o), (1, .int (nI fr))]) hE.x hE.b dX9_layFar_130 hl (k := 1) rfl (nI_add _ _) (by decide) rfl (fun ls hl => ?_)
                              refine lv_goto (tgt := 54) hE.x hE.b dX9_layFar_133 (by decide) ?_
                              exact ih54 (j + 1) (upd f j (nI ((d i) + (rwE (A 0) (6 * i + j))))) (rl (rwE (A 0)) d i j) _ _ _ (by omega) (by omega) (by rw [hd]; rfl) (fun x => Nat.le_trans rl_le (hle x)) (rl_yes (by omega) (by omega) hf) hB (lv_sub hl [0, 2, 3, 4, 5] rfl)
                    exact k54 (T - 0 + 1) 0 f (rA (rwE (A 0)) T (rN (rwE (A 0)) T (d0 fr 1000000) tu) i) _ _ _ (Nat.lt_succ_self _) (by omega) rfl (fun x => Nat.le_trans rA_le (Nat.le_trans rN_le d0_le)) hf hB hl
              exact k43 (T - 0 + 1) 0 f _ _ _ (Nat.lt_succ_self _) (by omega) hf hB hl
        exact k33 (T - 0 + 1) 0 f _ _ _ (Nat.lt_succ_self _) (by omega) (by rw [show t = 6 by omega] at hf; exact hf) hB hl
      · refine lv_aload_n hE.x hE.b dX9_layFar_8 rfl (lv_at hl 1 rfl) ?_
        refine z_get (v := .ref (a 4)) hE hB inX9 0 rfl rfl 12 (by decide) q4_13 (fun _ h9 => h9) rfl dX9_layFar_9 ?_
        refine lv_iload_n hE.x hE.b dX9_layFar_12 rfl (lv_at hl 0 rfl) ?_
        refine lv_iload_n hE.x hE.b dX9_layFar_13 rfl (lv_at hl 0 rfl) ?_
        refine lv_iload_n hE.x hE.b dX9_layFar_14 rfl (lv_at hl 2 rfl) ?_
        refine z_ne (tgt := 22) (X := ((t : Nat) : Int)) (Y := ((fr : Nat) : Int)) hE dX9_layFar_15 (by decide) (nI_toInt (n := t) (by omega)) (nI_toInt (n := fr) (by omega)) (fun c_13 => ?_) (fun c_13 => ?_)
        · refine lv_ldc (v := (nI 1000000)) hE.x hE.b hE.o (hE.t _ q4_201) dX9_layFar_22 ?_
          refine z_iast (k := t) (f := f) (x := (nI 1000000)) (ws' := mW g o a F L (updA A 4 (upd f t (nI 1000000))) ++ X) hE hB 5 rfl (by omega) (by decide) rfl dX9_layFar_24 (fun H locs hB => ?_)
          refine lv_iinc (v := (nI (t + 1))) (lv' := [(2, .int (nI (t + 1))), (0, .ref o), (1, .int (nI fr))]) hE.x hE.b dX9_layFar_25 hl (k := 0) rfl (nI_add _ _) (by decide) rfl (fun ls hl => ?_)
          refine lv_goto (tgt := 2) hE.x hE.b dX9_layFar_28 (by decide) ?_
          exact ih2 (t + 1) (upd f t (nI 1000000)) _ _ _ (by omega) (by omega) (d0_st (by unfold d0; rw [if_neg (by omega)]) hf) hB hl
        · refine lv_iconst (v := nI 0) hE.x hE.b dX9_layFar_18 rfl ?_
          refine lv_goto (tgt := 24) hE.x hE.b dX9_layFar_19 (by decide) ?_
          refine z_iast (k := t) (f := f) (x := (nI 0)) (ws' := mW g o a F L (updA A 4 (upd f t (nI 0))) ++ X) hE hB 5 rfl (by omega) (by decide) rfl dX9_layFar_24 (fun H locs hB => ?_)
          refine lv_iinc (v := (nI (t + 1))) (lv' := [(2, .int (nI (t + 1))), (0, .ref o), (1, .int (nI fr))]) hE.x hE.b dX9_layFar_25 hl (k := 0) rfl (nI_add _ _) (by decide) rfl (fun ls hl => ?_)
          refine lv_goto (tgt := 2) hE.x hE.b dX9_layFar_28 (by decide) ?_
          exact ih2 (t + 1) (upd f t (nI 0)) _ _ _ (by omega) (by omega) (d0_st (by unfold d0; rw [if_pos (by omega)]) hf) hB hl
  exact k2 (6 - 0 + 1) 0 (A 4) _ _ _ (Nat.lt_succ_self _) (by omega) (fun x hx => absurd hx (Nat.not_lt_zero _)) hB hl

set_option maxHeartbeats 4000000 in
set_option maxRecDepth 100000 in
theorem c_X9_far (l : Launch) (g : zG) (o : Nat) (a : Nat → Nat) (F : Nat → Int32) (L : Nat → Int64) (A : Nat → Nat → Int32) (X : va_W) (T : Nat) (C : Nat) (V : Nat) (U : Nat) (x : Int32) (y : Int32) (hn : nOK (A 0) T C V U) : Met l yX9_far (Cond.code yX9_far cX9_far 3 (some .int) :: TBL) { frames := 2, cells := 0, slots := 0, locals := 46 } (zPc [.ref o, .int x, .int y] g (mW g o a F L A ++ X)) (zQi g (fun r ws => ∃ (f1 : Nat → Int32), r = (farR (A 0) T x y) ∧ ws = mW g o a F L (updA (chk (pTown T x && pTown T y) A) 4 f1) ++ X)) 0 0 (zA (gz g)) := by
  refine z_start (by decide +kernel) rfl (Nat.le_of_ble_eq_true rfl) ?_
  intro p e s m args below meth c ls hE hr hnm hB hl
  have hl : lv_has ls 3 [(0, .ref o), (1, .int x), (2, .int y)] := hl
  revert hB
  generalize s.heap = H
  generalize ([] : List Loc) = locs
  intro hB
  have hT := hn.T
  have hT6 := hn.T6
  have hC := hn.C
  have hC8 := hn.C8
  have hV := hn.V
  have hV8 := hn.V8
  have hU := hn.U
  have hU8 := hn.U8
  refine lv_aload_n hE.x hE.b dX9_far_0 rfl (lv_at hl 0 rfl) ?_
  refine lv_iload_n hE.x hE.b dX9_far_1 rfl (lv_at hl 1 rfl) ?_
  refine z_qi hB (z_cV hE hB (c_X9_isTown l g o a F L A X T x hT (by omega)) q4_106 kX9_isTown ⟨rfl, rfl⟩ ⟨Nat.le_of_ble_eq_true rfl, Nat.le_of_ble_eq_true rfl⟩ 0 rfl rfl rfl hl.1 rfl (Nat.le_of_ble_eq_true rfl) dX9_far_2 ⟨Nat.le_of_ble_eq_true rfl, Nat.le_of_ble_eq_true rfl⟩) (fun r_1 w_2 H locs hw hB => ?_)
  obtain ⟨hr9, hw9⟩ := hw
  have hr9 := hr9.symm
  subst hr9
  have hw9 := hw9.symm
  subst hw9
  refine z_bf (b := (pTown T x)) (tgt := 16) hE dX9_far_5 (by decide) (fun c_3 => ?_) (fun c_3 => ?_)
  · refine lv_aload_n hE.x hE.b dX9_far_16 rfl (lv_at hl 0 rfl) ?_
    refine lv_bipush (v := (-2)) hE.x hE.b dX9_far_17 rfl ?_
    refine z_qi hB (z_cV hE hB (c_X9_bad l g o a F L A X (-2)) q4_91 kX9_bad ⟨rfl, rfl⟩ ⟨Nat.le_of_ble_eq_true rfl, Nat.le_of_ble_eq_true rfl⟩ 0 rfl rfl rfl hl.1 rfl (Nat.le_of_ble_eq_true rfl) dX9_far_19 ⟨Nat.le_of_ble_eq_true rfl, Nat.le_of_ble_eq_true rfl⟩) (fun r_4 w_5 H locs hw hB => ?_)
    obtain ⟨hr9, hw9⟩ := hw
    have hr9 := hr9.symm
    subst hr9
    have hw9 := hw9.symm
    subst hw9
    exact z_iret (v := (-2)) (ws := mW g o a F L (bump 0 A) ++ X) hE hB hr (⟨A 4, by unfold farR; simp [c_3], by unfold chk; simp only [c_3, Bool.and_false, Bool.false_and, Bool.false_eq_true, if_false]; rfl⟩) dX9_far_22
  · refine lv_aload_n hE.x hE.b dX9_far_8 rfl (lv_at hl 0 rfl) ?_
    refine lv_iload_n hE.x hE.b dX9_far_9 rfl (lv_at hl 2 rfl) ?_
    refine z_qi hB (z_cV hE hB (c_X9_isTown l g o a F L A X T y hT (by omega)) q4_106 kX9_isTown ⟨rfl, rfl⟩ ⟨Nat.le_of_ble_eq_true rfl, Nat.le_of_ble_eq_true rfl⟩ 0 rfl rfl rfl hl.1 rfl (Nat.le_of_ble_eq_true rfl) dX9_far_10 ⟨Nat.le_of_ble_eq_true rfl, Nat.le_of_ble_eq_true rfl⟩) (fun r_6 w_7 H locs hw hB => ?_)
    obtain ⟨hr9, hw9⟩ := hw
    have hr9 := hr9.symm
    subst hr9
    have hw9 := hw9.symm
    subst hw9
    refine z_bt (b := (pTown T y)) (tgt := 23) hE dX9_far_13 (by decide) (fun c_8 => ?_) (fun c_8 => ?_)
    · obtain ⟨i, hi, rfl⟩ := pTown_nI c_3 (by omega)
      obtain ⟨k, hk, rfl⟩ := pTown_nI c_8 (by omega)
      refine lv_aload_n hE.x hE.b dX9_far_23 rfl (lv_at hl 0 rfl) ?_
      refine lv_iload_n hE.x hE.b dX9_far_24 rfl (lv_at hl 1 rfl) ?_
      refine z_qv hB (z_cV hE hB (c_X9_layFar l g o a F L A X T C V U i hn (by omega)) q4_197 kX9_layFar ⟨rfl, rfl⟩ ⟨Nat.le_of_ble_eq_true rfl, Nat.le_of_ble_eq_true rfl⟩ 0 rfl rfl rfl hl.1 rfl (Nat.le_of_ble_eq_true rfl) dX9_far_25 ⟨Nat.le_of_ble_eq_true rfl, Nat.le_of_ble_eq_true rfl⟩) (fun w_10 H locs hw hB => ?_)
      obtain ⟨f1_11, hw9, hf_12⟩ := hw
      have hw9 := hw9.symm
      subst hw9
      have hfb := fD_le (n := A 0) (T := T) (fr := i) (x := k)
      refine lv_aload_n hE.x hE.b dX9_far_28 rfl (lv_at hl 0 rfl) ?_
      refine z_get (v := .ref (a 4)) hE hB inX9 0 rfl rfl 12 (by decide) q4_13 (fun _ h9 => h9) rfl dX9_far_29 ?_
      refine lv_iload_n hE.x hE.b dX9_far_32 rfl (lv_at hl 2 rfl) ?_
      refine z_iald (k := k) (f := ((updA A 4 f1_11) 4)) hE hB 5 rfl (by omega) (by decide) dX9_far_33 ?_
      refine z_top (y := (nI (fD (A 0) T i k))) (hf_12 k (by omega)) ?_
      refine lv_ldc (v := (nI 1000000)) hE.x hE.b hE.o (hE.t _ q4_201) dX9_far_34 ?_
      refine z_ge (tgt := 48) (X := (((fD (A 0) T i k) : Nat) : Int)) (Y := (1000000 : Int)) hE dX9_far_36 (by decide) (nI_toInt (n := (fD (A 0) T i k)) (by omega)) rfl (fun c_13 => ?_) (fun c_13 => ?_)
      · refine lv_iconst (v := (-1)) hE.x hE.b dX9_far_48 rfl ?_
        exact z_iret (v := (-1)) (ws := mW g o a F L (updA A 4 f1_11) ++ X) hE hB hr (⟨f1_11, by unfold farR; rw [c_3, c_8, rcl (show i < 2 ^ 31 by omega), rcl (show k < 2 ^ 31 by omega), Bool.and_self, if_pos rfl, if_neg (by omega)], by unfold chk; rw [c_3, c_8]; rfl⟩) dX9_far_49
      · refine lv_aload_n hE.x hE.b dX9_far_39 rfl (lv_at hl 0 rfl) ?_
        refine z_get (v := .ref (a 4)) hE hB inX9 0 rfl rfl 12 (by decide) q4_13 (fun _ h9 => h9) rfl dX9_far_40 ?_
        refine lv_iload_n hE.x hE.b dX9_far_43 rfl (lv_at hl 2 rfl) ?_
        refine z_iald (k := k) (f := ((updA A 4 f1_11) 4)) hE hB 5 rfl (by omega) (by decide) dX9_far_44 ?_
        refine z_top (y := (nI (fD (A 0) T i k))) (hf_12 k (by omega)) ?_
        refine lv_goto (tgt := 49) hE.x hE.b dX9_far_45 (by decide) ?_
        exact z_iret (v := (nI (fD (A 0) T i k))) (ws := mW g o a F L (updA A 4 f1_11) ++ X) hE hB hr (⟨f1_11, by unfold farR; rw [c_3, c_8, rcl (show i < 2 ^ 31 by omega), rcl (show k < 2 ^ 31 by omega), Bool.and_self, if_pos rfl, if_pos (by omega)], by unfold chk; rw [c_3, c_8]; rfl⟩) dX9_far_49
    · refine lv_aload_n hE.x hE.b dX9_far_16 rfl (lv_at hl 0 rfl) ?_
      refine lv_bipush (v := (-2)) hE.x hE.b dX9_far_17 rfl ?_
      refine z_qi hB (z_cV hE hB (c_X9_bad l g o a F L A X (-2)) q4_91 kX9_bad ⟨rfl, rfl⟩ ⟨Nat.le_of_ble_eq_true rfl, Nat.le_of_ble_eq_true rfl⟩ 0 rfl rfl rfl hl.1 rfl (Nat.le_of_ble_eq_true rfl) dX9_far_19 ⟨Nat.le_of_ble_eq_true rfl, Nat.le_of_ble_eq_true rfl⟩) (fun r_14 w_15 H locs hw hB => ?_)
      obtain ⟨hr9, hw9⟩ := hw
      have hr9 := hr9.symm
      subst hr9
      have hw9 := hw9.symm
      subst hw9
      exact z_iret (v := (-2)) (ws := mW g o a F L (bump 0 A) ++ X) hE hB hr (⟨A 4, by unfold farR; simp [c_3, c_8], by unfold chk; simp only [c_3, c_8, Bool.and_false, Bool.false_and, Bool.false_eq_true, if_false]; rfl⟩) dX9_far_22

set_option maxHeartbeats 4000000 in
set_option maxRecDepth 100000 in
theorem c_X9_nearest (l : Launch) (g : zG) (o : Nat) (a : Nat → Nat) (F : Nat → Int32) (L : Nat → Int64) (A : Nat → Nat → Int32) (X : va_W) (T : Nat) (C : Nat) (V : Nat) (U : Nat) (tw : Int32) (ac : Int32) (dd : Int32) (dy : Int32) (sh : Int32) (w : Int32) (hn : nOK (A 0) T C V U) : Met l yX9_nearest (Cond.code yX9_nearest cX9_nearest 11 (some .int) :: TBL) { frames := 6, cells := 0, slots := 0, locals := 154 } (zPc [.ref o, .int tw, .int ac, .int dd, .int dy, .int sh, .int w] g (mW g o a F L A ++ X)) (zQi g (fun r ws => ∃ (F2 : Nat → Int32) (f1 : Nat → Int32), r = (nearestR (A 0) T C tw ac dd dy sh w) ∧ ws = mW g o a F2 L (updA (chk (askOK T tw ac dd dy sh && pIn 0 2 w) A) 4 f1) ++ X ∧ F2 16 = F 16)) 0 0 (zA (gz g)) := by
  refine z_start (by decide +kernel) rfl (Nat.le_of_ble_eq_true rfl) ?_
  intro p e s m args below meth c ls hE hr hnm hB hl
  have hl : lv_has ls 11 [(0, .ref o), (1, .int tw), (2, .int ac), (3, .int dd), (4, .int dy), (5, .int sh), (6, .int w)] := hl
  revert hB
  generalize s.heap = H
  generalize ([] : List Loc) = locs
  intro hB
  have hT := hn.T
  have hT6 := hn.T6
  have hC := hn.C
  have hC8 := hn.C8
  have hV := hn.V
  have hV8 := hn.V8
  have hU := hn.U
  have hU8 := hn.U8
  have h16 : F 16 = F 16 := rfl
  refine lv_aload_n hE.x hE.b dX9_nearest_0 rfl (lv_at hl 0 rfl) ?_
  refine lv_iload_n hE.x hE.b dX9_nearest_1 rfl (lv_at hl 1 rfl) ?_
  refine z_qi hB (z_cV hE hB (c_X9_isTown l g o a F L A X T tw hT (by omega)) q4_106 kX9_isTown ⟨rfl, rfl⟩ ⟨Nat.le_of_ble_eq_true rfl, Nat.le_of_ble_eq_true rfl⟩ 0 rfl rfl rfl hl.1 rfl (Nat.le_of_ble_eq_true rfl) dX9_nearest_2 ⟨Nat.le_of_ble_eq_true rfl, Nat.le_of_ble_eq_true rfl⟩) (fun r_1 w_2 H locs hw hB => ?_)
  obtain ⟨hr9, hw9⟩ := hw
  have hr9 := hr9.symm
  subst hr9
  have hw9 := hw9.symm
  subst hw9
  refine z_bf (b := (pTown T tw)) (tgt := 45) hE dX9_nearest_5 (by decide) (fun c_3 => ?_) (fun c_3 => ?_)
  · refine lv_aload_n hE.x hE.b dX9_nearest_45 rfl (lv_at hl 0 rfl) ?_
    refine lv_bipush (v := (-2)) hE.x hE.b dX9_nearest_46 rfl ?_
    refine z_qi hB (z_cV hE hB (c_X9_bad l g o a F L A X (-2)) q4_91 kX9_bad ⟨rfl, rfl⟩ ⟨Nat.le_of_ble_eq_true rfl, Nat.le_of_ble_eq_true rfl⟩ 0 rfl rfl rfl hl.1 rfl (Nat.le_of_ble_eq_true rfl) dX9_nearest_48 ⟨Nat.le_of_ble_eq_true rfl, Nat.le_of_ble_eq_true rfl⟩) (fun r_4 w_5 H locs hw hB => ?_)
    obtain ⟨hr9, hw9⟩ := hw
    have hr9 := hr9.symm
    subst hr9
    have hw9 := hw9.symm
    subst hw9
    exact z_iret (v := (-2)) (ws := mW g o a F L (bump 0 A) ++ X) hE hB hr (⟨F, A 4, by unfold nearestR askOK; simp [c_3], by unfold chk askOK; simp only [c_3, Bool.and_false, Bool.false_and, Bool.false_eq_true, if_false, Bool.and_true]; rfl, rfl⟩) dX9_nearest_51
  · refine lv_iload_n hE.x hE.b dX9_nearest_8 rfl (lv_at hl 2 rfl) ?_
    refine z_qi hB (z_cS hE hB (c_X9_isAct l g ac (mW g o a F L A ++ X)) q4_119 kX9_isAct ⟨rfl, rfl⟩ ⟨Nat.le_of_ble_eq_true rfl, Nat.le_of_ble_eq_true rfl⟩ rfl hl.1 rfl (Nat.le_of_ble_eq_true rfl) dX9_nearest_9 ⟨Nat.le_of_ble_eq_true rfl, Nat.le_of_ble_eq_true rfl⟩) (fun r_6 w_7 H locs hw hB => ?_)
    obtain ⟨hr9, hw9⟩ := hw
    have hr9 := hr9.symm
    subst hr9
    have hw9 := hw9.symm
    subst hw9
    refine z_bf (b := (pIn 0 5 ac)) (tgt := 45) hE dX9_nearest_12 (by decide) (fun c_8 => ?_) (fun c_8 => ?_)
    · refine lv_aload_n hE.x hE.b dX9_nearest_45 rfl (lv_at hl 0 rfl) ?_
      refine lv_bipush (v := (-2)) hE.x hE.b dX9_nearest_46 rfl ?_
      refine z_qi hB (z_cV hE hB (c_X9_bad l g o a F L A X (-2)) q4_91 kX9_bad ⟨rfl, rfl⟩ ⟨Nat.le_of_ble_eq_true rfl, Nat.le_of_ble_eq_true rfl⟩ 0 rfl rfl rfl hl.1 rfl (Nat.le_of_ble_eq_true rfl) dX9_nearest_48 ⟨Nat.le_of_ble_eq_true rfl, Nat.le_of_ble_eq_true rfl⟩) (fun r_9 w_10 H locs hw hB => ?_)
      obtain ⟨hr9, hw9⟩ := hw
      have hr9 := hr9.symm
      subst hr9
      have hw9 := hw9.symm
      subst hw9
      exact z_iret (v := (-2)) (ws := mW g o a F L (bump 0 A) ++ X) hE hB hr (⟨F, A 4, by unfold nearestR askOK; simp [c_3, c_8], by unfold chk askOK; simp only [c_3, c_8, Bool.and_false, Bool.false_and, Bool.false_eq_true, if_false, Bool.and_true]; rfl, rfl⟩) dX9_nearest_51
    · refine lv_iload_n hE.x hE.b dX9_nearest_15 rfl (lv_at hl 3 rfl) ?_
      refine z_qi hB (z_cS hE hB (c_X9_isDay l g dd (mW g o a F L A ++ X)) q4_170 kX9_isDay ⟨rfl, rfl⟩ ⟨Nat.le_of_ble_eq_true rfl, Nat.le_of_ble_eq_true rfl⟩ rfl hl.1 rfl (Nat.le_of_ble_eq_true rfl) dX9_nearest_16 ⟨Nat.le_of_ble_eq_true rfl, Nat.le_of_ble_eq_true rfl⟩) (fun r_11 w_12 H locs hw hB => ?_)
      obtain ⟨hr9, hw9⟩ := hw
      have hr9 := hr9.symm
      subst hr9
      have hw9 := hw9.symm
      subst hw9
      refine z_bf (b := (pIn 0 59 dd)) (tgt := 45) hE dX9_nearest_19 (by decide) (fun c_13 => ?_) (fun c_13 => ?_)
      · refine lv_aload_n hE.x hE.b dX9_nearest_45 rfl (lv_at hl 0 rfl) ?_
        refine lv_bipush (v := (-2)) hE.x hE.b dX9_nearest_46 rfl ?_
        refine z_qi hB (z_cV hE hB (c_X9_bad l g o a F L A X (-2)) q4_91 kX9_bad ⟨rfl, rfl⟩ ⟨Nat.le_of_ble_eq_true rfl, Nat.le_of_ble_eq_true rfl⟩ 0 rfl rfl rfl hl.1 rfl (Nat.le_of_ble_eq_true rfl) dX9_nearest_48 ⟨Nat.le_of_ble_eq_true rfl, Nat.le_of_ble_eq_true rfl⟩) (fun r_14 w_15 H locs hw hB => ?_)
        obtain ⟨hr9, hw9⟩ := hw
        have hr9 := hr9.symm
        subst hr9
        have hw9 := hw9.symm
        subst hw9
        exact z_iret (v := (-2)) (ws := mW g o a F L (bump 0 A) ++ X) hE hB hr (⟨F, A 4, by unfold nearestR askOK; simp [c_3, c_8, c_13], by unfold chk askOK; simp only [c_3, c_8, c_13, Bool.and_false, Bool.false_and, Bool.false_eq_true, if_false, Bool.and_true]; rfl, rfl⟩) dX9_nearest_51
      · refine lv_iload hE.x hE.b dX9_nearest_22 (lv_at hl 4 rfl) ?_
        refine lv_iload hE.x hE.b dX9_nearest_24 (lv_at hl 5 rfl) ?_
        refine z_qi hB (z_cS hE hB (c_X9_isAsker l g dy sh (mW g o a F L A ++ X)) q4_174 kX9_isAsker ⟨rfl, rfl⟩ ⟨Nat.le_of_ble_eq_true rfl, Nat.le_of_ble_eq_true rfl⟩ rfl hl.1 rfl (Nat.le_of_ble_eq_true rfl) dX9_nearest_26 ⟨Nat.le_of_ble_eq_true rfl, Nat.le_of_ble_eq_true rfl⟩) (fun r_16 w_17 H locs hw hB => ?_)
        obtain ⟨hr9, hw9⟩ := hw
        have hr9 := hr9.symm
        subst hr9
        have hw9 := hw9.symm
        subst hw9
        refine z_bf (b := (pIn 0 1 dy && pIn 0 1 sh)) (tgt := 45) hE dX9_nearest_29 (by decide) (fun c_18 => ?_) (fun c_18 => ?_)
        · refine lv_aload_n hE.x hE.b dX9_nearest_45 rfl (lv_at hl 0 rfl) ?_
          refine lv_bipush (v := (-2)) hE.x hE.b dX9_nearest_46 rfl ?_
          refine z_qi hB (z_cV hE hB (c_X9_bad l g o a F L A X (-2)) q4_91 kX9_bad ⟨rfl, rfl⟩ ⟨Nat.le_of_ble_eq_true rfl, Nat.le_of_ble_eq_true rfl⟩ 0 rfl rfl rfl hl.1 rfl (Nat.le_of_ble_eq_true rfl) dX9_nearest_48 ⟨Nat.le_of_ble_eq_true rfl, Nat.le_of_ble_eq_true rfl⟩) (fun r_19 w_20 H locs hw hB => ?_)
          obtain ⟨hr9, hw9⟩ := hw
          have hr9 := hr9.symm
          subst hr9
          have hw9 := hw9.symm
          subst hw9
          exact z_iret (v := (-2)) (ws := mW g o a F L (bump 0 A) ++ X) hE hB hr (⟨F, A 4, by unfold nearestR askOK; simp [c_3, c_8, c_13, c_18], by unfold chk askOK; simp only [c_3, c_8, c_13, c_18, Bool.and_false, Bool.false_and, Bool.false_eq_true, if_false, Bool.and_true]; rfl, rfl⟩) dX9_nearest_51
        · refine lv_iload hE.x hE.b dX9_nearest_32 (lv_at hl 6 rfl) ?_
          refine lv_i2l hE.x hE.b dX9_nearest_34 rfl ?_
          refine lv_lconst (v := lN 0) hE.x hE.b dX9_nearest_35 rfl ?_
          refine lv_ldc2 (v := lN 2) hE.x hE.b hE.o (hE.t _ q4_206) dX9_nearest_36 ?_
          refine z_qi hB (z_cS hE hB (c_X9_in l g (w.toInt64) (lN 0) (lN 2) w.toInt 0 2 (mW g o a F L A ++ X) (Int32.toInt_toInt64 _) (by decide) (by decide)) q4_88 kX9_in ⟨rfl, rfl⟩ ⟨Nat.le_of_ble_eq_true rfl, Nat.le_of_ble_eq_true rfl⟩ rfl hl.1 rfl (Nat.le_of_ble_eq_true rfl) dX9_nearest_39 ⟨Nat.le_of_ble_eq_true rfl, Nat.le_of_ble_eq_true rfl⟩) (fun r_21 w_22 H locs hw hB => ?_)
          obtain ⟨hr9, hw9⟩ := hw
          have hr9 := hr9.symm
          subst hr9
          have hw9 := hw9.symm
          subst hw9
          refine z_bt (b := (inZ 0 2 w.toInt)) (tgt := 52) hE dX9_nearest_42 (by decide) (fun c_23 => ?_) (fun c_23 => ?_)
          · obtain ⟨tn, htn, rfl⟩ := pTown_nI c_3 (by omega)
            obtain ⟨dn, hdn, rfl⟩ := pIn_nI (hi := 59) c_13 (by omega)
            refine lv_aload_n hE.x hE.b dX9_nearest_52 rfl (lv_at hl 0 rfl) ?_
            refine lv_iload_n hE.x hE.b dX9_nearest_53 rfl (lv_at hl 1 rfl) ?_
            refine z_qv hB (z_cV hE hB (c_X9_layFar l g o a F L A X T C V U tn hn (by omega)) q4_197 kX9_layFar ⟨rfl, rfl⟩ ⟨Nat.le_of_ble_eq_true rfl, Nat.le_of_ble_eq_true rfl⟩ 0 rfl rfl rfl hl.1 rfl (Nat.le_of_ble_eq_true rfl) dX9_nearest_54 ⟨Nat.le_of_ble_eq_true rfl, Nat.le_of_ble_eq_true rfl⟩) (fun w_25 H locs hw hB => ?_)
            obtain ⟨f1_26, hw9, hf_27⟩ := hw
            have hw9 := hw9.symm
            subst hw9
            refine lv_iload_n hE.x hE.b dX9_nearest_57 rfl (lv_at hl 3 rfl) ?_
            refine lv_istore (lv' := [(7, .int (nI dn)), (0, .ref o), (1, .int (nI tn)), (2, .int ac), (3, .int (nI dn)), (4, .int dy), (5, .int sh), (6, .int w)]) hE.x hE.b dX9_nearest_58 hl (by decide) rfl (fun ls hl => ?_)
            have k60 : ∀ (fu : Nat) (d : Nat) (F1 : Nat → Int32) (H : Heap) (locs : List Loc) (ls : Array Slot), 60 - d < fu → (d ≤ 60) → (dn ≤ d) → (F1 16 = F 16) → (nrS (nrP (A 0) T C tn ac dn dy sh) (60 - dn) dn = nrS (nrP (A 0) T C tn ac dn dy sh) (60 - d) d) → zB g s (mW g o a F1 L (updA A 4 f1_26) ++ X) H locs → lv_has ls 11 [(7, .int (nI d)), (0, .ref o), (1, .int (nI tn)), (2, .int ac), (3, .int (nI dn)), (4, .int dy), (5, .int sh), (6, .int w)] → W p l e { frames := 6, cells := 0, slots := 0, locals := 154 } s m args below meth c H locs 0 0 (MQ below (zQi g (fun r ws => ∃ (F2 : Nat → Int32) (f1 : Nat → Int32), r = (nearestR (A 0) T C (nI tn) ac (nI dn) dy sh w) ∧ ws = mW g o a F2 L (updA (chk (askOK T (nI tn) ac (nI dn) dy sh && pIn 0 2 w) A) 4 f1) ++ X ∧ F2 16 = F 16)) args s 0 0 (zA (gz g))) (F0 m 60 ls []) := by
              intro fu
              induction fu with
              | zero => intro d F1 H locs ls hfu hd hdd h16 hS hB hl; exact absurd hfu (Nat.not_lt_zero _)
              | succ fu ih60 =>
                intro d F1 H locs ls hfu hd hdd h16 hS hB hl
                refine lv_iload hE.x hE.b dX9_nearest_60 (lv_at hl 0 rfl) ?_
                refine lv_bipush (v := (nI 60)) hE.x hE.b dX9_nearest_62 rfl ?_
                refine z_ge (tgt := 204) (X := ((d : Nat) : Int)) (Y := (60 : Int)) hE dX9_nearest_64 (by decide) (nI_toInt (n := d) (by omega)) rfl (fun c_28 => ?_) (fun c_28 => ?_)
                · refine lv_iconst (v := (-1)) hE.x hE.b dX9_nearest_204 rfl ?_
                  exact z_iret (v := (-1)) (ws := mW g o a F1 L (updA A 4 f1_26) ++ X) hE hB hr (⟨F1, f1_26, by unfold nearestR askOK; simp only [c_3, c_8, c_13, c_18, c_23, Bool.and_true, if_true, rcl (show tn < 2 ^ 31 by omega), rcl (show dn < 2 ^ 31 by omega)]; rw [hS, show 60 - d = 0 by omega]; rfl, by unfold chk askOK; simp only [c_3, c_8, c_13, c_18, c_23, Bool.and_true, if_true], h16⟩) dX9_nearest_205
                · refine lv_iconst (v := (-1)) hE.x hE.b dX9_nearest_67 rfl ?_
                  refine lv_istore (lv' := [(8, .int (-1)), (7, .int (nI d)), (0, .ref o), (1, .int (nI tn)), (2, .int ac), (3, .int (nI dn)), (4, .int dy), (5, .int sh), (6, .int w)]) hE.x hE.b dX9_nearest_68 hl (by decide) rfl (fun ls hl => ?_)
                  refine lv_iconst (v := nI 0) hE.x hE.b dX9_nearest_70 rfl ?_
                  refine lv_istore (lv' := [(9, .int (nI 0)), (8, .int (-1)), (7, .int (nI d)), (0, .ref o), (1, .int (nI tn)), (2, .int ac), (3, .int (nI dn)), (4, .int dy), (5, .int sh), (6, .int w)]) hE.x hE.b dX9_nearest_71 hl (by decide) rfl (fun ls hl => ?_)
                  have k73 : ∀ (fu : Nat) (b : Option Nat) (k : Nat) (F1 : Nat → Int32) (H : Heap) (locs : List Loc) (ls : Array Slot), T - k < fu → (k ≤ T) → (F1 16 = F 16) → (b = nrT (fun t => isA (A 0) C t ac (nI d) dy sh 0) (fD (A 0) T tn) (d - dn) k) → zB g s (mW g o a F1 L (updA A 4 f1_26) ++ X) H locs → lv_has ls 11 [(9, .int (nI k)), (8, .int (oI b)), (7, .int (nI d)), (0, .ref o), (1, .int (nI tn)), (2, .int ac), (3, .int (nI dn)), (4, .int dy), (5, .int sh), (6, .int w)] → W p l e { frames := 6, cells := 0, slots := 0, locals := 154 } s m args below meth c H locs 0 0 (MQ below (zQi g (fun r ws => ∃ (F2 : Nat → Int32) (f1 : Nat → Int32), r = (nearestR (A 0) T C (nI tn) ac (nI dn) dy sh w) ∧ ws = mW g o a F2 L (updA (chk (askOK T (nI tn) ac (nI dn) dy sh && pIn 0 2 w) A) 4 f1) ++ X ∧ F2 16 = F 16)) args s 0 0 (zA (gz g))) (F0 m 73 ls []) := by
                    intro fu
                    induction fu with
                    | zero => intro b k F1 H locs ls hfu hk h16 hb hB hl; exact absurd hfu (Nat.not_lt_zero _)
                    | succ fu ih73 =>
                      intro b k F1 H locs ls hfu hk h16 hb hB hl
                      refine lv_iload hE.x hE.b dX9_nearest_73 (lv_at hl 0 rfl) ?_
                      refine lv_aload_n hE.x hE.b dX9_nearest_75 rfl (lv_at hl 3 rfl) ?_
                      refine z_qi hB (z_cV hE hB (c_X9_towns l g o a F1 L (updA A 4 f1_26) X T hT) q4_76 kX9_towns ⟨rfl, rfl⟩ ⟨Nat.le_of_ble_eq_true rfl, Nat.le_of_ble_eq_true rfl⟩ 0 rfl rfl rfl hl.1 rfl (Nat.le_of_ble_eq_true rfl) dX9_nearest_76 ⟨Nat.le_of_ble_eq_true rfl, Nat.le_of_ble_eq_true rfl⟩) (fun r_29 w_30 H locs hw hB => ?_)
                      obtain ⟨hr9, hw9⟩ := hw
                      have hr9 := hr9.symm
                      subst hr9
                      have hw9 := hw9.symm
                      subst hw9
                      refine z_ge (tgt := 163) (X := ((k : Nat) : Int)) (Y := ((T : Nat) : Int)) hE dX9_nearest_79 (by decide) (nI_toInt (n := k) (by omega)) (nI_toInt (n := T) (by omega)) (fun c_31 => ?_) (fun c_31 => ?_)
                      · refine lv_iload hE.x hE.b dX9_nearest_163 (lv_at hl 1 rfl) ?_
                        refine lv_iconst (v := (-1)) hE.x hE.b dX9_nearest_165 rfl ?_
                        refine lv_icmp_eq (tgt := 198) hE.x hE.b dX9_nearest_166 (by decide) (fun c_32 => ?_) (fun c_32 => ?_)
                        · refine lv_iinc (v := (nI (d + 1))) (lv' := [(7, .int (nI (d + 1))), (9, .int (nI k)), (8, .int (oI b)), (0, .ref o), (1, .int (nI tn)), (2, .int ac), (3, .int (nI dn)), (4, .int dy), (5, .int sh), (6, .int w)]) hE.x hE.b dX9_nearest_198 hl (k := 2) rfl (nI_add _ _) (by decide) rfl (fun ls hl => ?_)
                          refine lv_goto (tgt := 60) hE.x hE.b dX9_nearest_201 (by decide) ?_
                          exact ih60 (d + 1) F1 _ _ _ (by omega) (by omega) (by omega) h16 (hS.trans (nrS_no (by omega) (by unfold nrP; rw [show k = T by omega] at hb; rw [← hb]; exact oI_none c_32 (fun q hq => by have := nrT_lt (hb.symm.trans hq); omega)))) hB (lv_sub hl [0, 3, 4, 5, 6, 7, 8, 9] rfl)
                        · have hbT := hb
                          rw [show k = T by omega] at hbT
                          obtain ⟨q, rfl⟩ := oI_some c_32
                          have hqk := nrT_lt hb.symm
                          have hl : lv_has ls 11 [(9, .int (nI k)), (8, .int (nI q)), (7, .int (nI d)), (0, .ref o), (1, .int (nI tn)), (2, .int ac), (3, .int (nI dn)), (4, .int dy), (5, .int sh), (6, .int w)] := hl
                          have hfq := fD_le (n := A 0) (T := T) (fr := tn) (x := q)
                          have hday : nrP (A 0) T C tn ac dn dy sh d = some q := hbT.symm
                          refine lv_iload hE.x hE.b dX9_nearest_169 (lv_at hl 9 rfl) ?_
                          refine lv_if_ne (tgt := 179) hE.x hE.b dX9_nearest_171 (by decide) (fun c_33 => ?_) (fun c_33 => ?_)
                          · refine lv_iload hE.x hE.b dX9_nearest_179 (lv_at hl 9 rfl) ?_
                            refine lv_iconst (v := nI 1) hE.x hE.b dX9_nearest_181 rfl ?_
                            refine lv_icmp_ne (tgt := 190) hE.x hE.b dX9_nearest_182 (by decide) (fun c_34 => ?_) (fun c_34 => ?_)
                            · refine lv_aload_n hE.x hE.b dX9_nearest_190 rfl (lv_at hl 3 rfl) ?_
                              refine z_get (v := .ref (a 4)) hE hB inX9 0 rfl rfl 12 (by decide) q4_13 (fun _ h9 => h9) rfl dX9_nearest_191 ?_
                              refine lv_iload hE.x hE.b dX9_nearest_194 (lv_at hl 1 rfl) ?_
                              refine z_iald (k := q) (f := ((updA A 4 f1_26) 4)) hE hB 5 rfl (by omega) (by decide) dX9_nearest_196 ?_
                              refine z_top (y := (nI (fD (A 0) T tn q))) (hf_27 q (by omega)) ?_
                              exact z_iret (v := (nI (fD (A 0) T tn q))) (ws := mW g o a F1 L (updA A 4 f1_26) ++ X) hE hB hr (⟨F1, f1_26, by unfold nearestR askOK; simp only [c_3, c_8, c_13, c_18, c_23, Bool.and_true, if_true, rcl (show tn < 2 ^ 31 by omega), rcl (show dn < 2 ^ 31 by omega)]; rw [hS, nrS_yes (q := q) (by omega) hday]; simp only; rw [if_neg c_33, if_neg c_34], by unfold chk askOK; simp only [c_3, c_8, c_13, c_18, c_23, Bool.and_true, if_true], h16⟩) dX9_nearest_197
                            · refine lv_iload hE.x hE.b dX9_nearest_185 (lv_at hl 1 rfl) ?_
                              refine lv_goto (tgt := 197) hE.x hE.b dX9_nearest_187 (by decide) ?_
                              exact z_iret (v := (nI q)) (ws := mW g o a F1 L (updA A 4 f1_26) ++ X) hE hB hr (⟨F1, f1_26, by unfold nearestR askOK; simp only [c_3, c_8, c_13, c_18, c_23, Bool.and_true, if_true, rcl (show tn < 2 ^ 31 by omega), rcl (show dn < 2 ^ 31 by omega)]; rw [hS, nrS_yes (q := q) (by omega) hday]; simp only; rw [if_neg c_33, if_pos c_34], by unfold chk askOK; simp only [c_3, c_8, c_13, c_18, c_23, Bool.and_true, if_true], h16⟩) dX9_nearest_197
                          · refine lv_iload hE.x hE.b dX9_nearest_174 (lv_at hl 2 rfl) ?_
                            refine lv_goto (tgt := 197) hE.x hE.b dX9_nearest_176 (by decide) ?_
                            exact z_iret (v := (nI d)) (ws := mW g o a F1 L (updA A 4 f1_26) ++ X) hE hB hr (⟨F1, f1_26, by unfold nearestR askOK; simp only [c_3, c_8, c_13, c_18, c_23, Bool.and_true, if_true, rcl (show tn < 2 ^ 31 by omega), rcl (show dn < 2 ^ 31 by omega)]; rw [hS, nrS_yes (q := q) (by omega) hday]; simp only; rw [if_pos c_33], by unfold chk askOK; simp only [c_3, c_8, c_13, c_18, c_23, Bool.and_true, if_true], h16⟩) dX9_nearest_197
                      · have k124 : ∀ (mm : Bool) (H : Heap) (locs : List Loc) (ls : Array Slot), (mm = true ↔ (fD (A 0) T tn k ≤ d - dn ∧ ∀ q, b = some q → fD (A 0) T tn k < fD (A 0) T tn q)) → zB g s (mW g o a F1 L (updA A 4 f1_26) ++ X) H locs → lv_has ls 11 [(9, .int (nI k)), (8, .int (oI b)), (7, .int (nI d)), (0, .ref o), (1, .int (nI tn)), (2, .int ac), (3, .int (nI dn)), (4, .int dy), (5, .int sh), (6, .int w)] → W p l e { frames := 6, cells := 0, slots := 0, locals := 154 } s m args below meth c H locs 0 0 (MQ below (zQi g (fun r ws => ∃ (F2 : Nat → Int32) (f1 : Nat → Int32), r = (nearestR (A 0) T C (nI tn) ac (nI dn) dy sh w) ∧ ws = mW g o a F2 L (updA (chk (askOK T (nI tn) ac (nI dn) dy sh && pIn 0 2 w) A) 4 f1) ++ X ∧ F2 16 = F 16)) args s 0 0 (zA (gz g))) (F0 m 124 ls [.int (bI mm)]) := by
                          intro mm H locs ls hm hB hl
                          refine lv_istore (lv' := [(10, .int (bI mm)), (9, .int (nI k)), (8, .int (oI b)), (7, .int (nI d)), (0, .ref o), (1, .int (nI tn)), (2, .int ac), (3, .int (nI dn)), (4, .int dy), (5, .int sh), (6, .int w)]) hE.x hE.b dX9_nearest_124 hl (by decide) rfl (fun ls hl => ?_)
                          refine lv_iload hE.x hE.b dX9_nearest_126 (lv_at hl 0 rfl) ?_
                          refine z_bf (b := mm) (tgt := 153) hE dX9_nearest_128 (by decide) (fun c_35 => ?_) (fun c_35 => ?_)
                          · refine lv_iload hE.x hE.b dX9_nearest_153 (lv_at hl 2 rfl) ?_
                            refine lv_istore (lv' := [(8, .int (oI b)), (10, .int (bI mm)), (9, .int (nI k)), (7, .int (nI d)), (0, .ref o), (1, .int (nI tn)), (2, .int ac), (3, .int (nI dn)), (4, .int dy), (5, .int sh), (6, .int w)]) hE.x hE.b dX9_nearest_155 hl (by decide) rfl (fun ls hl => ?_)
                            refine lv_iinc (v := (nI (k + 1))) (lv' := [(9, .int (nI (k + 1))), (8, .int (oI b)), (10, .int (bI mm)), (7, .int (nI d)), (0, .ref o), (1, .int (nI tn)), (2, .int ac), (3, .int (nI dn)), (4, .int dy), (5, .int sh), (6, .int w)]) hE.x hE.b dX9_nearest_157 hl (k := 2) rfl (nI_add _ _) (by decide) rfl (fun ls hl => ?_)
                            refine lv_goto (tgt := 73) hE.x hE.b dX9_nearest_160 (by decide) ?_
                            exact ih73 b (k + 1) F1 _ _ _ (by omega) (by omega) h16 (nrT_no hb (Or.inl (fun z => by have := hm.mpr z; rw [this] at c_35; cases c_35))) hB (lv_sub hl [0, 1, 3, 4, 5, 6, 7, 8, 9, 10] rfl)
                          · refine lv_aload_n hE.x hE.b dX9_nearest_131 rfl (lv_at hl 4 rfl) ?_
                            refine lv_iload hE.x hE.b dX9_nearest_132 (lv_at hl 1 rfl) ?_
                            refine lv_iload_n hE.x hE.b dX9_nearest_134 rfl (lv_at hl 6 rfl) ?_
                            refine lv_iload hE.x hE.b dX9_nearest_135 (lv_at hl 3 rfl) ?_
                            refine lv_iload hE.x hE.b dX9_nearest_137 (lv_at hl 8 rfl) ?_
                            refine lv_iload hE.x hE.b dX9_nearest_139 (lv_at hl 9 rfl) ?_
                            refine lv_iconst (v := nI 0) hE.x hE.b dX9_nearest_141 rfl ?_
                            refine z_qi hB (z_cV hE hB (c_X9_isAllowed l g o a F1 L (updA A 4 f1_26) X C k ac (nI d) dy sh 0 hC (by omega) (by omega) (by omega)) q4_207 kX9_isAllowed ⟨rfl, rfl⟩ ⟨Nat.le_of_ble_eq_true rfl, Nat.le_of_ble_eq_true rfl⟩ 0 rfl rfl rfl hl.1 rfl (Nat.le_of_ble_eq_true rfl) dX9_nearest_142 ⟨Nat.le_of_ble_eq_true rfl, Nat.le_of_ble_eq_true rfl⟩) (fun r_36 w_37 H locs hw hB => ?_)
                            obtain ⟨F1_38, hr9, hw9, hf_39⟩ := hw
                            have hr9 := hr9.symm
                            subst hr9
                            have hw9 := hw9.symm
                            subst hw9
                            have h16 := hf_39.trans h16
                            refine z_bf (b := (isA ((updA A 4 f1_26) 0) C k ac (nI d) dy sh 0)) (tgt := 153) hE dX9_nearest_145 (by decide) (fun c_40 => ?_) (fun c_40 => ?_)
                            · refine lv_iload hE.x hE.b dX9_nearest_153 (lv_at hl 2 rfl) ?_
                              refine lv_istore (lv' := [(8, .int (oI b)), (10, .int (bI mm)), (9, .int (nI k)), (7, .int (nI d)), (0, .ref o), (1, .int (nI tn)), (2, .int ac), (3, .int (nI dn)), (4, .int dy), (5, .int sh), (6, .int w)]) hE.x hE.b dX9_nearest_155 hl (by decide) rfl (fun ls hl => ?_)
                              refine lv_iinc (v := (nI (k + 1))) (lv' := [(9, .int (nI (k + 1))), (8, .int (oI b)), (10, .int (bI mm)), (7, .int (nI d)), (0, .ref o), (1, .int (nI tn)), (2, .int ac), (3, .int (nI dn)), (4, .int dy), (5, .int sh), (6, .int w)]) hE.x hE.b dX9_nearest_157 hl (k := 2) rfl (nI_add _ _) (by decide) rfl (fun ls hl => ?_)
                              refine lv_goto (tgt := 73) hE.x hE.b dX9_nearest_160 (by decide) ?_
                              exact ih73 b (k + 1) F1_38 _ _ _ (by omega) (by omega) h16 (nrT_no hb (Or.inr c_40)) hB (lv_sub hl [0, 1, 3, 4, 5, 6, 7, 8, 9, 10] rfl)
                            · refine lv_iload hE.x hE.b dX9_nearest_148 (lv_at hl 1 rfl) ?_
                              refine lv_goto (tgt := 155) hE.x hE.b dX9_nearest_150 (by decide) ?_
                              refine lv_istore (lv' := [(8, .int (nI k)), (10, .int (bI mm)), (9, .int (nI k)), (7, .int (nI d)), (0, .ref o), (1, .int (nI tn)), (2, .int ac), (3, .int (nI dn)), (4, .int dy), (5, .int sh), (6, .int w)]) hE.x hE.b dX9_nearest_155 hl (by decide) rfl (fun ls hl => ?_)
                              refine lv_iinc (v := (nI (k + 1))) (lv' := [(9, .int (nI (k + 1))), (8, .int (nI k)), (10, .int (bI mm)), (7, .int (nI d)), (0, .ref o), (1, .int (nI tn)), (2, .int ac), (3, .int (nI dn)), (4, .int dy), (5, .int sh), (6, .int w)]) hE.x hE.b dX9_nearest_157 hl (k := 2) rfl (nI_add _ _) (by decide) rfl (fun ls hl => ?_)
                              refine lv_goto (tgt := 73) hE.x hE.b dX9_nearest_160 (by decide) ?_
                              exact ih73 (some k) (k + 1) F1_38 _ _ _ (by omega) (by omega) h16 (nrT_yes hb (hm.mp c_35) c_40) hB (lv_sub hl [0, 1, 3, 4, 5, 6, 7, 8, 9, 10] rfl)
                        have hfk := fD_le (n := A 0) (T := T) (fr := tn) (x := k)
                        refine lv_aload_n hE.x hE.b dX9_nearest_82 rfl (lv_at hl 3 rfl) ?_
                        refine z_get (v := .ref (a 4)) hE hB inX9 0 rfl rfl 12 (by decide) q4_13 (fun _ h9 => h9) rfl dX9_nearest_83 ?_
                        refine lv_iload hE.x hE.b dX9_nearest_86 (lv_at hl 0 rfl) ?_
                        refine z_iald (k := k) (f := ((updA A 4 f1_26) 4)) hE hB 5 rfl (by omega) (by decide) dX9_nearest_88 ?_
                        refine z_top (y := (nI (fD (A 0) T tn k))) (hf_27 k (by omega)) ?_
                        refine lv_iload hE.x hE.b dX9_nearest_89 (lv_at hl 2 rfl) ?_
                        refine lv_iload_n hE.x hE.b dX9_nearest_91 rfl (lv_at hl 6 rfl) ?_
                        refine z_isubN hE (by omega) dX9_nearest_92 ?_
                        refine z_gt (tgt := 123) (X := (((fD (A 0) T tn k) : Nat) : Int)) (Y := (((d - dn) : Nat) : Int)) hE dX9_nearest_93 (by decide) (nI_toInt (n := (fD (A 0) T tn k)) (by omega)) (nI_toInt (n := (d - dn)) (by omega)) (fun c_41 => ?_) (fun c_41 => ?_)
                        · refine lv_iconst (v := nI 0) hE.x hE.b dX9_nearest_123 rfl ?_
                          exact k124 false _ _ _ ⟨fun h => (by cases h), fun h => absurd h.1 (by omega)⟩ hB hl
                        · refine lv_iload hE.x hE.b dX9_nearest_96 (lv_at hl 1 rfl) ?_
                          refine lv_iconst (v := (-1)) hE.x hE.b dX9_nearest_98 rfl ?_
                          refine lv_icmp_eq (tgt := 119) hE.x hE.b dX9_nearest_99 (by decide) (fun c_42 => ?_) (fun c_42 => ?_)
                          · refine lv_iconst (v := nI 1) hE.x hE.b dX9_nearest_119 rfl ?_
                            refine lv_goto (tgt := 124) hE.x hE.b dX9_nearest_120 (by decide) ?_
                            exact k124 true _ _ _ ⟨fun _ => ⟨by omega, fun q hq => (by rw [oI_none c_42 (fun q hq => by have := nrT_lt (hb.symm.trans hq); omega)] at hq; cases hq)⟩, fun _ => rfl⟩ hB hl
                          · obtain ⟨q, rfl⟩ := oI_some c_42
                            have hqk := nrT_lt hb.symm
                            have hl : lv_has ls 11 [(9, .int (nI k)), (8, .int (nI q)), (7, .int (nI d)), (0, .ref o), (1, .int (nI tn)), (2, .int ac), (3, .int (nI dn)), (4, .int dy), (5, .int sh), (6, .int w)] := hl
                            have hfq := fD_le (n := A 0) (T := T) (fr := tn) (x := q)
                            refine lv_aload_n hE.x hE.b dX9_nearest_102 rfl (lv_at hl 3 rfl) ?_
                            refine z_get (v := .ref (a 4)) hE hB inX9 0 rfl rfl 12 (by decide) q4_13 (fun _ h9 => h9) rfl dX9_nearest_103 ?_
                            refine lv_iload hE.x hE.b dX9_nearest_106 (lv_at hl 0 rfl) ?_
                            refine z_iald (k := k) (f := ((updA A 4 f1_26) 4)) hE hB 5 rfl (by omega) (by decide) dX9_nearest_108 ?_
                            refine z_top (y := (nI (fD (A 0) T tn k))) (hf_27 k (by omega)) ?_
                            refine lv_aload_n hE.x hE.b dX9_nearest_109 rfl (lv_at hl 3 rfl) ?_
                            refine z_get (v := .ref (a 4)) hE hB inX9 0 rfl rfl 12 (by decide) q4_13 (fun _ h9 => h9) rfl dX9_nearest_110 ?_
                            refine lv_iload hE.x hE.b dX9_nearest_113 (lv_at hl 1 rfl) ?_
                            refine z_iald (k := q) (f := ((updA A 4 f1_26) 4)) hE hB 5 rfl (by omega) (by decide) dX9_nearest_115 ?_
                            refine z_top (y := (nI (fD (A 0) T tn q))) (hf_27 q (by omega)) ?_
                            refine z_ge (tgt := 123) (X := (((fD (A 0) T tn k) : Nat) : Int)) (Y := (((fD (A 0) T tn q) : Nat) : Int)) hE dX9_nearest_116 (by decide) (nI_toInt (n := (fD (A 0) T tn k)) (by omega)) (nI_toInt (n := (fD (A 0) T tn q)) (by omega)) (fun c_43 => ?_) (fun c_43 => ?_)
                            · refine lv_iconst (v := nI 0) hE.x hE.b dX9_nearest_123 rfl ?_
                              exact k124 false _ _ _ ⟨fun h => (by cases h), fun h => absurd (h.2 q rfl) (by omega)⟩ hB hl
                            · refine lv_iconst (v := nI 1) hE.x hE.b dX9_nearest_119 rfl ?_
                              refine lv_goto (tgt := 124) hE.x hE.b dX9_nearest_120 (by decide) ?_
                              exact k124 true _ _ _ ⟨fun _ => ⟨by omega, fun q2 hq2 => (by cases hq2; omega)⟩, fun _ => rfl⟩ hB hl
                  exact k73 (T - 0 + 1) none 0 F1 _ _ _ (Nat.lt_succ_self _) (by omega) h16 rfl hB hl
            exact k60 (60 - dn + 1) dn F _ _ _ (Nat.lt_succ_self _) (by omega) (by omega) h16 rfl hB hl
          · refine lv_aload_n hE.x hE.b dX9_nearest_45 rfl (lv_at hl 0 rfl) ?_
            refine lv_bipush (v := (-2)) hE.x hE.b dX9_nearest_46 rfl ?_
            refine z_qi hB (z_cV hE hB (c_X9_bad l g o a F L A X (-2)) q4_91 kX9_bad ⟨rfl, rfl⟩ ⟨Nat.le_of_ble_eq_true rfl, Nat.le_of_ble_eq_true rfl⟩ 0 rfl rfl rfl hl.1 rfl (Nat.le_of_ble_eq_true rfl) dX9_nearest_48 ⟨Nat.le_of_ble_eq_true rfl, Nat.le_of_ble_eq_true rfl⟩) (fun r_44 w_45 H locs hw hB => ?_)
            obtain ⟨hr9, hw9⟩ := hw
            have hr9 := hr9.symm
            subst hr9
            have hw9 := hw9.symm
            subst hw9
            exact z_iret (v := (-2)) (ws := mW g o a F L (bump 0 A) ++ X) hE hB hr (⟨F, A 4, by unfold nearestR askOK; simp [c_3, c_8, c_13, c_18, c_23], by unfold chk askOK; simp only [c_3, c_8, c_13, c_18, c_23, Bool.and_false, Bool.false_and, Bool.false_eq_true, if_false, Bool.and_true]; rfl, rfl⟩) dX9_nearest_51
end
section
theorem bI_inj {a b : Bool} (h : bI a = bI b) : a = b := by
  cases a <;> cases b <;> first | rfl | exact absurd h (by decide)
theorem cdB_no {al : Nat → Bool} {i : Int32} {a k many : Nat} {found : Int32} {x : Nat × Int32} (hx : (many, found) = cdB al i a x k) (h : al a = al (a + 1 + k)) : (many, found) = cdB al i a x (k + 1) := by
  simp only [cdB]
  rw [if_pos h]
  exact hx
theorem cdB_eq {al : Nat → Bool} {i : Int32} {a k many : Nat} {found : Int32} {x : Nat × Int32} (hx : (many, found) = cdB al i a x k) (h : ¬ al a = al (a + 1 + k)) (hm : nI many = i) : (many + 1, nI (10 * a + (a + 1 + k))) = cdB al i a x (k + 1) := by
  simp only [cdB]
  rw [if_neg h, ← hx]
  simp only
  rw [if_pos hm]
theorem cdB_ne {al : Nat → Bool} {i : Int32} {a k many : Nat} {found : Int32} {x : Nat × Int32} (hx : (many, found) = cdB al i a x k) (h : ¬ al a = al (a + 1 + k)) (hm : ¬ nI many = i) : (many + 1, found) = cdB al i a x (k + 1) := by
  simp only [cdB]
  rw [if_neg h, ← hx]
  simp only
  rw [if_neg hm]
theorem cdA_bd {al : Nat → Bool} {T : Nat} {i : Int32} {a k many : Nat} {found : Int32} (hx : (many, found) = cdB al i a (cdA al T i a) k) (hT : T ≤ 6) (ha : a < T) (hk : k ≤ T) : many ≤ 42 := by
  have h1 := cdB_le (al := al) (i := i) (a := a) (x := cdA al T i a) k
  have h2 := cdA_le (al := al) (T := T) (i := i) a
  rw [← hx] at h1
  simp only at h1
  have h3 : a * T ≤ 5 * 6 := Nat.mul_le_mul (by omega) hT
  omega
/-- agreement, by its steps -/
theorem agP_0 {al : Nat → Nat → Bool} {T acts : Nat} : agP al T acts 0 := fun a h => absurd h (Nat.not_lt_zero a)
theorem agP_mono {al : Nat → Nat → Bool} {T acts k : Nat} (h : agP al T acts 6) (hk : k ≤ 6) : agP al T acts k := fun a ha => h a (Nat.lt_of_lt_of_le ha hk)
theorem agP_succ {al : Nat → Nat → Bool} {T acts k : Nat} : agP al T acts (k + 1) ↔ (agP al T acts k ∧ (acts / 2 ^ k % 2 = 1 → ∀ t, 1 ≤ t → t < T → al k t = al k 0)) := by
  constructor
  · intro h
    exact ⟨fun a ha => h a (Nat.lt_succ_of_lt ha), h k (Nat.lt_succ_self k)⟩
  · intro h a ha
    rcases Nat.lt_or_ge a k with q | q
    · exact h.1 a q
    · rw [show a = k by omega]
      exact h.2
theorem ag_out {al : Nat → Nat → Bool} {T acts k t : Nat} {ag : Bool} (h : ag = true ↔ (agP al T acts k ∧ (acts / 2 ^ k % 2 = 1 → ∀ t', 1 ≤ t' → t' < t → al k t' = al k 0))) (ht : t ≤ T ∨ t = 1) (ho : T ≤ t ∨ ag = false ∨ ¬ acts / 2 ^ k % 2 = 1) : ag = true ↔ agP al T acts (k + 1) := by
  rw [agP_succ]
  constructor
  · intro h1
    obtain ⟨g1, g2⟩ := h.mp h1
    refine ⟨g1, fun hb t' h2 h3 => ?_⟩
    rcases ho with q | q | q
    · exact g2 hb t' h2 (by omega)
    · rw [q] at h1; cases h1
    · exact absurd hb q
  · intro h1
    exact h.mpr ⟨h1.1, fun hb t' h2 h3 => h1.2 hb t' h2 (by omega)⟩
theorem ag_st {al : Nat → Nat → Bool} {T acts k t : Nat} {ag b : Bool} (h : ag = true ↔ (agP al T acts k ∧ (acts / 2 ^ k % 2 = 1 → ∀ t', 1 ≤ t' → t' < t → al k t' = al k 0))) (ht : 1 ≤ t) (ha : ag = true) (hb : acts / 2 ^ k % 2 = 1) (hq : b = true ↔ al k t = al k 0) : b = true ↔ (agP al T acts k ∧ (acts / 2 ^ k % 2 = 1 → ∀ t', 1 ≤ t' → t' < t + 1 → al k t' = al k 0)) := by
  obtain ⟨g1, g2⟩ := h.mp ha
  constructor
  · intro h1
    refine ⟨g1, fun _ t' h2 h3 => ?_⟩
    rcases Nat.lt_or_ge t' t with q | q
    · exact g2 hb t' h2 q
    · rw [show t' = t by omega]; exact hq.mp h1
  · intro h1
    exact hq.mpr (h1.2 hb t ht (Nat.lt_succ_self t))
theorem agB_iff {al : Nat → Nat → Bool} {T acts : Nat} {ag : Bool} (h : ag = true ↔ agP al T acts 6) : ag = agB al T acts := by
  cases hag : ag
  · rw [agB_f (fun z => by rw [h.mpr z] at hag; cases hag)]
  · rw [agB_t (h.mp hag)]
theorem pow_C {C : Nat} (h : C ≤ 8) : 1 ≤ 2 ^ C ∧ 2 ^ C ≤ 256 := ⟨Nat.one_le_two_pow, Nat.pow_le_pow_right (n := 2) (by omega) h⟩
theorem stl_yes {ag : Nat → Bool} {all k b : Nat} (hb : b = stl ag all k) (h1 : pop k < pop b) (h2 : ag k = true) : k = stl ag all (k + 1) := by
  simp only [stl]
  rw [← hb, if_pos ⟨h1, h2⟩]
theorem stl_no {ag : Nat → Bool} {all k b : Nat} (hb : b = stl ag all k) (h : ¬ pop k < pop b ∨ ag k = false) : b = stl ag all (k + 1) := by
  simp only [stl]
  rw [← hb, if_neg]
  intro z
  rcases h with h | h
  · exact h z.1
  · rw [h] at z; exact absurd z.2 (by decide)
theorem pop_8 (k : Nat) : pop k ≤ 8 := popF_le 8 k
theorem rdB_y {P : Nat → Bool} {r b : Nat} (hb : b = rdB P r) (h : P r = true) : b ||| 2 ^ r = rdB P (r + 1) := by simp only [rdB]; rw [if_pos h, hb]
theorem rdB_n {P : Nat → Bool} {r b : Nat} (hb : b = rdB P r) (h : ¬ P r = true) : b ||| 0 = rdB P (r + 1) := by simp only [rdB]; rw [if_neg h, hb]
theorem shl_8 : ∀ k, k < 8 → nI 1 <<< (nI k &&& 31) = nI (2 ^ k) := shl1_nI
/-- of the acts one that is forbidden, by its steps -/
theorem fbP_0 {al : Nat → Nat → Bool} {acts t : Nat} : false = true ↔ fbP al acts t 0 := ⟨fun h => (by cases h), fun ⟨a, h, _⟩ => absurd h (Nat.not_lt_zero a)⟩
theorem fb_st {al : Nat → Nat → Bool} {acts t k : Nat} {f f' : Bool} (h : f = true ↔ fbP al acts t k) (hf : f = false) (h' : f' = true ↔ (acts / 2 ^ k % 2 = 1 ∧ al k t = false)) : f' = true ↔ fbP al acts t (k + 1) := by
  rw [h']
  constructor
  · intro z; exact ⟨k, Nat.lt_succ_self k, z⟩
  · rintro ⟨a, h1, h2⟩
    rcases Nat.lt_or_ge a k with q | q
    · exfalso
      have := h.mpr ⟨a, q, h2⟩
      rw [hf] at this; cases this
    · rw [show k = a by omega]; exact h2
theorem fb_out {al : Nat → Nat → Bool} {acts t k : Nat} {f : Bool} (h : f = true ↔ fbP al acts t k) (hk : k ≤ 6) (ho : k = 6 ∨ f = true) : f = fbB al acts t := by
  cases hf : f
  · rcases ho with q | q
    · subst q
      rw [fbB_f (fun z => by rw [h.mpr z] at hf; cases hf)]
    · rw [hf] at q; cases q
  · obtain ⟨a, h1, h2⟩ := h.mp hf
    rw [fbB_t ⟨a, by omega, h2⟩]
/-- who gives in: from day d on, r days -/
def giv (pr : Nat → Nat) (T : Nat) : Nat → Nat → Int → Int → Option (Nat × Nat)
  | 0, _, _, _ => none
  | r + 1, d, K, P => if K - pr d ≤ 0 ∨ P - (T - pr d : Nat) ≤ 0 then some (d, if 0 < K - pr d then 1 else if 0 < P - (T - pr d : Nat) then 0 else 2) else giv pr T r (d + 1) (K - pr d) (P - (T - pr d : Nat))
theorem giv_yes {pr : Nat → Nat} {T r d w : Nat} {K P : Int} (h : 0 < r) (hg : K - pr d ≤ 0 ∨ P - (T - pr d : Nat) ≤ 0) (hw : w = if 0 < K - pr d then 1 else if 0 < P - (T - pr d : Nat) then 0 else 2) : giv pr T r d K P = some (d, w) := by
  cases r with
  | zero => omega
  | succ r => simp only [giv]; rw [if_pos hg, hw]
theorem giv_no {pr : Nat → Nat} {T d : Nat} {K P : Int} (h : d < 60) (hg : ¬ (K - pr d ≤ 0 ∨ P - (T - pr d : Nat) ≤ 0)) : giv pr T (60 - d) d K P = giv pr T (60 - (d + 1)) (d + 1) (K - pr d) (P - (T - pr d : Nat)) := by
  rw [show 60 - d = (60 - (d + 1)) + 1 by omega]
  simp only [giv]
  rw [if_neg hg]
noncomputable def prsD (n : Nat → Int32) (T C ac S : Nat) (d : Nat) : Nat := cn (fun t => fbB (acAl n C (nI d) S) ac t) T
noncomputable def giR (n : Nat → Int32) (T C k p ac S : Nat) : Option (Nat × Nat) := giv (prsD n T C ac S) T 60 0 k p
noncomputable def gD1 (x : Option (Nat × Nat)) : Option Nat := x.map Prod.fst
noncomputable def gW1 (x : Option (Nat × Nat)) : Option Nat := x.map Prod.snd
def patOK (k p ac : Int32) : Bool := pIn 0 99 k && (pIn 0 99 p && pIn 0 63 ac)
noncomputable def patienceR (n : Nat → Int32) (T C : Nat) (k p ac w : Int32) : Int32 := if (patOK k p ac && pIn 0 1 w) = true then (if w = 0 then oI (gD1 (giR n T C (rc k) (rc p) (rc ac) 0)) else oI (gW1 (giR n T C (rc k) (rc p) (rc ac) 0))) else (-2)
def orNv (x : Int32) : Int32 := if x = (-1) then nI 60 else x
noncomputable def gE (x : Option (Nat × Nat)) : Nat := match x with
  | none => 60
  | some (d, _) => d
theorem giv_lt {pr : Nat → Nat} {T : Nat} : ∀ {r d : Nat} {K P : Int} {e w : Nat}, giv pr T r d K P = some (e, w) → e < d + r := by
  intro r
  induction r with
  | zero => intro d K P e w h; cases h
  | succ r ih =>
    intro d K P e w h
    simp only [giv] at h
    split at h
    · cases h; omega
    · have := ih h; omega
theorem giR_lt {n : Nat → Int32} {T C k p ac S e w : Nat} (h : giR n T C k p ac S = some (e, w)) : e < 60 := by have := giv_lt h; omega
theorem orNv_g {n : Nat → Int32} {T C k p ac S : Nat} : orNv (oI (gD1 (giR n T C k p ac S))) = nI (gE (giR n T C k p ac S)) := by
  unfold orNv gE gD1
  cases h : giR n T C k p ac S with
  | none => rfl
  | some x =>
    obtain ⟨d, w⟩ := x
    have := giR_lt h
    exact if_neg (nI_m1 (by omega))
def concedeOK (C : Nat) (x k p ac : Int32) : Bool := pTown C x && patOK k p ac
noncomputable def concedeR (n : Nat → Int32) (T C : Nat) (x k p ac : Int32) : Int32 := if concedeOK C x k p ac = true then nI (gE (giR n T C (rc k) (rc p) (rc ac) (2 ^ rc x))) - nI (gE (giR n T C (rc k) (rc p) (rc ac) 0)) else (-100)
/-- the town that is pressed on most days -/
def prs (ct : Nat → Nat) : Nat → Option (Nat × Nat)
  | 0 => none
  | t + 1 => match prs ct t with
    | none => some (t, ct t)
    | some (b, m) => if m < ct t then some (t, ct t) else some (b, m)
theorem prs_yes {ct : Nat → Nat} {t : Nat} (h : ∀ b m, prs ct t = some (b, m) → m < ct t) : prs ct (t + 1) = some (t, ct t) := by
  simp only [prs]
  cases h2 : prs ct t with
  | none => rfl
  | some x =>
    obtain ⟨b, m⟩ := x
    simp only
    rw [if_pos (h b m h2)]
theorem prs_no {ct : Nat → Nat} {t b m : Nat} (h2 : prs ct t = some (b, m)) (h : ¬ m < ct t) : prs ct (t + 1) = some (b, m) := by
  simp only [prs, h2]
  rw [if_neg h]
theorem prs_lt {ct : Nat → Nat} : ∀ {t b m : Nat}, prs ct t = some (b, m) → b < t ∧ m = ct b := by
  intro t
  induction t with
  | zero => intro b m h; cases h
  | succ t ih =>
    intro b m h
    simp only [prs] at h
    cases h2 : prs ct t with
    | none => rw [h2] at h; cases h; exact ⟨Nat.lt_succ_self _, rfl⟩
    | some x =>
      obtain ⟨c, q⟩ := x
      rw [h2] at h
      simp only at h
      split at h
      · cases h; exact ⟨Nat.lt_succ_self _, rfl⟩
      · cases h; exact ⟨Nat.lt_succ_of_lt (ih h2).1, (ih h2).2⟩
noncomputable def prsC (n : Nat → Int32) (C ac : Nat) (t : Nat) : Nat := cn (fun d => fbB (acAl n C (nI d) 0) ac t) 60
noncomputable def pressesR (n : Nat → Int32) (T C : Nat) (ac w : Int32) : Int32 := if (pIn 0 63 ac && pIn 0 1 w) = true then (match prs (prsC n C (rc ac)) T with
  | none => if w = 0 then (-1) else nI 0
  | some (b, m) => if w = 0 then nI b else nI m) else (-2)
theorem sub_toInt {x : Int32} {K : Int} {k : Nat} (hx : x.toInt = K) (h1 : -1000 ≤ K) (h2 : K ≤ 1000) (hk : k ≤ 1000) : (x - nI k).toInt = K - k := by
  rw [Int32.toInt_sub, hx, nI_toInt (by omega)]
  have : (K - (k : Int)).bmod (2 ^ 32) = K - k := by
    rw [Int.bmod_eq_of_le] <;> omega
  exact this
end
section
theorem dX9_contradict_0 : decode cX9_contradict 0 = .ok (.iload_n 1, 1) := by decide +kernel
theorem dX9_contradict_1 : decode cX9_contradict 1 = .ok (.invokestatic 83, 3) := by decide +kernel
theorem dX9_contradict_4 : decode cX9_contradict 4 = .ok (.ifCond .eq 15, 3) := by decide +kernel
theorem dX9_contradict_7 : decode cX9_contradict 7 = .ok (.iload_n 2, 1) := by decide +kernel
theorem dX9_contradict_8 : decode cX9_contradict 8 = .ok (.invokestatic 147, 3) := by decide +kernel
theorem dX9_contradict_11 : decode cX9_contradict 11 = .ok (.ifCond .eq 8, 3) := by decide +kernel
theorem dX9_contradict_14 : decode cX9_contradict 14 = .ok (.iload_n 3, 1) := by decide +kernel
theorem dX9_contradict_15 : decode cX9_contradict 15 = .ok (.iconst (-1), 1) := by decide +kernel
theorem dX9_contradict_16 : decode cX9_contradict 16 = .ok (.if_icmp .ge 10, 3) := by decide +kernel
theorem dX9_contradict_19 : decode cX9_contradict 19 = .ok (.aload_n 0, 1) := by decide +kernel
theorem dX9_contradict_20 : decode cX9_contradict 20 = .ok (.bipush (-10), 2) := by decide +kernel
theorem dX9_contradict_22 : decode cX9_contradict 22 = .ok (.invokevirtual 62, 3) := by decide +kernel
theorem dX9_contradict_25 : decode cX9_contradict 25 = .ok (.ireturn, 1) := by decide +kernel
theorem dX9_contradict_26 : decode cX9_contradict 26 = .ok (.iconst 0, 1) := by decide +kernel
theorem dX9_contradict_27 : decode cX9_contradict 27 = .ok (.istore 4, 2) := by decide +kernel
theorem dX9_contradict_29 : decode cX9_contradict 29 = .ok (.bipush (-5), 2) := by decide +kernel
theorem dX9_contradict_31 : decode cX9_contradict 31 = .ok (.istore 5, 2) := by decide +kernel
theorem dX9_contradict_33 : decode cX9_contradict 33 = .ok (.iconst 0, 1) := by decide +kernel
theorem dX9_contradict_34 : decode cX9_contradict 34 = .ok (.istore 6, 2) := by decide +kernel
theorem dX9_contradict_36 : decode cX9_contradict 36 = .ok (.iload 6, 2) := by decide +kernel
theorem dX9_contradict_38 : decode cX9_contradict 38 = .ok (.aload_n 0, 1) := by decide +kernel
theorem dX9_contradict_39 : decode cX9_contradict 39 = .ok (.invokevirtual 39, 3) := by decide +kernel
theorem dX9_contradict_42 : decode cX9_contradict 42 = .ok (.if_icmp .ge 79, 3) := by decide +kernel
theorem dX9_contradict_45 : decode cX9_contradict 45 = .ok (.iload 6, 2) := by decide +kernel
theorem dX9_contradict_47 : decode cX9_contradict 47 = .ok (.iconst 1, 1) := by decide +kernel
theorem dX9_contradict_48 : decode cX9_contradict 48 = .ok (.iadd, 1) := by decide +kernel
theorem dX9_contradict_49 : decode cX9_contradict 49 = .ok (.istore 7, 2) := by decide +kernel
theorem dX9_contradict_51 : decode cX9_contradict 51 = .ok (.iload 7, 2) := by decide +kernel
theorem dX9_contradict_53 : decode cX9_contradict 53 = .ok (.aload_n 0, 1) := by decide +kernel
theorem dX9_contradict_54 : decode cX9_contradict 54 = .ok (.invokevirtual 39, 3) := by decide +kernel
theorem dX9_contradict_57 : decode cX9_contradict 57 = .ok (.if_icmp .ge 58, 3) := by decide +kernel
theorem dX9_contradict_60 : decode cX9_contradict 60 = .ok (.aload_n 0, 1) := by decide +kernel
theorem dX9_contradict_61 : decode cX9_contradict 61 = .ok (.iload 6, 2) := by decide +kernel
theorem dX9_contradict_63 : decode cX9_contradict 63 = .ok (.iload_n 1, 1) := by decide +kernel
theorem dX9_contradict_64 : decode cX9_contradict 64 = .ok (.iload_n 2, 1) := by decide +kernel
theorem dX9_contradict_65 : decode cX9_contradict 65 = .ok (.iconst 0, 1) := by decide +kernel
theorem dX9_contradict_66 : decode cX9_contradict 66 = .ok (.iconst 0, 1) := by decide +kernel
theorem dX9_contradict_67 : decode cX9_contradict 67 = .ok (.iconst 0, 1) := by decide +kernel
theorem dX9_contradict_68 : decode cX9_contradict 68 = .ok (.invokevirtual 161, 3) := by decide +kernel
theorem dX9_contradict_71 : decode cX9_contradict 71 = .ok (.aload_n 0, 1) := by decide +kernel
theorem dX9_contradict_72 : decode cX9_contradict 72 = .ok (.iload 7, 2) := by decide +kernel
theorem dX9_contradict_74 : decode cX9_contradict 74 = .ok (.iload_n 1, 1) := by decide +kernel
theorem dX9_contradict_75 : decode cX9_contradict 75 = .ok (.iload_n 2, 1) := by decide +kernel
theorem dX9_contradict_76 : decode cX9_contradict 76 = .ok (.iconst 0, 1) := by decide +kernel
theorem dX9_contradict_77 : decode cX9_contradict 77 = .ok (.iconst 0, 1) := by decide +kernel
theorem dX9_contradict_78 : decode cX9_contradict 78 = .ok (.iconst 0, 1) := by decide +kernel
theorem dX9_contradict_79 : decode cX9_contradict 79 = .ok (.invokevirtual 161, 3) := by decide +kernel
theorem dX9_contradict_82 : decode cX9_contradict 82 = .ok (.if_icmp .eq 27, 3) := by decide +kernel
theorem dX9_contradict_85 : decode cX9_contradict 85 = .ok (.iload 4, 2) := by decide +kernel
theorem dX9_contradict_87 : decode cX9_contradict 87 = .ok (.iload_n 3, 1) := by decide +kernel
theorem dX9_contradict_88 : decode cX9_contradict 88 = .ok (.if_icmp .ne 14, 3) := by decide +kernel
theorem dX9_contradict_91 : decode cX9_contradict 91 = .ok (.bipush 10, 2) := by decide +kernel
theorem dX9_contradict_93 : decode cX9_contradict 93 = .ok (.iload 6, 2) := by decide +kernel
theorem dX9_contradict_95 : decode cX9_contradict 95 = .ok (.imul, 1) := by decide +kernel
theorem dX9_contradict_96 : decode cX9_contradict 96 = .ok (.iload 7, 2) := by decide +kernel
theorem dX9_contradict_98 : decode cX9_contradict 98 = .ok (.iadd, 1) := by decide +kernel
theorem dX9_contradict_99 : decode cX9_contradict 99 = .ok (.goto 5, 3) := by decide +kernel
theorem dX9_contradict_102 : decode cX9_contradict 102 = .ok (.iload 5, 2) := by decide +kernel
theorem dX9_contradict_104 : decode cX9_contradict 104 = .ok (.istore 5, 2) := by decide +kernel
theorem dX9_contradict_106 : decode cX9_contradict 106 = .ok (.iinc 4 1, 3) := by decide +kernel
theorem dX9_contradict_109 : decode cX9_contradict 109 = .ok (.iinc 7 1, 3) := by decide +kernel
theorem dX9_contradict_112 : decode cX9_contradict 112 = .ok (.goto (-61), 3) := by decide +kernel
theorem dX9_contradict_115 : decode cX9_contradict 115 = .ok (.iinc 6 1, 3) := by decide +kernel
theorem dX9_contradict_118 : decode cX9_contradict 118 = .ok (.goto (-82), 3) := by decide +kernel
theorem dX9_contradict_121 : decode cX9_contradict 121 = .ok (.iload_n 3, 1) := by decide +kernel
theorem dX9_contradict_122 : decode cX9_contradict 122 = .ok (.iconst (-1), 1) := by decide +kernel
theorem dX9_contradict_123 : decode cX9_contradict 123 = .ok (.if_icmp .ne 8, 3) := by decide +kernel
theorem dX9_contradict_126 : decode cX9_contradict 126 = .ok (.iload 4, 2) := by decide +kernel
theorem dX9_contradict_128 : decode cX9_contradict 128 = .ok (.goto 5, 3) := by decide +kernel
theorem dX9_contradict_131 : decode cX9_contradict 131 = .ok (.iload 5, 2) := by decide +kernel
theorem dX9_contradict_133 : decode cX9_contradict 133 = .ok (.ireturn, 1) := by decide +kernel
theorem dX9_allAgree_0 : decode cX9_allAgree 0 = .ok (.iconst 1, 1) := by decide +kernel
theorem dX9_allAgree_1 : decode cX9_allAgree 1 = .ok (.istore 4, 2) := by decide +kernel
theorem dX9_allAgree_3 : decode cX9_allAgree 3 = .ok (.iconst 0, 1) := by decide +kernel
theorem dX9_allAgree_4 : decode cX9_allAgree 4 = .ok (.istore 5, 2) := by decide +kernel
theorem dX9_allAgree_6 : decode cX9_allAgree 6 = .ok (.iload 5, 2) := by decide +kernel
theorem dX9_allAgree_8 : decode cX9_allAgree 8 = .ok (.bipush 6, 2) := by decide +kernel
theorem dX9_allAgree_10 : decode cX9_allAgree 10 = .ok (.if_icmp .ge 80, 3) := by decide +kernel
theorem dX9_allAgree_13 : decode cX9_allAgree 13 = .ok (.iload 4, 2) := by decide +kernel
theorem dX9_allAgree_15 : decode cX9_allAgree 15 = .ok (.ifCond .eq 75, 3) := by decide +kernel
theorem dX9_allAgree_18 : decode cX9_allAgree 18 = .ok (.iconst 1, 1) := by decide +kernel
theorem dX9_allAgree_19 : decode cX9_allAgree 19 = .ok (.istore 6, 2) := by decide +kernel
theorem dX9_allAgree_21 : decode cX9_allAgree 21 = .ok (.iload 6, 2) := by decide +kernel
theorem dX9_allAgree_23 : decode cX9_allAgree 23 = .ok (.aload_n 0, 1) := by decide +kernel
theorem dX9_allAgree_24 : decode cX9_allAgree 24 = .ok (.invokevirtual 39, 3) := by decide +kernel
theorem dX9_allAgree_27 : decode cX9_allAgree 27 = .ok (.if_icmp .ge 57, 3) := by decide +kernel
theorem dX9_allAgree_30 : decode cX9_allAgree 30 = .ok (.iload 4, 2) := by decide +kernel
theorem dX9_allAgree_32 : decode cX9_allAgree 32 = .ok (.ifCond .eq 52, 3) := by decide +kernel
theorem dX9_allAgree_35 : decode cX9_allAgree 35 = .ok (.iload_n 1, 1) := by decide +kernel
theorem dX9_allAgree_36 : decode cX9_allAgree 36 = .ok (.iload 5, 2) := by decide +kernel
theorem dX9_allAgree_38 : decode cX9_allAgree 38 = .ok (.ishr, 1) := by decide +kernel
theorem dX9_allAgree_39 : decode cX9_allAgree 39 = .ok (.iconst 1, 1) := by decide +kernel
theorem dX9_allAgree_40 : decode cX9_allAgree 40 = .ok (.iand, 1) := by decide +kernel
theorem dX9_allAgree_41 : decode cX9_allAgree 41 = .ok (.iconst 1, 1) := by decide +kernel
theorem dX9_allAgree_42 : decode cX9_allAgree 42 = .ok (.if_icmp .ne 42, 3) := by decide +kernel
theorem dX9_allAgree_45 : decode cX9_allAgree 45 = .ok (.aload_n 0, 1) := by decide +kernel
theorem dX9_allAgree_46 : decode cX9_allAgree 46 = .ok (.iload 6, 2) := by decide +kernel
theorem dX9_allAgree_48 : decode cX9_allAgree 48 = .ok (.iload 5, 2) := by decide +kernel
theorem dX9_allAgree_50 : decode cX9_allAgree 50 = .ok (.iload_n 2, 1) := by decide +kernel
theorem dX9_allAgree_51 : decode cX9_allAgree 51 = .ok (.iconst 0, 1) := by decide +kernel
theorem dX9_allAgree_52 : decode cX9_allAgree 52 = .ok (.iconst 0, 1) := by decide +kernel
theorem dX9_allAgree_53 : decode cX9_allAgree 53 = .ok (.iload_n 3, 1) := by decide +kernel
theorem dX9_allAgree_54 : decode cX9_allAgree 54 = .ok (.invokevirtual 161, 3) := by decide +kernel
theorem dX9_allAgree_57 : decode cX9_allAgree 57 = .ok (.aload_n 0, 1) := by decide +kernel
theorem dX9_allAgree_58 : decode cX9_allAgree 58 = .ok (.iconst 0, 1) := by decide +kernel
theorem dX9_allAgree_59 : decode cX9_allAgree 59 = .ok (.iload 5, 2) := by decide +kernel
theorem dX9_allAgree_61 : decode cX9_allAgree 61 = .ok (.iload_n 2, 1) := by decide +kernel
theorem dX9_allAgree_62 : decode cX9_allAgree 62 = .ok (.iconst 0, 1) := by decide +kernel
theorem dX9_allAgree_63 : decode cX9_allAgree 63 = .ok (.iconst 0, 1) := by decide +kernel
theorem dX9_allAgree_64 : decode cX9_allAgree 64 = .ok (.iload_n 3, 1) := by decide +kernel
theorem dX9_allAgree_65 : decode cX9_allAgree 65 = .ok (.invokevirtual 161, 3) := by decide +kernel
theorem dX9_allAgree_68 : decode cX9_allAgree 68 = .ok (.if_icmp .ne 7, 3) := by decide +kernel
theorem dX9_allAgree_71 : decode cX9_allAgree 71 = .ok (.iconst 1, 1) := by decide +kernel
theorem dX9_allAgree_72 : decode cX9_allAgree 72 = .ok (.goto 4, 3) := by decide +kernel
theorem dX9_allAgree_75 : decode cX9_allAgree 75 = .ok (.iconst 0, 1) := by decide +kernel
theorem dX9_allAgree_76 : decode cX9_allAgree 76 = .ok (.istore 4, 2) := by decide +kernel
theorem dX9_allAgree_78 : decode cX9_allAgree 78 = .ok (.iinc 6 1, 3) := by decide +kernel
theorem dX9_allAgree_81 : decode cX9_allAgree 81 = .ok (.goto (-60), 3) := by decide +kernel
theorem dX9_allAgree_84 : decode cX9_allAgree 84 = .ok (.iinc 5 1, 3) := by decide +kernel
theorem dX9_allAgree_87 : decode cX9_allAgree 87 = .ok (.goto (-81), 3) := by decide +kernel
theorem dX9_allAgree_90 : decode cX9_allAgree 90 = .ok (.iload 4, 2) := by decide +kernel
theorem dX9_allAgree_92 : decode cX9_allAgree 92 = .ok (.ireturn, 1) := by decide +kernel
theorem dX9_settle_0 : decode cX9_settle 0 = .ok (.iload_n 1, 1) := by decide +kernel
theorem dX9_settle_1 : decode cX9_settle 1 = .ok (.invokestatic 164, 3) := by decide +kernel
theorem dX9_settle_4 : decode cX9_settle 4 = .ok (.ifCond .eq 10, 3) := by decide +kernel
theorem dX9_settle_7 : decode cX9_settle 7 = .ok (.iload_n 2, 1) := by decide +kernel
theorem dX9_settle_8 : decode cX9_settle 8 = .ok (.invokestatic 147, 3) := by decide +kernel
theorem dX9_settle_11 : decode cX9_settle 11 = .ok (.ifCond .ne 10, 3) := by decide +kernel
theorem dX9_settle_14 : decode cX9_settle 14 = .ok (.aload_n 0, 1) := by decide +kernel
theorem dX9_settle_15 : decode cX9_settle 15 = .ok (.bipush (-2), 2) := by decide +kernel
theorem dX9_settle_17 : decode cX9_settle 17 = .ok (.invokevirtual 62, 3) := by decide +kernel
theorem dX9_settle_20 : decode cX9_settle 20 = .ok (.ireturn, 1) := by decide +kernel
theorem dX9_settle_21 : decode cX9_settle 21 = .ok (.iconst 1, 1) := by decide +kernel
theorem dX9_settle_22 : decode cX9_settle 22 = .ok (.aload_n 0, 1) := by decide +kernel
theorem dX9_settle_23 : decode cX9_settle 23 = .ok (.invokevirtual 47, 3) := by decide +kernel
theorem dX9_settle_26 : decode cX9_settle 26 = .ok (.ishl, 1) := by decide +kernel
theorem dX9_settle_27 : decode cX9_settle 27 = .ok (.iconst 1, 1) := by decide +kernel
theorem dX9_settle_28 : decode cX9_settle 28 = .ok (.isub, 1) := by decide +kernel
theorem dX9_settle_29 : decode cX9_settle 29 = .ok (.istore_n 3, 1) := by decide +kernel
theorem dX9_settle_30 : decode cX9_settle 30 = .ok (.iconst 0, 1) := by decide +kernel
theorem dX9_settle_31 : decode cX9_settle 31 = .ok (.istore 4, 2) := by decide +kernel
theorem dX9_settle_33 : decode cX9_settle 33 = .ok (.iload 4, 2) := by decide +kernel
theorem dX9_settle_35 : decode cX9_settle 35 = .ok (.iconst 1, 1) := by decide +kernel
theorem dX9_settle_36 : decode cX9_settle 36 = .ok (.aload_n 0, 1) := by decide +kernel
theorem dX9_settle_37 : decode cX9_settle 37 = .ok (.invokevirtual 47, 3) := by decide +kernel
theorem dX9_settle_40 : decode cX9_settle 40 = .ok (.ishl, 1) := by decide +kernel
theorem dX9_settle_41 : decode cX9_settle 41 = .ok (.if_icmp .ge 51, 3) := by decide +kernel
theorem dX9_settle_44 : decode cX9_settle 44 = .ok (.iload 4, 2) := by decide +kernel
theorem dX9_settle_46 : decode cX9_settle 46 = .ok (.invokestatic 167, 3) := by decide +kernel
theorem dX9_settle_49 : decode cX9_settle 49 = .ok (.iload_n 3, 1) := by decide +kernel
theorem dX9_settle_50 : decode cX9_settle 50 = .ok (.invokestatic 167, 3) := by decide +kernel
theorem dX9_settle_53 : decode cX9_settle 53 = .ok (.if_icmp .ge 7, 3) := by decide +kernel
theorem dX9_settle_56 : decode cX9_settle 56 = .ok (.iconst 1, 1) := by decide +kernel
theorem dX9_settle_57 : decode cX9_settle 57 = .ok (.goto 4, 3) := by decide +kernel
theorem dX9_settle_60 : decode cX9_settle 60 = .ok (.iconst 0, 1) := by decide +kernel
theorem dX9_settle_61 : decode cX9_settle 61 = .ok (.istore 5, 2) := by decide +kernel
theorem dX9_settle_63 : decode cX9_settle 63 = .ok (.iload 5, 2) := by decide +kernel
theorem dX9_settle_65 : decode cX9_settle 65 = .ok (.ifCond .eq 19, 3) := by decide +kernel
theorem dX9_settle_68 : decode cX9_settle 68 = .ok (.aload_n 0, 1) := by decide +kernel
theorem dX9_settle_69 : decode cX9_settle 69 = .ok (.iload_n 1, 1) := by decide +kernel
theorem dX9_settle_70 : decode cX9_settle 70 = .ok (.iload_n 2, 1) := by decide +kernel
theorem dX9_settle_71 : decode cX9_settle 71 = .ok (.iload 4, 2) := by decide +kernel
theorem dX9_settle_73 : decode cX9_settle 73 = .ok (.invokevirtual 170, 3) := by decide +kernel
theorem dX9_settle_76 : decode cX9_settle 76 = .ok (.ifCond .eq 8, 3) := by decide +kernel
theorem dX9_settle_79 : decode cX9_settle 79 = .ok (.iload 4, 2) := by decide +kernel
theorem dX9_settle_81 : decode cX9_settle 81 = .ok (.goto 4, 3) := by decide +kernel
theorem dX9_settle_84 : decode cX9_settle 84 = .ok (.iload_n 3, 1) := by decide +kernel
theorem dX9_settle_85 : decode cX9_settle 85 = .ok (.istore_n 3, 1) := by decide +kernel
theorem dX9_settle_86 : decode cX9_settle 86 = .ok (.iinc 4 1, 3) := by decide +kernel
theorem dX9_settle_89 : decode cX9_settle 89 = .ok (.goto (-56), 3) := by decide +kernel
theorem dX9_settle_92 : decode cX9_settle 92 = .ok (.iload_n 3, 1) := by decide +kernel
theorem dX9_settle_93 : decode cX9_settle 93 = .ok (.ireturn, 1) := by decide +kernel
theorem dX9_reads_0 : decode cX9_reads 0 = .ok (.aload_n 0, 1) := by decide +kernel
theorem dX9_reads_1 : decode cX9_reads 1 = .ok (.iload_n 1, 1) := by decide +kernel
theorem dX9_reads_2 : decode cX9_reads 2 = .ok (.invokevirtual 73, 3) := by decide +kernel
theorem dX9_reads_5 : decode cX9_reads 5 = .ok (.ifCond .eq 27, 3) := by decide +kernel
theorem dX9_reads_8 : decode cX9_reads 8 = .ok (.iload_n 2, 1) := by decide +kernel
theorem dX9_reads_9 : decode cX9_reads 9 = .ok (.invokestatic 83, 3) := by decide +kernel
theorem dX9_reads_12 : decode cX9_reads 12 = .ok (.ifCond .eq 20, 3) := by decide +kernel
theorem dX9_reads_15 : decode cX9_reads 15 = .ok (.iload_n 3, 1) := by decide +kernel
theorem dX9_reads_16 : decode cX9_reads 16 = .ok (.invokestatic 147, 3) := by decide +kernel
theorem dX9_reads_19 : decode cX9_reads 19 = .ok (.ifCond .eq 13, 3) := by decide +kernel
theorem dX9_reads_22 : decode cX9_reads 22 = .ok (.iload 4, 2) := by decide +kernel
theorem dX9_reads_24 : decode cX9_reads 24 = .ok (.iload 5, 2) := by decide +kernel
theorem dX9_reads_26 : decode cX9_reads 26 = .ok (.invokestatic 150, 3) := by decide +kernel
theorem dX9_reads_29 : decode cX9_reads 29 = .ok (.ifCond .ne 10, 3) := by decide +kernel
theorem dX9_reads_32 : decode cX9_reads 32 = .ok (.aload_n 0, 1) := by decide +kernel
theorem dX9_reads_33 : decode cX9_reads 33 = .ok (.bipush (-2), 2) := by decide +kernel
theorem dX9_reads_35 : decode cX9_reads 35 = .ok (.invokevirtual 62, 3) := by decide +kernel
theorem dX9_reads_38 : decode cX9_reads 38 = .ok (.ireturn, 1) := by decide +kernel
theorem dX9_reads_39 : decode cX9_reads 39 = .ok (.aload_n 0, 1) := by decide +kernel
theorem dX9_reads_40 : decode cX9_reads 40 = .ok (.iload_n 1, 1) := by decide +kernel
theorem dX9_reads_41 : decode cX9_reads 41 = .ok (.iload_n 2, 1) := by decide +kernel
theorem dX9_reads_42 : decode cX9_reads 42 = .ok (.iload_n 3, 1) := by decide +kernel
theorem dX9_reads_43 : decode cX9_reads 43 = .ok (.iload 4, 2) := by decide +kernel
theorem dX9_reads_45 : decode cX9_reads 45 = .ok (.iload 5, 2) := by decide +kernel
theorem dX9_reads_47 : decode cX9_reads 47 = .ok (.iconst 0, 1) := by decide +kernel
theorem dX9_reads_48 : decode cX9_reads 48 = .ok (.invokevirtual 136, 3) := by decide +kernel
theorem dX9_reads_51 : decode cX9_reads 51 = .ok (.iconst 0, 1) := by decide +kernel
theorem dX9_reads_52 : decode cX9_reads 52 = .ok (.istore 6, 2) := by decide +kernel
theorem dX9_reads_54 : decode cX9_reads 54 = .ok (.iconst 0, 1) := by decide +kernel
theorem dX9_reads_55 : decode cX9_reads 55 = .ok (.istore 7, 2) := by decide +kernel
theorem dX9_reads_57 : decode cX9_reads 57 = .ok (.iload 7, 2) := by decide +kernel
theorem dX9_reads_59 : decode cX9_reads 59 = .ok (.iconst 4, 1) := by decide +kernel
theorem dX9_reads_60 : decode cX9_reads 60 = .ok (.if_icmp .ge 49, 3) := by decide +kernel
theorem dX9_reads_63 : decode cX9_reads 63 = .ok (.aload_n 0, 1) := by decide +kernel
theorem dX9_reads_64 : decode cX9_reads 64 = .ok (.iload 7, 2) := by decide +kernel
theorem dX9_reads_66 : decode cX9_reads 66 = .ok (.invokevirtual 140, 3) := by decide +kernel
theorem dX9_reads_69 : decode cX9_reads 69 = .ok (.istore 8, 2) := by decide +kernel
theorem dX9_reads_71 : decode cX9_reads 71 = .ok (.iload 6, 2) := by decide +kernel
theorem dX9_reads_73 : decode cX9_reads 73 = .ok (.iload 8, 2) := by decide +kernel
theorem dX9_reads_75 : decode cX9_reads 75 = .ok (.iconst (-1), 1) := by decide +kernel
theorem dX9_reads_76 : decode cX9_reads 76 = .ok (.if_icmp .eq 16, 3) := by decide +kernel
theorem dX9_reads_79 : decode cX9_reads 79 = .ok (.aload_n 0, 1) := by decide +kernel
theorem dX9_reads_80 : decode cX9_reads 80 = .ok (.iload 8, 2) := by decide +kernel
theorem dX9_reads_82 : decode cX9_reads 82 = .ok (.iconst 0, 1) := by decide +kernel
theorem dX9_reads_83 : decode cX9_reads 83 = .ok (.invokevirtual 101, 3) := by decide +kernel
theorem dX9_reads_86 : decode cX9_reads 86 = .ok (.invokestatic 110, 3) := by decide +kernel
theorem dX9_reads_89 : decode cX9_reads 89 = .ok (.ifCond .eq 10, 3) := by decide +kernel
theorem dX9_reads_92 : decode cX9_reads 92 = .ok (.iconst 1, 1) := by decide +kernel
theorem dX9_reads_93 : decode cX9_reads 93 = .ok (.iload 7, 2) := by decide +kernel
theorem dX9_reads_95 : decode cX9_reads 95 = .ok (.ishl, 1) := by decide +kernel
theorem dX9_reads_96 : decode cX9_reads 96 = .ok (.goto 4, 3) := by decide +kernel
theorem dX9_reads_99 : decode cX9_reads 99 = .ok (.iconst 0, 1) := by decide +kernel
theorem dX9_reads_100 : decode cX9_reads 100 = .ok (.ior, 1) := by decide +kernel
theorem dX9_reads_101 : decode cX9_reads 101 = .ok (.istore 6, 2) := by decide +kernel
theorem dX9_reads_103 : decode cX9_reads 103 = .ok (.iinc 7 1, 3) := by decide +kernel
theorem dX9_reads_106 : decode cX9_reads 106 = .ok (.goto (-49), 3) := by decide +kernel
theorem dX9_reads_109 : decode cX9_reads 109 = .ok (.iload 6, 2) := by decide +kernel
theorem dX9_reads_111 : decode cX9_reads 111 = .ok (.ireturn, 1) := by decide +kernel
theorem dX9_forbidsSome_0 : decode cX9_forbidsSome 0 = .ok (.iconst 0, 1) := by decide +kernel
theorem dX9_forbidsSome_1 : decode cX9_forbidsSome 1 = .ok (.istore 5, 2) := by decide +kernel
theorem dX9_forbidsSome_3 : decode cX9_forbidsSome 3 = .ok (.iconst 0, 1) := by decide +kernel
theorem dX9_forbidsSome_4 : decode cX9_forbidsSome 4 = .ok (.istore 6, 2) := by decide +kernel
theorem dX9_forbidsSome_6 : decode cX9_forbidsSome 6 = .ok (.iload 6, 2) := by decide +kernel
theorem dX9_forbidsSome_8 : decode cX9_forbidsSome 8 = .ok (.bipush 6, 2) := by decide +kernel
theorem dX9_forbidsSome_10 : decode cX9_forbidsSome 10 = .ok (.if_icmp .ge 46, 3) := by decide +kernel
theorem dX9_forbidsSome_13 : decode cX9_forbidsSome 13 = .ok (.iload 5, 2) := by decide +kernel
theorem dX9_forbidsSome_15 : decode cX9_forbidsSome 15 = .ok (.ifCond .ne 41, 3) := by decide +kernel
theorem dX9_forbidsSome_18 : decode cX9_forbidsSome 18 = .ok (.iload_n 2, 1) := by decide +kernel
theorem dX9_forbidsSome_19 : decode cX9_forbidsSome 19 = .ok (.iload 6, 2) := by decide +kernel
theorem dX9_forbidsSome_21 : decode cX9_forbidsSome 21 = .ok (.ishr, 1) := by decide +kernel
theorem dX9_forbidsSome_22 : decode cX9_forbidsSome 22 = .ok (.iconst 1, 1) := by decide +kernel
theorem dX9_forbidsSome_23 : decode cX9_forbidsSome 23 = .ok (.iand, 1) := by decide +kernel
theorem dX9_forbidsSome_24 : decode cX9_forbidsSome 24 = .ok (.iconst 1, 1) := by decide +kernel
theorem dX9_forbidsSome_25 : decode cX9_forbidsSome 25 = .ok (.if_icmp .ne 22, 3) := by decide +kernel
theorem dX9_forbidsSome_28 : decode cX9_forbidsSome 28 = .ok (.aload_n 0, 1) := by decide +kernel
theorem dX9_forbidsSome_29 : decode cX9_forbidsSome 29 = .ok (.iload_n 1, 1) := by decide +kernel
theorem dX9_forbidsSome_30 : decode cX9_forbidsSome 30 = .ok (.iload 6, 2) := by decide +kernel
theorem dX9_forbidsSome_32 : decode cX9_forbidsSome 32 = .ok (.iload_n 3, 1) := by decide +kernel
theorem dX9_forbidsSome_33 : decode cX9_forbidsSome 33 = .ok (.iconst 0, 1) := by decide +kernel
theorem dX9_forbidsSome_34 : decode cX9_forbidsSome 34 = .ok (.iconst 0, 1) := by decide +kernel
theorem dX9_forbidsSome_35 : decode cX9_forbidsSome 35 = .ok (.iload 4, 2) := by decide +kernel
theorem dX9_forbidsSome_37 : decode cX9_forbidsSome 37 = .ok (.invokevirtual 161, 3) := by decide +kernel
theorem dX9_forbidsSome_40 : decode cX9_forbidsSome 40 = .ok (.ifCond .ne 7, 3) := by decide +kernel
theorem dX9_forbidsSome_43 : decode cX9_forbidsSome 43 = .ok (.iconst 1, 1) := by decide +kernel
theorem dX9_forbidsSome_44 : decode cX9_forbidsSome 44 = .ok (.goto 4, 3) := by decide +kernel
theorem dX9_forbidsSome_47 : decode cX9_forbidsSome 47 = .ok (.iconst 0, 1) := by decide +kernel
theorem dX9_forbidsSome_48 : decode cX9_forbidsSome 48 = .ok (.istore 5, 2) := by decide +kernel
theorem dX9_forbidsSome_50 : decode cX9_forbidsSome 50 = .ok (.iinc 6 1, 3) := by decide +kernel
theorem dX9_forbidsSome_53 : decode cX9_forbidsSome 53 = .ok (.goto (-47), 3) := by decide +kernel
theorem dX9_forbidsSome_56 : decode cX9_forbidsSome 56 = .ok (.iload 5, 2) := by decide +kernel
theorem dX9_forbidsSome_58 : decode cX9_forbidsSome 58 = .ok (.ireturn, 1) := by decide +kernel
theorem dX9_givesIn_0 : decode cX9_givesIn 0 = .ok (.iload_n 1, 1) := by decide +kernel
theorem dX9_givesIn_1 : decode cX9_givesIn 1 = .ok (.istore 5, 2) := by decide +kernel
theorem dX9_givesIn_3 : decode cX9_givesIn 3 = .ok (.iload_n 2, 1) := by decide +kernel
theorem dX9_givesIn_4 : decode cX9_givesIn 4 = .ok (.istore 6, 2) := by decide +kernel
theorem dX9_givesIn_6 : decode cX9_givesIn 6 = .ok (.iconst 0, 1) := by decide +kernel
theorem dX9_givesIn_7 : decode cX9_givesIn 7 = .ok (.istore 7, 2) := by decide +kernel
theorem dX9_givesIn_9 : decode cX9_givesIn 9 = .ok (.iload 7, 2) := by decide +kernel
theorem dX9_givesIn_11 : decode cX9_givesIn 11 = .ok (.bipush 60, 2) := by decide +kernel
theorem dX9_givesIn_13 : decode cX9_givesIn 13 = .ok (.if_icmp .ge 106, 3) := by decide +kernel
theorem dX9_givesIn_16 : decode cX9_givesIn 16 = .ok (.iconst 0, 1) := by decide +kernel
theorem dX9_givesIn_17 : decode cX9_givesIn 17 = .ok (.istore 8, 2) := by decide +kernel
theorem dX9_givesIn_19 : decode cX9_givesIn 19 = .ok (.iload 8, 2) := by decide +kernel
theorem dX9_givesIn_21 : decode cX9_givesIn 21 = .ok (.aload_n 0, 1) := by decide +kernel
theorem dX9_givesIn_22 : decode cX9_givesIn 22 = .ok (.invokevirtual 39, 3) := by decide +kernel
theorem dX9_givesIn_25 : decode cX9_givesIn 25 = .ok (.if_icmp .ge 52, 3) := by decide +kernel
theorem dX9_givesIn_28 : decode cX9_givesIn 28 = .ok (.aload_n 0, 1) := by decide +kernel
theorem dX9_givesIn_29 : decode cX9_givesIn 29 = .ok (.iload 8, 2) := by decide +kernel
theorem dX9_givesIn_31 : decode cX9_givesIn 31 = .ok (.iload_n 3, 1) := by decide +kernel
theorem dX9_givesIn_32 : decode cX9_givesIn 32 = .ok (.iload 7, 2) := by decide +kernel
theorem dX9_givesIn_34 : decode cX9_givesIn 34 = .ok (.iload 4, 2) := by decide +kernel
theorem dX9_givesIn_36 : decode cX9_givesIn 36 = .ok (.invokevirtual 174, 3) := by decide +kernel
theorem dX9_givesIn_39 : decode cX9_givesIn 39 = .ok (.istore 9, 2) := by decide +kernel
theorem dX9_givesIn_41 : decode cX9_givesIn 41 = .ok (.iload 5, 2) := by decide +kernel
theorem dX9_givesIn_43 : decode cX9_givesIn 43 = .ok (.iload 9, 2) := by decide +kernel
theorem dX9_givesIn_45 : decode cX9_givesIn 45 = .ok (.ifCond .eq 7, 3) := by decide +kernel
theorem dX9_givesIn_48 : decode cX9_givesIn 48 = .ok (.iconst 1, 1) := by decide +kernel
theorem dX9_givesIn_49 : decode cX9_givesIn 49 = .ok (.goto 4, 3) := by decide +kernel
theorem dX9_givesIn_52 : decode cX9_givesIn 52 = .ok (.iconst 0, 1) := by decide +kernel
theorem dX9_givesIn_53 : decode cX9_givesIn 53 = .ok (.isub, 1) := by decide +kernel
theorem dX9_givesIn_54 : decode cX9_givesIn 54 = .ok (.istore 5, 2) := by decide +kernel
theorem dX9_givesIn_56 : decode cX9_givesIn 56 = .ok (.iload 6, 2) := by decide +kernel
theorem dX9_givesIn_58 : decode cX9_givesIn 58 = .ok (.iload 9, 2) := by decide +kernel
theorem dX9_givesIn_60 : decode cX9_givesIn 60 = .ok (.ifCond .eq 7, 3) := by decide +kernel
theorem dX9_givesIn_63 : decode cX9_givesIn 63 = .ok (.iconst 0, 1) := by decide +kernel
theorem dX9_givesIn_64 : decode cX9_givesIn 64 = .ok (.goto 4, 3) := by decide +kernel
theorem dX9_givesIn_67 : decode cX9_givesIn 67 = .ok (.iconst 1, 1) := by decide +kernel
theorem dX9_givesIn_68 : decode cX9_givesIn 68 = .ok (.isub, 1) := by decide +kernel
theorem dX9_givesIn_69 : decode cX9_givesIn 69 = .ok (.istore 6, 2) := by decide +kernel
theorem dX9_givesIn_71 : decode cX9_givesIn 71 = .ok (.iinc 8 1, 3) := by decide +kernel
theorem dX9_givesIn_74 : decode cX9_givesIn 74 = .ok (.goto (-55), 3) := by decide +kernel
theorem dX9_givesIn_77 : decode cX9_givesIn 77 = .ok (.iload 5, 2) := by decide +kernel
theorem dX9_givesIn_79 : decode cX9_givesIn 79 = .ok (.ifCond .le 8, 3) := by decide +kernel
theorem dX9_givesIn_82 : decode cX9_givesIn 82 = .ok (.iload 6, 2) := by decide +kernel
theorem dX9_givesIn_84 : decode cX9_givesIn 84 = .ok (.ifCond .gt 29, 3) := by decide +kernel
theorem dX9_givesIn_87 : decode cX9_givesIn 87 = .ok (.aload_n 0, 1) := by decide +kernel
theorem dX9_givesIn_88 : decode cX9_givesIn 88 = .ok (.iload 5, 2) := by decide +kernel
theorem dX9_givesIn_90 : decode cX9_givesIn 90 = .ok (.ifCond .le 7, 3) := by decide +kernel
theorem dX9_givesIn_93 : decode cX9_givesIn 93 = .ok (.iconst 1, 1) := by decide +kernel
theorem dX9_givesIn_94 : decode cX9_givesIn 94 = .ok (.goto 13, 3) := by decide +kernel
theorem dX9_givesIn_97 : decode cX9_givesIn 97 = .ok (.iload 6, 2) := by decide +kernel
theorem dX9_givesIn_99 : decode cX9_givesIn 99 = .ok (.ifCond .le 7, 3) := by decide +kernel
theorem dX9_givesIn_102 : decode cX9_givesIn 102 = .ok (.iconst 0, 1) := by decide +kernel
theorem dX9_givesIn_103 : decode cX9_givesIn 103 = .ok (.goto 4, 3) := by decide +kernel
theorem dX9_givesIn_106 : decode cX9_givesIn 106 = .ok (.iconst 2, 1) := by decide +kernel
theorem dX9_givesIn_107 : decode cX9_givesIn 107 = .ok (.putfield 178, 3) := by decide +kernel
theorem dX9_givesIn_110 : decode cX9_givesIn 110 = .ok (.iload 7, 2) := by decide +kernel
theorem dX9_givesIn_112 : decode cX9_givesIn 112 = .ok (.ireturn, 1) := by decide +kernel
theorem dX9_givesIn_113 : decode cX9_givesIn 113 = .ok (.iinc 7 1, 3) := by decide +kernel
theorem dX9_givesIn_116 : decode cX9_givesIn 116 = .ok (.goto (-107), 3) := by decide +kernel
theorem dX9_givesIn_119 : decode cX9_givesIn 119 = .ok (.aload_n 0, 1) := by decide +kernel
theorem dX9_givesIn_120 : decode cX9_givesIn 120 = .ok (.iconst (-1), 1) := by decide +kernel
theorem dX9_givesIn_121 : decode cX9_givesIn 121 = .ok (.putfield 178, 3) := by decide +kernel
theorem dX9_givesIn_124 : decode cX9_givesIn 124 = .ok (.iconst (-1), 1) := by decide +kernel
theorem dX9_givesIn_125 : decode cX9_givesIn 125 = .ok (.ireturn, 1) := by decide +kernel
theorem kX9_contradict : zCV yX9_contradict RX9 cX9_contradict 8 (some .int) 3 := ⟨q4_212, q4_213, q1_3, q4_214, rfl, by decide +kernel, by decide +kernel, by decide +kernel⟩
theorem kX9_allAgree : zCV yX9_allAgree RX9 cX9_allAgree 7 (some .boolean) 3 := ⟨q4_228, qp33, q1_3, q4_229, rfl, by decide +kernel, by decide +kernel, by decide +kernel⟩
theorem kX9_settle : zCV yX9_settle RX9 cX9_settle 6 (some .int) 2 := ⟨q4_216, q4_217, q1_3, q4_218, rfl, by decide +kernel, by decide +kernel, by decide +kernel⟩
theorem kX9_reads : zCV yX9_reads RX9 cX9_reads 9 (some .int) 5 := ⟨q4_231, q4_232, q1_3, q4_233, rfl, by decide +kernel, by decide +kernel, by decide +kernel⟩
theorem kX9_forbidsSome : zCV yX9_forbidsSome RX9 cX9_forbidsSome 7 (some .boolean) 4 := ⟨q5_5, qp35, q1_3, q5_6, rfl, by decide +kernel, by decide +kernel, by decide +kernel⟩
theorem kX9_givesIn : zCV yX9_givesIn RX9 cX9_givesIn 10 (some .int) 4 := ⟨q5_1, qp34, q1_3, q5_2, rfl, by decide +kernel, by decide +kernel, by decide +kernel⟩
set_option maxHeartbeats 4000000 in
set_option maxRecDepth 100000 in
theorem c_X9_contradict (l : Launch) (g : zG) (o : Nat) (a : Nat → Nat) (F : Nat → Int32) (L : Nat → Int64) (A : Nat → Nat → Int32) (X : va_W) (T : Nat) (C : Nat) (V : Nat) (U : Nat) (ac : Int32) (dd : Int32) (i : Int32) (hn : nOK (A 0) T C V U) : Met l yX9_contradict (Cond.code yX9_contradict cX9_contradict 8 (some .int) :: TBL) { frames := 6, cells := 0, slots := 0, locals := 154 } (zPc [.ref o, .int ac, .int dd, .int i] g (mW g o a F L A ++ X)) (zQi g (fun r ws => ∃ (F1 : Nat → Int32), r = (contradictR (A 0) T C ac dd i) ∧ ws = mW g o a F1 L (chk (contradictOK ac dd i) A) ++ X ∧ F1 16 = F 16)) 0 0 (zA (gz g)) := by
  refine z_start (by decide +kernel) rfl (Nat.le_of_ble_eq_true rfl) ?_
  intro p e s m args below meth c ls hE hr hnm hB hl
  have hl : lv_has ls 8 [(0, .ref o), (1, .int ac), (2, .int dd), (3, .int i)] := hl
  revert hB
  generalize s.heap = H
  generalize ([] : List Loc) = locs
  intro hB
  have hT := hn.T
  have hT6 := hn.T6
  have hC := hn.C
  have hC8 := hn.C8
  have hV := hn.V
  have hV8 := hn.V8
  have hU := hn.U
  have hU8 := hn.U8
  have h16 : F 16 = F 16 := rfl
  refine lv_iload_n hE.x hE.b dX9_contradict_0 rfl (lv_at hl 1 rfl) ?_
  refine z_qi hB (z_cS hE hB (c_X9_isAct l g ac (mW g o a F L A ++ X)) q4_119 kX9_isAct ⟨rfl, rfl⟩ ⟨Nat.le_of_ble_eq_true rfl, Nat.le_of_ble_eq_true rfl⟩ rfl hl.1 rfl (Nat.le_of_ble_eq_true rfl) dX9_contradict_1 ⟨Nat.le_of_ble_eq_true rfl, Nat.le_of_ble_eq_true rfl⟩) (fun r_1 w_2 H locs hw hB => ?_)
  obtain ⟨hr9, hw9⟩ := hw
  have hr9 := hr9.symm
  subst hr9
  have hw9 := hw9.symm
  subst hw9
  refine z_bf (b := (pIn 0 5 ac)) (tgt := 19) hE dX9_contradict_4 (by decide) (fun c_3 => ?_) (fun c_3 => ?_)
  · refine lv_aload_n hE.x hE.b dX9_contradict_19 rfl (lv_at hl 0 rfl) ?_
    refine lv_bipush (v := (-10)) hE.x hE.b dX9_contradict_20 rfl ?_
    refine z_qi hB (z_cV hE hB (c_X9_bad l g o a F L A X (-10)) q4_91 kX9_bad ⟨rfl, rfl⟩ ⟨Nat.le_of_ble_eq_true rfl, Nat.le_of_ble_eq_true rfl⟩ 0 rfl rfl rfl hl.1 rfl (Nat.le_of_ble_eq_true rfl) dX9_contradict_22 ⟨Nat.le_of_ble_eq_true rfl, Nat.le_of_ble_eq_true rfl⟩) (fun r_4 w_5 H locs hw hB => ?_)
    obtain ⟨hr9, hw9⟩ := hw
    have hr9 := hr9.symm
    subst hr9
    have hw9 := hw9.symm
    subst hw9
    exact z_iret (v := (-10)) (ws := mW g o a F L (bump 0 A) ++ X) hE hB hr (⟨F, by unfold contradictR contradictOK; simp only [c_3, Bool.and_false, Bool.false_and, Bool.false_eq_true, if_false, Bool.and_true], by unfold chk contradictOK; simp only [c_3, Bool.and_false, Bool.false_and, Bool.false_eq_true, if_false, Bool.and_true], rfl⟩) dX9_contradict_25
  · refine lv_iload_n hE.x hE.b dX9_contradict_7 rfl (lv_at hl 2 rfl) ?_
    refine z_qi hB (z_cS hE hB (c_X9_isDay l g dd (mW g o a F L A ++ X)) q4_170 kX9_isDay ⟨rfl, rfl⟩ ⟨Nat.le_of_ble_eq_true rfl, Nat.le_of_ble_eq_true rfl⟩ rfl hl.1 rfl (Nat.le_of_ble_eq_true rfl) dX9_contradict_8 ⟨Nat.le_of_ble_eq_true rfl, Nat.le_of_ble_eq_true rfl⟩) (fun r_6 w_7 H locs hw hB => ?_)
    obtain ⟨hr9, hw9⟩ := hw
    have hr9 := hr9.symm
    subst hr9
    have hw9 := hw9.symm
    subst hw9
    refine z_bf (b := (pIn 0 59 dd)) (tgt := 19) hE dX9_contradict_11 (by decide) (fun c_8 => ?_) (fun c_8 => ?_)
    · refine lv_aload_n hE.x hE.b dX9_contradict_19 rfl (lv_at hl 0 rfl) ?_
      refine lv_bipush (v := (-10)) hE.x hE.b dX9_contradict_20 rfl ?_
      refine z_qi hB (z_cV hE hB (c_X9_bad l g o a F L A X (-10)) q4_91 kX9_bad ⟨rfl, rfl⟩ ⟨Nat.le_of_ble_eq_true rfl, Nat.le_of_ble_eq_true rfl⟩ 0 rfl rfl rfl hl.1 rfl (Nat.le_of_ble_eq_true rfl) dX9_contradict_22 ⟨Nat.le_of_ble_eq_true rfl, Nat.le_of_ble_eq_true rfl⟩) (fun r_9 w_10 H locs hw hB => ?_)
      obtain ⟨hr9, hw9⟩ := hw
      have hr9 := hr9.symm
      subst hr9
      have hw9 := hw9.symm
      subst hw9
      exact z_iret (v := (-10)) (ws := mW g o a F L (bump 0 A) ++ X) hE hB hr (⟨F, by unfold contradictR contradictOK; simp only [c_3, c_8, Bool.and_false, Bool.false_and, Bool.false_eq_true, if_false, Bool.and_true], by unfold chk contradictOK; simp only [c_3, c_8, Bool.and_false, Bool.false_and, Bool.false_eq_true, if_false, Bool.and_true], rfl⟩) dX9_contradict_25
    · refine lv_iload_n hE.x hE.b dX9_contradict_14 rfl (lv_at hl 3 rfl) ?_
      refine lv_iconst (v := (-1)) hE.x hE.b dX9_contradict_15 rfl ?_
      refine z_ge (tgt := 26) (X := i.toInt) (Y := (-1 : Int)) hE dX9_contradict_16 (by decide) rfl rfl (fun c_11 => ?_) (fun c_11 => ?_)
      · refine lv_iconst (v := nI 0) hE.x hE.b dX9_contradict_26 rfl ?_
        refine lv_istore (lv' := [(4, .int (nI 0)), (0, .ref o), (1, .int ac), (2, .int dd), (3, .int i)]) hE.x hE.b dX9_contradict_27 hl (by decide) rfl (fun ls hl => ?_)
        refine lv_bipush (v := (-5)) hE.x hE.b dX9_contradict_29 rfl ?_
        refine lv_istore (lv' := [(5, .int (-5)), (4, .int (nI 0)), (0, .ref o), (1, .int ac), (2, .int dd), (3, .int i)]) hE.x hE.b dX9_contradict_31 hl (by decide) rfl (fun ls hl => ?_)
        refine lv_iconst (v := nI 0) hE.x hE.b dX9_contradict_33 rfl ?_
        refine lv_istore (lv' := [(6, .int (nI 0)), (5, .int (-5)), (4, .int (nI 0)), (0, .ref o), (1, .int ac), (2, .int dd), (3, .int i)]) hE.x hE.b dX9_contradict_34 hl (by decide) rfl (fun ls hl => ?_)
        have k36 : ∀ (fu : Nat) (many : Nat) (found : Int32) (x : Nat) (F1 : Nat → Int32) (H : Heap) (locs : List Loc) (ls : Array Slot), T - x < fu → (x ≤ T) → (F1 16 = F 16) → ((many, found) = cdA (cdAl (A 0) C ac dd) T i x) → zB g s (mW g o a F1 L A ++ X) H locs → lv_has ls 8 [(6, .int (nI x)), (5, .int found), (4, .int (nI many)), (0, .ref o), (1, .int ac), (2, .int dd), (3, .int i)] → W p l e { frames := 6, cells := 0, slots := 0, locals := 154 } s m args below meth c H locs 0 0 (MQ below (zQi g (fun r ws => ∃ (F1 : Nat → Int32), r = (contradictR (A 0) T C ac dd i) ∧ ws = mW g o a F1 L (chk (contradictOK ac dd i) A) ++ X ∧ F1 16 = F 16)) args s 0 0 (zA (gz g))) (F0 m 36 ls []) := by
          intro fu
          induction fu with
          | zero => intro many found x F1 H locs ls hfu hx h16 hm hB hl; exact absurd hfu (Nat.not_lt_zero _)
          | succ fu ih36 =>
            intro many found x F1 H locs ls hfu hx h16 hm hB hl
            refine lv_iload hE.x hE.b dX9_contradict_36 (lv_at hl 0 rfl) ?_
            refine lv_aload_n hE.x hE.b dX9_contradict_38 rfl (lv_at hl 3 rfl) ?_
            refine z_qi hB (z_cV hE hB (c_X9_towns l g o a F1 L A X T hT) q4_76 kX9_towns ⟨rfl, rfl⟩ ⟨Nat.le_of_ble_eq_true rfl, Nat.le_of_ble_eq_true rfl⟩ 0 rfl rfl rfl hl.1 rfl (Nat.le_of_ble_eq_true rfl) dX9_contradict_39 ⟨Nat.le_of_ble_eq_true rfl, Nat.le_of_ble_eq_true rfl⟩) (fun r_12 w_13 H locs hw hB => ?_)
            obtain ⟨hr9, hw9⟩ := hw
            have hr9 := hr9.symm
            subst hr9
            have hw9 := hw9.symm
            subst hw9
            refine z_ge (tgt := 121) (X := ((x : Nat) : Int)) (Y := ((T : Nat) : Int)) hE dX9_contradict_42 (by decide) (nI_toInt (n := x) (by omega)) (nI_toInt (n := T) (by omega)) (fun c_14 => ?_) (fun c_14 => ?_)
            · refine lv_iload_n hE.x hE.b dX9_contradict_121 rfl (lv_at hl 6 rfl) ?_
              refine lv_iconst (v := (-1)) hE.x hE.b dX9_contradict_122 rfl ?_
              refine lv_icmp_ne (tgt := 131) hE.x hE.b dX9_contradict_123 (by decide) (fun c_15 => ?_) (fun c_15 => ?_)
              · refine lv_iload hE.x hE.b dX9_contradict_131 (lv_at hl 1 rfl) ?_
                exact z_iret (v := found) (ws := mW g o a F1 L A ++ X) hE hB hr (⟨F1, by unfold contradictR contradictOK; simp only [c_3, c_8, decide_eq_true (show -1 ≤ i.toInt by omega), Bool.and_true, if_true]; rw [show x = T by omega] at hm; rw [if_neg c_15, ← hm], by unfold chk contradictOK; simp only [c_3, c_8, decide_eq_true (show -1 ≤ i.toInt by omega), Bool.and_true, if_true], h16⟩) dX9_contradict_133
              · refine lv_iload hE.x hE.b dX9_contradict_126 (lv_at hl 2 rfl) ?_
                refine lv_goto (tgt := 133) hE.x hE.b dX9_contradict_128 (by decide) ?_
                exact z_iret (v := (nI many)) (ws := mW g o a F1 L A ++ X) hE hB hr (⟨F1, by unfold contradictR contradictOK; simp only [c_3, c_8, decide_eq_true (show -1 ≤ i.toInt by omega), Bool.and_true, if_true]; rw [show x = T by omega] at hm; rw [if_pos c_15, ← hm], by unfold chk contradictOK; simp only [c_3, c_8, decide_eq_true (show -1 ≤ i.toInt by omega), Bool.and_true, if_true], h16⟩) dX9_contradict_133
            · refine lv_iload hE.x hE.b dX9_contradict_45 (lv_at hl 0 rfl) ?_
              refine lv_iconst (v := nI 1) hE.x hE.b dX9_contradict_47 rfl ?_
              refine z_iaddN hE dX9_contradict_48 ?_
              refine lv_istore (lv' := [(7, .int (nI (x + 1))), (6, .int (nI x)), (5, .int found), (4, .int (nI many)), (0, .ref o), (1, .int ac), (2, .int dd), (3, .int i)]) hE.x hE.b dX9_contradict_49 hl (by decide) rfl (fun ls hl => ?_)
              have k51 : ∀ (fu : Nat) (many : Nat) (found : Int32) (k : Nat) (F1 : Nat → Int32) (H : Heap) (locs : List Loc) (ls : Array Slot), T - k < fu → (k ≤ T - (x + 1)) → (F1 16 = F 16) → ((many, found) = cdB (cdAl (A 0) C ac dd) i x (cdA (cdAl (A 0) C ac dd) T i x) k) → zB g s (mW g o a F1 L A ++ X) H locs → lv_has ls 8 [(7, .int (nI (x + 1 + k))), (6, .int (nI x)), (5, .int found), (4, .int (nI many)), (0, .ref o), (1, .int ac), (2, .int dd), (3, .int i)] → W p l e { frames := 6, cells := 0, slots := 0, locals := 154 } s m args below meth c H locs 0 0 (MQ below (zQi g (fun r ws => ∃ (F1 : Nat → Int32), r = (contradictR (A 0) T C ac dd i) ∧ ws = mW g o a F1 L (chk (contradictOK ac dd i) A) ++ X ∧ F1 16 = F 16)) args s 0 0 (zA (gz g))) (F0 m 51 ls []) := by
                intro fu
                induction fu with
                | zero => intro many found k F1 H locs ls hfu hk h16 hm hB hl; exact absurd hfu (Nat.not_lt_zero _)
                | succ fu ih51 =>
                  intro many found k F1 H locs ls hfu hk h16 hm hB hl
                  refine lv_iload hE.x hE.b dX9_contradict_51 (lv_at hl 0 rfl) ?_
                  refine lv_aload_n hE.x hE.b dX9_contradict_53 rfl (lv_at hl 4 rfl) ?_
                  refine z_qi hB (z_cV hE hB (c_X9_towns l g o a F1 L A X T hT) q4_76 kX9_towns ⟨rfl, rfl⟩ ⟨Nat.le_of_ble_eq_true rfl, Nat.le_of_ble_eq_true rfl⟩ 0 rfl rfl rfl hl.1 rfl (Nat.le_of_ble_eq_true rfl) dX9_contradict_54 ⟨Nat.le_of_ble_eq_true rfl, Nat.le_of_ble_eq_true rfl⟩) (fun r_16 w_17 H locs hw hB => ?_)
                  obtain ⟨hr9, hw9⟩ := hw
                  have hr9 := hr9.symm
                  subst hr9
                  have hw9 := hw9.symm
                  subst hw9
                  refine z_ge (tgt := 115) (X := (((x + 1 + k) : Nat) : Int)) (Y := ((T : Nat) : Int)) hE dX9_contradict_57 (by decide) (nI_toInt (n := (x + 1 + k)) (by omega)) (nI_toInt (n := T) (by omega)) (fun c_18 => ?_) (fun c_18 => ?_)
                  · refine lv_iinc (v := (nI (x + 1))) (lv' := [(6, .int (nI (x + 1))), (7, .int (nI (x + 1 + k))), (5, .int found), (4, .int (nI many)), (0, .ref o), (1, .int ac), (2, .int dd), (3, .int i)]) hE.x hE.b dX9_contradict_115 hl (k := 1) rfl (nI_add _ _) (by decide) rfl (fun ls hl => ?_)
                    refine lv_goto (tgt := 36) hE.x hE.b dX9_contradict_118 (by decide) ?_
                    exact ih36 many found (x + 1) F1 _ _ _ (by omega) (by omega) h16 (by rw [show k = T - (x + 1) by omega] at hm; exact hm) hB (lv_sub hl [0, 2, 3, 4, 5, 6, 7] rfl)
                  · refine lv_aload_n hE.x hE.b dX9_contradict_60 rfl (lv_at hl 4 rfl) ?_
                    refine lv_iload hE.x hE.b dX9_contradict_61 (lv_at hl 1 rfl) ?_
                    refine lv_iload_n hE.x hE.b dX9_contradict_63 rfl (lv_at hl 5 rfl) ?_
                    refine lv_iload_n hE.x hE.b dX9_contradict_64 rfl (lv_at hl 6 rfl) ?_
                    refine lv_iconst (v := nI 0) hE.x hE.b dX9_contradict_65 rfl ?_
                    refine lv_iconst (v := nI 0) hE.x hE.b dX9_contradict_66 rfl ?_
                    refine lv_iconst (v := nI 0) hE.x hE.b dX9_contradict_67 rfl ?_
                    refine z_qi hB (z_cV hE hB (c_X9_isAllowed l g o a F1 L A X C x ac dd (nI 0) (nI 0) 0 hC (by omega) (by omega) (by omega)) q4_207 kX9_isAllowed ⟨rfl, rfl⟩ ⟨Nat.le_of_ble_eq_true rfl, Nat.le_of_ble_eq_true rfl⟩ 0 rfl rfl rfl hl.1 rfl (Nat.le_of_ble_eq_true rfl) dX9_contradict_68 ⟨Nat.le_of_ble_eq_true rfl, Nat.le_of_ble_eq_true rfl⟩) (fun r_19 w_20 H locs hw hB => ?_)
                    obtain ⟨F1_21, hr9, hw9, hf_22⟩ := hw
                    have hr9 := hr9.symm
                    subst hr9
                    have hw9 := hw9.symm
                    subst hw9
                    have h16 := hf_22.trans h16
                    refine lv_aload_n hE.x hE.b dX9_contradict_71 rfl (lv_at hl 4 rfl) ?_
                    refine lv_iload hE.x hE.b dX9_contradict_72 (lv_at hl 0 rfl) ?_
                    refine lv_iload_n hE.x hE.b dX9_contradict_74 rfl (lv_at hl 5 rfl) ?_
                    refine lv_iload_n hE.x hE.b dX9_contradict_75 rfl (lv_at hl 6 rfl) ?_
                    refine lv_iconst (v := nI 0) hE.x hE.b dX9_contradict_76 rfl ?_
                    refine lv_iconst (v := nI 0) hE.x hE.b dX9_contradict_77 rfl ?_
                    refine lv_iconst (v := nI 0) hE.x hE.b dX9_contradict_78 rfl ?_
                    refine z_qi hB (z_cV hE hB (c_X9_isAllowed l g o a F1_21 L A X C (x + 1 + k) ac dd (nI 0) (nI 0) 0 hC (by omega) (by omega) (by omega)) q4_207 kX9_isAllowed ⟨rfl, rfl⟩ ⟨Nat.le_of_ble_eq_true rfl, Nat.le_of_ble_eq_true rfl⟩ 0 rfl rfl rfl hl.1 rfl (Nat.le_of_ble_eq_true rfl) dX9_contradict_79 ⟨Nat.le_of_ble_eq_true rfl, Nat.le_of_ble_eq_true rfl⟩) (fun r_23 w_24 H locs hw hB => ?_)
                    obtain ⟨F1_25, hr9, hw9, hf_26⟩ := hw
                    have hr9 := hr9.symm
                    subst hr9
                    have hw9 := hw9.symm
                    subst hw9
                    have h16 := hf_26.trans h16
                    have hmb := cdA_bd hm hT6 (by omega) (by omega)
                    refine lv_icmp_eq (tgt := 109) hE.x hE.b dX9_contradict_82 (by decide) (fun c_27 => ?_) (fun c_27 => ?_)
                    · refine lv_iinc (v := (nI ((x + 1 + k) + 1))) (lv' := [(7, .int (nI ((x + 1 + k) + 1))), (6, .int (nI x)), (5, .int found), (4, .int (nI many)), (0, .ref o), (1, .int ac), (2, .int dd), (3, .int i)]) hE.x hE.b dX9_contradict_109 hl (k := 0) rfl (nI_add _ _) (by decide) rfl (fun ls hl => ?_)
                      refine lv_goto (tgt := 51) hE.x hE.b dX9_contradict_112 (by decide) ?_
                      exact ih51 many found (k + 1) F1_25 _ _ _ (by omega) (by omega) h16 (cdB_no hm (bI_inj c_27)) hB hl
                    · refine lv_iload hE.x hE.b dX9_contradict_85 (lv_at hl 3 rfl) ?_
                      refine lv_iload_n hE.x hE.b dX9_contradict_87 rfl (lv_at hl 7 rfl) ?_
                      refine lv_icmp_ne (tgt := 102) hE.x hE.b dX9_contradict_88 (by decide) (fun c_28 => ?_) (fun c_28 => ?_)
                      · refine lv_iload hE.x hE.b dX9_contradict_102 (lv_at hl 2 rfl) ?_
                        refine lv_istore (lv' := [(5, .int found), (7, .int (nI (x + 1 + k))), (6, .int (nI x)), (4, .int (nI many)), (0, .ref o), (1, .int ac), (2, .int dd), (3, .int i)]) hE.x hE.b dX9_contradict_104 hl (by decide) rfl (fun ls hl => ?_)
                        refine lv_iinc (v := (nI (many + 1))) (lv' := [(4, .int (nI (many + 1))), (5, .int found), (7, .int (nI (x + 1 + k))), (6, .int (nI x)), (0, .ref o), (1, .int ac), (2, .int dd), (3, .int i)]) hE.x hE.b dX9_contradict_106 hl (k := 3) rfl (nI_add _ _) (by decide) rfl (fun ls hl => ?_)
                        refine lv_iinc (v := (nI ((x + 1 + k) + 1))) (lv' := [(7, .int (nI ((x + 1 + k) + 1))), (4, .int (nI (many + 1))), (5, .int found), (6, .int (nI x)), (0, .ref o), (1, .int ac), (2, .int dd), (3, .int i)]) hE.x hE.b dX9_contradict_109 hl (k := 2) rfl (nI_add _ _) (by decide) rfl (fun ls hl => ?_)
                        refine lv_goto (tgt := 51) hE.x hE.b dX9_contradict_112 (by decide) ?_
                        exact ih51 (many + 1) found (k + 1) F1_25 _ _ _ (by omega) (by omega) h16 (cdB_ne hm (fun z => c_27 (congrArg bI z)) c_28) hB (lv_sub hl [0, 3, 2, 1, 4, 5, 6, 7] rfl)
                      · refine lv_bipush (v := (nI 10)) hE.x hE.b dX9_contradict_91 rfl ?_
                        refine lv_iload hE.x hE.b dX9_contradict_93 (lv_at hl 1 rfl) ?_
                        refine z_imulN hE dX9_contradict_95 ?_
                        refine lv_iload hE.x hE.b dX9_contradict_96 (lv_at hl 0 rfl) ?_
                        refine z_iaddN hE dX9_contradict_98 ?_
                        refine lv_goto (tgt := 104) hE.x hE.b dX9_contradict_99 (by decide) ?_
                        refine lv_istore (lv' := [(5, .int (nI ((10 * x) + (x + 1 + k)))), (7, .int (nI (x + 1 + k))), (6, .int (nI x)), (4, .int (nI many)), (0, .ref o), (1, .int ac), (2, .int dd), (3, .int i)]) hE.x hE.b dX9_contradict_104 hl (by decide) rfl (fun ls hl => ?_)
                        refine lv_iinc (v := (nI (many + 1))) (lv' := [(4, .int (nI (many + 1))), (5, .int (nI ((10 * x) + (x + 1 + k)))), (7, .int (nI (x + 1 + k))), (6, .int (nI x)), (0, .ref o), (1, .int ac), (2, .int dd), (3, .int i)]) hE.x hE.b dX9_contradict_106 hl (k := 3) rfl (nI_add _ _) (by decide) rfl (fun ls hl => ?_)
                        refine lv_iinc (v := (nI ((x + 1 + k) + 1))) (lv' := [(7, .int (nI ((x + 1 + k) + 1))), (4, .int (nI (many + 1))), (5, .int (nI ((10 * x) + (x + 1 + k)))), (6, .int (nI x)), (0, .ref o), (1, .int ac), (2, .int dd), (3, .int i)]) hE.x hE.b dX9_contradict_109 hl (k := 2) rfl (nI_add _ _) (by decide) rfl (fun ls hl => ?_)
                        refine lv_goto (tgt := 51) hE.x hE.b dX9_contradict_112 (by decide) ?_
                        exact ih51 (many + 1) (nI ((10 * x) + (x + 1 + k))) (k + 1) F1_25 _ _ _ (by omega) (by omega) h16 (cdB_eq hm (fun z => c_27 (congrArg bI z)) c_28) hB (lv_sub hl [0, 3, 2, 1, 4, 5, 6, 7] rfl)
              exact k51 (T - 0 + 1) many found 0 F1 _ _ _ (Nat.lt_succ_self _) (by omega) h16 hm hB hl
        exact k36 (T - 0 + 1) 0 (-5) 0 F _ _ _ (Nat.lt_succ_self _) (by omega) h16 rfl hB hl
      · refine lv_aload_n hE.x hE.b dX9_contradict_19 rfl (lv_at hl 0 rfl) ?_
        refine lv_bipush (v := (-10)) hE.x hE.b dX9_contradict_20 rfl ?_
        refine z_qi hB (z_cV hE hB (c_X9_bad l g o a F L A X (-10)) q4_91 kX9_bad ⟨rfl, rfl⟩ ⟨Nat.le_of_ble_eq_true rfl, Nat.le_of_ble_eq_true rfl⟩ 0 rfl rfl rfl hl.1 rfl (Nat.le_of_ble_eq_true rfl) dX9_contradict_22 ⟨Nat.le_of_ble_eq_true rfl, Nat.le_of_ble_eq_true rfl⟩) (fun r_29 w_30 H locs hw hB => ?_)
        obtain ⟨hr9, hw9⟩ := hw
        have hr9 := hr9.symm
        subst hr9
        have hw9 := hw9.symm
        subst hw9
        exact z_iret (v := (-10)) (ws := mW g o a F L (bump 0 A) ++ X) hE hB hr (⟨F, by unfold contradictR contradictOK; simp only [c_3, c_8, decide_eq_false (show ¬ -1 ≤ i.toInt by omega), Bool.and_false, Bool.false_and, Bool.false_eq_true, if_false, Bool.and_true], by unfold chk contradictOK; simp only [c_3, c_8, decide_eq_false (show ¬ -1 ≤ i.toInt by omega), Bool.and_false, Bool.false_and, Bool.false_eq_true, if_false, Bool.and_true], rfl⟩) dX9_contradict_25

set_option maxHeartbeats 4000000 in
set_option maxRecDepth 100000 in
theorem c_X9_allAgree (l : Launch) (g : zG) (o : Nat) (a : Nat → Nat) (F : Nat → Int32) (L : Nat → Int64) (A : Nat → Nat → Int32) (X : va_W) (C : Nat) (T : Nat) (ac : Nat) (dd : Int32) (S : Nat) (hT : A 0 0 = nI T) (hT6 : T ≤ 6) (hC : A 0 1 = nI C) (hC8 : C ≤ 8) (hac : ac < 64) (hS : S < 256) : Met l yX9_allAgree (Cond.code yX9_allAgree cX9_allAgree 7 (some .boolean) :: TBL) { frames := 6, cells := 0, slots := 0, locals := 154 } (zPc [.ref o, .int (nI ac), .int dd, .int (nI S)] g (mW g o a F L A ++ X)) (zQi g (fun r ws => ∃ (F1 : Nat → Int32), r = bI (agB (acAl (A 0) C dd S) T ac) ∧ ws = mW g o a F1 L A ++ X ∧ F1 16 = F 16)) 0 0 (zA (gz g)) := by
  refine z_start (by decide +kernel) rfl (Nat.le_of_ble_eq_true rfl) ?_
  intro p e s m args below meth c ls hE hr hnm hB hl
  have hl : lv_has ls 7 [(0, .ref o), (1, .int (nI ac)), (2, .int dd), (3, .int (nI S))] := hl
  revert hB
  generalize s.heap = H
  generalize ([] : List Loc) = locs
  intro hB
  have h16 : F 16 = F 16 := rfl
  refine lv_iconst (v := nI 1) hE.x hE.b dX9_allAgree_0 rfl ?_
  refine lv_istore (lv' := [(4, .int (nI 1)), (0, .ref o), (1, .int (nI ac)), (2, .int dd), (3, .int (nI S))]) hE.x hE.b dX9_allAgree_1 hl (by decide) rfl (fun ls hl => ?_)
  refine lv_iconst (v := nI 0) hE.x hE.b dX9_allAgree_3 rfl ?_
  refine lv_istore (lv' := [(5, .int (nI 0)), (4, .int (nI 1)), (0, .ref o), (1, .int (nI ac)), (2, .int dd), (3, .int (nI S))]) hE.x hE.b dX9_allAgree_4 hl (by decide) rfl (fun ls hl => ?_)
  have k6 : ∀ (fu : Nat) (act : Nat) (ag : Bool) (F1 : Nat → Int32) (H : Heap) (locs : List Loc) (ls : Array Slot), 6 - act < fu → (act ≤ 6) → (F1 16 = F 16) → (ag = true ↔ agP (acAl (A 0) C dd S) T ac act) → zB g s (mW g o a F1 L A ++ X) H locs → lv_has ls 7 [(5, .int (nI act)), (4, .int (bI ag)), (0, .ref o), (1, .int (nI ac)), (2, .int dd), (3, .int (nI S))] → W p l e { frames := 6, cells := 0, slots := 0, locals := 154 } s m args below meth c H locs 0 0 (MQ below (zQi g (fun r ws => ∃ (F1 : Nat → Int32), r = bI (agB (acAl (A 0) C dd S) T ac) ∧ ws = mW g o a F1 L A ++ X ∧ F1 16 = F 16)) args s 0 0 (zA (gz g))) (F0 m 6 ls []) := by
    intro fu
    induction fu with
    | zero => intro act ag F1 H locs ls hfu hact h16 hag hB hl; exact absurd hfu (Nat.not_lt_zero _)
    | succ fu ih6 =>
      intro act ag F1 H locs ls hfu hact h16 hag hB hl
      refine lv_iload hE.x hE.b dX9_allAgree_6 (lv_at hl 0 rfl) ?_
      refine lv_bipush (v := (nI 6)) hE.x hE.b dX9_allAgree_8 rfl ?_
      refine z_ge (tgt := 90) (X := ((act : Nat) : Int)) (Y := (6 : Int)) hE dX9_allAgree_10 (by decide) (nI_toInt (n := act) (by omega)) rfl (fun c_1 => ?_) (fun c_1 => ?_)
      · refine lv_iload hE.x hE.b dX9_allAgree_90 (lv_at hl 1 rfl) ?_
        exact z_bret (b := ag) (ws := mW g o a F1 L A ++ X) hE hB hr (⟨F1, congrArg bI (agB_iff (by rw [show act = 6 by omega] at hag; exact hag)), rfl, h16⟩) dX9_allAgree_92
      · refine lv_iload hE.x hE.b dX9_allAgree_13 (lv_at hl 1 rfl) ?_
        refine z_bf (b := ag) (tgt := 90) hE dX9_allAgree_15 (by decide) (fun c_2 => ?_) (fun c_2 => ?_)
        · refine lv_iload hE.x hE.b dX9_allAgree_90 (lv_at hl 1 rfl) ?_
          exact z_bret (b := ag) (ws := mW g o a F1 L A ++ X) hE hB hr (⟨F1, congrArg bI (agB_iff ⟨fun h => (by rw [c_2] at h; cases h), fun h => hag.mpr (agP_mono h hact)⟩), rfl, h16⟩) dX9_allAgree_92
        · refine lv_iconst (v := nI 1) hE.x hE.b dX9_allAgree_18 rfl ?_
          refine lv_istore (lv' := [(6, .int (nI 1)), (5, .int (nI act)), (4, .int (bI ag)), (0, .ref o), (1, .int (nI ac)), (2, .int dd), (3, .int (nI S))]) hE.x hE.b dX9_allAgree_19 hl (by decide) rfl (fun ls hl => ?_)
          have k21 : ∀ (fu : Nat) (t : Nat) (ag : Bool) (F1 : Nat → Int32) (H : Heap) (locs : List Loc) (ls : Array Slot), 7 - t < fu → (1 ≤ t) → (t ≤ T ∨ t = 1) → (F1 16 = F 16) → (ag = true ↔ (agP (acAl (A 0) C dd S) T ac act ∧ (ac / 2 ^ act % 2 = 1 → ∀ t', 1 ≤ t' → t' < t → (acAl (A 0) C dd S) act t' = (acAl (A 0) C dd S) act 0))) → zB g s (mW g o a F1 L A ++ X) H locs → lv_has ls 7 [(6, .int (nI t)), (5, .int (nI act)), (4, .int (bI ag)), (0, .ref o), (1, .int (nI ac)), (2, .int dd), (3, .int (nI S))] → W p l e { frames := 6, cells := 0, slots := 0, locals := 154 } s m args below meth c H locs 0 0 (MQ below (zQi g (fun r ws => ∃ (F1 : Nat → Int32), r = bI (agB (acAl (A 0) C dd S) T ac) ∧ ws = mW g o a F1 L A ++ X ∧ F1 16 = F 16)) args s 0 0 (zA (gz g))) (F0 m 21 ls []) := by
            intro fu
            induction fu with
            | zero => intro t ag F1 H locs ls hfu ht1 htT h16 hag hB hl; exact absurd hfu (Nat.not_lt_zero _)
            | succ fu ih21 =>
              intro t ag F1 H locs ls hfu ht1 htT h16 hag hB hl
              refine lv_iload hE.x hE.b dX9_allAgree_21 (lv_at hl 0 rfl) ?_
              refine lv_aload_n hE.x hE.b dX9_allAgree_23 rfl (lv_at hl 3 rfl) ?_
              refine z_qi hB (z_cV hE hB (c_X9_towns l g o a F1 L A X T hT) q4_76 kX9_towns ⟨rfl, rfl⟩ ⟨Nat.le_of_ble_eq_true rfl, Nat.le_of_ble_eq_true rfl⟩ 0 rfl rfl rfl hl.1 rfl (Nat.le_of_ble_eq_true rfl) dX9_allAgree_24 ⟨Nat.le_of_ble_eq_true rfl, Nat.le_of_ble_eq_true rfl⟩) (fun r_3 w_4 H locs hw hB => ?_)
              obtain ⟨hr9, hw9⟩ := hw
              have hr9 := hr9.symm
              subst hr9
              have hw9 := hw9.symm
              subst hw9
              refine z_ge (tgt := 84) (X := ((t : Nat) : Int)) (Y := ((T : Nat) : Int)) hE dX9_allAgree_27 (by decide) (nI_toInt (n := t) (by omega)) (nI_toInt (n := T) (by omega)) (fun c_5 => ?_) (fun c_5 => ?_)
              · refine lv_iinc (v := (nI (act + 1))) (lv' := [(5, .int (nI (act + 1))), (6, .int (nI t)), (4, .int (bI ag)), (0, .ref o), (1, .int (nI ac)), (2, .int dd), (3, .int (nI S))]) hE.x hE.b dX9_allAgree_84 hl (k := 1) rfl (nI_add _ _) (by decide) rfl (fun ls hl => ?_)
                refine lv_goto (tgt := 6) hE.x hE.b dX9_allAgree_87 (by decide) ?_
                exact ih6 (act + 1) ag F1 _ _ _ (by omega) (by omega) h16 (ag_out hag htT (Or.inl (by omega))) hB (lv_sub hl [0, 2, 3, 4, 5, 6] rfl)
              · refine lv_iload hE.x hE.b dX9_allAgree_30 (lv_at hl 2 rfl) ?_
                refine z_bf (b := ag) (tgt := 84) hE dX9_allAgree_32 (by decide) (fun c_6 => ?_) (fun c_6 => ?_)
                · refine lv_iinc (v := (nI (act + 1))) (lv' := [(5, .int (nI (act + 1))), (6, .int (nI t)), (4, .int (bI ag)), (0, .ref o), (1, .int (nI ac)), (2, .int dd), (3, .int (nI S))]) hE.x hE.b dX9_allAgree_84 hl (k := 1) rfl (nI_add _ _) (by decide) rfl (fun ls hl => ?_)
                  refine lv_goto (tgt := 6) hE.x hE.b dX9_allAgree_87 (by decide) ?_
                  exact ih6 (act + 1) ag F1 _ _ _ (by omega) (by omega) h16 (ag_out hag htT (Or.inr (Or.inl c_6))) hB (lv_sub hl [0, 2, 3, 4, 5, 6] rfl)
                · refine lv_iload_n hE.x hE.b dX9_allAgree_35 rfl (lv_at hl 4 rfl) ?_
                  refine lv_iload hE.x hE.b dX9_allAgree_36 (lv_at hl 1 rfl) ?_
                  refine lv_ishr hE.x hE.b dX9_allAgree_38 ?_
                  refine z_top (y := (nI (ac / 2 ^ act))) (shr_nI (by omega) (by omega)) ?_
                  refine lv_iconst (v := nI 1) hE.x hE.b dX9_allAgree_39 rfl ?_
                  refine lv_iand hE.x hE.b dX9_allAgree_40 ?_
                  refine z_top (y := (nI (ac / 2 ^ act % 2))) (and1_nI (by have := Nat.div_le_self ac (2 ^ act); omega)) ?_
                  have hb2 : ac / 2 ^ act % 2 < 2 := Nat.mod_lt _ (by omega)
                  refine lv_iconst (v := nI 1) hE.x hE.b dX9_allAgree_41 rfl ?_
                  refine z_ne (tgt := 84) (X := (((ac / 2 ^ act % 2) : Nat) : Int)) (Y := (1 : Int)) hE dX9_allAgree_42 (by decide) (nI_toInt (n := (ac / 2 ^ act % 2)) (by omega)) rfl (fun c_7 => ?_) (fun c_7 => ?_)
                  · refine lv_iinc (v := (nI (act + 1))) (lv' := [(5, .int (nI (act + 1))), (6, .int (nI t)), (4, .int (bI ag)), (0, .ref o), (1, .int (nI ac)), (2, .int dd), (3, .int (nI S))]) hE.x hE.b dX9_allAgree_84 hl (k := 1) rfl (nI_add _ _) (by decide) rfl (fun ls hl => ?_)
                    refine lv_goto (tgt := 6) hE.x hE.b dX9_allAgree_87 (by decide) ?_
                    exact ih6 (act + 1) ag F1 _ _ _ (by omega) (by omega) h16 (ag_out hag htT (Or.inr (Or.inr (by omega)))) hB (lv_sub hl [0, 2, 3, 4, 5, 6] rfl)
                  · refine lv_aload_n hE.x hE.b dX9_allAgree_45 rfl (lv_at hl 3 rfl) ?_
                    refine lv_iload hE.x hE.b dX9_allAgree_46 (lv_at hl 0 rfl) ?_
                    refine lv_iload hE.x hE.b dX9_allAgree_48 (lv_at hl 1 rfl) ?_
                    refine lv_iload_n hE.x hE.b dX9_allAgree_50 rfl (lv_at hl 5 rfl) ?_
                    refine lv_iconst (v := nI 0) hE.x hE.b dX9_allAgree_51 rfl ?_
                    refine lv_iconst (v := nI 0) hE.x hE.b dX9_allAgree_52 rfl ?_
                    refine lv_iload_n hE.x hE.b dX9_allAgree_53 rfl (lv_at hl 6 rfl) ?_
                    refine z_qi hB (z_cV hE hB (c_X9_isAllowed l g o a F1 L A X C t (nI act) dd (nI 0) (nI 0) S hC (by omega) (by omega) (by omega)) q4_207 kX9_isAllowed ⟨rfl, rfl⟩ ⟨Nat.le_of_ble_eq_true rfl, Nat.le_of_ble_eq_true rfl⟩ 0 rfl rfl rfl hl.1 rfl (Nat.le_of_ble_eq_true rfl) dX9_allAgree_54 ⟨Nat.le_of_ble_eq_true rfl, Nat.le_of_ble_eq_true rfl⟩) (fun r_8 w_9 H locs hw hB => ?_)
                    obtain ⟨F1_10, hr9, hw9, hf_11⟩ := hw
                    have hr9 := hr9.symm
                    subst hr9
                    have hw9 := hw9.symm
                    subst hw9
                    have h16 := hf_11.trans h16
                    refine lv_aload_n hE.x hE.b dX9_allAgree_57 rfl (lv_at hl 3 rfl) ?_
                    refine lv_iconst (v := nI 0) hE.x hE.b dX9_allAgree_58 rfl ?_
                    refine lv_iload hE.x hE.b dX9_allAgree_59 (lv_at hl 1 rfl) ?_
                    refine lv_iload_n hE.x hE.b dX9_allAgree_61 rfl (lv_at hl 5 rfl) ?_
                    refine lv_iconst (v := nI 0) hE.x hE.b dX9_allAgree_62 rfl ?_
                    refine lv_iconst (v := nI 0) hE.x hE.b dX9_allAgree_63 rfl ?_
                    refine lv_iload_n hE.x hE.b dX9_allAgree_64 rfl (lv_at hl 6 rfl) ?_
                    refine z_qi hB (z_cV hE hB (c_X9_isAllowed l g o a F1_10 L A X C 0 (nI act) dd (nI 0) (nI 0) S hC (by omega) (by omega) (by omega)) q4_207 kX9_isAllowed ⟨rfl, rfl⟩ ⟨Nat.le_of_ble_eq_true rfl, Nat.le_of_ble_eq_true rfl⟩ 0 rfl rfl rfl hl.1 rfl (Nat.le_of_ble_eq_true rfl) dX9_allAgree_65 ⟨Nat.le_of_ble_eq_true rfl, Nat.le_of_ble_eq_true rfl⟩) (fun r_12 w_13 H locs hw hB => ?_)
                    obtain ⟨F1_14, hr9, hw9, hf_15⟩ := hw
                    have hr9 := hr9.symm
                    subst hr9
                    have hw9 := hw9.symm
                    subst hw9
                    have h16 := hf_15.trans h16
                    refine lv_icmp_ne (tgt := 75) hE.x hE.b dX9_allAgree_68 (by decide) (fun c_16 => ?_) (fun c_16 => ?_)
                    · refine lv_iconst (v := nI 0) hE.x hE.b dX9_allAgree_75 rfl ?_
                      refine lv_istore (lv' := [(4, .int (nI 0)), (6, .int (nI t)), (5, .int (nI act)), (0, .ref o), (1, .int (nI ac)), (2, .int dd), (3, .int (nI S))]) hE.x hE.b dX9_allAgree_76 hl (by decide) rfl (fun ls hl => ?_)
                      refine lv_iinc (v := (nI (t + 1))) (lv' := [(6, .int (nI (t + 1))), (4, .int (nI 0)), (5, .int (nI act)), (0, .ref o), (1, .int (nI ac)), (2, .int dd), (3, .int (nI S))]) hE.x hE.b dX9_allAgree_78 hl (k := 1) rfl (nI_add _ _) (by decide) rfl (fun ls hl => ?_)
                      refine lv_goto (tgt := 21) hE.x hE.b dX9_allAgree_81 (by decide) ?_
                      exact ih21 (t + 1) false F1_14 _ _ _ (by omega) (by omega) (by omega) h16 (ag_st hag ht1 c_6 (by omega) ⟨fun h => (by cases h), fun h => absurd (congrArg bI h) c_16⟩) hB (lv_sub hl [0, 2, 1, 3, 4, 5, 6] rfl)
                    · refine lv_iconst (v := nI 1) hE.x hE.b dX9_allAgree_71 rfl ?_
                      refine lv_goto (tgt := 76) hE.x hE.b dX9_allAgree_72 (by decide) ?_
                      refine lv_istore (lv' := [(4, .int (nI 1)), (6, .int (nI t)), (5, .int (nI act)), (0, .ref o), (1, .int (nI ac)), (2, .int dd), (3, .int (nI S))]) hE.x hE.b dX9_allAgree_76 hl (by decide) rfl (fun ls hl => ?_)
                      refine lv_iinc (v := (nI (t + 1))) (lv' := [(6, .int (nI (t + 1))), (4, .int (nI 1)), (5, .int (nI act)), (0, .ref o), (1, .int (nI ac)), (2, .int dd), (3, .int (nI S))]) hE.x hE.b dX9_allAgree_78 hl (k := 1) rfl (nI_add _ _) (by decide) rfl (fun ls hl => ?_)
                      refine lv_goto (tgt := 21) hE.x hE.b dX9_allAgree_81 (by decide) ?_
                      exact ih21 (t + 1) true F1_14 _ _ _ (by omega) (by omega) (by omega) h16 (ag_st hag ht1 c_6 (by omega) ⟨fun _ => bI_inj c_16, fun _ => rfl⟩) hB (lv_sub hl [0, 2, 1, 3, 4, 5, 6] rfl)
          exact k21 (7 - 1 + 1) 1 ag F1 _ _ _ (Nat.lt_succ_self _) (by omega) (by omega) h16 ⟨fun h => ⟨hag.mp h, fun _ t h1 h2 => absurd h1 (by omega)⟩, fun h => hag.mpr h.1⟩ hB hl
  exact k6 (6 - 0 + 1) 0 true F _ _ _ (Nat.lt_succ_self _) (by omega) h16 ⟨fun _ => agP_0, fun _ => rfl⟩ hB hl

set_option maxHeartbeats 4000000 in
set_option maxRecDepth 100000 in
theorem c_X9_settle (l : Launch) (g : zG) (o : Nat) (a : Nat → Nat) (F : Nat → Int32) (L : Nat → Int64) (A : Nat → Nat → Int32) (X : va_W) (T : Nat) (C : Nat) (V : Nat) (U : Nat) (ac : Int32) (dd : Int32) (hn : nOK (A 0) T C V U) : Met l yX9_settle (Cond.code yX9_settle cX9_settle 6 (some .int) :: TBL) { frames := 7, cells := 0, slots := 0, locals := 180 } (zPc [.ref o, .int ac, .int dd] g (mW g o a F L A ++ X)) (zQi g (fun r ws => ∃ (F1 : Nat → Int32), r = (settleR (A 0) T C ac dd) ∧ ws = mW g o a F1 L (chk (pIn 0 63 ac && pIn 0 59 dd) A) ++ X ∧ F1 16 = F 16)) 0 0 (zA (gz g)) := by
  refine z_start (by decide +kernel) rfl (Nat.le_of_ble_eq_true rfl) ?_
  intro p e s m args below meth c ls hE hr hnm hB hl
  have hl : lv_has ls 6 [(0, .ref o), (1, .int ac), (2, .int dd)] := hl
  revert hB
  generalize s.heap = H
  generalize ([] : List Loc) = locs
  intro hB
  have hT := hn.T
  have hT6 := hn.T6
  have hC := hn.C
  have hC8 := hn.C8
  have hV := hn.V
  have hV8 := hn.V8
  have hU := hn.U
  have hU8 := hn.U8
  have h16 : F 16 = F 16 := rfl
  have hpC := pow_C hC8
  refine lv_iload_n hE.x hE.b dX9_settle_0 rfl (lv_at hl 1 rfl) ?_
  refine z_qi hB (z_cS hE hB (c_X9_areActs l g ac (mW g o a F L A ++ X)) q4_219 kX9_areActs ⟨rfl, rfl⟩ ⟨Nat.le_of_ble_eq_true rfl, Nat.le_of_ble_eq_true rfl⟩ rfl hl.1 rfl (Nat.le_of_ble_eq_true rfl) dX9_settle_1 ⟨Nat.le_of_ble_eq_true rfl, Nat.le_of_ble_eq_true rfl⟩) (fun r_1 w_2 H locs hw hB => ?_)
  obtain ⟨hr9, hw9⟩ := hw
  have hr9 := hr9.symm
  subst hr9
  have hw9 := hw9.symm
  subst hw9
  refine z_bf (b := (pIn 0 63 ac)) (tgt := 14) hE dX9_settle_4 (by decide) (fun c_3 => ?_) (fun c_3 => ?_)
  · refine lv_aload_n hE.x hE.b dX9_settle_14 rfl (lv_at hl 0 rfl) ?_
    refine lv_bipush (v := (-2)) hE.x hE.b dX9_settle_15 rfl ?_
    refine z_qi hB (z_cV hE hB (c_X9_bad l g o a F L A X (-2)) q4_91 kX9_bad ⟨rfl, rfl⟩ ⟨Nat.le_of_ble_eq_true rfl, Nat.le_of_ble_eq_true rfl⟩ 0 rfl rfl rfl hl.1 rfl (Nat.le_of_ble_eq_true rfl) dX9_settle_17 ⟨Nat.le_of_ble_eq_true rfl, Nat.le_of_ble_eq_true rfl⟩) (fun r_4 w_5 H locs hw hB => ?_)
    obtain ⟨hr9, hw9⟩ := hw
    have hr9 := hr9.symm
    subst hr9
    have hw9 := hw9.symm
    subst hw9
    exact z_iret (v := (-2)) (ws := mW g o a F L (bump 0 A) ++ X) hE hB hr (⟨F, by unfold settleR; simp only [c_3, Bool.and_false, Bool.false_and, Bool.false_eq_true, if_false], by unfold chk; simp only [c_3, Bool.and_false, Bool.false_and, Bool.false_eq_true, if_false], rfl⟩) dX9_settle_20
  · refine lv_iload_n hE.x hE.b dX9_settle_7 rfl (lv_at hl 2 rfl) ?_
    refine z_qi hB (z_cS hE hB (c_X9_isDay l g dd (mW g o a F L A ++ X)) q4_170 kX9_isDay ⟨rfl, rfl⟩ ⟨Nat.le_of_ble_eq_true rfl, Nat.le_of_ble_eq_true rfl⟩ rfl hl.1 rfl (Nat.le_of_ble_eq_true rfl) dX9_settle_8 ⟨Nat.le_of_ble_eq_true rfl, Nat.le_of_ble_eq_true rfl⟩) (fun r_6 w_7 H locs hw hB => ?_)
    obtain ⟨hr9, hw9⟩ := hw
    have hr9 := hr9.symm
    subst hr9
    have hw9 := hw9.symm
    subst hw9
    refine z_bt (b := (pIn 0 59 dd)) (tgt := 21) hE dX9_settle_11 (by decide) (fun c_8 => ?_) (fun c_8 => ?_)
    · obtain ⟨an, han, rfl⟩ := pIn_nI (hi := 63) c_3 (by omega)
      refine lv_iconst (v := nI 1) hE.x hE.b dX9_settle_21 rfl ?_
      refine lv_aload_n hE.x hE.b dX9_settle_22 rfl (lv_at hl 0 rfl) ?_
      refine z_qi hB (z_cV hE hB (c_X9_clauses l g o a F L A X C hC) q4_123 kX9_clauses ⟨rfl, rfl⟩ ⟨Nat.le_of_ble_eq_true rfl, Nat.le_of_ble_eq_true rfl⟩ 0 rfl rfl rfl hl.1 rfl (Nat.le_of_ble_eq_true rfl) dX9_settle_23 ⟨Nat.le_of_ble_eq_true rfl, Nat.le_of_ble_eq_true rfl⟩) (fun r_9 w_10 H locs hw hB => ?_)
      obtain ⟨hr9, hw9⟩ := hw
      have hr9 := hr9.symm
      subst hr9
      have hw9 := hw9.symm
      subst hw9
      refine lv_ishl hE.x hE.b dX9_settle_26 ?_
      refine z_top (y := (nI (2 ^ C))) (shl1_9 C (by omega)) ?_
      refine lv_iconst (v := nI 1) hE.x hE.b dX9_settle_27 rfl ?_
      refine z_isubN hE (by omega) dX9_settle_28 ?_
      refine lv_istore_n (lv' := [(3, .int (nI ((2 ^ C) - 1))), (0, .ref o), (1, .int (nI an)), (2, .int dd)]) hE.x hE.b dX9_settle_29 rfl hl (by decide) rfl (fun ls hl => ?_)
      refine lv_iconst (v := nI 0) hE.x hE.b dX9_settle_30 rfl ?_
      refine lv_istore (lv' := [(4, .int (nI 0)), (3, .int (nI ((2 ^ C) - 1))), (0, .ref o), (1, .int (nI an)), (2, .int dd)]) hE.x hE.b dX9_settle_31 hl (by decide) rfl (fun ls hl => ?_)
      have k33 : ∀ (fu : Nat) (b : Nat) (k : Nat) (F1 : Nat → Int32) (H : Heap) (locs : List Loc) (ls : Array Slot), 2 ^ C - k < fu → (k ≤ 2 ^ C) → (F1 16 = F 16) → (b = stl (fun S => agB (acAl (A 0) C dd S) T an) (2 ^ C - 1) k) → zB g s (mW g o a F1 L A ++ X) H locs → lv_has ls 6 [(4, .int (nI k)), (3, .int (nI b)), (0, .ref o), (1, .int (nI an)), (2, .int dd)] → W p l e { frames := 7, cells := 0, slots := 0, locals := 180 } s m args below meth c H locs 0 0 (MQ below (zQi g (fun r ws => ∃ (F1 : Nat → Int32), r = (settleR (A 0) T C (nI an) dd) ∧ ws = mW g o a F1 L (chk (pIn 0 63 (nI an) && pIn 0 59 dd) A) ++ X ∧ F1 16 = F 16)) args s 0 0 (zA (gz g))) (F0 m 33 ls []) := by
        intro fu
        induction fu with
        | zero => intro b k F1 H locs ls hfu hk h16 hb hB hl; exact absurd hfu (Nat.not_lt_zero _)
        | succ fu ih33 =>
          intro b k F1 H locs ls hfu hk h16 hb hB hl
          refine lv_iload hE.x hE.b dX9_settle_33 (lv_at hl 0 rfl) ?_
          refine lv_iconst (v := nI 1) hE.x hE.b dX9_settle_35 rfl ?_
          refine lv_aload_n hE.x hE.b dX9_settle_36 rfl (lv_at hl 2 rfl) ?_
          refine z_qi hB (z_cV hE hB (c_X9_clauses l g o a F1 L A X C hC) q4_123 kX9_clauses ⟨rfl, rfl⟩ ⟨Nat.le_of_ble_eq_true rfl, Nat.le_of_ble_eq_true rfl⟩ 0 rfl rfl rfl hl.1 rfl (Nat.le_of_ble_eq_true rfl) dX9_settle_37 ⟨Nat.le_of_ble_eq_true rfl, Nat.le_of_ble_eq_true rfl⟩) (fun r_11 w_12 H locs hw hB => ?_)
          obtain ⟨hr9, hw9⟩ := hw
          have hr9 := hr9.symm
          subst hr9
          have hw9 := hw9.symm
          subst hw9
          refine lv_ishl hE.x hE.b dX9_settle_40 ?_
          refine z_top (y := (nI (2 ^ C))) (shl1_9 C (by omega)) ?_
          refine z_ge (tgt := 92) (X := ((k : Nat) : Int)) (Y := (((2 ^ C) : Nat) : Int)) hE dX9_settle_41 (by decide) (nI_toInt (n := k) (by omega)) (nI_toInt (n := (2 ^ C)) (by omega)) (fun c_13 => ?_) (fun c_13 => ?_)
          · refine lv_iload_n hE.x hE.b dX9_settle_92 rfl (lv_at hl 1 rfl) ?_
            exact z_iret (v := (nI b)) (ws := mW g o a F1 L A ++ X) hE hB hr (⟨F1, by unfold settleR; simp only [c_3, c_8, Bool.and_true, if_true, rcl (show an < 2 ^ 31 by omega)]; rw [show k = 2 ^ C by omega] at hb; rw [hb], by unfold chk; simp only [c_3, c_8, Bool.and_true, if_true], h16⟩) dX9_settle_93
          · have k61 : ∀ (fw : Bool) (H : Heap) (locs : List Loc) (ls : Array Slot), (fw = decide (pop k < pop b)) → zB g s (mW g o a F1 L A ++ X) H locs → lv_has ls 6 [(4, .int (nI k)), (3, .int (nI b)), (0, .ref o), (1, .int (nI an)), (2, .int dd)] → W p l e { frames := 7, cells := 0, slots := 0, locals := 180 } s m args below meth c H locs 0 0 (MQ below (zQi g (fun r ws => ∃ (F1 : Nat → Int32), r = (settleR (A 0) T C (nI an) dd) ∧ ws = mW g o a F1 L (chk (pIn 0 63 (nI an) && pIn 0 59 dd) A) ++ X ∧ F1 16 = F 16)) args s 0 0 (zA (gz g))) (F0 m 61 ls [.int (bI fw)]) := by
              intro fw H locs ls hfw hB hl
              refine lv_istore (lv' := [(5, .int (bI fw)), (4, .int (nI k)), (3, .int (nI b)), (0, .ref o), (1, .int (nI an)), (2, .int dd)]) hE.x hE.b dX9_settle_61 hl (by decide) rfl (fun ls hl => ?_)
              refine lv_iload hE.x hE.b dX9_settle_63 (lv_at hl 0 rfl) ?_
              refine z_bf (b := fw) (tgt := 84) hE dX9_settle_65 (by decide) (fun c_14 => ?_) (fun c_14 => ?_)
              · refine lv_iload_n hE.x hE.b dX9_settle_84 rfl (lv_at hl 2 rfl) ?_
                refine lv_istore_n (lv' := [(3, .int (nI b)), (5, .int (bI fw)), (4, .int (nI k)), (0, .ref o), (1, .int (nI an)), (2, .int dd)]) hE.x hE.b dX9_settle_85 rfl hl (by decide) rfl (fun ls hl => ?_)
                refine lv_iinc (v := (nI (k + 1))) (lv' := [(4, .int (nI (k + 1))), (3, .int (nI b)), (5, .int (bI fw)), (0, .ref o), (1, .int (nI an)), (2, .int dd)]) hE.x hE.b dX9_settle_86 hl (k := 2) rfl (nI_add _ _) (by decide) rfl (fun ls hl => ?_)
                refine lv_goto (tgt := 33) hE.x hE.b dX9_settle_89 (by decide) ?_
                exact ih33 b (k + 1) F1 _ _ _ (by omega) (by omega) h16 (stl_no hb (Or.inl (of_decide_eq_false (hfw.symm.trans c_14)))) hB (lv_sub hl [0, 1, 3, 4, 5] rfl)
              · refine lv_aload_n hE.x hE.b dX9_settle_68 rfl (lv_at hl 3 rfl) ?_
                refine lv_iload_n hE.x hE.b dX9_settle_69 rfl (lv_at hl 4 rfl) ?_
                refine lv_iload_n hE.x hE.b dX9_settle_70 rfl (lv_at hl 5 rfl) ?_
                refine lv_iload hE.x hE.b dX9_settle_71 (lv_at hl 1 rfl) ?_
                refine z_qi hB (z_cV hE hB (c_X9_allAgree l g o a F1 L A X C T an dd k hT (by omega) hC (by omega) (by omega) (by omega)) q4_226 kX9_allAgree ⟨rfl, rfl⟩ ⟨Nat.le_of_ble_eq_true rfl, Nat.le_of_ble_eq_true rfl⟩ 0 rfl rfl rfl hl.1 rfl (Nat.le_of_ble_eq_true rfl) dX9_settle_73 ⟨Nat.le_of_ble_eq_true rfl, Nat.le_of_ble_eq_true rfl⟩) (fun r_15 w_16 H locs hw hB => ?_)
                obtain ⟨F1_17, hr9, hw9, hf_18⟩ := hw
                have hr9 := hr9.symm
                subst hr9
                have hw9 := hw9.symm
                subst hw9
                have h16 := hf_18.trans h16
                refine z_bf (b := (agB (acAl (A 0) C dd k) T an)) (tgt := 84) hE dX9_settle_76 (by decide) (fun c_19 => ?_) (fun c_19 => ?_)
                · refine lv_iload_n hE.x hE.b dX9_settle_84 rfl (lv_at hl 2 rfl) ?_
                  refine lv_istore_n (lv' := [(3, .int (nI b)), (5, .int (bI fw)), (4, .int (nI k)), (0, .ref o), (1, .int (nI an)), (2, .int dd)]) hE.x hE.b dX9_settle_85 rfl hl (by decide) rfl (fun ls hl => ?_)
                  refine lv_iinc (v := (nI (k + 1))) (lv' := [(4, .int (nI (k + 1))), (3, .int (nI b)), (5, .int (bI fw)), (0, .ref o), (1, .int (nI an)), (2, .int dd)]) hE.x hE.b dX9_settle_86 hl (k := 2) rfl (nI_add _ _) (by decide) rfl (fun ls hl => ?_)
                  refine lv_goto (tgt := 33) hE.x hE.b dX9_settle_89 (by decide) ?_
                  exact ih33 b (k + 1) F1_17 _ _ _ (by omega) (by omega) h16 (stl_no hb (Or.inr c_19)) hB (lv_sub hl [0, 1, 3, 4, 5] rfl)
                · refine lv_iload hE.x hE.b dX9_settle_79 (lv_at hl 1 rfl) ?_
                  refine lv_goto (tgt := 85) hE.x hE.b dX9_settle_81 (by decide) ?_
                  refine lv_istore_n (lv' := [(3, .int (nI k)), (5, .int (bI fw)), (4, .int (nI k)), (0, .ref o), (1, .int (nI an)), (2, .int dd)]) hE.x hE.b dX9_settle_85 rfl hl (by decide) rfl (fun ls hl => ?_)
                  refine lv_iinc (v := (nI (k + 1))) (lv' := [(4, .int (nI (k + 1))), (3, .int (nI k)), (5, .int (bI fw)), (0, .ref o), (1, .int (nI an)), (2, .int dd)]) hE.x hE.b dX9_settle_86 hl (k := 2) rfl (nI_add _ _) (by decide) rfl (fun ls hl => ?_)
                  refine lv_goto (tgt := 33) hE.x hE.b dX9_settle_89 (by decide) ?_
                  exact ih33 k (k + 1) F1_17 _ _ _ (by omega) (by omega) h16 (stl_yes hb (of_decide_eq_true (hfw.symm.trans c_14)) c_19) hB (lv_sub hl [0, 1, 3, 4, 5] rfl)
            have hbl : b ≤ 2 ^ C - 1 := hb ▸ stl_lt k (by omega)
            have hpk := pop_8 k
            have hpb := pop_8 b
            refine lv_iload hE.x hE.b dX9_settle_44 (lv_at hl 0 rfl) ?_
            refine z_qi hB (z_cS hE hB (c_X9_bits l g k (mW g o a F1 L A ++ X) (by omega)) q4_223 kX9_bits ⟨rfl, rfl⟩ ⟨Nat.le_of_ble_eq_true rfl, Nat.le_of_ble_eq_true rfl⟩ rfl hl.1 rfl (Nat.le_of_ble_eq_true rfl) dX9_settle_46 ⟨Nat.le_of_ble_eq_true rfl, Nat.le_of_ble_eq_true rfl⟩) (fun r_20 w_21 H locs hw hB => ?_)
            obtain ⟨hr9, hw9⟩ := hw
            have hr9 := hr9.symm
            subst hr9
            have hw9 := hw9.symm
            subst hw9
            refine lv_iload_n hE.x hE.b dX9_settle_49 rfl (lv_at hl 1 rfl) ?_
            refine z_qi hB (z_cS hE hB (c_X9_bits l g b (mW g o a F1 L A ++ X) (by omega)) q4_223 kX9_bits ⟨rfl, rfl⟩ ⟨Nat.le_of_ble_eq_true rfl, Nat.le_of_ble_eq_true rfl⟩ rfl hl.1 rfl (Nat.le_of_ble_eq_true rfl) dX9_settle_50 ⟨Nat.le_of_ble_eq_true rfl, Nat.le_of_ble_eq_true rfl⟩) (fun r_22 w_23 H locs hw hB => ?_)
            obtain ⟨hr9, hw9⟩ := hw
            have hr9 := hr9.symm
            subst hr9
            have hw9 := hw9.symm
            subst hw9
            refine z_ge (tgt := 60) (X := (((pop k) : Nat) : Int)) (Y := (((pop b) : Nat) : Int)) hE dX9_settle_53 (by decide) (nI_toInt (n := (pop k)) (by omega)) (nI_toInt (n := (pop b)) (by omega)) (fun c_24 => ?_) (fun c_24 => ?_)
            · refine lv_iconst (v := nI 0) hE.x hE.b dX9_settle_60 rfl ?_
              exact k61 false _ _ _ (decide_eq_false (by omega)).symm hB hl
            · refine lv_iconst (v := nI 1) hE.x hE.b dX9_settle_56 rfl ?_
              refine lv_goto (tgt := 61) hE.x hE.b dX9_settle_57 (by decide) ?_
              exact k61 true _ _ _ (decide_eq_true (by omega)).symm hB hl
      exact k33 (2 ^ C - 0 + 1) ((2 ^ C) - 1) 0 F _ _ _ (Nat.lt_succ_self _) (by omega) h16 rfl hB hl
    · refine lv_aload_n hE.x hE.b dX9_settle_14 rfl (lv_at hl 0 rfl) ?_
      refine lv_bipush (v := (-2)) hE.x hE.b dX9_settle_15 rfl ?_
      refine z_qi hB (z_cV hE hB (c_X9_bad l g o a F L A X (-2)) q4_91 kX9_bad ⟨rfl, rfl⟩ ⟨Nat.le_of_ble_eq_true rfl, Nat.le_of_ble_eq_true rfl⟩ 0 rfl rfl rfl hl.1 rfl (Nat.le_of_ble_eq_true rfl) dX9_settle_17 ⟨Nat.le_of_ble_eq_true rfl, Nat.le_of_ble_eq_true rfl⟩) (fun r_25 w_26 H locs hw hB => ?_)
      obtain ⟨hr9, hw9⟩ := hw
      have hr9 := hr9.symm
      subst hr9
      have hw9 := hw9.symm
      subst hw9
      exact z_iret (v := (-2)) (ws := mW g o a F L (bump 0 A) ++ X) hE hB hr (⟨F, by unfold settleR; simp only [c_3, c_8, Bool.and_false, Bool.false_and, Bool.false_eq_true, if_false], by unfold chk; simp only [c_3, c_8, Bool.and_false, Bool.false_and, Bool.false_eq_true, if_false], rfl⟩) dX9_settle_20

set_option maxHeartbeats 4000000 in
set_option maxRecDepth 100000 in
theorem c_X9_reads (l : Launch) (g : zG) (o : Nat) (a : Nat → Nat) (F : Nat → Int32) (L : Nat → Int64) (A : Nat → Nat → Int32) (X : va_W) (T : Nat) (C : Nat) (V : Nat) (U : Nat) (tw : Int32) (ac : Int32) (dd : Int32) (dy : Int32) (sh : Int32) (hn : nOK (A 0) T C V U) : Met l yX9_reads (Cond.code yX9_reads cX9_reads 9 (some .int) :: TBL) { frames := 4, cells := 0, slots := 0, locals := 101 } (zPc [.ref o, .int tw, .int ac, .int dd, .int dy, .int sh] g (mW g o a F L A ++ X)) (zQi g (fun r ws => ∃ (F1 : Nat → Int32), r = (readsR (A 0) T C tw ac dd dy sh) ∧ ws = mW g o a F1 L (chk (askOK T tw ac dd dy sh) A) ++ X ∧ F1 16 = F 16)) 0 0 (zA (gz g)) := by
  refine z_start (by decide +kernel) rfl (Nat.le_of_ble_eq_true rfl) ?_
  intro p e s m args below meth c ls hE hr hnm hB hl
  have hl : lv_has ls 9 [(0, .ref o), (1, .int tw), (2, .int ac), (3, .int dd), (4, .int dy), (5, .int sh)] := hl
  revert hB
  generalize s.heap = H
  generalize ([] : List Loc) = locs
  intro hB
  have hT := hn.T
  have hT6 := hn.T6
  have hC := hn.C
  have hC8 := hn.C8
  have hV := hn.V
  have hV8 := hn.V8
  have hU := hn.U
  have hU8 := hn.U8
  refine lv_aload_n hE.x hE.b dX9_reads_0 rfl (lv_at hl 0 rfl) ?_
  refine lv_iload_n hE.x hE.b dX9_reads_1 rfl (lv_at hl 1 rfl) ?_
  refine z_qi hB (z_cV hE hB (c_X9_isTown l g o a F L A X T tw hT (by omega)) q4_106 kX9_isTown ⟨rfl, rfl⟩ ⟨Nat.le_of_ble_eq_true rfl, Nat.le_of_ble_eq_true rfl⟩ 0 rfl rfl rfl hl.1 rfl (Nat.le_of_ble_eq_true rfl) dX9_reads_2 ⟨Nat.le_of_ble_eq_true rfl, Nat.le_of_ble_eq_true rfl⟩) (fun r_1 w_2 H locs hw hB => ?_)
  obtain ⟨hr9, hw9⟩ := hw
  have hr9 := hr9.symm
  subst hr9
  have hw9 := hw9.symm
  subst hw9
  refine z_bf (b := (pTown T tw)) (tgt := 32) hE dX9_reads_5 (by decide) (fun c_3 => ?_) (fun c_3 => ?_)
  · refine lv_aload_n hE.x hE.b dX9_reads_32 rfl (lv_at hl 0 rfl) ?_
    refine lv_bipush (v := (-2)) hE.x hE.b dX9_reads_33 rfl ?_
    refine z_qi hB (z_cV hE hB (c_X9_bad l g o a F L A X (-2)) q4_91 kX9_bad ⟨rfl, rfl⟩ ⟨Nat.le_of_ble_eq_true rfl, Nat.le_of_ble_eq_true rfl⟩ 0 rfl rfl rfl hl.1 rfl (Nat.le_of_ble_eq_true rfl) dX9_reads_35 ⟨Nat.le_of_ble_eq_true rfl, Nat.le_of_ble_eq_true rfl⟩) (fun r_4 w_5 H locs hw hB => ?_)
    obtain ⟨hr9, hw9⟩ := hw
    have hr9 := hr9.symm
    subst hr9
    have hw9 := hw9.symm
    subst hw9
    exact z_iret (v := (-2)) (ws := mW g o a F L (bump 0 A) ++ X) hE hB hr (⟨F, by unfold readsR askOK; simp only [c_3, Bool.and_false, Bool.false_and, Bool.false_eq_true, if_false], by unfold chk askOK; simp only [c_3, Bool.and_false, Bool.false_and, Bool.false_eq_true, if_false], rfl⟩) dX9_reads_38
  · refine lv_iload_n hE.x hE.b dX9_reads_8 rfl (lv_at hl 2 rfl) ?_
    refine z_qi hB (z_cS hE hB (c_X9_isAct l g ac (mW g o a F L A ++ X)) q4_119 kX9_isAct ⟨rfl, rfl⟩ ⟨Nat.le_of_ble_eq_true rfl, Nat.le_of_ble_eq_true rfl⟩ rfl hl.1 rfl (Nat.le_of_ble_eq_true rfl) dX9_reads_9 ⟨Nat.le_of_ble_eq_true rfl, Nat.le_of_ble_eq_true rfl⟩) (fun r_6 w_7 H locs hw hB => ?_)
    obtain ⟨hr9, hw9⟩ := hw
    have hr9 := hr9.symm
    subst hr9
    have hw9 := hw9.symm
    subst hw9
    refine z_bf (b := (pIn 0 5 ac)) (tgt := 32) hE dX9_reads_12 (by decide) (fun c_8 => ?_) (fun c_8 => ?_)
    · refine lv_aload_n hE.x hE.b dX9_reads_32 rfl (lv_at hl 0 rfl) ?_
      refine lv_bipush (v := (-2)) hE.x hE.b dX9_reads_33 rfl ?_
      refine z_qi hB (z_cV hE hB (c_X9_bad l g o a F L A X (-2)) q4_91 kX9_bad ⟨rfl, rfl⟩ ⟨Nat.le_of_ble_eq_true rfl, Nat.le_of_ble_eq_true rfl⟩ 0 rfl rfl rfl hl.1 rfl (Nat.le_of_ble_eq_true rfl) dX9_reads_35 ⟨Nat.le_of_ble_eq_true rfl, Nat.le_of_ble_eq_true rfl⟩) (fun r_9 w_10 H locs hw hB => ?_)
      obtain ⟨hr9, hw9⟩ := hw
      have hr9 := hr9.symm
      subst hr9
      have hw9 := hw9.symm
      subst hw9
      exact z_iret (v := (-2)) (ws := mW g o a F L (bump 0 A) ++ X) hE hB hr (⟨F, by unfold readsR askOK; simp only [c_3, c_8, Bool.and_false, Bool.false_and, Bool.false_eq_true, if_false], by unfold chk askOK; simp only [c_3, c_8, Bool.and_false, Bool.false_and, Bool.false_eq_true, if_false], rfl⟩) dX9_reads_38
    · refine lv_iload_n hE.x hE.b dX9_reads_15 rfl (lv_at hl 3 rfl) ?_
      refine z_qi hB (z_cS hE hB (c_X9_isDay l g dd (mW g o a F L A ++ X)) q4_170 kX9_isDay ⟨rfl, rfl⟩ ⟨Nat.le_of_ble_eq_true rfl, Nat.le_of_ble_eq_true rfl⟩ rfl hl.1 rfl (Nat.le_of_ble_eq_true rfl) dX9_reads_16 ⟨Nat.le_of_ble_eq_true rfl, Nat.le_of_ble_eq_true rfl⟩) (fun r_11 w_12 H locs hw hB => ?_)
      obtain ⟨hr9, hw9⟩ := hw
      have hr9 := hr9.symm
      subst hr9
      have hw9 := hw9.symm
      subst hw9
      refine z_bf (b := (pIn 0 59 dd)) (tgt := 32) hE dX9_reads_19 (by decide) (fun c_13 => ?_) (fun c_13 => ?_)
      · refine lv_aload_n hE.x hE.b dX9_reads_32 rfl (lv_at hl 0 rfl) ?_
        refine lv_bipush (v := (-2)) hE.x hE.b dX9_reads_33 rfl ?_
        refine z_qi hB (z_cV hE hB (c_X9_bad l g o a F L A X (-2)) q4_91 kX9_bad ⟨rfl, rfl⟩ ⟨Nat.le_of_ble_eq_true rfl, Nat.le_of_ble_eq_true rfl⟩ 0 rfl rfl rfl hl.1 rfl (Nat.le_of_ble_eq_true rfl) dX9_reads_35 ⟨Nat.le_of_ble_eq_true rfl, Nat.le_of_ble_eq_true rfl⟩) (fun r_14 w_15 H locs hw hB => ?_)
        obtain ⟨hr9, hw9⟩ := hw
        have hr9 := hr9.symm
        subst hr9
        have hw9 := hw9.symm
        subst hw9
        exact z_iret (v := (-2)) (ws := mW g o a F L (bump 0 A) ++ X) hE hB hr (⟨F, by unfold readsR askOK; simp only [c_3, c_8, c_13, Bool.and_false, Bool.false_and, Bool.false_eq_true, if_false], by unfold chk askOK; simp only [c_3, c_8, c_13, Bool.and_false, Bool.false_and, Bool.false_eq_true, if_false], rfl⟩) dX9_reads_38
      · refine lv_iload hE.x hE.b dX9_reads_22 (lv_at hl 4 rfl) ?_
        refine lv_iload hE.x hE.b dX9_reads_24 (lv_at hl 5 rfl) ?_
        refine z_qi hB (z_cS hE hB (c_X9_isAsker l g dy sh (mW g o a F L A ++ X)) q4_174 kX9_isAsker ⟨rfl, rfl⟩ ⟨Nat.le_of_ble_eq_true rfl, Nat.le_of_ble_eq_true rfl⟩ rfl hl.1 rfl (Nat.le_of_ble_eq_true rfl) dX9_reads_26 ⟨Nat.le_of_ble_eq_true rfl, Nat.le_of_ble_eq_true rfl⟩) (fun r_16 w_17 H locs hw hB => ?_)
        obtain ⟨hr9, hw9⟩ := hw
        have hr9 := hr9.symm
        subst hr9
        have hw9 := hw9.symm
        subst hw9
        refine z_bt (b := (pIn 0 1 dy && pIn 0 1 sh)) (tgt := 39) hE dX9_reads_29 (by decide) (fun c_18 => ?_) (fun c_18 => ?_)
        · obtain ⟨t, ht, rfl⟩ := pTown_nI c_3 (by omega)
          refine lv_aload_n hE.x hE.b dX9_reads_39 rfl (lv_at hl 0 rfl) ?_
          refine lv_iload_n hE.x hE.b dX9_reads_40 rfl (lv_at hl 1 rfl) ?_
          refine lv_iload_n hE.x hE.b dX9_reads_41 rfl (lv_at hl 2 rfl) ?_
          refine lv_iload_n hE.x hE.b dX9_reads_42 rfl (lv_at hl 3 rfl) ?_
          refine lv_iload hE.x hE.b dX9_reads_43 (lv_at hl 4 rfl) ?_
          refine lv_iload hE.x hE.b dX9_reads_45 (lv_at hl 5 rfl) ?_
          refine lv_iconst (v := nI 0) hE.x hE.b dX9_reads_47 rfl ?_
          refine z_qv hB (z_cV hE hB (c_X9_hear l g o a F L A X C (nI t) ac dd dy sh 0 hC (by omega) (by omega)) q4_181 kX9_hear ⟨rfl, rfl⟩ ⟨Nat.le_of_ble_eq_true rfl, Nat.le_of_ble_eq_true rfl⟩ 0 rfl rfl rfl hl.1 rfl (Nat.le_of_ble_eq_true rfl) dX9_reads_48 ⟨Nat.le_of_ble_eq_true rfl, Nat.le_of_ble_eq_true rfl⟩) (fun w_20 H locs hw hB => ?_)
          obtain ⟨F1_21, hw9, hf_22, hf_23, hf_24, hf_25, hf_26, hf_27, hf_28⟩ := hw
          have hw9 := hw9.symm
          subst hw9
          refine lv_iconst (v := nI 0) hE.x hE.b dX9_reads_51 rfl ?_
          refine lv_istore (lv' := [(6, .int (nI 0)), (0, .ref o), (1, .int (nI t)), (2, .int ac), (3, .int dd), (4, .int dy), (5, .int sh)]) hE.x hE.b dX9_reads_52 hl (by decide) rfl (fun ls hl => ?_)
          refine lv_iconst (v := nI 0) hE.x hE.b dX9_reads_54 rfl ?_
          refine lv_istore (lv' := [(7, .int (nI 0)), (6, .int (nI 0)), (0, .ref o), (1, .int (nI t)), (2, .int ac), (3, .int dd), (4, .int dy), (5, .int sh)]) hE.x hE.b dX9_reads_55 hl (by decide) rfl (fun ls hl => ?_)
          have k57 : ∀ (fu : Nat) (b : Nat) (r : Nat) (H : Heap) (locs : List Loc) (ls : Array Slot), 4 - r < fu → (r ≤ 4) → (b = rdB (fun r => alO (A 0) (decP (A 0) C (nI r) (hP (A 0) 0 (nI t) ac dd dy sh))) r) → zB g s (mW g o a F1_21 L A ++ X) H locs → lv_has ls 9 [(7, .int (nI r)), (6, .int (nI b)), (0, .ref o), (1, .int (nI t)), (2, .int ac), (3, .int dd), (4, .int dy), (5, .int sh)] → W p l e { frames := 4, cells := 0, slots := 0, locals := 101 } s m args below meth c H locs 0 0 (MQ below (zQi g (fun r ws => ∃ (F1 : Nat → Int32), r = (readsR (A 0) T C (nI t) ac dd dy sh) ∧ ws = mW g o a F1 L (chk (askOK T (nI t) ac dd dy sh) A) ++ X ∧ F1 16 = F 16)) args s 0 0 (zA (gz g))) (F0 m 57 ls []) := by
            intro fu
            induction fu with
            | zero => intro b r H locs ls hfu hr4 hb hB hl; exact absurd hfu (Nat.not_lt_zero _)
            | succ fu ih57 =>
              intro b r H locs ls hfu hr4 hb hB hl
              refine lv_iload hE.x hE.b dX9_reads_57 (lv_at hl 0 rfl) ?_
              refine lv_iconst (v := nI 4) hE.x hE.b dX9_reads_59 rfl ?_
              refine z_ge (tgt := 109) (X := ((r : Nat) : Int)) (Y := (4 : Int)) hE dX9_reads_60 (by decide) (nI_toInt (n := r) (by omega)) rfl (fun c_29 => ?_) (fun c_29 => ?_)
              · refine lv_iload hE.x hE.b dX9_reads_109 (lv_at hl 1 rfl) ?_
                exact z_iret (v := (nI b)) (ws := mW g o a F1_21 L A ++ X) hE hB hr (⟨F1_21, by unfold readsR askOK; simp only [c_3, c_8, c_13, c_18, Bool.and_true, if_true]; rw [show r = 4 by omega] at hb; rw [hb], by unfold chk askOK; simp only [c_3, c_8, c_13, c_18, Bool.and_true, if_true], hf_22⟩) dX9_reads_111
              · refine lv_aload_n hE.x hE.b dX9_reads_63 rfl (lv_at hl 2 rfl) ?_
                refine lv_iload hE.x hE.b dX9_reads_64 (lv_at hl 0 rfl) ?_
                refine z_qi hB (z_cV hE hB (c_X9_decides l g o a F1_21 L A X (nI r)) q4_189 kX9_decides ⟨rfl, rfl⟩ ⟨Nat.le_of_ble_eq_true rfl, Nat.le_of_ble_eq_true rfl⟩ 0 rfl rfl rfl hl.1 rfl (Nat.le_of_ble_eq_true rfl) dX9_reads_66 ⟨Nat.le_of_ble_eq_true rfl, Nat.le_of_ble_eq_true rfl⟩) (fun r_30 w_31 H locs hw hB => ?_)
                obtain ⟨hr9, hw9⟩ := hw
                have hr9 := hr9.symm
                subst hr9
                have hw9 := hw9.symm
                subst hw9
                refine z_top (y := (oI (decP (A 0) C (nI r) (hP (A 0) 0 (nI t) ac dd dy sh)))) (dcF_eq hf_23 hf_24 hf_25 hf_26 hf_27 hf_28 (Nat.lt_of_le_of_lt (cn_le _ _) (by omega)) (Nat.lt_of_le_of_lt (cn_le _ _) (by omega)) (hF_32 hC8)) ?_
                refine lv_istore (lv' := [(8, .int (oI (decP (A 0) C (nI r) (hP (A 0) 0 (nI t) ac dd dy sh)))), (7, .int (nI r)), (6, .int (nI b)), (0, .ref o), (1, .int (nI t)), (2, .int ac), (3, .int dd), (4, .int dy), (5, .int sh)]) hE.x hE.b dX9_reads_69 hl (by decide) rfl (fun ls hl => ?_)
                refine lv_iload hE.x hE.b dX9_reads_71 (lv_at hl 2 rfl) ?_
                refine lv_iload hE.x hE.b dX9_reads_73 (lv_at hl 0 rfl) ?_
                refine lv_iconst (v := (-1)) hE.x hE.b dX9_reads_75 rfl ?_
                refine lv_icmp_eq (tgt := 92) hE.x hE.b dX9_reads_76 (by decide) (fun c_32 => ?_) (fun c_32 => ?_)
                · refine lv_iconst (v := nI 1) hE.x hE.b dX9_reads_92 rfl ?_
                  refine lv_iload hE.x hE.b dX9_reads_93 (lv_at hl 1 rfl) ?_
                  refine lv_ishl hE.x hE.b dX9_reads_95 ?_
                  refine z_top (y := (nI (2 ^ r))) (shl_8 r (by omega)) ?_
                  refine lv_goto (tgt := 100) hE.x hE.b dX9_reads_96 (by decide) ?_
                  refine lv_ior hE.x hE.b dX9_reads_100 ?_
                  refine z_top (y := (nI (b ||| (2 ^ r)))) (or_nI _ _) ?_
                  refine lv_istore (lv' := [(6, .int (nI (b ||| (2 ^ r)))), (8, .int (oI (decP (A 0) C (nI r) (hP (A 0) 0 (nI t) ac dd dy sh)))), (7, .int (nI r)), (0, .ref o), (1, .int (nI t)), (2, .int ac), (3, .int dd), (4, .int dy), (5, .int sh)]) hE.x hE.b dX9_reads_101 hl (by decide) rfl (fun ls hl => ?_)
                  refine lv_iinc (v := (nI (r + 1))) (lv' := [(7, .int (nI (r + 1))), (6, .int (nI (b ||| (2 ^ r)))), (8, .int (oI (decP (A 0) C (nI r) (hP (A 0) 0 (nI t) ac dd dy sh)))), (0, .ref o), (1, .int (nI t)), (2, .int ac), (3, .int dd), (4, .int dy), (5, .int sh)]) hE.x hE.b dX9_reads_103 hl (k := 2) rfl (nI_add _ _) (by decide) rfl (fun ls hl => ?_)
                  refine lv_goto (tgt := 57) hE.x hE.b dX9_reads_106 (by decide) ?_
                  exact ih57 (b ||| (2 ^ r)) (r + 1) _ _ _ (by omega) (by omega) (rdB_y hb (by show alO _ _ = true; rw [oI_none c_32 (fun k h => by have := decP_lt h; omega)]; rfl)) hB (lv_sub hl [0, 1, 3, 4, 5, 6, 7, 8] rfl)
                · obtain ⟨q, hq⟩ := oI_some c_32
                  have hq8 := decP_lt hq
                  rw [hq] at hl
                  have hl : lv_has ls 9 [(8, .int (nI q)), (7, .int (nI r)), (6, .int (nI b)), (0, .ref o), (1, .int (nI t)), (2, .int ac), (3, .int dd), (4, .int dy), (5, .int sh)] := hl
                  refine lv_aload_n hE.x hE.b dX9_reads_79 rfl (lv_at hl 3 rfl) ?_
                  refine lv_iload hE.x hE.b dX9_reads_80 (lv_at hl 0 rfl) ?_
                  refine lv_iconst (v := nI 0) hE.x hE.b dX9_reads_82 rfl ?_
                  refine z_qi hB (z_cV hE hB (c_X9_has l g o a F1_21 L A X q 0 (by omega) (by omega)) q4_155 kX9_has ⟨rfl, rfl⟩ ⟨Nat.le_of_ble_eq_true rfl, Nat.le_of_ble_eq_true rfl⟩ 0 rfl rfl rfl hl.1 rfl (Nat.le_of_ble_eq_true rfl) dX9_reads_83 ⟨Nat.le_of_ble_eq_true rfl, Nat.le_of_ble_eq_true rfl⟩) (fun r_33 w_34 H locs hw hB => ?_)
                  obtain ⟨hr9, hw9⟩ := hw
                  have hr9 := hr9.symm
                  subst hr9
                  have hw9 := hw9.symm
                  subst hw9
                  refine z_qi hB (z_cS hE hB (c_X9_allows l g (A 0 (46 + 5 * q + 0)) (mW g o a F1_21 L A ++ X)) q4_159 kX9_allows ⟨rfl, rfl⟩ ⟨Nat.le_of_ble_eq_true rfl, Nat.le_of_ble_eq_true rfl⟩ rfl hl.1 rfl (Nat.le_of_ble_eq_true rfl) dX9_reads_86 ⟨Nat.le_of_ble_eq_true rfl, Nat.le_of_ble_eq_true rfl⟩) (fun r_35 w_36 H locs hw hB => ?_)
                  obtain ⟨hr9, hw9⟩ := hw
                  have hr9 := hr9.symm
                  subst hr9
                  have hw9 := hw9.symm
                  subst hw9
                  refine z_bf (b := (alw (A 0 (46 + 5 * q + 0)))) (tgt := 99) hE dX9_reads_89 (by decide) (fun c_37 => ?_) (fun c_37 => ?_)
                  · refine lv_iconst (v := nI 0) hE.x hE.b dX9_reads_99 rfl ?_
                    refine lv_ior hE.x hE.b dX9_reads_100 ?_
                    refine z_top (y := (nI (b ||| 0))) (or_nI _ _) ?_
                    refine lv_istore (lv' := [(6, .int (nI (b ||| 0))), (8, .int (nI q)), (7, .int (nI r)), (0, .ref o), (1, .int (nI t)), (2, .int ac), (3, .int dd), (4, .int dy), (5, .int sh)]) hE.x hE.b dX9_reads_101 hl (by decide) rfl (fun ls hl => ?_)
                    refine lv_iinc (v := (nI (r + 1))) (lv' := [(7, .int (nI (r + 1))), (6, .int (nI (b ||| 0))), (8, .int (nI q)), (0, .ref o), (1, .int (nI t)), (2, .int ac), (3, .int dd), (4, .int dy), (5, .int sh)]) hE.x hE.b dX9_reads_103 hl (k := 2) rfl (nI_add _ _) (by decide) rfl (fun ls hl => ?_)
                    refine lv_goto (tgt := 57) hE.x hE.b dX9_reads_106 (by decide) ?_
                    exact ih57 (b ||| 0) (r + 1) _ _ _ (by omega) (by omega) (rdB_n hb (by show ¬ alO _ _ = true; rw [hq]; show ¬ alw _ = true; rw [c_37]; decide)) hB (lv_sub hl [0, 1, 3, 4, 5, 6, 7, 8] rfl)
                  · refine lv_iconst (v := nI 1) hE.x hE.b dX9_reads_92 rfl ?_
                    refine lv_iload hE.x hE.b dX9_reads_93 (lv_at hl 1 rfl) ?_
                    refine lv_ishl hE.x hE.b dX9_reads_95 ?_
                    refine z_top (y := (nI (2 ^ r))) (shl_8 r (by omega)) ?_
                    refine lv_goto (tgt := 100) hE.x hE.b dX9_reads_96 (by decide) ?_
                    refine lv_ior hE.x hE.b dX9_reads_100 ?_
                    refine z_top (y := (nI (b ||| (2 ^ r)))) (or_nI _ _) ?_
                    refine lv_istore (lv' := [(6, .int (nI (b ||| (2 ^ r)))), (8, .int (nI q)), (7, .int (nI r)), (0, .ref o), (1, .int (nI t)), (2, .int ac), (3, .int dd), (4, .int dy), (5, .int sh)]) hE.x hE.b dX9_reads_101 hl (by decide) rfl (fun ls hl => ?_)
                    refine lv_iinc (v := (nI (r + 1))) (lv' := [(7, .int (nI (r + 1))), (6, .int (nI (b ||| (2 ^ r)))), (8, .int (nI q)), (0, .ref o), (1, .int (nI t)), (2, .int ac), (3, .int dd), (4, .int dy), (5, .int sh)]) hE.x hE.b dX9_reads_103 hl (k := 2) rfl (nI_add _ _) (by decide) rfl (fun ls hl => ?_)
                    refine lv_goto (tgt := 57) hE.x hE.b dX9_reads_106 (by decide) ?_
                    exact ih57 (b ||| (2 ^ r)) (r + 1) _ _ _ (by omega) (by omega) (rdB_y hb (by show alO _ _ = true; rw [hq]; exact c_37)) hB (lv_sub hl [0, 1, 3, 4, 5, 6, 7, 8] rfl)
          exact k57 (4 - 0 + 1) 0 0 _ _ _ (Nat.lt_succ_self _) (by omega) rfl hB hl
        · refine lv_aload_n hE.x hE.b dX9_reads_32 rfl (lv_at hl 0 rfl) ?_
          refine lv_bipush (v := (-2)) hE.x hE.b dX9_reads_33 rfl ?_
          refine z_qi hB (z_cV hE hB (c_X9_bad l g o a F L A X (-2)) q4_91 kX9_bad ⟨rfl, rfl⟩ ⟨Nat.le_of_ble_eq_true rfl, Nat.le_of_ble_eq_true rfl⟩ 0 rfl rfl rfl hl.1 rfl (Nat.le_of_ble_eq_true rfl) dX9_reads_35 ⟨Nat.le_of_ble_eq_true rfl, Nat.le_of_ble_eq_true rfl⟩) (fun r_38 w_39 H locs hw hB => ?_)
          obtain ⟨hr9, hw9⟩ := hw
          have hr9 := hr9.symm
          subst hr9
          have hw9 := hw9.symm
          subst hw9
          exact z_iret (v := (-2)) (ws := mW g o a F L (bump 0 A) ++ X) hE hB hr (⟨F, by unfold readsR askOK; simp only [c_3, c_8, c_13, c_18, Bool.and_false, Bool.false_and, Bool.false_eq_true, if_false], by unfold chk askOK; simp only [c_3, c_8, c_13, c_18, Bool.and_false, Bool.false_and, Bool.false_eq_true, if_false], rfl⟩) dX9_reads_38

set_option maxHeartbeats 4000000 in
set_option maxRecDepth 100000 in
theorem c_X9_forbidsSome (l : Launch) (g : zG) (o : Nat) (a : Nat → Nat) (F : Nat → Int32) (L : Nat → Int64) (A : Nat → Nat → Int32) (X : va_W) (C : Nat) (t : Nat) (ac : Nat) (dd : Int32) (S : Nat) (hC : A 0 1 = nI C) (hC8 : C ≤ 8) (ht : t < 6) (hac : ac < 64) (hS : S < 256) : Met l yX9_forbidsSome (Cond.code yX9_forbidsSome cX9_forbidsSome 7 (some .boolean) :: TBL) { frames := 6, cells := 0, slots := 0, locals := 154 } (zPc [.ref o, .int (nI t), .int (nI ac), .int dd, .int (nI S)] g (mW g o a F L A ++ X)) (zQi g (fun r ws => ∃ (F1 : Nat → Int32), r = bI (fbB (acAl (A 0) C dd S) ac t) ∧ ws = mW g o a F1 L A ++ X ∧ F1 16 = F 16)) 0 0 (zA (gz g)) := by
  refine z_start (by decide +kernel) rfl (Nat.le_of_ble_eq_true rfl) ?_
  intro p e s m args below meth c ls hE hr hnm hB hl
  have hl : lv_has ls 7 [(0, .ref o), (1, .int (nI t)), (2, .int (nI ac)), (3, .int dd), (4, .int (nI S))] := hl
  revert hB
  generalize s.heap = H
  generalize ([] : List Loc) = locs
  intro hB
  have h16 : F 16 = F 16 := rfl
  refine lv_iconst (v := nI 0) hE.x hE.b dX9_forbidsSome_0 rfl ?_
  refine lv_istore (lv' := [(5, .int (nI 0)), (0, .ref o), (1, .int (nI t)), (2, .int (nI ac)), (3, .int dd), (4, .int (nI S))]) hE.x hE.b dX9_forbidsSome_1 hl (by decide) rfl (fun ls hl => ?_)
  refine lv_iconst (v := nI 0) hE.x hE.b dX9_forbidsSome_3 rfl ?_
  refine lv_istore (lv' := [(6, .int (nI 0)), (5, .int (nI 0)), (0, .ref o), (1, .int (nI t)), (2, .int (nI ac)), (3, .int dd), (4, .int (nI S))]) hE.x hE.b dX9_forbidsSome_4 hl (by decide) rfl (fun ls hl => ?_)
  have k6 : ∀ (fu : Nat) (act : Nat) (f : Bool) (F1 : Nat → Int32) (H : Heap) (locs : List Loc) (ls : Array Slot), 6 - act < fu → (act ≤ 6) → (F1 16 = F 16) → (f = true ↔ fbP (acAl (A 0) C dd S) ac t act) → zB g s (mW g o a F1 L A ++ X) H locs → lv_has ls 7 [(6, .int (nI act)), (5, .int (bI f)), (0, .ref o), (1, .int (nI t)), (2, .int (nI ac)), (3, .int dd), (4, .int (nI S))] → W p l e { frames := 6, cells := 0, slots := 0, locals := 154 } s m args below meth c H locs 0 0 (MQ below (zQi g (fun r ws => ∃ (F1 : Nat → Int32), r = bI (fbB (acAl (A 0) C dd S) ac t) ∧ ws = mW g o a F1 L A ++ X ∧ F1 16 = F 16)) args s 0 0 (zA (gz g))) (F0 m 6 ls []) := by
    intro fu
    induction fu with
    | zero => intro act f F1 H locs ls hfu hact h16 hf hB hl; exact absurd hfu (Nat.not_lt_zero _)
    | succ fu ih6 =>
      intro act f F1 H locs ls hfu hact h16 hf hB hl
      refine lv_iload hE.x hE.b dX9_forbidsSome_6 (lv_at hl 0 rfl) ?_
      refine lv_bipush (v := (nI 6)) hE.x hE.b dX9_forbidsSome_8 rfl ?_
      refine z_ge (tgt := 56) (X := ((act : Nat) : Int)) (Y := (6 : Int)) hE dX9_forbidsSome_10 (by decide) (nI_toInt (n := act) (by omega)) rfl (fun c_1 => ?_) (fun c_1 => ?_)
      · refine lv_iload hE.x hE.b dX9_forbidsSome_56 (lv_at hl 1 rfl) ?_
        exact z_bret (b := f) (ws := mW g o a F1 L A ++ X) hE hB hr (⟨F1, congrArg bI (fb_out hf hact (Or.inl (by omega))), rfl, h16⟩) dX9_forbidsSome_58
      · refine lv_iload hE.x hE.b dX9_forbidsSome_13 (lv_at hl 1 rfl) ?_
        refine z_bt (b := f) (tgt := 56) hE dX9_forbidsSome_15 (by decide) (fun c_2 => ?_) (fun c_2 => ?_)
        · refine lv_iload hE.x hE.b dX9_forbidsSome_56 (lv_at hl 1 rfl) ?_
          exact z_bret (b := f) (ws := mW g o a F1 L A ++ X) hE hB hr (⟨F1, congrArg bI (fb_out hf hact (Or.inr c_2)), rfl, h16⟩) dX9_forbidsSome_58
        · refine lv_iload_n hE.x hE.b dX9_forbidsSome_18 rfl (lv_at hl 4 rfl) ?_
          refine lv_iload hE.x hE.b dX9_forbidsSome_19 (lv_at hl 0 rfl) ?_
          refine lv_ishr hE.x hE.b dX9_forbidsSome_21 ?_
          refine z_top (y := (nI (ac / 2 ^ act))) (shr_nI (by omega) (by omega)) ?_
          refine lv_iconst (v := nI 1) hE.x hE.b dX9_forbidsSome_22 rfl ?_
          refine lv_iand hE.x hE.b dX9_forbidsSome_23 ?_
          refine z_top (y := (nI (ac / 2 ^ act % 2))) (and1_nI (by have := Nat.div_le_self ac (2 ^ act); omega)) ?_
          have hb2 : ac / 2 ^ act % 2 < 2 := Nat.mod_lt _ (by omega)
          refine lv_iconst (v := nI 1) hE.x hE.b dX9_forbidsSome_24 rfl ?_
          refine z_ne (tgt := 47) (X := (((ac / 2 ^ act % 2) : Nat) : Int)) (Y := (1 : Int)) hE dX9_forbidsSome_25 (by decide) (nI_toInt (n := (ac / 2 ^ act % 2)) (by omega)) rfl (fun c_3 => ?_) (fun c_3 => ?_)
          · refine lv_iconst (v := nI 0) hE.x hE.b dX9_forbidsSome_47 rfl ?_
            refine lv_istore (lv' := [(5, .int (nI 0)), (6, .int (nI act)), (0, .ref o), (1, .int (nI t)), (2, .int (nI ac)), (3, .int dd), (4, .int (nI S))]) hE.x hE.b dX9_forbidsSome_48 hl (by decide) rfl (fun ls hl => ?_)
            refine lv_iinc (v := (nI (act + 1))) (lv' := [(6, .int (nI (act + 1))), (5, .int (nI 0)), (0, .ref o), (1, .int (nI t)), (2, .int (nI ac)), (3, .int dd), (4, .int (nI S))]) hE.x hE.b dX9_forbidsSome_50 hl (k := 1) rfl (nI_add _ _) (by decide) rfl (fun ls hl => ?_)
            refine lv_goto (tgt := 6) hE.x hE.b dX9_forbidsSome_53 (by decide) ?_
            exact ih6 (act + 1) false F1 _ _ _ (by omega) (by omega) h16 (fb_st hf c_2 ⟨fun h => (by cases h), fun h => absurd h.1 (by omega)⟩) hB hl
          · refine lv_aload_n hE.x hE.b dX9_forbidsSome_28 rfl (lv_at hl 2 rfl) ?_
            refine lv_iload_n hE.x hE.b dX9_forbidsSome_29 rfl (lv_at hl 3 rfl) ?_
            refine lv_iload hE.x hE.b dX9_forbidsSome_30 (lv_at hl 0 rfl) ?_
            refine lv_iload_n hE.x hE.b dX9_forbidsSome_32 rfl (lv_at hl 5 rfl) ?_
            refine lv_iconst (v := nI 0) hE.x hE.b dX9_forbidsSome_33 rfl ?_
            refine lv_iconst (v := nI 0) hE.x hE.b dX9_forbidsSome_34 rfl ?_
            refine lv_iload hE.x hE.b dX9_forbidsSome_35 (lv_at hl 6 rfl) ?_
            refine z_qi hB (z_cV hE hB (c_X9_isAllowed l g o a F1 L A X C t (nI act) dd (nI 0) (nI 0) S hC (by omega) (by omega) (by omega)) q4_207 kX9_isAllowed ⟨rfl, rfl⟩ ⟨Nat.le_of_ble_eq_true rfl, Nat.le_of_ble_eq_true rfl⟩ 0 rfl rfl rfl hl.1 rfl (Nat.le_of_ble_eq_true rfl) dX9_forbidsSome_37 ⟨Nat.le_of_ble_eq_true rfl, Nat.le_of_ble_eq_true rfl⟩) (fun r_4 w_5 H locs hw hB => ?_)
            obtain ⟨F1_6, hr9, hw9, hf_7⟩ := hw
            have hr9 := hr9.symm
            subst hr9
            have hw9 := hw9.symm
            subst hw9
            have h16 := hf_7.trans h16
            refine z_bt (b := (isA (A 0) C t (nI act) dd (nI 0) (nI 0) S)) (tgt := 47) hE dX9_forbidsSome_40 (by decide) (fun c_8 => ?_) (fun c_8 => ?_)
            · refine lv_iconst (v := nI 0) hE.x hE.b dX9_forbidsSome_47 rfl ?_
              refine lv_istore (lv' := [(5, .int (nI 0)), (6, .int (nI act)), (0, .ref o), (1, .int (nI t)), (2, .int (nI ac)), (3, .int dd), (4, .int (nI S))]) hE.x hE.b dX9_forbidsSome_48 hl (by decide) rfl (fun ls hl => ?_)
              refine lv_iinc (v := (nI (act + 1))) (lv' := [(6, .int (nI (act + 1))), (5, .int (nI 0)), (0, .ref o), (1, .int (nI t)), (2, .int (nI ac)), (3, .int dd), (4, .int (nI S))]) hE.x hE.b dX9_forbidsSome_50 hl (k := 1) rfl (nI_add _ _) (by decide) rfl (fun ls hl => ?_)
              refine lv_goto (tgt := 6) hE.x hE.b dX9_forbidsSome_53 (by decide) ?_
              exact ih6 (act + 1) false F1_6 _ _ _ (by omega) (by omega) h16 (fb_st hf c_2 ⟨fun h => (by cases h), fun h => (by rw [show (acAl (A 0) C dd S) act t = true from c_8] at h; exact absurd h.2 (by decide))⟩) hB hl
            · refine lv_iconst (v := nI 1) hE.x hE.b dX9_forbidsSome_43 rfl ?_
              refine lv_goto (tgt := 48) hE.x hE.b dX9_forbidsSome_44 (by decide) ?_
              refine lv_istore (lv' := [(5, .int (nI 1)), (6, .int (nI act)), (0, .ref o), (1, .int (nI t)), (2, .int (nI ac)), (3, .int dd), (4, .int (nI S))]) hE.x hE.b dX9_forbidsSome_48 hl (by decide) rfl (fun ls hl => ?_)
              refine lv_iinc (v := (nI (act + 1))) (lv' := [(6, .int (nI (act + 1))), (5, .int (nI 1)), (0, .ref o), (1, .int (nI t)), (2, .int (nI ac)), (3, .int dd), (4, .int (nI S))]) hE.x hE.b dX9_forbidsSome_50 hl (k := 1) rfl (nI_add _ _) (by decide) rfl (fun ls hl => ?_)
              refine lv_goto (tgt := 6) hE.x hE.b dX9_forbidsSome_53 (by decide) ?_
              exact ih6 (act + 1) true F1_6 _ _ _ (by omega) (by omega) h16 (fb_st hf c_2 ⟨fun _ => ⟨by omega, c_8⟩, fun _ => rfl⟩) hB hl
  exact k6 (6 - 0 + 1) 0 false F _ _ _ (Nat.lt_succ_self _) (by omega) h16 fbP_0 hB hl

set_option maxHeartbeats 4000000 in
set_option maxRecDepth 100000 in
theorem c_X9_givesIn (l : Launch) (g : zG) (o : Nat) (a : Nat → Nat) (F : Nat → Int32) (L : Nat → Int64) (A : Nat → Nat → Int32) (X : va_W) (C : Nat) (T : Nat) (k : Nat) (pp : Nat) (ac : Nat) (S : Nat) (hT : A 0 0 = nI T) (hT6 : T ≤ 6) (hC : A 0 1 = nI C) (hC8 : C ≤ 8) (hk : k ≤ 99) (hp : pp ≤ 99) (hac : ac < 64) (hS : S < 256) : Met l yX9_givesIn (Cond.code yX9_givesIn cX9_givesIn 10 (some .int) :: TBL) { frames := 7, cells := 0, slots := 0, locals := 180 } (zPc [.ref o, .int (nI k), .int (nI pp), .int (nI ac), .int (nI S)] g (mW g o a F L A ++ X)) (zQi g (fun r ws => ∃ (F1 : Nat → Int32), r = (oI (gD1 (giR (A 0) T C k pp ac S))) ∧ ws = mW g o a F1 L A ++ X ∧ F1 16 = F 16 ∧ F1 13 = oI (gW1 (giR (A 0) T C k pp ac S)))) 0 0 (zA (gz g)) := by
  refine z_start (by decide +kernel) rfl (Nat.le_of_ble_eq_true rfl) ?_
  intro p e s m args below meth c ls hE hr hnm hB hl
  have hl : lv_has ls 10 [(0, .ref o), (1, .int (nI k)), (2, .int (nI pp)), (3, .int (nI ac)), (4, .int (nI S))] := hl
  revert hB
  generalize s.heap = H
  generalize ([] : List Loc) = locs
  intro hB
  have h16 : F 16 = F 16 := rfl
  refine lv_iload_n hE.x hE.b dX9_givesIn_0 rfl (lv_at hl 1 rfl) ?_
  refine lv_istore (lv' := [(5, .int (nI k)), (0, .ref o), (1, .int (nI k)), (2, .int (nI pp)), (3, .int (nI ac)), (4, .int (nI S))]) hE.x hE.b dX9_givesIn_1 hl (by decide) rfl (fun ls hl => ?_)
  refine lv_iload_n hE.x hE.b dX9_givesIn_3 rfl (lv_at hl 3 rfl) ?_
  refine lv_istore (lv' := [(6, .int (nI pp)), (5, .int (nI k)), (0, .ref o), (1, .int (nI k)), (2, .int (nI pp)), (3, .int (nI ac)), (4, .int (nI S))]) hE.x hE.b dX9_givesIn_4 hl (by decide) rfl (fun ls hl => ?_)
  refine lv_iconst (v := nI 0) hE.x hE.b dX9_givesIn_6 rfl ?_
  refine lv_istore (lv' := [(7, .int (nI 0)), (6, .int (nI pp)), (5, .int (nI k)), (0, .ref o), (1, .int (nI k)), (2, .int (nI pp)), (3, .int (nI ac)), (4, .int (nI S))]) hE.x hE.b dX9_givesIn_7 hl (by decide) rfl (fun ls hl => ?_)
  have k9 : ∀ (fu : Nat) (d : Nat) (kI : Int32) (pI : Int32) (K : Int) (P : Int) (F1 : Nat → Int32) (H : Heap) (locs : List Loc) (ls : Array Slot), 60 - d < fu → (d ≤ 60) → (F1 16 = F 16) → (kI.toInt = K) → (pI.toInt = P) → (-(6 * (d : Int)) ≤ K ∧ K ≤ 99) → (-(6 * (d : Int)) ≤ P ∧ P ≤ 99) → (giR (A 0) T C k pp ac S = giv (prsD (A 0) T C ac S) T (60 - d) d K P) → zB g s (mW g o a F1 L A ++ X) H locs → lv_has ls 10 [(7, .int (nI d)), (6, .int pI), (5, .int kI), (0, .ref o), (1, .int (nI k)), (2, .int (nI pp)), (3, .int (nI ac)), (4, .int (nI S))] → W p l e { frames := 7, cells := 0, slots := 0, locals := 180 } s m args below meth c H locs 0 0 (MQ below (zQi g (fun r ws => ∃ (F1 : Nat → Int32), r = (oI (gD1 (giR (A 0) T C k pp ac S))) ∧ ws = mW g o a F1 L A ++ X ∧ F1 16 = F 16 ∧ F1 13 = oI (gW1 (giR (A 0) T C k pp ac S)))) args s 0 0 (zA (gz g))) (F0 m 9 ls []) := by
    intro fu
    induction fu with
    | zero => intro d kI pI K P F1 H locs ls hfu hd h16 hK hP hKb hPb hg hB hl; exact absurd hfu (Nat.not_lt_zero _)
    | succ fu ih9 =>
      intro d kI pI K P F1 H locs ls hfu hd h16 hK hP hKb hPb hg hB hl
      refine lv_iload hE.x hE.b dX9_givesIn_9 (lv_at hl 0 rfl) ?_
      refine lv_bipush (v := (nI 60)) hE.x hE.b dX9_givesIn_11 rfl ?_
      refine z_ge (tgt := 119) (X := ((d : Nat) : Int)) (Y := (60 : Int)) hE dX9_givesIn_13 (by decide) (nI_toInt (n := d) (by omega)) rfl (fun c_1 => ?_) (fun c_1 => ?_)
      · refine lv_aload_n hE.x hE.b dX9_givesIn_119 rfl (lv_at hl 3 rfl) ?_
        refine lv_iconst (v := (-1)) hE.x hE.b dX9_givesIn_120 rfl ?_
        refine z_put (v := .int (-1)) (ty := .int) (ws' := mW g o a (upd F1 13 (-1)) L A ++ X) hE hB inX9 tyX9 tyX9_ok nmX9 0 rfl rfl 13 (by decide) q4_14 (fun _ h9 => h9) rfl (by decide +kernel) rfl rfl (Nat.le_of_ble_eq_true rfl) rfl dX9_givesIn_121 (fun H locs hB => ?_)
        refine lv_iconst (v := (-1)) hE.x hE.b dX9_givesIn_124 rfl ?_
        exact z_iret (v := (-1)) (ws := mW g o a (upd F1 13 (-1)) L A ++ X) hE hB hr (⟨(upd F1 13 (-1)), by rw [hg, show 60 - d = 0 by omega]; rfl, rfl, h16, by rw [hg, show 60 - d = 0 by omega]; rfl⟩) dX9_givesIn_125
      · refine lv_iconst (v := nI 0) hE.x hE.b dX9_givesIn_16 rfl ?_
        refine lv_istore (lv' := [(8, .int (nI 0)), (7, .int (nI d)), (6, .int pI), (5, .int kI), (0, .ref o), (1, .int (nI k)), (2, .int (nI pp)), (3, .int (nI ac)), (4, .int (nI S))]) hE.x hE.b dX9_givesIn_17 hl (by decide) rfl (fun ls hl => ?_)
        have k19 : ∀ (fu : Nat) (t : Nat) (kI : Int32) (pI : Int32) (F1 : Nat → Int32) (H : Heap) (locs : List Loc) (ls : Array Slot), T - t < fu → (t ≤ T) → (F1 16 = F 16) → (kI.toInt = K - (cn (fun t => fbB (acAl (A 0) C (nI d) S) ac t) t : Nat)) → (pI.toInt = P - (t - cn (fun t => fbB (acAl (A 0) C (nI d) S) ac t) t : Nat)) → zB g s (mW g o a F1 L A ++ X) H locs → lv_has ls 10 [(8, .int (nI t)), (7, .int (nI d)), (6, .int pI), (5, .int kI), (0, .ref o), (1, .int (nI k)), (2, .int (nI pp)), (3, .int (nI ac)), (4, .int (nI S))] → W p l e { frames := 7, cells := 0, slots := 0, locals := 180 } s m args below meth c H locs 0 0 (MQ below (zQi g (fun r ws => ∃ (F1 : Nat → Int32), r = (oI (gD1 (giR (A 0) T C k pp ac S))) ∧ ws = mW g o a F1 L A ++ X ∧ F1 16 = F 16 ∧ F1 13 = oI (gW1 (giR (A 0) T C k pp ac S)))) args s 0 0 (zA (gz g))) (F0 m 19 ls []) := by
          intro fu
          induction fu with
          | zero => intro t kI pI F1 H locs ls hfu ht h16 hK hP hB hl; exact absurd hfu (Nat.not_lt_zero _)
          | succ fu ih19 =>
            intro t kI pI F1 H locs ls hfu ht h16 hK hP hB hl
            refine lv_iload hE.x hE.b dX9_givesIn_19 (lv_at hl 0 rfl) ?_
            refine lv_aload_n hE.x hE.b dX9_givesIn_21 rfl (lv_at hl 4 rfl) ?_
            refine z_qi hB (z_cV hE hB (c_X9_towns l g o a F1 L A X T hT) q4_76 kX9_towns ⟨rfl, rfl⟩ ⟨Nat.le_of_ble_eq_true rfl, Nat.le_of_ble_eq_true rfl⟩ 0 rfl rfl rfl hl.1 rfl (Nat.le_of_ble_eq_true rfl) dX9_givesIn_22 ⟨Nat.le_of_ble_eq_true rfl, Nat.le_of_ble_eq_true rfl⟩) (fun r_2 w_3 H locs hw hB => ?_)
            obtain ⟨hr9, hw9⟩ := hw
            have hr9 := hr9.symm
            subst hr9
            have hw9 := hw9.symm
            subst hw9
            refine z_ge (tgt := 77) (X := ((t : Nat) : Int)) (Y := ((T : Nat) : Int)) hE dX9_givesIn_25 (by decide) (nI_toInt (n := t) (by omega)) (nI_toInt (n := T) (by omega)) (fun c_4 => ?_) (fun c_4 => ?_)
            · refine lv_iload hE.x hE.b dX9_givesIn_77 (lv_at hl 3 rfl) ?_
              have hcT := cn_le (fun t => fbB (acAl (A 0) C (nI d) S) ac t) T
              have e1 : ((prsD (A 0) T C ac S) d) = cn (fun t => fbB (acAl (A 0) C (nI d) S) ac t) T := rfl
              have htT : t = T := by omega
              rw [htT, ← e1] at hK hP
              rw [← e1] at hcT
              refine z_le0 (tgt := 87) (X := kI.toInt) hE dX9_givesIn_79 (by decide) rfl (fun c_5 => ?_) (fun c_5 => ?_)
              · refine lv_aload_n hE.x hE.b dX9_givesIn_87 rfl (lv_at hl 4 rfl) ?_
                refine lv_iload hE.x hE.b dX9_givesIn_88 (lv_at hl 3 rfl) ?_
                refine z_le0 (tgt := 97) (X := kI.toInt) hE dX9_givesIn_90 (by decide) rfl (fun c_6 => ?_) (fun c_6 => ?_)
                · refine lv_iload hE.x hE.b dX9_givesIn_97 (lv_at hl 2 rfl) ?_
                  refine z_le0 (tgt := 106) (X := pI.toInt) hE dX9_givesIn_99 (by decide) rfl (fun c_7 => ?_) (fun c_7 => ?_)
                  · refine lv_iconst (v := nI 2) hE.x hE.b dX9_givesIn_106 rfl ?_
                    refine z_put (v := .int (nI 2)) (ty := .int) (ws' := mW g o a (upd F1 13 (nI 2)) L A ++ X) hE hB inX9 tyX9 tyX9_ok nmX9 0 rfl rfl 13 (by decide) q4_14 (fun _ h9 => h9) rfl (by decide +kernel) rfl rfl (Nat.le_of_ble_eq_true rfl) rfl dX9_givesIn_107 (fun H locs hB => ?_)
                    refine lv_iload hE.x hE.b dX9_givesIn_110 (lv_at hl 1 rfl) ?_
                    exact z_iret (v := (nI d)) (ws := mW g o a (upd F1 13 (nI 2)) L A ++ X) hE hB hr (⟨(upd F1 13 (nI 2)), by rw [hg, giv_yes (w := 2) (by omega) (by omega) (by rw [if_neg (by omega), if_neg (by omega)])]; rfl, rfl, h16, by rw [hg, giv_yes (w := 2) (by omega) (by omega) (by rw [if_neg (by omega), if_neg (by omega)])]; rfl⟩) dX9_givesIn_112
                  · refine lv_iconst (v := nI 0) hE.x hE.b dX9_givesIn_102 rfl ?_
                    refine lv_goto (tgt := 107) hE.x hE.b dX9_givesIn_103 (by decide) ?_
                    refine z_put (v := .int (nI 0)) (ty := .int) (ws' := mW g o a (upd F1 13 (nI 0)) L A ++ X) hE hB inX9 tyX9 tyX9_ok nmX9 0 rfl rfl 13 (by decide) q4_14 (fun _ h9 => h9) rfl (by decide +kernel) rfl rfl (Nat.le_of_ble_eq_true rfl) rfl dX9_givesIn_107 (fun H locs hB => ?_)
                    refine lv_iload hE.x hE.b dX9_givesIn_110 (lv_at hl 1 rfl) ?_
                    exact z_iret (v := (nI d)) (ws := mW g o a (upd F1 13 (nI 0)) L A ++ X) hE hB hr (⟨(upd F1 13 (nI 0)), by rw [hg, giv_yes (w := 0) (by omega) (by omega) (by rw [if_neg (by omega), if_pos (by omega)])]; rfl, rfl, h16, by rw [hg, giv_yes (w := 0) (by omega) (by omega) (by rw [if_neg (by omega), if_pos (by omega)])]; rfl⟩) dX9_givesIn_112
                · refine lv_iconst (v := nI 1) hE.x hE.b dX9_givesIn_93 rfl ?_
                  refine lv_goto (tgt := 107) hE.x hE.b dX9_givesIn_94 (by decide) ?_
                  refine z_put (v := .int (nI 1)) (ty := .int) (ws' := mW g o a (upd F1 13 (nI 1)) L A ++ X) hE hB inX9 tyX9 tyX9_ok nmX9 0 rfl rfl 13 (by decide) q4_14 (fun _ h9 => h9) rfl (by decide +kernel) rfl rfl (Nat.le_of_ble_eq_true rfl) rfl dX9_givesIn_107 (fun H locs hB => ?_)
                  refine lv_iload hE.x hE.b dX9_givesIn_110 (lv_at hl 1 rfl) ?_
                  exact z_iret (v := (nI d)) (ws := mW g o a (upd F1 13 (nI 1)) L A ++ X) hE hB hr (⟨(upd F1 13 (nI 1)), by rw [hg, giv_yes (w := 1) (by omega) (by omega) (by rw [if_pos (by omega)])]; rfl, rfl, h16, by rw [hg, giv_yes (w := 1) (by omega) (by omega) (by rw [if_pos (by omega)])]; rfl⟩) dX9_givesIn_112
              · refine lv_iload hE.x hE.b dX9_givesIn_82 (lv_at hl 2 rfl) ?_
                refine z_gt0 (tgt := 113) (X := pI.toInt) hE dX9_givesIn_84 (by decide) rfl (fun c_8 => ?_) (fun c_8 => ?_)
                · refine lv_iinc (v := (nI (d + 1))) (lv' := [(7, .int (nI (d + 1))), (8, .int (nI t)), (6, .int pI), (5, .int kI), (0, .ref o), (1, .int (nI k)), (2, .int (nI pp)), (3, .int (nI ac)), (4, .int (nI S))]) hE.x hE.b dX9_givesIn_113 hl (k := 1) rfl (nI_add _ _) (by decide) rfl (fun ls hl => ?_)
                  refine lv_goto (tgt := 9) hE.x hE.b dX9_givesIn_116 (by decide) ?_
                  exact ih9 (d + 1) kI pI (K - ((prsD (A 0) T C ac S) d : Nat)) (P - (T - (prsD (A 0) T C ac S) d : Nat)) F1 _ _ _ (by omega) (by omega) h16 hK hP (by omega) (by omega) (hg.trans (giv_no (by omega) (by omega))) hB (lv_sub hl [0, 2, 3, 4, 5, 6, 7, 8] rfl)
                · refine lv_aload_n hE.x hE.b dX9_givesIn_87 rfl (lv_at hl 4 rfl) ?_
                  refine lv_iload hE.x hE.b dX9_givesIn_88 (lv_at hl 3 rfl) ?_
                  refine z_le0 (tgt := 97) (X := kI.toInt) hE dX9_givesIn_90 (by decide) rfl (fun c_9 => ?_) (fun c_9 => ?_)
                  · refine lv_iload hE.x hE.b dX9_givesIn_97 (lv_at hl 2 rfl) ?_
                    refine z_le0 (tgt := 106) (X := pI.toInt) hE dX9_givesIn_99 (by decide) rfl (fun c_10 => ?_) (fun c_10 => ?_)
                    · refine lv_iconst (v := nI 2) hE.x hE.b dX9_givesIn_106 rfl ?_
                      refine z_put (v := .int (nI 2)) (ty := .int) (ws' := mW g o a (upd F1 13 (nI 2)) L A ++ X) hE hB inX9 tyX9 tyX9_ok nmX9 0 rfl rfl 13 (by decide) q4_14 (fun _ h9 => h9) rfl (by decide +kernel) rfl rfl (Nat.le_of_ble_eq_true rfl) rfl dX9_givesIn_107 (fun H locs hB => ?_)
                      refine lv_iload hE.x hE.b dX9_givesIn_110 (lv_at hl 1 rfl) ?_
                      exact z_iret (v := (nI d)) (ws := mW g o a (upd F1 13 (nI 2)) L A ++ X) hE hB hr (⟨(upd F1 13 (nI 2)), by rw [hg, giv_yes (w := 2) (by omega) (by omega) (by rw [if_neg (by omega), if_neg (by omega)])]; rfl, rfl, h16, by rw [hg, giv_yes (w := 2) (by omega) (by omega) (by rw [if_neg (by omega), if_neg (by omega)])]; rfl⟩) dX9_givesIn_112
                    · refine lv_iconst (v := nI 0) hE.x hE.b dX9_givesIn_102 rfl ?_
                      refine lv_goto (tgt := 107) hE.x hE.b dX9_givesIn_103 (by decide) ?_
                      refine z_put (v := .int (nI 0)) (ty := .int) (ws' := mW g o a (upd F1 13 (nI 0)) L A ++ X) hE hB inX9 tyX9 tyX9_ok nmX9 0 rfl rfl 13 (by decide) q4_14 (fun _ h9 => h9) rfl (by decide +kernel) rfl rfl (Nat.le_of_ble_eq_true rfl) rfl dX9_givesIn_107 (fun H locs hB => ?_)
                      refine lv_iload hE.x hE.b dX9_givesIn_110 (lv_at hl 1 rfl) ?_
                      exact z_iret (v := (nI d)) (ws := mW g o a (upd F1 13 (nI 0)) L A ++ X) hE hB hr (⟨(upd F1 13 (nI 0)), by rw [hg, giv_yes (w := 0) (by omega) (by omega) (by rw [if_neg (by omega), if_pos (by omega)])]; rfl, rfl, h16, by rw [hg, giv_yes (w := 0) (by omega) (by omega) (by rw [if_neg (by omega), if_pos (by omega)])]; rfl⟩) dX9_givesIn_112
                  · refine lv_iconst (v := nI 1) hE.x hE.b dX9_givesIn_93 rfl ?_
                    refine lv_goto (tgt := 107) hE.x hE.b dX9_givesIn_94 (by decide) ?_
                    refine z_put (v := .int (nI 1)) (ty := .int) (ws' := mW g o a (upd F1 13 (nI 1)) L A ++ X) hE hB inX9 tyX9 tyX9_ok nmX9 0 rfl rfl 13 (by decide) q4_14 (fun _ h9 => h9) rfl (by decide +kernel) rfl rfl (Nat.le_of_ble_eq_true rfl) rfl dX9_givesIn_107 (fun H locs hB => ?_)
                    refine lv_iload hE.x hE.b dX9_givesIn_110 (lv_at hl 1 rfl) ?_
                    exact z_iret (v := (nI d)) (ws := mW g o a (upd F1 13 (nI 1)) L A ++ X) hE hB hr (⟨(upd F1 13 (nI 1)), by rw [hg, giv_yes (w := 1) (by omega) (by omega) (by rw [if_pos (by omega)])]; rfl, rfl, h16, by rw [hg, giv_yes (w := 1) (by omega) (by omega) (by rw [if_pos (by omega)])]; rfl⟩) dX9_givesIn_112
            · have hcn := cn_le (fun t => fbB (acAl (A 0) C (nI d) S) ac t) t
              refine lv_aload_n hE.x hE.b dX9_givesIn_28 rfl (lv_at hl 4 rfl) ?_
              refine lv_iload hE.x hE.b dX9_givesIn_29 (lv_at hl 0 rfl) ?_
              refine lv_iload_n hE.x hE.b dX9_givesIn_31 rfl (lv_at hl 7 rfl) ?_
              refine lv_iload hE.x hE.b dX9_givesIn_32 (lv_at hl 1 rfl) ?_
              refine lv_iload hE.x hE.b dX9_givesIn_34 (lv_at hl 8 rfl) ?_
              refine z_qi hB (z_cV hE hB (c_X9_forbidsSome l g o a F1 L A X C t ac (nI d) S hC (by omega) (by omega) (by omega) (by omega)) q5_3 kX9_forbidsSome ⟨rfl, rfl⟩ ⟨Nat.le_of_ble_eq_true rfl, Nat.le_of_ble_eq_true rfl⟩ 0 rfl rfl rfl hl.1 rfl (Nat.le_of_ble_eq_true rfl) dX9_givesIn_36 ⟨Nat.le_of_ble_eq_true rfl, Nat.le_of_ble_eq_true rfl⟩) (fun r_11 w_12 H locs hw hB => ?_)
              obtain ⟨F1_13, hr9, hw9, hf_14⟩ := hw
              have hr9 := hr9.symm
              subst hr9
              have hw9 := hw9.symm
              subst hw9
              have h16 := hf_14.trans h16
              refine lv_istore (lv' := [(9, .int (bI (fbB (acAl (A 0) C (nI d) S) ac t))), (8, .int (nI t)), (7, .int (nI d)), (6, .int pI), (5, .int kI), (0, .ref o), (1, .int (nI k)), (2, .int (nI pp)), (3, .int (nI ac)), (4, .int (nI S))]) hE.x hE.b dX9_givesIn_39 hl (by decide) rfl (fun ls hl => ?_)
              refine lv_iload hE.x hE.b dX9_givesIn_41 (lv_at hl 4 rfl) ?_
              refine lv_iload hE.x hE.b dX9_givesIn_43 (lv_at hl 0 rfl) ?_
              refine z_bf (b := (fbB (acAl (A 0) C (nI d) S) ac t)) (tgt := 52) hE dX9_givesIn_45 (by decide) (fun c_15 => ?_) (fun c_15 => ?_)
              · refine lv_iconst (v := nI 0) hE.x hE.b dX9_givesIn_52 rfl ?_
                refine lv_isub hE.x hE.b dX9_givesIn_53 ?_
                refine lv_istore (lv' := [(5, .int (kI - (nI 0))), (9, .int (bI (fbB (acAl (A 0) C (nI d) S) ac t))), (8, .int (nI t)), (7, .int (nI d)), (6, .int pI), (0, .ref o), (1, .int (nI k)), (2, .int (nI pp)), (3, .int (nI ac)), (4, .int (nI S))]) hE.x hE.b dX9_givesIn_54 hl (by decide) rfl (fun ls hl => ?_)
                refine lv_iload hE.x hE.b dX9_givesIn_56 (lv_at hl 4 rfl) ?_
                refine lv_iload hE.x hE.b dX9_givesIn_58 (lv_at hl 1 rfl) ?_
                refine z_bf (b := (fbB (acAl (A 0) C (nI d) S) ac t)) (tgt := 67) hE dX9_givesIn_60 (by decide) (fun c_16 => ?_) (fun c_16 => ?_)
                · refine lv_iconst (v := nI 1) hE.x hE.b dX9_givesIn_67 rfl ?_
                  refine lv_isub hE.x hE.b dX9_givesIn_68 ?_
                  refine lv_istore (lv' := [(6, .int (pI - (nI 1))), (5, .int (kI - (nI 0))), (9, .int (bI (fbB (acAl (A 0) C (nI d) S) ac t))), (8, .int (nI t)), (7, .int (nI d)), (0, .ref o), (1, .int (nI k)), (2, .int (nI pp)), (3, .int (nI ac)), (4, .int (nI S))]) hE.x hE.b dX9_givesIn_69 hl (by decide) rfl (fun ls hl => ?_)
                  refine lv_iinc (v := (nI (t + 1))) (lv' := [(8, .int (nI (t + 1))), (6, .int (pI - (nI 1))), (5, .int (kI - (nI 0))), (9, .int (bI (fbB (acAl (A 0) C (nI d) S) ac t))), (7, .int (nI d)), (0, .ref o), (1, .int (nI k)), (2, .int (nI pp)), (3, .int (nI ac)), (4, .int (nI S))]) hE.x hE.b dX9_givesIn_71 hl (k := 3) rfl (nI_add _ _) (by decide) rfl (fun ls hl => ?_)
                  refine lv_goto (tgt := 19) hE.x hE.b dX9_givesIn_74 (by decide) ?_
                  exact ih19 (t + 1) (kI - (nI 0)) (pI - (nI 1)) F1_13 _ _ _ (by omega) (by omega) h16 (by rw [sub_toInt hK (by omega) (by omega) (by omega), cn_f (P := (fun t => fbB (acAl (A 0) C (nI d) S) ac t)) c_15]; omega) (by rw [sub_toInt hP (by omega) (by omega) (by omega), cn_f (P := (fun t => fbB (acAl (A 0) C (nI d) S) ac t)) c_16]; omega) hB (lv_sub hl [0, 4, 1, 2, 5, 6, 7, 8, 9] rfl)
                · refine lv_iconst (v := nI 0) hE.x hE.b dX9_givesIn_63 rfl ?_
                  refine lv_goto (tgt := 68) hE.x hE.b dX9_givesIn_64 (by decide) ?_
                  refine lv_isub hE.x hE.b dX9_givesIn_68 ?_
                  refine lv_istore (lv' := [(6, .int (pI - (nI 0))), (5, .int (kI - (nI 0))), (9, .int (bI (fbB (acAl (A 0) C (nI d) S) ac t))), (8, .int (nI t)), (7, .int (nI d)), (0, .ref o), (1, .int (nI k)), (2, .int (nI pp)), (3, .int (nI ac)), (4, .int (nI S))]) hE.x hE.b dX9_givesIn_69 hl (by decide) rfl (fun ls hl => ?_)
                  refine lv_iinc (v := (nI (t + 1))) (lv' := [(8, .int (nI (t + 1))), (6, .int (pI - (nI 0))), (5, .int (kI - (nI 0))), (9, .int (bI (fbB (acAl (A 0) C (nI d) S) ac t))), (7, .int (nI d)), (0, .ref o), (1, .int (nI k)), (2, .int (nI pp)), (3, .int (nI ac)), (4, .int (nI S))]) hE.x hE.b dX9_givesIn_71 hl (k := 3) rfl (nI_add _ _) (by decide) rfl (fun ls hl => ?_)
                  refine lv_goto (tgt := 19) hE.x hE.b dX9_givesIn_74 (by decide) ?_
                  exact ih19 (t + 1) (kI - (nI 0)) (pI - (nI 0)) F1_13 _ _ _ (by omega) (by omega) h16 (by rw [sub_toInt hK (by omega) (by omega) (by omega), cn_f (P := (fun t => fbB (acAl (A 0) C (nI d) S) ac t)) c_15]; omega) (by rw [sub_toInt hP (by omega) (by omega) (by omega), cn_t (P := (fun t => fbB (acAl (A 0) C (nI d) S) ac t)) c_16]; omega) hB (lv_sub hl [0, 4, 1, 2, 5, 6, 7, 8, 9] rfl)
              · refine lv_iconst (v := nI 1) hE.x hE.b dX9_givesIn_48 rfl ?_
                refine lv_goto (tgt := 53) hE.x hE.b dX9_givesIn_49 (by decide) ?_
                refine lv_isub hE.x hE.b dX9_givesIn_53 ?_
                refine lv_istore (lv' := [(5, .int (kI - (nI 1))), (9, .int (bI (fbB (acAl (A 0) C (nI d) S) ac t))), (8, .int (nI t)), (7, .int (nI d)), (6, .int pI), (0, .ref o), (1, .int (nI k)), (2, .int (nI pp)), (3, .int (nI ac)), (4, .int (nI S))]) hE.x hE.b dX9_givesIn_54 hl (by decide) rfl (fun ls hl => ?_)
                refine lv_iload hE.x hE.b dX9_givesIn_56 (lv_at hl 4 rfl) ?_
                refine lv_iload hE.x hE.b dX9_givesIn_58 (lv_at hl 1 rfl) ?_
                refine z_bf (b := (fbB (acAl (A 0) C (nI d) S) ac t)) (tgt := 67) hE dX9_givesIn_60 (by decide) (fun c_17 => ?_) (fun c_17 => ?_)
                · refine lv_iconst (v := nI 1) hE.x hE.b dX9_givesIn_67 rfl ?_
                  refine lv_isub hE.x hE.b dX9_givesIn_68 ?_
                  refine lv_istore (lv' := [(6, .int (pI - (nI 1))), (5, .int (kI - (nI 1))), (9, .int (bI (fbB (acAl (A 0) C (nI d) S) ac t))), (8, .int (nI t)), (7, .int (nI d)), (0, .ref o), (1, .int (nI k)), (2, .int (nI pp)), (3, .int (nI ac)), (4, .int (nI S))]) hE.x hE.b dX9_givesIn_69 hl (by decide) rfl (fun ls hl => ?_)
                  refine lv_iinc (v := (nI (t + 1))) (lv' := [(8, .int (nI (t + 1))), (6, .int (pI - (nI 1))), (5, .int (kI - (nI 1))), (9, .int (bI (fbB (acAl (A 0) C (nI d) S) ac t))), (7, .int (nI d)), (0, .ref o), (1, .int (nI k)), (2, .int (nI pp)), (3, .int (nI ac)), (4, .int (nI S))]) hE.x hE.b dX9_givesIn_71 hl (k := 3) rfl (nI_add _ _) (by decide) rfl (fun ls hl => ?_)
                  refine lv_goto (tgt := 19) hE.x hE.b dX9_givesIn_74 (by decide) ?_
                  exact ih19 (t + 1) (kI - (nI 1)) (pI - (nI 1)) F1_13 _ _ _ (by omega) (by omega) h16 (by rw [sub_toInt hK (by omega) (by omega) (by omega), cn_t (P := (fun t => fbB (acAl (A 0) C (nI d) S) ac t)) c_15]; omega) (by rw [sub_toInt hP (by omega) (by omega) (by omega), cn_f (P := (fun t => fbB (acAl (A 0) C (nI d) S) ac t)) c_17]; omega) hB (lv_sub hl [0, 4, 1, 2, 5, 6, 7, 8, 9] rfl)
                · refine lv_iconst (v := nI 0) hE.x hE.b dX9_givesIn_63 rfl ?_
                  refine lv_goto (tgt := 68) hE.x hE.b dX9_givesIn_64 (by decide) ?_
                  refine lv_isub hE.x hE.b dX9_givesIn_68 ?_
                  refine lv_istore (lv' := [(6, .int (pI - (nI 0))), (5, .int (kI - (nI 1))), (9, .int (bI (fbB (acAl (A 0) C (nI d) S) ac t))), (8, .int (nI t)), (7, .int (nI d)), (0, .ref o), (1, .int (nI k)), (2, .int (nI pp)), (3, .int (nI ac)), (4, .int (nI S))]) hE.x hE.b dX9_givesIn_69 hl (by decide) rfl (fun ls hl => ?_)
                  refine lv_iinc (v := (nI (t + 1))) (lv' := [(8, .int (nI (t + 1))), (6, .int (pI - (nI 0))), (5, .int (kI - (nI 1))), (9, .int (bI (fbB (acAl (A 0) C (nI d) S) ac t))), (7, .int (nI d)), (0, .ref o), (1, .int (nI k)), (2, .int (nI pp)), (3, .int (nI ac)), (4, .int (nI S))]) hE.x hE.b dX9_givesIn_71 hl (k := 3) rfl (nI_add _ _) (by decide) rfl (fun ls hl => ?_)
                  refine lv_goto (tgt := 19) hE.x hE.b dX9_givesIn_74 (by decide) ?_
                  exact ih19 (t + 1) (kI - (nI 1)) (pI - (nI 0)) F1_13 _ _ _ (by omega) (by omega) h16 (by rw [sub_toInt hK (by omega) (by omega) (by omega), cn_t (P := (fun t => fbB (acAl (A 0) C (nI d) S) ac t)) c_15]; omega) (by rw [sub_toInt hP (by omega) (by omega) (by omega), cn_t (P := (fun t => fbB (acAl (A 0) C (nI d) S) ac t)) c_17]; omega) hB (lv_sub hl [0, 4, 1, 2, 5, 6, 7, 8, 9] rfl)
        exact k19 (T - 0 + 1) 0 kI pI F1 _ _ _ (Nat.lt_succ_self _) (by omega) h16 (by rw [hK]; simp [cn]) (by rw [hP]; simp [cn]) hB hl
  exact k9 (60 - 0 + 1) 0 (nI k) (nI pp) (k : Int) (pp : Int) F _ _ _ (Nat.lt_succ_self _) (by omega) h16 (nI_toInt (by omega)) (nI_toInt (by omega)) (by omega) (by omega) rfl hB hl
end
section
def lvOK (T : Nat) (tw ac dd dy sh : Int32) : Bool := askOK T tw ac dd dy sh
def nLv (n : Nat → Int32) (V : Nat) (tw ac dd dy sh : Int32) : Nat → Int32 := upd (upd (upd (upd (upd (upd n (86 + 5 * V) tw) (86 + 5 * V + 1) ac) (86 + 5 * V + 2) dd) (86 + 5 * V + 3) dy) (86 + 5 * V + 4) sh) 2 (nI (V + 1))
def leaveR (T V : Nat) (tw ac dd dy sh : Int32) : Int32 := if askOK T tw ac dd dy sh = true then if V = 8 then (-4) else nI V else (-2)
def leaveA (A : Nat → Nat → Int32) (T V : Nat) (tw ac dd dy sh : Int32) : Nat → Nat → Int32 := if askOK T tw ac dd dy sh = true then if V = 8 then bump 2 A else updA A 0 (nLv (A 0) V tw ac dd dy sh) else bump 0 A
def fgP (n : Nat → Int32) (C : Nat) (k : Nat) : Bool := !isA n C (rc (n (86 + 5 * k))) (n (86 + 5 * k + 1)) (n (86 + 5 * k + 2)) (n (86 + 5 * k + 3)) (n (86 + 5 * k + 4)) 0
def whP (n : Nat → Int32) (T C fr w : Nat) (ac dd dy sh : Int32) (t : Nat) : Bool := decide (fD n T fr t ≤ w) && isA n C t ac dd dy sh 0
def whoseOK (T : Nat) (tw w ac dd dy sh : Int32) : Bool := pTown T tw && (pIn 0 20 w && (pIn 0 5 ac && (pIn 0 59 dd && (pIn 0 1 dy && pIn 0 1 sh))))
def whoseR (n : Nat → Int32) (T C : Nat) (tw w ac dd dy sh : Int32) : Int32 := if whoseOK T tw w ac dd dy sh = true then nI (rdB (whP n T C (rc tw) (rc w) ac dd dy sh) T) else (-2)
theorem gcd_st {a b N : Nat} (h : Nat.gcd a b = N) : Nat.gcd b (a % b) = N := by
  rw [← h, Nat.gcd_comm a b, Nat.gcd_rec b a, Nat.gcd_comm]
def odP (n : Nat → Int32) (C t : Nat) (ac : Int32) (a : Nat) (dy sh : Int32) (x : Nat) : Bool := !isA n C t ac (nI (a + x)) dy sh 0
def oddsOK (T : Nat) (tw ac a b dy sh : Int32) : Bool := pTown T tw && (pIn 0 5 ac && (pIn 0 59 a && (pIn 0 59 b && (decide (a.toInt ≤ b.toInt) && (pIn 0 1 dy && pIn 0 1 sh)))))
def odV (n : Nat → Int32) (C : Nat) (tw ac a b dy sh : Int32) : Nat := cn (odP n C (rc tw) ac (rc a) dy sh) (rc b + 1 - rc a)
def oddsN (n : Nat → Int32) (C : Nat) (tw ac a b dy sh : Int32) : Nat := odV n C tw ac a b dy sh / Nat.gcd (odV n C tw ac a b dy sh) (rc b + 1 - rc a)
def oddsM (n : Nat → Int32) (C : Nat) (tw ac a b dy sh : Int32) : Nat := (rc b + 1 - rc a) / Nat.gcd (odV n C tw ac a b dy sh) (rc b + 1 - rc a)
def oddsL (n : Nat → Int32) (L : Nat → Int64) (T C : Nat) (tw ac a b dy sh : Int32) : Nat → Int64 := if oddsOK T tw ac a b dy sh = true then vp_updL (vp_updL L 4 (lN (oddsN n C tw ac a b dy sh))) 5 (lN (oddsM n C tw ac a b dy sh)) else L
def nxt (x : Nat) : Nat := (x * 1103515245 + 12345) % 2147483648
theorem nxt_lt (x : Nat) : nxt x < 2147483648 := Nat.mod_lt _ (by omega)
def drX (s : Nat) : Nat → Nat
  | 0 => s
  | i + 1 => nxt (nxt (nxt (nxt (drX s i))))
def drP (n : Nat → Int32) (T C s i : Nat) : Bool := isA n C (nxt (drX s i) / 65536 % T) (nI (nxt (nxt (drX s i)) / 65536 % 6)) (nI (nxt (nxt (nxt (drX s i))) / 65536 % 60)) (nI (nxt (nxt (nxt (nxt (drX s i)))) / 65536 % 4 / 2)) (nI (nxt (nxt (nxt (nxt (drX s i)))) / 65536 % 4 % 2)) 0
def drawnOK (s q : Int32) : Bool := pIn 0 999999 s && pIn 0 60 q
def drawnR (n : Nat → Int32) (T C : Nat) (s q : Int32) : Int32 := if drawnOK s q = true then if T = 0 then (-1) else nI (cn (drP n T C (rc s)) (rc q)) else (-2)
theorem mod_le2 (x k : Nat) (h : 0 < k) : x % k < k := Nat.mod_lt _ h
theorem prsC_60 {n : Nat → Int32} {C ac b : Nat} : prsC n C ac b ≤ 60 := cn_le _ 60
theorem prs_new {ct : Nat → Nat} {t k : Nat} {x : Option (Nat × Nat)} {mI : Int32} (hx : x = prs ct t) (hm : mI = oI (x.map Prod.snd)) (hk : k = ct t) (hc : ∀ b, ct b ≤ 60) (h : mI.toInt < (k : Int)) : some (t, ct t) = prs ct (t + 1) := by
  refine (prs_yes fun b m hbm => ?_).symm
  rw [hx, hbm] at hm
  have h1 := (prs_lt hbm).2
  have h2 := hc b
  have h3 : mI.toInt = (m : Int) := eq_toInt hm (by omega)
  omega
theorem prs_old {ct : Nat → Nat} {t k : Nat} {x : Option (Nat × Nat)} {mI : Int32} (hx : x = prs ct t) (hm : mI = oI (x.map Prod.snd)) (hk : k = ct t) (hc : ∀ b, ct b ≤ 60) (h : ¬ mI.toInt < (k : Int)) : x = prs ct (t + 1) := by
  cases hxx : x with
  | none =>
    rw [hxx] at hm
    rw [hm] at h
    have : (oI ((none : Option (Nat × Nat)).map Prod.snd)).toInt = -1 := rfl
    omega
  | some z =>
    obtain ⟨b, m⟩ := z
    rw [hxx] at hm hx
    have h1 := (prs_lt hx.symm).2
    have h2 := hc b
    have h3 : mI.toInt = (m : Int) := eq_toInt hm (by omega)
    exact (prs_no hx.symm (by omega)).symm
def prV (x : Option (Nat × Nat)) (w : Int32) : Int32 := match x with
  | none => if w = 0 then (-1) else nI 0
  | some (b, m) => if w = 0 then nI b else nI m
theorem prV_0 {x : Option (Nat × Nat)} {w : Int32} (h : w = 0) : prV x w = oI (x.map Prod.fst) := by
  cases x with
  | none => exact if_pos h
  | some z => exact if_pos h
theorem prV_n {ct : Nat → Nat} {t : Nat} {x : Option (Nat × Nat)} {w : Int32} (hx : x = prs ct t) (ht : t ≤ 6) (h : ¬ w = 0) (h2 : oI (x.map Prod.fst) = (-1)) : prV x w = nI 0 := by
  cases hxx : x with
  | none => exact if_neg h
  | some z =>
    obtain ⟨b, m⟩ := z
    rw [hxx] at h2 hx
    have := (prs_lt hx.symm).1
    exact absurd h2 (nI_m1 (by omega))
theorem prV_m {x : Option (Nat × Nat)} {w : Int32} (h : ¬ w = 0) (h2 : ¬ oI (x.map Prod.fst) = (-1)) : prV x w = oI (x.map Prod.snd) := by
  cases x with
  | none => exact absurd rfl h2
  | some z => exact if_neg h
theorem pressesR_v {n : Nat → Int32} {T C : Nat} {ac w : Int32} (h : (pIn 0 63 ac && pIn 0 1 w) = true) : pressesR n T C ac w = prV (prs (prsC n C (rc ac)) T) w := by
  unfold pressesR
  rw [if_pos h]
  rfl
theorem fgP_d {n : Nat → Int32} {C k t : Nat} (h : n (86 + 5 * k) = nI t) (ht : t < 6) : fgP n C k = !isA n C t (n (86 + 5 * k + 1)) (n (86 + 5 * k + 2)) (n (86 + 5 * k + 3)) (n (86 + 5 * k + 4)) 0 := by
  unfold fgP
  rw [h, rcl (show t < 2 ^ 31 by omega)]
def forgedR (n : Nat → Int32) (C V : Nat) : Int32 := nI (rdB (fgP n C) V)
theorem rdB_yf {P : Nat → Bool} {r b : Nat} (hb : b = rdB P r) (h : P r = false) : b ||| 0 = rdB P (r + 1) := rdB_n hb (by rw [h]; decide)
theorem lN_i2 {a : Nat} : (lN a).toInt32 = nI a := lN_i a
end
section
theorem dX9_patience_0 : decode cX9_patience 0 = .ok (.iload_n 1, 1) := by decide +kernel
theorem dX9_patience_1 : decode cX9_patience 1 = .ok (.i2l, 1) := by decide +kernel
theorem dX9_patience_2 : decode cX9_patience 2 = .ok (.lconst 0, 1) := by decide +kernel
theorem dX9_patience_3 : decode cX9_patience 3 = .ok (.ldc2_w 181, 3) := by decide +kernel
theorem dX9_patience_6 : decode cX9_patience 6 = .ok (.invokestatic 43, 3) := by decide +kernel
theorem dX9_patience_9 : decode cX9_patience 9 = .ok (.ifCond .eq 33, 3) := by decide +kernel
theorem dX9_patience_12 : decode cX9_patience 12 = .ok (.iload_n 2, 1) := by decide +kernel
theorem dX9_patience_13 : decode cX9_patience 13 = .ok (.i2l, 1) := by decide +kernel
theorem dX9_patience_14 : decode cX9_patience 14 = .ok (.lconst 0, 1) := by decide +kernel
theorem dX9_patience_15 : decode cX9_patience 15 = .ok (.ldc2_w 181, 3) := by decide +kernel
theorem dX9_patience_18 : decode cX9_patience 18 = .ok (.invokestatic 43, 3) := by decide +kernel
theorem dX9_patience_21 : decode cX9_patience 21 = .ok (.ifCond .eq 21, 3) := by decide +kernel
theorem dX9_patience_24 : decode cX9_patience 24 = .ok (.iload_n 3, 1) := by decide +kernel
theorem dX9_patience_25 : decode cX9_patience 25 = .ok (.invokestatic 164, 3) := by decide +kernel
theorem dX9_patience_28 : decode cX9_patience 28 = .ok (.ifCond .eq 14, 3) := by decide +kernel
theorem dX9_patience_31 : decode cX9_patience 31 = .ok (.iload 4, 2) := by decide +kernel
theorem dX9_patience_33 : decode cX9_patience 33 = .ok (.i2l, 1) := by decide +kernel
theorem dX9_patience_34 : decode cX9_patience 34 = .ok (.lconst 0, 1) := by decide +kernel
theorem dX9_patience_35 : decode cX9_patience 35 = .ok (.lconst 1, 1) := by decide +kernel
theorem dX9_patience_36 : decode cX9_patience 36 = .ok (.invokestatic 43, 3) := by decide +kernel
theorem dX9_patience_39 : decode cX9_patience 39 = .ok (.ifCond .ne 10, 3) := by decide +kernel
theorem dX9_patience_42 : decode cX9_patience 42 = .ok (.aload_n 0, 1) := by decide +kernel
theorem dX9_patience_43 : decode cX9_patience 43 = .ok (.bipush (-2), 2) := by decide +kernel
theorem dX9_patience_45 : decode cX9_patience 45 = .ok (.invokevirtual 62, 3) := by decide +kernel
theorem dX9_patience_48 : decode cX9_patience 48 = .ok (.ireturn, 1) := by decide +kernel
theorem dX9_patience_49 : decode cX9_patience 49 = .ok (.aload_n 0, 1) := by decide +kernel
theorem dX9_patience_50 : decode cX9_patience 50 = .ok (.iload_n 1, 1) := by decide +kernel
theorem dX9_patience_51 : decode cX9_patience 51 = .ok (.iload_n 2, 1) := by decide +kernel
theorem dX9_patience_52 : decode cX9_patience 52 = .ok (.iload_n 3, 1) := by decide +kernel
theorem dX9_patience_53 : decode cX9_patience 53 = .ok (.iconst 0, 1) := by decide +kernel
theorem dX9_patience_54 : decode cX9_patience 54 = .ok (.invokevirtual 183, 3) := by decide +kernel
theorem dX9_patience_57 : decode cX9_patience 57 = .ok (.istore 5, 2) := by decide +kernel
theorem dX9_patience_59 : decode cX9_patience 59 = .ok (.iload 4, 2) := by decide +kernel
theorem dX9_patience_61 : decode cX9_patience 61 = .ok (.ifCond .ne 8, 3) := by decide +kernel
theorem dX9_patience_64 : decode cX9_patience 64 = .ok (.iload 5, 2) := by decide +kernel
theorem dX9_patience_66 : decode cX9_patience 66 = .ok (.goto 7, 3) := by decide +kernel
theorem dX9_patience_69 : decode cX9_patience 69 = .ok (.aload_n 0, 1) := by decide +kernel
theorem dX9_patience_70 : decode cX9_patience 70 = .ok (.getfield 178, 3) := by decide +kernel
theorem dX9_patience_73 : decode cX9_patience 73 = .ok (.ireturn, 1) := by decide +kernel
theorem dX9_orNever_0 : decode cX9_orNever 0 = .ok (.iload_n 0, 1) := by decide +kernel
theorem dX9_orNever_1 : decode cX9_orNever 1 = .ok (.iconst (-1), 1) := by decide +kernel
theorem dX9_orNever_2 : decode cX9_orNever 2 = .ok (.if_icmp .ne 8, 3) := by decide +kernel
theorem dX9_orNever_5 : decode cX9_orNever 5 = .ok (.bipush 60, 2) := by decide +kernel
theorem dX9_orNever_7 : decode cX9_orNever 7 = .ok (.goto 4, 3) := by decide +kernel
theorem dX9_orNever_10 : decode cX9_orNever 10 = .ok (.iload_n 0, 1) := by decide +kernel
theorem dX9_orNever_11 : decode cX9_orNever 11 = .ok (.ireturn, 1) := by decide +kernel
theorem dX9_concede_0 : decode cX9_concede 0 = .ok (.aload_n 0, 1) := by decide +kernel
theorem dX9_concede_1 : decode cX9_concede 1 = .ok (.iload_n 1, 1) := by decide +kernel
theorem dX9_concede_2 : decode cX9_concede 2 = .ok (.invokevirtual 95, 3) := by decide +kernel
theorem dX9_concede_5 : decode cX9_concede 5 = .ok (.ifCond .eq 35, 3) := by decide +kernel
theorem dX9_concede_8 : decode cX9_concede 8 = .ok (.iload_n 2, 1) := by decide +kernel
theorem dX9_concede_9 : decode cX9_concede 9 = .ok (.i2l, 1) := by decide +kernel
theorem dX9_concede_10 : decode cX9_concede 10 = .ok (.lconst 0, 1) := by decide +kernel
theorem dX9_concede_11 : decode cX9_concede 11 = .ok (.ldc2_w 181, 3) := by decide +kernel
theorem dX9_concede_14 : decode cX9_concede 14 = .ok (.invokestatic 43, 3) := by decide +kernel
theorem dX9_concede_17 : decode cX9_concede 17 = .ok (.ifCond .eq 23, 3) := by decide +kernel
theorem dX9_concede_20 : decode cX9_concede 20 = .ok (.iload_n 3, 1) := by decide +kernel
theorem dX9_concede_21 : decode cX9_concede 21 = .ok (.i2l, 1) := by decide +kernel
theorem dX9_concede_22 : decode cX9_concede 22 = .ok (.lconst 0, 1) := by decide +kernel
theorem dX9_concede_23 : decode cX9_concede 23 = .ok (.ldc2_w 181, 3) := by decide +kernel
theorem dX9_concede_26 : decode cX9_concede 26 = .ok (.invokestatic 43, 3) := by decide +kernel
theorem dX9_concede_29 : decode cX9_concede 29 = .ok (.ifCond .eq 11, 3) := by decide +kernel
theorem dX9_concede_32 : decode cX9_concede 32 = .ok (.iload 4, 2) := by decide +kernel
theorem dX9_concede_34 : decode cX9_concede 34 = .ok (.invokestatic 164, 3) := by decide +kernel
theorem dX9_concede_37 : decode cX9_concede 37 = .ok (.ifCond .ne 10, 3) := by decide +kernel
theorem dX9_concede_40 : decode cX9_concede 40 = .ok (.aload_n 0, 1) := by decide +kernel
theorem dX9_concede_41 : decode cX9_concede 41 = .ok (.bipush (-100), 2) := by decide +kernel
theorem dX9_concede_43 : decode cX9_concede 43 = .ok (.invokevirtual 62, 3) := by decide +kernel
theorem dX9_concede_46 : decode cX9_concede 46 = .ok (.ireturn, 1) := by decide +kernel
theorem dX9_concede_47 : decode cX9_concede 47 = .ok (.aload_n 0, 1) := by decide +kernel
theorem dX9_concede_48 : decode cX9_concede 48 = .ok (.iload_n 2, 1) := by decide +kernel
theorem dX9_concede_49 : decode cX9_concede 49 = .ok (.iload_n 3, 1) := by decide +kernel
theorem dX9_concede_50 : decode cX9_concede 50 = .ok (.iload 4, 2) := by decide +kernel
theorem dX9_concede_52 : decode cX9_concede 52 = .ok (.iconst 1, 1) := by decide +kernel
theorem dX9_concede_53 : decode cX9_concede 53 = .ok (.iload_n 1, 1) := by decide +kernel
theorem dX9_concede_54 : decode cX9_concede 54 = .ok (.ishl, 1) := by decide +kernel
theorem dX9_concede_55 : decode cX9_concede 55 = .ok (.invokevirtual 183, 3) := by decide +kernel
theorem dX9_concede_58 : decode cX9_concede 58 = .ok (.invokestatic 187, 3) := by decide +kernel
theorem dX9_concede_61 : decode cX9_concede 61 = .ok (.aload_n 0, 1) := by decide +kernel
theorem dX9_concede_62 : decode cX9_concede 62 = .ok (.iload_n 2, 1) := by decide +kernel
theorem dX9_concede_63 : decode cX9_concede 63 = .ok (.iload_n 3, 1) := by decide +kernel
theorem dX9_concede_64 : decode cX9_concede 64 = .ok (.iload 4, 2) := by decide +kernel
theorem dX9_concede_66 : decode cX9_concede 66 = .ok (.iconst 0, 1) := by decide +kernel
theorem dX9_concede_67 : decode cX9_concede 67 = .ok (.invokevirtual 183, 3) := by decide +kernel
theorem dX9_concede_70 : decode cX9_concede 70 = .ok (.invokestatic 187, 3) := by decide +kernel
theorem dX9_concede_73 : decode cX9_concede 73 = .ok (.isub, 1) := by decide +kernel
theorem dX9_concede_74 : decode cX9_concede 74 = .ok (.ireturn, 1) := by decide +kernel
theorem dX9_presses_0 : decode cX9_presses 0 = .ok (.iload_n 1, 1) := by decide +kernel
theorem dX9_presses_1 : decode cX9_presses 1 = .ok (.invokestatic 164, 3) := by decide +kernel
theorem dX9_presses_4 : decode cX9_presses 4 = .ok (.ifCond .eq 13, 3) := by decide +kernel
theorem dX9_presses_7 : decode cX9_presses 7 = .ok (.iload_n 2, 1) := by decide +kernel
theorem dX9_presses_8 : decode cX9_presses 8 = .ok (.i2l, 1) := by decide +kernel
theorem dX9_presses_9 : decode cX9_presses 9 = .ok (.lconst 0, 1) := by decide +kernel
theorem dX9_presses_10 : decode cX9_presses 10 = .ok (.lconst 1, 1) := by decide +kernel
theorem dX9_presses_11 : decode cX9_presses 11 = .ok (.invokestatic 43, 3) := by decide +kernel
theorem dX9_presses_14 : decode cX9_presses 14 = .ok (.ifCond .ne 10, 3) := by decide +kernel
theorem dX9_presses_17 : decode cX9_presses 17 = .ok (.aload_n 0, 1) := by decide +kernel
theorem dX9_presses_18 : decode cX9_presses 18 = .ok (.bipush (-2), 2) := by decide +kernel
theorem dX9_presses_20 : decode cX9_presses 20 = .ok (.invokevirtual 62, 3) := by decide +kernel
theorem dX9_presses_23 : decode cX9_presses 23 = .ok (.ireturn, 1) := by decide +kernel
theorem dX9_presses_24 : decode cX9_presses 24 = .ok (.iconst (-1), 1) := by decide +kernel
theorem dX9_presses_25 : decode cX9_presses 25 = .ok (.istore_n 3, 1) := by decide +kernel
theorem dX9_presses_26 : decode cX9_presses 26 = .ok (.iconst (-1), 1) := by decide +kernel
theorem dX9_presses_27 : decode cX9_presses 27 = .ok (.istore 4, 2) := by decide +kernel
theorem dX9_presses_29 : decode cX9_presses 29 = .ok (.iconst 0, 1) := by decide +kernel
theorem dX9_presses_30 : decode cX9_presses 30 = .ok (.istore 5, 2) := by decide +kernel
theorem dX9_presses_32 : decode cX9_presses 32 = .ok (.iload 5, 2) := by decide +kernel
theorem dX9_presses_34 : decode cX9_presses 34 = .ok (.aload_n 0, 1) := by decide +kernel
theorem dX9_presses_35 : decode cX9_presses 35 = .ok (.invokevirtual 39, 3) := by decide +kernel
theorem dX9_presses_38 : decode cX9_presses 38 = .ok (.if_icmp .ge 81, 3) := by decide +kernel
theorem dX9_presses_41 : decode cX9_presses 41 = .ok (.iconst 0, 1) := by decide +kernel
theorem dX9_presses_42 : decode cX9_presses 42 = .ok (.istore 6, 2) := by decide +kernel
theorem dX9_presses_44 : decode cX9_presses 44 = .ok (.iconst 0, 1) := by decide +kernel
theorem dX9_presses_45 : decode cX9_presses 45 = .ok (.istore 7, 2) := by decide +kernel
theorem dX9_presses_47 : decode cX9_presses 47 = .ok (.iload 7, 2) := by decide +kernel
theorem dX9_presses_49 : decode cX9_presses 49 = .ok (.bipush 60, 2) := by decide +kernel
theorem dX9_presses_51 : decode cX9_presses 51 = .ok (.if_icmp .ge 32, 3) := by decide +kernel
theorem dX9_presses_54 : decode cX9_presses 54 = .ok (.iload 6, 2) := by decide +kernel
theorem dX9_presses_56 : decode cX9_presses 56 = .ok (.aload_n 0, 1) := by decide +kernel
theorem dX9_presses_57 : decode cX9_presses 57 = .ok (.iload 5, 2) := by decide +kernel
theorem dX9_presses_59 : decode cX9_presses 59 = .ok (.iload_n 1, 1) := by decide +kernel
theorem dX9_presses_60 : decode cX9_presses 60 = .ok (.iload 7, 2) := by decide +kernel
theorem dX9_presses_62 : decode cX9_presses 62 = .ok (.iconst 0, 1) := by decide +kernel
theorem dX9_presses_63 : decode cX9_presses 63 = .ok (.invokevirtual 174, 3) := by decide +kernel
theorem dX9_presses_66 : decode cX9_presses 66 = .ok (.ifCond .eq 7, 3) := by decide +kernel
theorem dX9_presses_69 : decode cX9_presses 69 = .ok (.iconst 1, 1) := by decide +kernel
theorem dX9_presses_70 : decode cX9_presses 70 = .ok (.goto 4, 3) := by decide +kernel
theorem dX9_presses_73 : decode cX9_presses 73 = .ok (.iconst 0, 1) := by decide +kernel
theorem dX9_presses_74 : decode cX9_presses 74 = .ok (.iadd, 1) := by decide +kernel
theorem dX9_presses_75 : decode cX9_presses 75 = .ok (.istore 6, 2) := by decide +kernel
theorem dX9_presses_77 : decode cX9_presses 77 = .ok (.iinc 7 1, 3) := by decide +kernel
theorem dX9_presses_80 : decode cX9_presses 80 = .ok (.goto (-33), 3) := by decide +kernel
theorem dX9_presses_83 : decode cX9_presses 83 = .ok (.iload 6, 2) := by decide +kernel
theorem dX9_presses_85 : decode cX9_presses 85 = .ok (.iload 4, 2) := by decide +kernel
theorem dX9_presses_87 : decode cX9_presses 87 = .ok (.if_icmp .le 8, 3) := by decide +kernel
theorem dX9_presses_90 : decode cX9_presses 90 = .ok (.iload 5, 2) := by decide +kernel
theorem dX9_presses_92 : decode cX9_presses 92 = .ok (.goto 4, 3) := by decide +kernel
theorem dX9_presses_95 : decode cX9_presses 95 = .ok (.iload_n 3, 1) := by decide +kernel
theorem dX9_presses_96 : decode cX9_presses 96 = .ok (.istore_n 3, 1) := by decide +kernel
theorem dX9_presses_97 : decode cX9_presses 97 = .ok (.iload 6, 2) := by decide +kernel
theorem dX9_presses_99 : decode cX9_presses 99 = .ok (.iload 4, 2) := by decide +kernel
theorem dX9_presses_101 : decode cX9_presses 101 = .ok (.if_icmp .le 8, 3) := by decide +kernel
theorem dX9_presses_104 : decode cX9_presses 104 = .ok (.iload 6, 2) := by decide +kernel
theorem dX9_presses_106 : decode cX9_presses 106 = .ok (.goto 5, 3) := by decide +kernel
theorem dX9_presses_109 : decode cX9_presses 109 = .ok (.iload 4, 2) := by decide +kernel
theorem dX9_presses_111 : decode cX9_presses 111 = .ok (.istore 4, 2) := by decide +kernel
theorem dX9_presses_113 : decode cX9_presses 113 = .ok (.iinc 5 1, 3) := by decide +kernel
theorem dX9_presses_116 : decode cX9_presses 116 = .ok (.goto (-84), 3) := by decide +kernel
theorem dX9_presses_119 : decode cX9_presses 119 = .ok (.iload_n 2, 1) := by decide +kernel
theorem dX9_presses_120 : decode cX9_presses 120 = .ok (.ifCond .ne 7, 3) := by decide +kernel
theorem dX9_presses_123 : decode cX9_presses 123 = .ok (.iload_n 3, 1) := by decide +kernel
theorem dX9_presses_124 : decode cX9_presses 124 = .ok (.goto 14, 3) := by decide +kernel
theorem dX9_presses_127 : decode cX9_presses 127 = .ok (.iload_n 3, 1) := by decide +kernel
theorem dX9_presses_128 : decode cX9_presses 128 = .ok (.iconst (-1), 1) := by decide +kernel
theorem dX9_presses_129 : decode cX9_presses 129 = .ok (.if_icmp .ne 7, 3) := by decide +kernel
theorem dX9_presses_132 : decode cX9_presses 132 = .ok (.iconst 0, 1) := by decide +kernel
theorem dX9_presses_133 : decode cX9_presses 133 = .ok (.goto 5, 3) := by decide +kernel
theorem dX9_presses_136 : decode cX9_presses 136 = .ok (.iload 4, 2) := by decide +kernel
theorem dX9_presses_138 : decode cX9_presses 138 = .ok (.ireturn, 1) := by decide +kernel
theorem dX9_leave_0 : decode cX9_leave 0 = .ok (.aload_n 0, 1) := by decide +kernel
theorem dX9_leave_1 : decode cX9_leave 1 = .ok (.iload_n 1, 1) := by decide +kernel
theorem dX9_leave_2 : decode cX9_leave 2 = .ok (.invokevirtual 73, 3) := by decide +kernel
theorem dX9_leave_5 : decode cX9_leave 5 = .ok (.ifCond .eq 27, 3) := by decide +kernel
theorem dX9_leave_8 : decode cX9_leave 8 = .ok (.iload_n 2, 1) := by decide +kernel
theorem dX9_leave_9 : decode cX9_leave 9 = .ok (.invokestatic 83, 3) := by decide +kernel
theorem dX9_leave_12 : decode cX9_leave 12 = .ok (.ifCond .eq 20, 3) := by decide +kernel
theorem dX9_leave_15 : decode cX9_leave 15 = .ok (.iload_n 3, 1) := by decide +kernel
theorem dX9_leave_16 : decode cX9_leave 16 = .ok (.invokestatic 147, 3) := by decide +kernel
theorem dX9_leave_19 : decode cX9_leave 19 = .ok (.ifCond .eq 13, 3) := by decide +kernel
theorem dX9_leave_22 : decode cX9_leave 22 = .ok (.iload 4, 2) := by decide +kernel
theorem dX9_leave_24 : decode cX9_leave 24 = .ok (.iload 5, 2) := by decide +kernel
theorem dX9_leave_26 : decode cX9_leave 26 = .ok (.invokestatic 150, 3) := by decide +kernel
theorem dX9_leave_29 : decode cX9_leave 29 = .ok (.ifCond .ne 10, 3) := by decide +kernel
theorem dX9_leave_32 : decode cX9_leave 32 = .ok (.aload_n 0, 1) := by decide +kernel
theorem dX9_leave_33 : decode cX9_leave 33 = .ok (.bipush (-2), 2) := by decide +kernel
theorem dX9_leave_35 : decode cX9_leave 35 = .ok (.invokevirtual 62, 3) := by decide +kernel
theorem dX9_leave_38 : decode cX9_leave 38 = .ok (.ireturn, 1) := by decide +kernel
theorem dX9_leave_39 : decode cX9_leave 39 = .ok (.aload_n 0, 1) := by decide +kernel
theorem dX9_leave_40 : decode cX9_leave 40 = .ok (.getfield 7, 3) := by decide +kernel
theorem dX9_leave_43 : decode cX9_leave 43 = .ok (.iconst 2, 1) := by decide +kernel
theorem dX9_leave_44 : decode cX9_leave 44 = .ok (.iaload, 1) := by decide +kernel
theorem dX9_leave_45 : decode cX9_leave 45 = .ok (.bipush 8, 2) := by decide +kernel
theorem dX9_leave_47 : decode cX9_leave 47 = .ok (.if_icmp .ne 8, 3) := by decide +kernel
theorem dX9_leave_50 : decode cX9_leave 50 = .ok (.aload_n 0, 1) := by decide +kernel
theorem dX9_leave_51 : decode cX9_leave 51 = .ok (.invokevirtual 66, 3) := by decide +kernel
theorem dX9_leave_54 : decode cX9_leave 54 = .ok (.ireturn, 1) := by decide +kernel
theorem dX9_leave_55 : decode cX9_leave 55 = .ok (.bipush 86, 2) := by decide +kernel
theorem dX9_leave_57 : decode cX9_leave 57 = .ok (.iconst 5, 1) := by decide +kernel
theorem dX9_leave_58 : decode cX9_leave 58 = .ok (.aload_n 0, 1) := by decide +kernel
theorem dX9_leave_59 : decode cX9_leave 59 = .ok (.getfield 7, 3) := by decide +kernel
theorem dX9_leave_62 : decode cX9_leave 62 = .ok (.iconst 2, 1) := by decide +kernel
theorem dX9_leave_63 : decode cX9_leave 63 = .ok (.iaload, 1) := by decide +kernel
theorem dX9_leave_64 : decode cX9_leave 64 = .ok (.imul, 1) := by decide +kernel
theorem dX9_leave_65 : decode cX9_leave 65 = .ok (.iadd, 1) := by decide +kernel
theorem dX9_leave_66 : decode cX9_leave 66 = .ok (.istore 6, 2) := by decide +kernel
theorem dX9_leave_68 : decode cX9_leave 68 = .ok (.aload_n 0, 1) := by decide +kernel
theorem dX9_leave_69 : decode cX9_leave 69 = .ok (.getfield 7, 3) := by decide +kernel
theorem dX9_leave_72 : decode cX9_leave 72 = .ok (.iload 6, 2) := by decide +kernel
theorem dX9_leave_74 : decode cX9_leave 74 = .ok (.iload_n 1, 1) := by decide +kernel
theorem dX9_leave_75 : decode cX9_leave 75 = .ok (.iastore, 1) := by decide +kernel
theorem dX9_leave_76 : decode cX9_leave 76 = .ok (.aload_n 0, 1) := by decide +kernel
theorem dX9_leave_77 : decode cX9_leave 77 = .ok (.getfield 7, 3) := by decide +kernel
theorem dX9_leave_80 : decode cX9_leave 80 = .ok (.iload 6, 2) := by decide +kernel
theorem dX9_leave_82 : decode cX9_leave 82 = .ok (.iconst 1, 1) := by decide +kernel
theorem dX9_leave_83 : decode cX9_leave 83 = .ok (.iadd, 1) := by decide +kernel
theorem dX9_leave_84 : decode cX9_leave 84 = .ok (.iload_n 2, 1) := by decide +kernel
theorem dX9_leave_85 : decode cX9_leave 85 = .ok (.iastore, 1) := by decide +kernel
theorem dX9_leave_86 : decode cX9_leave 86 = .ok (.aload_n 0, 1) := by decide +kernel
theorem dX9_leave_87 : decode cX9_leave 87 = .ok (.getfield 7, 3) := by decide +kernel
theorem dX9_leave_90 : decode cX9_leave 90 = .ok (.iload 6, 2) := by decide +kernel
theorem dX9_leave_92 : decode cX9_leave 92 = .ok (.iconst 2, 1) := by decide +kernel
theorem dX9_leave_93 : decode cX9_leave 93 = .ok (.iadd, 1) := by decide +kernel
theorem dX9_leave_94 : decode cX9_leave 94 = .ok (.iload_n 3, 1) := by decide +kernel
theorem dX9_leave_95 : decode cX9_leave 95 = .ok (.iastore, 1) := by decide +kernel
theorem dX9_leave_96 : decode cX9_leave 96 = .ok (.aload_n 0, 1) := by decide +kernel
theorem dX9_leave_97 : decode cX9_leave 97 = .ok (.getfield 7, 3) := by decide +kernel
theorem dX9_leave_100 : decode cX9_leave 100 = .ok (.iload 6, 2) := by decide +kernel
theorem dX9_leave_102 : decode cX9_leave 102 = .ok (.iconst 3, 1) := by decide +kernel
theorem dX9_leave_103 : decode cX9_leave 103 = .ok (.iadd, 1) := by decide +kernel
theorem dX9_leave_104 : decode cX9_leave 104 = .ok (.iload 4, 2) := by decide +kernel
theorem dX9_leave_106 : decode cX9_leave 106 = .ok (.iastore, 1) := by decide +kernel
theorem dX9_leave_107 : decode cX9_leave 107 = .ok (.aload_n 0, 1) := by decide +kernel
theorem dX9_leave_108 : decode cX9_leave 108 = .ok (.getfield 7, 3) := by decide +kernel
theorem dX9_leave_111 : decode cX9_leave 111 = .ok (.iload 6, 2) := by decide +kernel
theorem dX9_leave_113 : decode cX9_leave 113 = .ok (.iconst 4, 1) := by decide +kernel
theorem dX9_leave_114 : decode cX9_leave 114 = .ok (.iadd, 1) := by decide +kernel
theorem dX9_leave_115 : decode cX9_leave 115 = .ok (.iload 5, 2) := by decide +kernel
theorem dX9_leave_117 : decode cX9_leave 117 = .ok (.iastore, 1) := by decide +kernel
theorem dX9_leave_118 : decode cX9_leave 118 = .ok (.aload_n 0, 1) := by decide +kernel
theorem dX9_leave_119 : decode cX9_leave 119 = .ok (.getfield 7, 3) := by decide +kernel
theorem dX9_leave_122 : decode cX9_leave 122 = .ok (.iconst 2, 1) := by decide +kernel
theorem dX9_leave_123 : decode cX9_leave 123 = .ok (.dup2, 1) := by decide +kernel
theorem dX9_leave_124 : decode cX9_leave 124 = .ok (.iaload, 1) := by decide +kernel
theorem dX9_leave_125 : decode cX9_leave 125 = .ok (.iconst 1, 1) := by decide +kernel
theorem dX9_leave_126 : decode cX9_leave 126 = .ok (.iadd, 1) := by decide +kernel
theorem dX9_leave_127 : decode cX9_leave 127 = .ok (.iastore, 1) := by decide +kernel
theorem dX9_leave_128 : decode cX9_leave 128 = .ok (.aload_n 0, 1) := by decide +kernel
theorem dX9_leave_129 : decode cX9_leave 129 = .ok (.getfield 7, 3) := by decide +kernel
theorem dX9_leave_132 : decode cX9_leave 132 = .ok (.iconst 2, 1) := by decide +kernel
theorem dX9_leave_133 : decode cX9_leave 133 = .ok (.iaload, 1) := by decide +kernel
theorem dX9_leave_134 : decode cX9_leave 134 = .ok (.iconst 1, 1) := by decide +kernel
theorem dX9_leave_135 : decode cX9_leave 135 = .ok (.isub, 1) := by decide +kernel
theorem dX9_leave_136 : decode cX9_leave 136 = .ok (.ireturn, 1) := by decide +kernel
theorem dX9_burn_0 : decode cX9_burn 0 = .ok (.aload_n 0, 1) := by decide +kernel
theorem dX9_burn_1 : decode cX9_burn 1 = .ok (.getfield 7, 3) := by decide +kernel
theorem dX9_burn_4 : decode cX9_burn 4 = .ok (.iconst 2, 1) := by decide +kernel
theorem dX9_burn_5 : decode cX9_burn 5 = .ok (.iaload, 1) := by decide +kernel
theorem dX9_burn_6 : decode cX9_burn 6 = .ok (.istore_n 1, 1) := by decide +kernel
theorem dX9_burn_7 : decode cX9_burn 7 = .ok (.aload_n 0, 1) := by decide +kernel
theorem dX9_burn_8 : decode cX9_burn 8 = .ok (.getfield 7, 3) := by decide +kernel
theorem dX9_burn_11 : decode cX9_burn 11 = .ok (.iconst 2, 1) := by decide +kernel
theorem dX9_burn_12 : decode cX9_burn 12 = .ok (.iconst 0, 1) := by decide +kernel
theorem dX9_burn_13 : decode cX9_burn 13 = .ok (.iastore, 1) := by decide +kernel
theorem dX9_burn_14 : decode cX9_burn 14 = .ok (.iload_n 1, 1) := by decide +kernel
theorem dX9_burn_15 : decode cX9_burn 15 = .ok (.ireturn, 1) := by decide +kernel
theorem dX9_forged_0 : decode cX9_forged 0 = .ok (.iconst 0, 1) := by decide +kernel
theorem dX9_forged_1 : decode cX9_forged 1 = .ok (.istore_n 1, 1) := by decide +kernel
theorem dX9_forged_2 : decode cX9_forged 2 = .ok (.iconst 0, 1) := by decide +kernel
theorem dX9_forged_3 : decode cX9_forged 3 = .ok (.istore_n 2, 1) := by decide +kernel
theorem dX9_forged_4 : decode cX9_forged 4 = .ok (.iload_n 2, 1) := by decide +kernel
theorem dX9_forged_5 : decode cX9_forged 5 = .ok (.aload_n 0, 1) := by decide +kernel
theorem dX9_forged_6 : decode cX9_forged 6 = .ok (.getfield 7, 3) := by decide +kernel
theorem dX9_forged_9 : decode cX9_forged 9 = .ok (.iconst 2, 1) := by decide +kernel
theorem dX9_forged_10 : decode cX9_forged 10 = .ok (.iaload, 1) := by decide +kernel
theorem dX9_forged_11 : decode cX9_forged 11 = .ok (.if_icmp .ge 72, 3) := by decide +kernel
theorem dX9_forged_14 : decode cX9_forged 14 = .ok (.bipush 86, 2) := by decide +kernel
theorem dX9_forged_16 : decode cX9_forged 16 = .ok (.iconst 5, 1) := by decide +kernel
theorem dX9_forged_17 : decode cX9_forged 17 = .ok (.iload_n 2, 1) := by decide +kernel
theorem dX9_forged_18 : decode cX9_forged 18 = .ok (.imul, 1) := by decide +kernel
theorem dX9_forged_19 : decode cX9_forged 19 = .ok (.iadd, 1) := by decide +kernel
theorem dX9_forged_20 : decode cX9_forged 20 = .ok (.istore_n 3, 1) := by decide +kernel
theorem dX9_forged_21 : decode cX9_forged 21 = .ok (.iload_n 1, 1) := by decide +kernel
theorem dX9_forged_22 : decode cX9_forged 22 = .ok (.aload_n 0, 1) := by decide +kernel
theorem dX9_forged_23 : decode cX9_forged 23 = .ok (.aload_n 0, 1) := by decide +kernel
theorem dX9_forged_24 : decode cX9_forged 24 = .ok (.getfield 7, 3) := by decide +kernel
theorem dX9_forged_27 : decode cX9_forged 27 = .ok (.iload_n 3, 1) := by decide +kernel
theorem dX9_forged_28 : decode cX9_forged 28 = .ok (.iaload, 1) := by decide +kernel
theorem dX9_forged_29 : decode cX9_forged 29 = .ok (.aload_n 0, 1) := by decide +kernel
theorem dX9_forged_30 : decode cX9_forged 30 = .ok (.getfield 7, 3) := by decide +kernel
theorem dX9_forged_33 : decode cX9_forged 33 = .ok (.iload_n 3, 1) := by decide +kernel
theorem dX9_forged_34 : decode cX9_forged 34 = .ok (.iconst 1, 1) := by decide +kernel
theorem dX9_forged_35 : decode cX9_forged 35 = .ok (.iadd, 1) := by decide +kernel
theorem dX9_forged_36 : decode cX9_forged 36 = .ok (.iaload, 1) := by decide +kernel
theorem dX9_forged_37 : decode cX9_forged 37 = .ok (.aload_n 0, 1) := by decide +kernel
theorem dX9_forged_38 : decode cX9_forged 38 = .ok (.getfield 7, 3) := by decide +kernel
theorem dX9_forged_41 : decode cX9_forged 41 = .ok (.iload_n 3, 1) := by decide +kernel
theorem dX9_forged_42 : decode cX9_forged 42 = .ok (.iconst 2, 1) := by decide +kernel
theorem dX9_forged_43 : decode cX9_forged 43 = .ok (.iadd, 1) := by decide +kernel
theorem dX9_forged_44 : decode cX9_forged 44 = .ok (.iaload, 1) := by decide +kernel
theorem dX9_forged_45 : decode cX9_forged 45 = .ok (.aload_n 0, 1) := by decide +kernel
theorem dX9_forged_46 : decode cX9_forged 46 = .ok (.getfield 7, 3) := by decide +kernel
theorem dX9_forged_49 : decode cX9_forged 49 = .ok (.iload_n 3, 1) := by decide +kernel
theorem dX9_forged_50 : decode cX9_forged 50 = .ok (.iconst 3, 1) := by decide +kernel
theorem dX9_forged_51 : decode cX9_forged 51 = .ok (.iadd, 1) := by decide +kernel
theorem dX9_forged_52 : decode cX9_forged 52 = .ok (.iaload, 1) := by decide +kernel
theorem dX9_forged_53 : decode cX9_forged 53 = .ok (.aload_n 0, 1) := by decide +kernel
theorem dX9_forged_54 : decode cX9_forged 54 = .ok (.getfield 7, 3) := by decide +kernel
theorem dX9_forged_57 : decode cX9_forged 57 = .ok (.iload_n 3, 1) := by decide +kernel
theorem dX9_forged_58 : decode cX9_forged 58 = .ok (.iconst 4, 1) := by decide +kernel
theorem dX9_forged_59 : decode cX9_forged 59 = .ok (.iadd, 1) := by decide +kernel
theorem dX9_forged_60 : decode cX9_forged 60 = .ok (.iaload, 1) := by decide +kernel
theorem dX9_forged_61 : decode cX9_forged 61 = .ok (.iconst 0, 1) := by decide +kernel
theorem dX9_forged_62 : decode cX9_forged 62 = .ok (.invokevirtual 161, 3) := by decide +kernel
theorem dX9_forged_65 : decode cX9_forged 65 = .ok (.ifCond .eq 7, 3) := by decide +kernel
theorem dX9_forged_68 : decode cX9_forged 68 = .ok (.iconst 0, 1) := by decide +kernel
theorem dX9_forged_69 : decode cX9_forged 69 = .ok (.goto 6, 3) := by decide +kernel
theorem dX9_forged_72 : decode cX9_forged 72 = .ok (.iconst 1, 1) := by decide +kernel
theorem dX9_forged_73 : decode cX9_forged 73 = .ok (.iload_n 2, 1) := by decide +kernel
theorem dX9_forged_74 : decode cX9_forged 74 = .ok (.ishl, 1) := by decide +kernel
theorem dX9_forged_75 : decode cX9_forged 75 = .ok (.ior, 1) := by decide +kernel
theorem dX9_forged_76 : decode cX9_forged 76 = .ok (.istore_n 1, 1) := by decide +kernel
theorem dX9_forged_77 : decode cX9_forged 77 = .ok (.iinc 2 1, 3) := by decide +kernel
theorem dX9_forged_80 : decode cX9_forged 80 = .ok (.goto (-76), 3) := by decide +kernel
theorem dX9_forged_83 : decode cX9_forged 83 = .ok (.iload_n 1, 1) := by decide +kernel
theorem dX9_forged_84 : decode cX9_forged 84 = .ok (.ireturn, 1) := by decide +kernel
theorem dX9_whose_0 : decode cX9_whose 0 = .ok (.aload_n 0, 1) := by decide +kernel
theorem dX9_whose_1 : decode cX9_whose 1 = .ok (.iload_n 1, 1) := by decide +kernel
theorem dX9_whose_2 : decode cX9_whose 2 = .ok (.invokevirtual 73, 3) := by decide +kernel
theorem dX9_whose_5 : decode cX9_whose 5 = .ok (.ifCond .eq 40, 3) := by decide +kernel
theorem dX9_whose_8 : decode cX9_whose 8 = .ok (.iload_n 2, 1) := by decide +kernel
theorem dX9_whose_9 : decode cX9_whose 9 = .ok (.i2l, 1) := by decide +kernel
theorem dX9_whose_10 : decode cX9_whose 10 = .ok (.lconst 0, 1) := by decide +kernel
theorem dX9_whose_11 : decode cX9_whose 11 = .ok (.ldc2_w 190, 3) := by decide +kernel
theorem dX9_whose_14 : decode cX9_whose 14 = .ok (.invokestatic 43, 3) := by decide +kernel
theorem dX9_whose_17 : decode cX9_whose 17 = .ok (.ifCond .eq 28, 3) := by decide +kernel
theorem dX9_whose_20 : decode cX9_whose 20 = .ok (.iload_n 3, 1) := by decide +kernel
theorem dX9_whose_21 : decode cX9_whose 21 = .ok (.invokestatic 83, 3) := by decide +kernel
theorem dX9_whose_24 : decode cX9_whose 24 = .ok (.ifCond .eq 21, 3) := by decide +kernel
theorem dX9_whose_27 : decode cX9_whose 27 = .ok (.iload 4, 2) := by decide +kernel
theorem dX9_whose_29 : decode cX9_whose 29 = .ok (.invokestatic 147, 3) := by decide +kernel
theorem dX9_whose_32 : decode cX9_whose 32 = .ok (.ifCond .eq 13, 3) := by decide +kernel
theorem dX9_whose_35 : decode cX9_whose 35 = .ok (.iload 5, 2) := by decide +kernel
theorem dX9_whose_37 : decode cX9_whose 37 = .ok (.iload 6, 2) := by decide +kernel
theorem dX9_whose_39 : decode cX9_whose 39 = .ok (.invokestatic 150, 3) := by decide +kernel
theorem dX9_whose_42 : decode cX9_whose 42 = .ok (.ifCond .ne 10, 3) := by decide +kernel
theorem dX9_whose_45 : decode cX9_whose 45 = .ok (.aload_n 0, 1) := by decide +kernel
theorem dX9_whose_46 : decode cX9_whose 46 = .ok (.bipush (-2), 2) := by decide +kernel
theorem dX9_whose_48 : decode cX9_whose 48 = .ok (.invokevirtual 62, 3) := by decide +kernel
theorem dX9_whose_51 : decode cX9_whose 51 = .ok (.ireturn, 1) := by decide +kernel
theorem dX9_whose_52 : decode cX9_whose 52 = .ok (.iconst 0, 1) := by decide +kernel
theorem dX9_whose_53 : decode cX9_whose 53 = .ok (.istore 7, 2) := by decide +kernel
theorem dX9_whose_55 : decode cX9_whose 55 = .ok (.aload_n 0, 1) := by decide +kernel
theorem dX9_whose_56 : decode cX9_whose 56 = .ok (.iload_n 1, 1) := by decide +kernel
theorem dX9_whose_57 : decode cX9_whose 57 = .ok (.invokevirtual 155, 3) := by decide +kernel
theorem dX9_whose_60 : decode cX9_whose 60 = .ok (.iconst 0, 1) := by decide +kernel
theorem dX9_whose_61 : decode cX9_whose 61 = .ok (.istore 8, 2) := by decide +kernel
theorem dX9_whose_63 : decode cX9_whose 63 = .ok (.iload 8, 2) := by decide +kernel
theorem dX9_whose_65 : decode cX9_whose 65 = .ok (.aload_n 0, 1) := by decide +kernel
theorem dX9_whose_66 : decode cX9_whose 66 = .ok (.invokevirtual 39, 3) := by decide +kernel
theorem dX9_whose_69 : decode cX9_whose 69 = .ok (.if_icmp .ge 50, 3) := by decide +kernel
theorem dX9_whose_72 : decode cX9_whose 72 = .ok (.iload 7, 2) := by decide +kernel
theorem dX9_whose_74 : decode cX9_whose 74 = .ok (.aload_n 0, 1) := by decide +kernel
theorem dX9_whose_75 : decode cX9_whose 75 = .ok (.getfield 27, 3) := by decide +kernel
theorem dX9_whose_78 : decode cX9_whose 78 = .ok (.iload 8, 2) := by decide +kernel
theorem dX9_whose_80 : decode cX9_whose 80 = .ok (.iaload, 1) := by decide +kernel
theorem dX9_whose_81 : decode cX9_whose 81 = .ok (.iload_n 2, 1) := by decide +kernel
theorem dX9_whose_82 : decode cX9_whose 82 = .ok (.if_icmp .gt 27, 3) := by decide +kernel
theorem dX9_whose_85 : decode cX9_whose 85 = .ok (.aload_n 0, 1) := by decide +kernel
theorem dX9_whose_86 : decode cX9_whose 86 = .ok (.iload 8, 2) := by decide +kernel
theorem dX9_whose_88 : decode cX9_whose 88 = .ok (.iload_n 3, 1) := by decide +kernel
theorem dX9_whose_89 : decode cX9_whose 89 = .ok (.iload 4, 2) := by decide +kernel
theorem dX9_whose_91 : decode cX9_whose 91 = .ok (.iload 5, 2) := by decide +kernel
theorem dX9_whose_93 : decode cX9_whose 93 = .ok (.iload 6, 2) := by decide +kernel
theorem dX9_whose_95 : decode cX9_whose 95 = .ok (.iconst 0, 1) := by decide +kernel
theorem dX9_whose_96 : decode cX9_whose 96 = .ok (.invokevirtual 161, 3) := by decide +kernel
theorem dX9_whose_99 : decode cX9_whose 99 = .ok (.ifCond .eq 10, 3) := by decide +kernel
theorem dX9_whose_102 : decode cX9_whose 102 = .ok (.iconst 1, 1) := by decide +kernel
theorem dX9_whose_103 : decode cX9_whose 103 = .ok (.iload 8, 2) := by decide +kernel
theorem dX9_whose_105 : decode cX9_whose 105 = .ok (.ishl, 1) := by decide +kernel
theorem dX9_whose_106 : decode cX9_whose 106 = .ok (.goto 4, 3) := by decide +kernel
theorem dX9_whose_109 : decode cX9_whose 109 = .ok (.iconst 0, 1) := by decide +kernel
theorem dX9_whose_110 : decode cX9_whose 110 = .ok (.ior, 1) := by decide +kernel
theorem dX9_whose_111 : decode cX9_whose 111 = .ok (.istore 7, 2) := by decide +kernel
theorem dX9_whose_113 : decode cX9_whose 113 = .ok (.iinc 8 1, 3) := by decide +kernel
theorem dX9_whose_116 : decode cX9_whose 116 = .ok (.goto (-53), 3) := by decide +kernel
theorem dX9_whose_119 : decode cX9_whose 119 = .ok (.iload 7, 2) := by decide +kernel
theorem dX9_whose_121 : decode cX9_whose 121 = .ok (.ireturn, 1) := by decide +kernel
theorem dX9_fraction_0 : decode cX9_fraction 0 = .ok (.iload_n 1, 1) := by decide +kernel
theorem dX9_fraction_1 : decode cX9_fraction 1 = .ok (.istore_n 3, 1) := by decide +kernel
theorem dX9_fraction_2 : decode cX9_fraction 2 = .ok (.iload_n 2, 1) := by decide +kernel
theorem dX9_fraction_3 : decode cX9_fraction 3 = .ok (.istore 4, 2) := by decide +kernel
theorem dX9_fraction_5 : decode cX9_fraction 5 = .ok (.iload 4, 2) := by decide +kernel
theorem dX9_fraction_7 : decode cX9_fraction 7 = .ok (.ifCond .eq 19, 3) := by decide +kernel
theorem dX9_fraction_10 : decode cX9_fraction 10 = .ok (.iload_n 3, 1) := by decide +kernel
theorem dX9_fraction_11 : decode cX9_fraction 11 = .ok (.iload 4, 2) := by decide +kernel
theorem dX9_fraction_13 : decode cX9_fraction 13 = .ok (.irem, 1) := by decide +kernel
theorem dX9_fraction_14 : decode cX9_fraction 14 = .ok (.istore 5, 2) := by decide +kernel
theorem dX9_fraction_16 : decode cX9_fraction 16 = .ok (.iload 4, 2) := by decide +kernel
theorem dX9_fraction_18 : decode cX9_fraction 18 = .ok (.istore_n 3, 1) := by decide +kernel
theorem dX9_fraction_19 : decode cX9_fraction 19 = .ok (.iload 5, 2) := by decide +kernel
theorem dX9_fraction_21 : decode cX9_fraction 21 = .ok (.istore 4, 2) := by decide +kernel
theorem dX9_fraction_23 : decode cX9_fraction 23 = .ok (.goto (-18), 3) := by decide +kernel
theorem dX9_fraction_26 : decode cX9_fraction 26 = .ok (.aload_n 0, 1) := by decide +kernel
theorem dX9_fraction_27 : decode cX9_fraction 27 = .ok (.iload_n 1, 1) := by decide +kernel
theorem dX9_fraction_28 : decode cX9_fraction 28 = .ok (.iload_n 3, 1) := by decide +kernel
theorem dX9_fraction_29 : decode cX9_fraction 29 = .ok (.idiv, 1) := by decide +kernel
theorem dX9_fraction_30 : decode cX9_fraction 30 = .ok (.i2l, 1) := by decide +kernel
theorem dX9_fraction_31 : decode cX9_fraction 31 = .ok (.putfield 192, 3) := by decide +kernel
theorem dX9_fraction_34 : decode cX9_fraction 34 = .ok (.aload_n 0, 1) := by decide +kernel
theorem dX9_fraction_35 : decode cX9_fraction 35 = .ok (.iload_n 2, 1) := by decide +kernel
theorem dX9_fraction_36 : decode cX9_fraction 36 = .ok (.iload_n 3, 1) := by decide +kernel
theorem dX9_fraction_37 : decode cX9_fraction 37 = .ok (.idiv, 1) := by decide +kernel
theorem dX9_fraction_38 : decode cX9_fraction 38 = .ok (.i2l, 1) := by decide +kernel
theorem dX9_fraction_39 : decode cX9_fraction 39 = .ok (.putfield 23, 3) := by decide +kernel
theorem dX9_fraction_42 : decode cX9_fraction 42 = .ok (.return_, 1) := by decide +kernel
theorem dX9_odds_0 : decode cX9_odds 0 = .ok (.aload_n 0, 1) := by decide +kernel
theorem dX9_odds_1 : decode cX9_odds 1 = .ok (.iload_n 1, 1) := by decide +kernel
theorem dX9_odds_2 : decode cX9_odds 2 = .ok (.invokevirtual 73, 3) := by decide +kernel
theorem dX9_odds_5 : decode cX9_odds 5 = .ok (.ifCond .eq 41, 3) := by decide +kernel
theorem dX9_odds_8 : decode cX9_odds 8 = .ok (.iload_n 2, 1) := by decide +kernel
theorem dX9_odds_9 : decode cX9_odds 9 = .ok (.invokestatic 83, 3) := by decide +kernel
theorem dX9_odds_12 : decode cX9_odds 12 = .ok (.ifCond .eq 34, 3) := by decide +kernel
theorem dX9_odds_15 : decode cX9_odds 15 = .ok (.iload_n 3, 1) := by decide +kernel
theorem dX9_odds_16 : decode cX9_odds 16 = .ok (.invokestatic 147, 3) := by decide +kernel
theorem dX9_odds_19 : decode cX9_odds 19 = .ok (.ifCond .eq 27, 3) := by decide +kernel
theorem dX9_odds_22 : decode cX9_odds 22 = .ok (.iload 4, 2) := by decide +kernel
theorem dX9_odds_24 : decode cX9_odds 24 = .ok (.invokestatic 147, 3) := by decide +kernel
theorem dX9_odds_27 : decode cX9_odds 27 = .ok (.ifCond .eq 19, 3) := by decide +kernel
theorem dX9_odds_30 : decode cX9_odds 30 = .ok (.iload_n 3, 1) := by decide +kernel
theorem dX9_odds_31 : decode cX9_odds 31 = .ok (.iload 4, 2) := by decide +kernel
theorem dX9_odds_33 : decode cX9_odds 33 = .ok (.if_icmp .gt 13, 3) := by decide +kernel
theorem dX9_odds_36 : decode cX9_odds 36 = .ok (.iload 5, 2) := by decide +kernel
theorem dX9_odds_38 : decode cX9_odds 38 = .ok (.iload 6, 2) := by decide +kernel
theorem dX9_odds_40 : decode cX9_odds 40 = .ok (.invokestatic 150, 3) := by decide +kernel
theorem dX9_odds_43 : decode cX9_odds 43 = .ok (.ifCond .ne 10, 3) := by decide +kernel
theorem dX9_odds_46 : decode cX9_odds 46 = .ok (.aload_n 0, 1) := by decide +kernel
theorem dX9_odds_47 : decode cX9_odds 47 = .ok (.bipush (-2), 2) := by decide +kernel
theorem dX9_odds_49 : decode cX9_odds 49 = .ok (.invokevirtual 62, 3) := by decide +kernel
theorem dX9_odds_52 : decode cX9_odds 52 = .ok (.ireturn, 1) := by decide +kernel
theorem dX9_odds_53 : decode cX9_odds 53 = .ok (.iconst 0, 1) := by decide +kernel
theorem dX9_odds_54 : decode cX9_odds 54 = .ok (.istore 7, 2) := by decide +kernel
theorem dX9_odds_56 : decode cX9_odds 56 = .ok (.iload_n 3, 1) := by decide +kernel
theorem dX9_odds_57 : decode cX9_odds 57 = .ok (.istore 8, 2) := by decide +kernel
theorem dX9_odds_59 : decode cX9_odds 59 = .ok (.iload 8, 2) := by decide +kernel
theorem dX9_odds_61 : decode cX9_odds 61 = .ok (.iload 4, 2) := by decide +kernel
theorem dX9_odds_63 : decode cX9_odds 63 = .ok (.if_icmp .gt 35, 3) := by decide +kernel
theorem dX9_odds_66 : decode cX9_odds 66 = .ok (.iload 7, 2) := by decide +kernel
theorem dX9_odds_68 : decode cX9_odds 68 = .ok (.aload_n 0, 1) := by decide +kernel
theorem dX9_odds_69 : decode cX9_odds 69 = .ok (.iload_n 1, 1) := by decide +kernel
theorem dX9_odds_70 : decode cX9_odds 70 = .ok (.iload_n 2, 1) := by decide +kernel
theorem dX9_odds_71 : decode cX9_odds 71 = .ok (.iload 8, 2) := by decide +kernel
theorem dX9_odds_73 : decode cX9_odds 73 = .ok (.iload 5, 2) := by decide +kernel
theorem dX9_odds_75 : decode cX9_odds 75 = .ok (.iload 6, 2) := by decide +kernel
theorem dX9_odds_77 : decode cX9_odds 77 = .ok (.iconst 0, 1) := by decide +kernel
theorem dX9_odds_78 : decode cX9_odds 78 = .ok (.invokevirtual 161, 3) := by decide +kernel
theorem dX9_odds_81 : decode cX9_odds 81 = .ok (.ifCond .eq 7, 3) := by decide +kernel
theorem dX9_odds_84 : decode cX9_odds 84 = .ok (.iconst 0, 1) := by decide +kernel
theorem dX9_odds_85 : decode cX9_odds 85 = .ok (.goto 4, 3) := by decide +kernel
theorem dX9_odds_88 : decode cX9_odds 88 = .ok (.iconst 1, 1) := by decide +kernel
theorem dX9_odds_89 : decode cX9_odds 89 = .ok (.iadd, 1) := by decide +kernel
theorem dX9_odds_90 : decode cX9_odds 90 = .ok (.istore 7, 2) := by decide +kernel
theorem dX9_odds_92 : decode cX9_odds 92 = .ok (.iinc 8 1, 3) := by decide +kernel
theorem dX9_odds_95 : decode cX9_odds 95 = .ok (.goto (-36), 3) := by decide +kernel
theorem dX9_odds_98 : decode cX9_odds 98 = .ok (.aload_n 0, 1) := by decide +kernel
theorem dX9_odds_99 : decode cX9_odds 99 = .ok (.iload 7, 2) := by decide +kernel
theorem dX9_odds_101 : decode cX9_odds 101 = .ok (.iload 4, 2) := by decide +kernel
theorem dX9_odds_103 : decode cX9_odds 103 = .ok (.iload_n 3, 1) := by decide +kernel
theorem dX9_odds_104 : decode cX9_odds 104 = .ok (.isub, 1) := by decide +kernel
theorem dX9_odds_105 : decode cX9_odds 105 = .ok (.iconst 1, 1) := by decide +kernel
theorem dX9_odds_106 : decode cX9_odds 106 = .ok (.iadd, 1) := by decide +kernel
theorem dX9_odds_107 : decode cX9_odds 107 = .ok (.invokevirtual 195, 3) := by decide +kernel
theorem dX9_odds_110 : decode cX9_odds 110 = .ok (.iconst 1, 1) := by decide +kernel
theorem dX9_odds_111 : decode cX9_odds 111 = .ok (.ireturn, 1) := by decide +kernel
theorem kX9_patience : zCV yX9_patience RX9 cX9_patience 6 (some .int) 4 := ⟨q4_235, q4_236, q1_3, q4_237, rfl, by decide +kernel, by decide +kernel, by decide +kernel⟩
theorem kX9_orNever : zCS yX9_orNever cX9_orNever 1 (some .int) 1 := ⟨q5_12, q1_3, q5_13, by decide +kernel, by decide +kernel, by decide +kernel⟩
theorem kX9_concede : zCV yX9_concede RX9 cX9_concede 5 (some .int) 4 := ⟨q5_8, q5_9, q1_3, q5_10, rfl, by decide +kernel, by decide +kernel, by decide +kernel⟩
theorem kX9_presses : zCV yX9_presses RX9 cX9_presses 8 (some .int) 2 := ⟨q5_15, q5_16, q1_3, q5_17, rfl, by decide +kernel, by decide +kernel, by decide +kernel⟩
theorem kX9_leave : zCV yX9_leave RX9 cX9_leave 7 (some .int) 5 := ⟨q5_19, q5_20, q1_3, q5_21, rfl, by decide +kernel, by decide +kernel, by decide +kernel⟩
theorem kX9_burn : zCV yX9_burn RX9 cX9_burn 2 (some .int) 0 := ⟨q5_23, q5_24, q1_3, q5_25, rfl, by decide +kernel, by decide +kernel, by decide +kernel⟩
theorem kX9_forged : zCV yX9_forged RX9 cX9_forged 4 (some .int) 0 := ⟨q5_27, q5_28, q1_3, q5_29, rfl, by decide +kernel, by decide +kernel, by decide +kernel⟩
theorem kX9_whose : zCV yX9_whose RX9 cX9_whose 9 (some .int) 6 := ⟨q5_31, q5_32, q1_3, q5_33, rfl, by decide +kernel, by decide +kernel, by decide +kernel⟩
theorem kX9_fraction : zCV yX9_fraction RX9 cX9_fraction 6 none 2 := ⟨q5_41, qp36, q1_3, q5_42, rfl, by decide +kernel, by decide +kernel, by decide +kernel⟩
theorem kX9_odds : zCV yX9_odds RX9 cX9_odds 9 (some .int) 6 := ⟨q5_36, q5_37, q1_3, q5_38, rfl, by decide +kernel, by decide +kernel, by decide +kernel⟩
set_option maxHeartbeats 4000000 in
set_option maxRecDepth 100000 in
theorem c_X9_patience (l : Launch) (g : zG) (o : Nat) (a : Nat → Nat) (F : Nat → Int32) (L : Nat → Int64) (A : Nat → Nat → Int32) (X : va_W) (T : Nat) (C : Nat) (V : Nat) (U : Nat) (k : Int32) (q : Int32) (ac : Int32) (w : Int32) (hn : nOK (A 0) T C V U) : Met l yX9_patience (Cond.code yX9_patience cX9_patience 6 (some .int) :: TBL) { frames := 8, cells := 0, slots := 0, locals := 209 } (zPc [.ref o, .int k, .int q, .int ac, .int w] g (mW g o a F L A ++ X)) (zQi g (fun r ws => ∃ (F1 : Nat → Int32), r = (patienceR (A 0) T C k q ac w) ∧ ws = mW g o a F1 L (chk (patOK k q ac && pIn 0 1 w) A) ++ X ∧ F1 16 = F 16)) 0 0 (zA (gz g)) := by
  refine z_start (by decide +kernel) rfl (Nat.le_of_ble_eq_true rfl) ?_
  intro p e s m args below meth c ls hE hr hnm hB hl
  have hl : lv_has ls 6 [(0, .ref o), (1, .int k), (2, .int q), (3, .int ac), (4, .int w)] := hl
  revert hB
  generalize s.heap = H
  generalize ([] : List Loc) = locs
  intro hB
  have hT := hn.T
  have hT6 := hn.T6
  have hC := hn.C
  have hC8 := hn.C8
  have hV := hn.V
  have hV8 := hn.V8
  have hU := hn.U
  have hU8 := hn.U8
  refine lv_iload_n hE.x hE.b dX9_patience_0 rfl (lv_at hl 1 rfl) ?_
  refine lv_i2l hE.x hE.b dX9_patience_1 rfl ?_
  refine lv_lconst (v := lN 0) hE.x hE.b dX9_patience_2 rfl ?_
  refine lv_ldc2 (v := lN 99) hE.x hE.b hE.o (hE.t _ q4_238) dX9_patience_3 ?_
  refine z_qi hB (z_cS hE hB (c_X9_in l g (k.toInt64) (lN 0) (lN 99) k.toInt 0 99 (mW g o a F L A ++ X) (Int32.toInt_toInt64 _) (by decide) (by decide)) q4_88 kX9_in ⟨rfl, rfl⟩ ⟨Nat.le_of_ble_eq_true rfl, Nat.le_of_ble_eq_true rfl⟩ rfl hl.1 rfl (Nat.le_of_ble_eq_true rfl) dX9_patience_6 ⟨Nat.le_of_ble_eq_true rfl, Nat.le_of_ble_eq_true rfl⟩) (fun r_1 w_2 H locs hw hB => ?_)
  obtain ⟨hr9, hw9⟩ := hw
  have hr9 := hr9.symm
  subst hr9
  have hw9 := hw9.symm
  subst hw9
  refine z_bf (b := (inZ 0 99 k.toInt)) (tgt := 42) hE dX9_patience_9 (by decide) (fun c_3 => ?_) (fun c_3 => ?_)
  · refine lv_aload_n hE.x hE.b dX9_patience_42 rfl (lv_at hl 0 rfl) ?_
    refine lv_bipush (v := (-2)) hE.x hE.b dX9_patience_43 rfl ?_
    refine z_qi hB (z_cV hE hB (c_X9_bad l g o a F L A X (-2)) q4_91 kX9_bad ⟨rfl, rfl⟩ ⟨Nat.le_of_ble_eq_true rfl, Nat.le_of_ble_eq_true rfl⟩ 0 rfl rfl rfl hl.1 rfl (Nat.le_of_ble_eq_true rfl) dX9_patience_45 ⟨Nat.le_of_ble_eq_true rfl, Nat.le_of_ble_eq_true rfl⟩) (fun r_4 w_5 H locs hw hB => ?_)
    obtain ⟨hr9, hw9⟩ := hw
    have hr9 := hr9.symm
    subst hr9
    have hw9 := hw9.symm
    subst hw9
    exact z_iret (v := (-2)) (ws := mW g o a F L (bump 0 A) ++ X) hE hB hr (⟨F, by unfold patienceR patOK; simp only [c_3, Bool.and_false, Bool.false_and, Bool.false_eq_true, if_false, Bool.and_true, Bool.true_and], by unfold chk patOK; simp only [c_3, Bool.and_false, Bool.false_and, Bool.false_eq_true, if_false, Bool.and_true, Bool.true_and], rfl⟩) dX9_patience_48
  · refine lv_iload_n hE.x hE.b dX9_patience_12 rfl (lv_at hl 2 rfl) ?_
    refine lv_i2l hE.x hE.b dX9_patience_13 rfl ?_
    refine lv_lconst (v := lN 0) hE.x hE.b dX9_patience_14 rfl ?_
    refine lv_ldc2 (v := lN 99) hE.x hE.b hE.o (hE.t _ q4_238) dX9_patience_15 ?_
    refine z_qi hB (z_cS hE hB (c_X9_in l g (q.toInt64) (lN 0) (lN 99) q.toInt 0 99 (mW g o a F L A ++ X) (Int32.toInt_toInt64 _) (by decide) (by decide)) q4_88 kX9_in ⟨rfl, rfl⟩ ⟨Nat.le_of_ble_eq_true rfl, Nat.le_of_ble_eq_true rfl⟩ rfl hl.1 rfl (Nat.le_of_ble_eq_true rfl) dX9_patience_18 ⟨Nat.le_of_ble_eq_true rfl, Nat.le_of_ble_eq_true rfl⟩) (fun r_6 w_7 H locs hw hB => ?_)
    obtain ⟨hr9, hw9⟩ := hw
    have hr9 := hr9.symm
    subst hr9
    have hw9 := hw9.symm
    subst hw9
    refine z_bf (b := (inZ 0 99 q.toInt)) (tgt := 42) hE dX9_patience_21 (by decide) (fun c_8 => ?_) (fun c_8 => ?_)
    · refine lv_aload_n hE.x hE.b dX9_patience_42 rfl (lv_at hl 0 rfl) ?_
      refine lv_bipush (v := (-2)) hE.x hE.b dX9_patience_43 rfl ?_
      refine z_qi hB (z_cV hE hB (c_X9_bad l g o a F L A X (-2)) q4_91 kX9_bad ⟨rfl, rfl⟩ ⟨Nat.le_of_ble_eq_true rfl, Nat.le_of_ble_eq_true rfl⟩ 0 rfl rfl rfl hl.1 rfl (Nat.le_of_ble_eq_true rfl) dX9_patience_45 ⟨Nat.le_of_ble_eq_true rfl, Nat.le_of_ble_eq_true rfl⟩) (fun r_9 w_10 H locs hw hB => ?_)
      obtain ⟨hr9, hw9⟩ := hw
      have hr9 := hr9.symm
      subst hr9
      have hw9 := hw9.symm
      subst hw9
      exact z_iret (v := (-2)) (ws := mW g o a F L (bump 0 A) ++ X) hE hB hr (⟨F, by unfold patienceR patOK; simp only [c_3, c_8, Bool.and_false, Bool.false_and, Bool.false_eq_true, if_false, Bool.and_true, Bool.true_and], by unfold chk patOK; simp only [c_3, c_8, Bool.and_false, Bool.false_and, Bool.false_eq_true, if_false, Bool.and_true, Bool.true_and], rfl⟩) dX9_patience_48
    · refine lv_iload_n hE.x hE.b dX9_patience_24 rfl (lv_at hl 3 rfl) ?_
      refine z_qi hB (z_cS hE hB (c_X9_areActs l g ac (mW g o a F L A ++ X)) q4_219 kX9_areActs ⟨rfl, rfl⟩ ⟨Nat.le_of_ble_eq_true rfl, Nat.le_of_ble_eq_true rfl⟩ rfl hl.1 rfl (Nat.le_of_ble_eq_true rfl) dX9_patience_25 ⟨Nat.le_of_ble_eq_true rfl, Nat.le_of_ble_eq_true rfl⟩) (fun r_11 w_12 H locs hw hB => ?_)
      obtain ⟨hr9, hw9⟩ := hw
      have hr9 := hr9.symm
      subst hr9
      have hw9 := hw9.symm
      subst hw9
      refine z_bf (b := (pIn 0 63 ac)) (tgt := 42) hE dX9_patience_28 (by decide) (fun c_13 => ?_) (fun c_13 => ?_)
      · refine lv_aload_n hE.x hE.b dX9_patience_42 rfl (lv_at hl 0 rfl) ?_
        refine lv_bipush (v := (-2)) hE.x hE.b dX9_patience_43 rfl ?_
        refine z_qi hB (z_cV hE hB (c_X9_bad l g o a F L A X (-2)) q4_91 kX9_bad ⟨rfl, rfl⟩ ⟨Nat.le_of_ble_eq_true rfl, Nat.le_of_ble_eq_true rfl⟩ 0 rfl rfl rfl hl.1 rfl (Nat.le_of_ble_eq_true rfl) dX9_patience_45 ⟨Nat.le_of_ble_eq_true rfl, Nat.le_of_ble_eq_true rfl⟩) (fun r_14 w_15 H locs hw hB => ?_)
        obtain ⟨hr9, hw9⟩ := hw
        have hr9 := hr9.symm
        subst hr9
        have hw9 := hw9.symm
        subst hw9
        exact z_iret (v := (-2)) (ws := mW g o a F L (bump 0 A) ++ X) hE hB hr (⟨F, by unfold patienceR patOK; simp only [c_3, c_8, c_13, Bool.and_false, Bool.false_and, Bool.false_eq_true, if_false, Bool.and_true, Bool.true_and], by unfold chk patOK; simp only [c_3, c_8, c_13, Bool.and_false, Bool.false_and, Bool.false_eq_true, if_false, Bool.and_true, Bool.true_and], rfl⟩) dX9_patience_48
      · refine lv_iload hE.x hE.b dX9_patience_31 (lv_at hl 4 rfl) ?_
        refine lv_i2l hE.x hE.b dX9_patience_33 rfl ?_
        refine lv_lconst (v := lN 0) hE.x hE.b dX9_patience_34 rfl ?_
        refine lv_lconst (v := lN 1) hE.x hE.b dX9_patience_35 rfl ?_
        refine z_qi hB (z_cS hE hB (c_X9_in l g (w.toInt64) (lN 0) (lN 1) w.toInt 0 1 (mW g o a F L A ++ X) (Int32.toInt_toInt64 _) (by decide) (by decide)) q4_88 kX9_in ⟨rfl, rfl⟩ ⟨Nat.le_of_ble_eq_true rfl, Nat.le_of_ble_eq_true rfl⟩ rfl hl.1 rfl (Nat.le_of_ble_eq_true rfl) dX9_patience_36 ⟨Nat.le_of_ble_eq_true rfl, Nat.le_of_ble_eq_true rfl⟩) (fun r_16 w_17 H locs hw hB => ?_)
        obtain ⟨hr9, hw9⟩ := hw
        have hr9 := hr9.symm
        subst hr9
        have hw9 := hw9.symm
        subst hw9
        refine z_bt (b := (inZ 0 1 w.toInt)) (tgt := 49) hE dX9_patience_39 (by decide) (fun c_18 => ?_) (fun c_18 => ?_)
        · obtain ⟨kn, hkn, rfl⟩ := pIn_nI (hi := 99) c_3 (by omega)
          obtain ⟨pn, hpn, rfl⟩ := pIn_nI (hi := 99) c_8 (by omega)
          obtain ⟨an, han, rfl⟩ := pIn_nI (hi := 63) c_13 (by omega)
          refine lv_aload_n hE.x hE.b dX9_patience_49 rfl (lv_at hl 0 rfl) ?_
          refine lv_iload_n hE.x hE.b dX9_patience_50 rfl (lv_at hl 1 rfl) ?_
          refine lv_iload_n hE.x hE.b dX9_patience_51 rfl (lv_at hl 2 rfl) ?_
          refine lv_iload_n hE.x hE.b dX9_patience_52 rfl (lv_at hl 3 rfl) ?_
          refine lv_iconst (v := nI 0) hE.x hE.b dX9_patience_53 rfl ?_
          refine z_qi hB (z_cV hE hB (c_X9_givesIn l g o a F L A X C T kn pn an 0 hT (by omega) hC (by omega) (by omega) (by omega) (by omega) (by omega)) q4_239 kX9_givesIn ⟨rfl, rfl⟩ ⟨Nat.le_of_ble_eq_true rfl, Nat.le_of_ble_eq_true rfl⟩ 0 rfl rfl rfl hl.1 rfl (Nat.le_of_ble_eq_true rfl) dX9_patience_54 ⟨Nat.le_of_ble_eq_true rfl, Nat.le_of_ble_eq_true rfl⟩) (fun r_19 w_20 H locs hw hB => ?_)
          obtain ⟨F1_21, hr9, hw9, hf_22, hf_23⟩ := hw
          have hr9 := hr9.symm
          subst hr9
          have hw9 := hw9.symm
          subst hw9
          refine lv_istore (lv' := [(5, .int (oI (gD1 (giR (A 0) T C kn pn an 0)))), (0, .ref o), (1, .int (nI kn)), (2, .int (nI pn)), (3, .int (nI an)), (4, .int w)]) hE.x hE.b dX9_patience_57 hl (by decide) rfl (fun ls hl => ?_)
          refine lv_iload hE.x hE.b dX9_patience_59 (lv_at hl 5 rfl) ?_
          refine lv_if_ne (tgt := 69) hE.x hE.b dX9_patience_61 (by decide) (fun c_24 => ?_) (fun c_24 => ?_)
          · refine lv_aload_n hE.x hE.b dX9_patience_69 rfl (lv_at hl 1 rfl) ?_
            refine z_get (v := .int (F1_21 13)) hE hB inX9 0 rfl rfl 13 (by decide) q4_14 (fun _ h9 => h9) rfl dX9_patience_70 ?_
            exact z_iret (v := (F1_21 13)) (ws := mW g o a F1_21 L A ++ X) hE hB hr (⟨F1_21, by unfold patienceR patOK; simp only [c_3, c_8, c_13, c_18, Bool.and_true, Bool.true_and, if_true, rcl (show kn < 2 ^ 31 by omega), rcl (show pn < 2 ^ 31 by omega), rcl (show an < 2 ^ 31 by omega)]; rw [if_neg c_24]; exact hf_23, by unfold chk patOK; simp only [c_3, c_8, c_13, c_18, Bool.and_true, Bool.true_and, if_true], hf_22⟩) dX9_patience_73
          · refine lv_iload hE.x hE.b dX9_patience_64 (lv_at hl 0 rfl) ?_
            refine lv_goto (tgt := 73) hE.x hE.b dX9_patience_66 (by decide) ?_
            exact z_iret (v := (oI (gD1 (giR (A 0) T C kn pn an 0)))) (ws := mW g o a F1_21 L A ++ X) hE hB hr (⟨F1_21, by unfold patienceR patOK; simp only [c_3, c_8, c_13, c_18, Bool.and_true, Bool.true_and, if_true, rcl (show kn < 2 ^ 31 by omega), rcl (show pn < 2 ^ 31 by omega), rcl (show an < 2 ^ 31 by omega)]; rw [if_pos c_24], by unfold chk patOK; simp only [c_3, c_8, c_13, c_18, Bool.and_true, Bool.true_and, if_true], hf_22⟩) dX9_patience_73
        · refine lv_aload_n hE.x hE.b dX9_patience_42 rfl (lv_at hl 0 rfl) ?_
          refine lv_bipush (v := (-2)) hE.x hE.b dX9_patience_43 rfl ?_
          refine z_qi hB (z_cV hE hB (c_X9_bad l g o a F L A X (-2)) q4_91 kX9_bad ⟨rfl, rfl⟩ ⟨Nat.le_of_ble_eq_true rfl, Nat.le_of_ble_eq_true rfl⟩ 0 rfl rfl rfl hl.1 rfl (Nat.le_of_ble_eq_true rfl) dX9_patience_45 ⟨Nat.le_of_ble_eq_true rfl, Nat.le_of_ble_eq_true rfl⟩) (fun r_25 w_26 H locs hw hB => ?_)
          obtain ⟨hr9, hw9⟩ := hw
          have hr9 := hr9.symm
          subst hr9
          have hw9 := hw9.symm
          subst hw9
          exact z_iret (v := (-2)) (ws := mW g o a F L (bump 0 A) ++ X) hE hB hr (⟨F, by unfold patienceR patOK; simp only [c_3, c_8, c_13, c_18, Bool.and_false, Bool.false_and, Bool.false_eq_true, if_false, Bool.and_true, Bool.true_and], by unfold chk patOK; simp only [c_3, c_8, c_13, c_18, Bool.and_false, Bool.false_and, Bool.false_eq_true, if_false, Bool.and_true, Bool.true_and], rfl⟩) dX9_patience_48

set_option maxHeartbeats 4000000 in
set_option maxRecDepth 100000 in
theorem c_X9_orNever (l : Launch) (g : zG) (q : Int32) (X : va_W)  : Met l yX9_orNever (Cond.code yX9_orNever cX9_orNever 1 (some .int) :: TBL) { frames := 0, cells := 0, slots := 0, locals := 0 } (zPc [.int q] g (X)) (zQi g (fun r ws => r = (orNv q) ∧ ws = X)) 0 0 (zA (gz g)) := by
  refine z_start (by decide +kernel) rfl (Nat.le_of_ble_eq_true rfl) ?_
  intro p e s m args below meth c ls hE hr hnm hB hl
  have hl : lv_has ls 1 [(0, .int q)] := hl
  revert hB
  generalize s.heap = H
  generalize ([] : List Loc) = locs
  intro hB
  refine lv_iload_n hE.x hE.b dX9_orNever_0 rfl (lv_at hl 0 rfl) ?_
  refine lv_iconst (v := (-1)) hE.x hE.b dX9_orNever_1 rfl ?_
  refine lv_icmp_ne (tgt := 10) hE.x hE.b dX9_orNever_2 (by decide) (fun c_1 => ?_) (fun c_1 => ?_)
  · refine lv_iload_n hE.x hE.b dX9_orNever_10 rfl (lv_at hl 0 rfl) ?_
    exact z_iret (v := q) (ws := X) hE hB hr (⟨by unfold orNv; rw [if_neg c_1], rfl⟩) dX9_orNever_11
  · refine lv_bipush (v := (nI 60)) hE.x hE.b dX9_orNever_5 rfl ?_
    refine lv_goto (tgt := 11) hE.x hE.b dX9_orNever_7 (by decide) ?_
    exact z_iret (v := (nI 60)) (ws := X) hE hB hr (⟨by unfold orNv; rw [if_pos c_1], rfl⟩) dX9_orNever_11

set_option maxHeartbeats 4000000 in
set_option maxRecDepth 100000 in
theorem c_X9_concede (l : Launch) (g : zG) (o : Nat) (a : Nat → Nat) (F : Nat → Int32) (L : Nat → Int64) (A : Nat → Nat → Int32) (X : va_W) (T : Nat) (C : Nat) (V : Nat) (U : Nat) (z : Int32) (k : Int32) (q : Int32) (ac : Int32) (hn : nOK (A 0) T C V U) : Met l yX9_concede (Cond.code yX9_concede cX9_concede 5 (some .int) :: TBL) { frames := 8, cells := 0, slots := 0, locals := 209 } (zPc [.ref o, .int z, .int k, .int q, .int ac] g (mW g o a F L A ++ X)) (zQi g (fun r ws => ∃ (F1 : Nat → Int32), r = (concedeR (A 0) T C z k q ac) ∧ ws = mW g o a F1 L (chk (concedeOK C z k q ac) A) ++ X ∧ F1 16 = F 16)) 0 0 (zA (gz g)) := by
  refine z_start (by decide +kernel) rfl (Nat.le_of_ble_eq_true rfl) ?_
  intro p e s m args below meth c ls hE hr hnm hB hl
  have hl : lv_has ls 5 [(0, .ref o), (1, .int z), (2, .int k), (3, .int q), (4, .int ac)] := hl
  revert hB
  generalize s.heap = H
  generalize ([] : List Loc) = locs
  intro hB
  have hT := hn.T
  have hT6 := hn.T6
  have hC := hn.C
  have hC8 := hn.C8
  have hV := hn.V
  have hV8 := hn.V8
  have hU := hn.U
  have hU8 := hn.U8
  have h16 : F 16 = F 16 := rfl
  refine lv_aload_n hE.x hE.b dX9_concede_0 rfl (lv_at hl 0 rfl) ?_
  refine lv_iload_n hE.x hE.b dX9_concede_1 rfl (lv_at hl 1 rfl) ?_
  refine z_qi hB (z_cV hE hB (c_X9_isClause l g o a F L A X C z hC (by omega)) q4_138 kX9_isClause ⟨rfl, rfl⟩ ⟨Nat.le_of_ble_eq_true rfl, Nat.le_of_ble_eq_true rfl⟩ 0 rfl rfl rfl hl.1 rfl (Nat.le_of_ble_eq_true rfl) dX9_concede_2 ⟨Nat.le_of_ble_eq_true rfl, Nat.le_of_ble_eq_true rfl⟩) (fun r_1 w_2 H locs hw hB => ?_)
  obtain ⟨hr9, hw9⟩ := hw
  have hr9 := hr9.symm
  subst hr9
  have hw9 := hw9.symm
  subst hw9
  refine z_bf (b := (pTown C z)) (tgt := 40) hE dX9_concede_5 (by decide) (fun c_3 => ?_) (fun c_3 => ?_)
  · refine lv_aload_n hE.x hE.b dX9_concede_40 rfl (lv_at hl 0 rfl) ?_
    refine lv_bipush (v := (-100)) hE.x hE.b dX9_concede_41 rfl ?_
    refine z_qi hB (z_cV hE hB (c_X9_bad l g o a F L A X (-100)) q4_91 kX9_bad ⟨rfl, rfl⟩ ⟨Nat.le_of_ble_eq_true rfl, Nat.le_of_ble_eq_true rfl⟩ 0 rfl rfl rfl hl.1 rfl (Nat.le_of_ble_eq_true rfl) dX9_concede_43 ⟨Nat.le_of_ble_eq_true rfl, Nat.le_of_ble_eq_true rfl⟩) (fun r_4 w_5 H locs hw hB => ?_)
    obtain ⟨hr9, hw9⟩ := hw
    have hr9 := hr9.symm
    subst hr9
    have hw9 := hw9.symm
    subst hw9
    exact z_iret (v := (-100)) (ws := mW g o a F L (bump 0 A) ++ X) hE hB hr (⟨F, by unfold concedeR concedeOK patOK; simp only [c_3, Bool.and_false, Bool.false_and, Bool.false_eq_true, if_false, Bool.and_true, Bool.true_and], by unfold chk concedeOK patOK; simp only [c_3, Bool.and_false, Bool.false_and, Bool.false_eq_true, if_false, Bool.and_true, Bool.true_and], rfl⟩) dX9_concede_46
  · refine lv_iload_n hE.x hE.b dX9_concede_8 rfl (lv_at hl 2 rfl) ?_
    refine lv_i2l hE.x hE.b dX9_concede_9 rfl ?_
    refine lv_lconst (v := lN 0) hE.x hE.b dX9_concede_10 rfl ?_
    refine lv_ldc2 (v := lN 99) hE.x hE.b hE.o (hE.t _ q4_238) dX9_concede_11 ?_
    refine z_qi hB (z_cS hE hB (c_X9_in l g (k.toInt64) (lN 0) (lN 99) k.toInt 0 99 (mW g o a F L A ++ X) (Int32.toInt_toInt64 _) (by decide) (by decide)) q4_88 kX9_in ⟨rfl, rfl⟩ ⟨Nat.le_of_ble_eq_true rfl, Nat.le_of_ble_eq_true rfl⟩ rfl hl.1 rfl (Nat.le_of_ble_eq_true rfl) dX9_concede_14 ⟨Nat.le_of_ble_eq_true rfl, Nat.le_of_ble_eq_true rfl⟩) (fun r_6 w_7 H locs hw hB => ?_)
    obtain ⟨hr9, hw9⟩ := hw
    have hr9 := hr9.symm
    subst hr9
    have hw9 := hw9.symm
    subst hw9
    refine z_bf (b := (inZ 0 99 k.toInt)) (tgt := 40) hE dX9_concede_17 (by decide) (fun c_8 => ?_) (fun c_8 => ?_)
    · refine lv_aload_n hE.x hE.b dX9_concede_40 rfl (lv_at hl 0 rfl) ?_
      refine lv_bipush (v := (-100)) hE.x hE.b dX9_concede_41 rfl ?_
      refine z_qi hB (z_cV hE hB (c_X9_bad l g o a F L A X (-100)) q4_91 kX9_bad ⟨rfl, rfl⟩ ⟨Nat.le_of_ble_eq_true rfl, Nat.le_of_ble_eq_true rfl⟩ 0 rfl rfl rfl hl.1 rfl (Nat.le_of_ble_eq_true rfl) dX9_concede_43 ⟨Nat.le_of_ble_eq_true rfl, Nat.le_of_ble_eq_true rfl⟩) (fun r_9 w_10 H locs hw hB => ?_)
      obtain ⟨hr9, hw9⟩ := hw
      have hr9 := hr9.symm
      subst hr9
      have hw9 := hw9.symm
      subst hw9
      exact z_iret (v := (-100)) (ws := mW g o a F L (bump 0 A) ++ X) hE hB hr (⟨F, by unfold concedeR concedeOK patOK; simp only [c_3, c_8, Bool.and_false, Bool.false_and, Bool.false_eq_true, if_false, Bool.and_true, Bool.true_and], by unfold chk concedeOK patOK; simp only [c_3, c_8, Bool.and_false, Bool.false_and, Bool.false_eq_true, if_false, Bool.and_true, Bool.true_and], rfl⟩) dX9_concede_46
    · refine lv_iload_n hE.x hE.b dX9_concede_20 rfl (lv_at hl 3 rfl) ?_
      refine lv_i2l hE.x hE.b dX9_concede_21 rfl ?_
      refine lv_lconst (v := lN 0) hE.x hE.b dX9_concede_22 rfl ?_
      refine lv_ldc2 (v := lN 99) hE.x hE.b hE.o (hE.t _ q4_238) dX9_concede_23 ?_
      refine z_qi hB (z_cS hE hB (c_X9_in l g (q.toInt64) (lN 0) (lN 99) q.toInt 0 99 (mW g o a F L A ++ X) (Int32.toInt_toInt64 _) (by decide) (by decide)) q4_88 kX9_in ⟨rfl, rfl⟩ ⟨Nat.le_of_ble_eq_true rfl, Nat.le_of_ble_eq_true rfl⟩ rfl hl.1 rfl (Nat.le_of_ble_eq_true rfl) dX9_concede_26 ⟨Nat.le_of_ble_eq_true rfl, Nat.le_of_ble_eq_true rfl⟩) (fun r_11 w_12 H locs hw hB => ?_)
      obtain ⟨hr9, hw9⟩ := hw
      have hr9 := hr9.symm
      subst hr9
      have hw9 := hw9.symm
      subst hw9
      refine z_bf (b := (inZ 0 99 q.toInt)) (tgt := 40) hE dX9_concede_29 (by decide) (fun c_13 => ?_) (fun c_13 => ?_)
      · refine lv_aload_n hE.x hE.b dX9_concede_40 rfl (lv_at hl 0 rfl) ?_
        refine lv_bipush (v := (-100)) hE.x hE.b dX9_concede_41 rfl ?_
        refine z_qi hB (z_cV hE hB (c_X9_bad l g o a F L A X (-100)) q4_91 kX9_bad ⟨rfl, rfl⟩ ⟨Nat.le_of_ble_eq_true rfl, Nat.le_of_ble_eq_true rfl⟩ 0 rfl rfl rfl hl.1 rfl (Nat.le_of_ble_eq_true rfl) dX9_concede_43 ⟨Nat.le_of_ble_eq_true rfl, Nat.le_of_ble_eq_true rfl⟩) (fun r_14 w_15 H locs hw hB => ?_)
        obtain ⟨hr9, hw9⟩ := hw
        have hr9 := hr9.symm
        subst hr9
        have hw9 := hw9.symm
        subst hw9
        exact z_iret (v := (-100)) (ws := mW g o a F L (bump 0 A) ++ X) hE hB hr (⟨F, by unfold concedeR concedeOK patOK; simp only [c_3, c_8, c_13, Bool.and_false, Bool.false_and, Bool.false_eq_true, if_false, Bool.and_true, Bool.true_and], by unfold chk concedeOK patOK; simp only [c_3, c_8, c_13, Bool.and_false, Bool.false_and, Bool.false_eq_true, if_false, Bool.and_true, Bool.true_and], rfl⟩) dX9_concede_46
      · refine lv_iload hE.x hE.b dX9_concede_32 (lv_at hl 4 rfl) ?_
        refine z_qi hB (z_cS hE hB (c_X9_areActs l g ac (mW g o a F L A ++ X)) q4_219 kX9_areActs ⟨rfl, rfl⟩ ⟨Nat.le_of_ble_eq_true rfl, Nat.le_of_ble_eq_true rfl⟩ rfl hl.1 rfl (Nat.le_of_ble_eq_true rfl) dX9_concede_34 ⟨Nat.le_of_ble_eq_true rfl, Nat.le_of_ble_eq_true rfl⟩) (fun r_16 w_17 H locs hw hB => ?_)
        obtain ⟨hr9, hw9⟩ := hw
        have hr9 := hr9.symm
        subst hr9
        have hw9 := hw9.symm
        subst hw9
        refine z_bt (b := (pIn 0 63 ac)) (tgt := 47) hE dX9_concede_37 (by decide) (fun c_18 => ?_) (fun c_18 => ?_)
        · obtain ⟨cn1, hcn1, rfl⟩ := pTown_nI c_3 (by omega)
          obtain ⟨kn, hkn, rfl⟩ := pIn_nI (hi := 99) c_8 (by omega)
          obtain ⟨pn, hpn, rfl⟩ := pIn_nI (hi := 99) c_13 (by omega)
          obtain ⟨an, han, rfl⟩ := pIn_nI (hi := 63) c_18 (by omega)
          refine lv_aload_n hE.x hE.b dX9_concede_47 rfl (lv_at hl 0 rfl) ?_
          have hpc1 : 2 ^ cn1 < 256 := Nat.pow_lt_pow_right (a := 2) (n := 8) (by omega) (by omega)
          refine lv_iload_n hE.x hE.b dX9_concede_48 rfl (lv_at hl 2 rfl) ?_
          refine lv_iload_n hE.x hE.b dX9_concede_49 rfl (lv_at hl 3 rfl) ?_
          refine lv_iload hE.x hE.b dX9_concede_50 (lv_at hl 4 rfl) ?_
          refine lv_iconst (v := nI 1) hE.x hE.b dX9_concede_52 rfl ?_
          refine lv_iload_n hE.x hE.b dX9_concede_53 rfl (lv_at hl 1 rfl) ?_
          refine lv_ishl hE.x hE.b dX9_concede_54 ?_
          refine z_top (y := (nI (2 ^ cn1))) (shl_8 cn1 (by omega)) ?_
          refine z_qi hB (z_cV hE hB (c_X9_givesIn l g o a F L A X C T kn pn an (2 ^ cn1) hT (by omega) hC (by omega) (by omega) (by omega) (by omega) (by omega)) q4_239 kX9_givesIn ⟨rfl, rfl⟩ ⟨Nat.le_of_ble_eq_true rfl, Nat.le_of_ble_eq_true rfl⟩ 0 rfl rfl rfl hl.1 rfl (Nat.le_of_ble_eq_true rfl) dX9_concede_55 ⟨Nat.le_of_ble_eq_true rfl, Nat.le_of_ble_eq_true rfl⟩) (fun r_19 w_20 H locs hw hB => ?_)
          obtain ⟨F1_21, hr9, hw9, hf_22, hf_23⟩ := hw
          have hr9 := hr9.symm
          subst hr9
          have hw9 := hw9.symm
          subst hw9
          have h16 := hf_22.trans h16
          refine z_qi hB (z_cS hE hB (c_X9_orNever l g (oI (gD1 (giR (A 0) T C kn pn an (2 ^ cn1)))) (mW g o a F1_21 L A ++ X)) q5_11 kX9_orNever ⟨rfl, rfl⟩ ⟨Nat.le_of_ble_eq_true rfl, Nat.le_of_ble_eq_true rfl⟩ rfl hl.1 rfl (Nat.le_of_ble_eq_true rfl) dX9_concede_58 ⟨Nat.le_of_ble_eq_true rfl, Nat.le_of_ble_eq_true rfl⟩) (fun r_24 w_25 H locs hw hB => ?_)
          obtain ⟨hr9, hw9⟩ := hw
          have hr9 := hr9.symm
          subst hr9
          have hw9 := hw9.symm
          subst hw9
          refine z_top (y := (nI (gE (giR (A 0) T C kn pn an (2 ^ cn1))))) orNv_g ?_
          refine lv_aload_n hE.x hE.b dX9_concede_61 rfl (lv_at hl 0 rfl) ?_
          refine lv_iload_n hE.x hE.b dX9_concede_62 rfl (lv_at hl 2 rfl) ?_
          refine lv_iload_n hE.x hE.b dX9_concede_63 rfl (lv_at hl 3 rfl) ?_
          refine lv_iload hE.x hE.b dX9_concede_64 (lv_at hl 4 rfl) ?_
          refine lv_iconst (v := nI 0) hE.x hE.b dX9_concede_66 rfl ?_
          refine z_qi hB (z_cV hE hB (c_X9_givesIn l g o a F1_21 L A X C T kn pn an 0 hT (by omega) hC (by omega) (by omega) (by omega) (by omega) (by omega)) q4_239 kX9_givesIn ⟨rfl, rfl⟩ ⟨Nat.le_of_ble_eq_true rfl, Nat.le_of_ble_eq_true rfl⟩ 0 rfl rfl rfl hl.1 rfl (Nat.le_of_ble_eq_true rfl) dX9_concede_67 ⟨Nat.le_of_ble_eq_true rfl, Nat.le_of_ble_eq_true rfl⟩) (fun r_26 w_27 H locs hw hB => ?_)
          obtain ⟨F1_28, hr9, hw9, hf_29, hf_30⟩ := hw
          have hr9 := hr9.symm
          subst hr9
          have hw9 := hw9.symm
          subst hw9
          have h16 := hf_29.trans h16
          refine z_qi hB (z_cS hE hB (c_X9_orNever l g (oI (gD1 (giR (A 0) T C kn pn an 0))) (mW g o a F1_28 L A ++ X)) q5_11 kX9_orNever ⟨rfl, rfl⟩ ⟨Nat.le_of_ble_eq_true rfl, Nat.le_of_ble_eq_true rfl⟩ rfl hl.1 rfl (Nat.le_of_ble_eq_true rfl) dX9_concede_70 ⟨Nat.le_of_ble_eq_true rfl, Nat.le_of_ble_eq_true rfl⟩) (fun r_31 w_32 H locs hw hB => ?_)
          obtain ⟨hr9, hw9⟩ := hw
          have hr9 := hr9.symm
          subst hr9
          have hw9 := hw9.symm
          subst hw9
          refine z_top (y := (nI (gE (giR (A 0) T C kn pn an 0)))) orNv_g ?_
          refine lv_isub hE.x hE.b dX9_concede_73 ?_
          exact z_iret (v := ((nI (gE (giR (A 0) T C kn pn an (2 ^ cn1)))) - (nI (gE (giR (A 0) T C kn pn an 0))))) (ws := mW g o a F1_28 L A ++ X) hE hB hr (⟨F1_28, by unfold concedeR concedeOK patOK; simp only [c_3, c_8, c_13, c_18, Bool.and_true, Bool.true_and, if_true, rcl (show kn < 2 ^ 31 by omega), rcl (show pn < 2 ^ 31 by omega), rcl (show an < 2 ^ 31 by omega), rcl (show cn1 < 2 ^ 31 by omega)], by unfold chk concedeOK patOK; simp only [c_3, c_8, c_13, c_18, Bool.and_true, Bool.true_and, if_true], h16⟩) dX9_concede_74
        · refine lv_aload_n hE.x hE.b dX9_concede_40 rfl (lv_at hl 0 rfl) ?_
          refine lv_bipush (v := (-100)) hE.x hE.b dX9_concede_41 rfl ?_
          refine z_qi hB (z_cV hE hB (c_X9_bad l g o a F L A X (-100)) q4_91 kX9_bad ⟨rfl, rfl⟩ ⟨Nat.le_of_ble_eq_true rfl, Nat.le_of_ble_eq_true rfl⟩ 0 rfl rfl rfl hl.1 rfl (Nat.le_of_ble_eq_true rfl) dX9_concede_43 ⟨Nat.le_of_ble_eq_true rfl, Nat.le_of_ble_eq_true rfl⟩) (fun r_33 w_34 H locs hw hB => ?_)
          obtain ⟨hr9, hw9⟩ := hw
          have hr9 := hr9.symm
          subst hr9
          have hw9 := hw9.symm
          subst hw9
          exact z_iret (v := (-100)) (ws := mW g o a F L (bump 0 A) ++ X) hE hB hr (⟨F, by unfold concedeR concedeOK patOK; simp only [c_3, c_8, c_13, c_18, Bool.and_false, Bool.false_and, Bool.false_eq_true, if_false, Bool.and_true, Bool.true_and], by unfold chk concedeOK patOK; simp only [c_3, c_8, c_13, c_18, Bool.and_false, Bool.false_and, Bool.false_eq_true, if_false, Bool.and_true, Bool.true_and], rfl⟩) dX9_concede_46

set_option maxHeartbeats 4000000 in
set_option maxRecDepth 100000 in
theorem c_X9_presses (l : Launch) (g : zG) (o : Nat) (a : Nat → Nat) (F : Nat → Int32) (L : Nat → Int64) (A : Nat → Nat → Int32) (X : va_W) (T : Nat) (C : Nat) (V : Nat) (U : Nat) (ac : Int32) (w : Int32) (hn : nOK (A 0) T C V U) : Met l yX9_presses (Cond.code yX9_presses cX9_presses 8 (some .int) :: TBL) { frames := 7, cells := 0, slots := 0, locals := 180 } (zPc [.ref o, .int ac, .int w] g (mW g o a F L A ++ X)) (zQi g (fun r ws => ∃ (F1 : Nat → Int32), r = (pressesR (A 0) T C ac w) ∧ ws = mW g o a F1 L (chk (pIn 0 63 ac && pIn 0 1 w) A) ++ X ∧ F1 16 = F 16)) 0 0 (zA (gz g)) := by
  refine z_start (by decide +kernel) rfl (Nat.le_of_ble_eq_true rfl) ?_
  intro p e s m args below meth c ls hE hr hnm hB hl
  have hl : lv_has ls 8 [(0, .ref o), (1, .int ac), (2, .int w)] := hl
  revert hB
  generalize s.heap = H
  generalize ([] : List Loc) = locs
  intro hB
  have hT := hn.T
  have hT6 := hn.T6
  have hC := hn.C
  have hC8 := hn.C8
  have hV := hn.V
  have hV8 := hn.V8
  have hU := hn.U
  have hU8 := hn.U8
  have h16 : F 16 = F 16 := rfl
  refine lv_iload_n hE.x hE.b dX9_presses_0 rfl (lv_at hl 1 rfl) ?_
  refine z_qi hB (z_cS hE hB (c_X9_areActs l g ac (mW g o a F L A ++ X)) q4_219 kX9_areActs ⟨rfl, rfl⟩ ⟨Nat.le_of_ble_eq_true rfl, Nat.le_of_ble_eq_true rfl⟩ rfl hl.1 rfl (Nat.le_of_ble_eq_true rfl) dX9_presses_1 ⟨Nat.le_of_ble_eq_true rfl, Nat.le_of_ble_eq_true rfl⟩) (fun r_1 w_2 H locs hw hB => ?_)
  obtain ⟨hr9, hw9⟩ := hw
  have hr9 := hr9.symm
  subst hr9
  have hw9 := hw9.symm
  subst hw9
  refine z_bf (b := (pIn 0 63 ac)) (tgt := 17) hE dX9_presses_4 (by decide) (fun c_3 => ?_) (fun c_3 => ?_)
  · refine lv_aload_n hE.x hE.b dX9_presses_17 rfl (lv_at hl 0 rfl) ?_
    refine lv_bipush (v := (-2)) hE.x hE.b dX9_presses_18 rfl ?_
    refine z_qi hB (z_cV hE hB (c_X9_bad l g o a F L A X (-2)) q4_91 kX9_bad ⟨rfl, rfl⟩ ⟨Nat.le_of_ble_eq_true rfl, Nat.le_of_ble_eq_true rfl⟩ 0 rfl rfl rfl hl.1 rfl (Nat.le_of_ble_eq_true rfl) dX9_presses_20 ⟨Nat.le_of_ble_eq_true rfl, Nat.le_of_ble_eq_true rfl⟩) (fun r_4 w_5 H locs hw hB => ?_)
    obtain ⟨hr9, hw9⟩ := hw
    have hr9 := hr9.symm
    subst hr9
    have hw9 := hw9.symm
    subst hw9
    exact z_iret (v := (-2)) (ws := mW g o a F L (bump 0 A) ++ X) hE hB hr (⟨F, by unfold pressesR ; simp only [c_3, Bool.and_false, Bool.false_and, Bool.false_eq_true, if_false, Bool.and_true, Bool.true_and], by unfold chk ; simp only [c_3, Bool.and_false, Bool.false_and, Bool.false_eq_true, if_false, Bool.and_true, Bool.true_and], rfl⟩) dX9_presses_23
  · refine lv_iload_n hE.x hE.b dX9_presses_7 rfl (lv_at hl 2 rfl) ?_
    refine lv_i2l hE.x hE.b dX9_presses_8 rfl ?_
    refine lv_lconst (v := lN 0) hE.x hE.b dX9_presses_9 rfl ?_
    refine lv_lconst (v := lN 1) hE.x hE.b dX9_presses_10 rfl ?_
    refine z_qi hB (z_cS hE hB (c_X9_in l g (w.toInt64) (lN 0) (lN 1) w.toInt 0 1 (mW g o a F L A ++ X) (Int32.toInt_toInt64 _) (by decide) (by decide)) q4_88 kX9_in ⟨rfl, rfl⟩ ⟨Nat.le_of_ble_eq_true rfl, Nat.le_of_ble_eq_true rfl⟩ rfl hl.1 rfl (Nat.le_of_ble_eq_true rfl) dX9_presses_11 ⟨Nat.le_of_ble_eq_true rfl, Nat.le_of_ble_eq_true rfl⟩) (fun r_6 w_7 H locs hw hB => ?_)
    obtain ⟨hr9, hw9⟩ := hw
    have hr9 := hr9.symm
    subst hr9
    have hw9 := hw9.symm
    subst hw9
    refine z_bt (b := (inZ 0 1 w.toInt)) (tgt := 24) hE dX9_presses_14 (by decide) (fun c_8 => ?_) (fun c_8 => ?_)
    · obtain ⟨an, han, rfl⟩ := pIn_nI (hi := 63) c_3 (by omega)
      refine lv_iconst (v := (-1)) hE.x hE.b dX9_presses_24 rfl ?_
      refine lv_istore_n (lv' := [(3, .int (-1)), (0, .ref o), (1, .int (nI an)), (2, .int w)]) hE.x hE.b dX9_presses_25 rfl hl (by decide) rfl (fun ls hl => ?_)
      refine lv_iconst (v := (-1)) hE.x hE.b dX9_presses_26 rfl ?_
      refine lv_istore (lv' := [(4, .int (-1)), (3, .int (-1)), (0, .ref o), (1, .int (nI an)), (2, .int w)]) hE.x hE.b dX9_presses_27 hl (by decide) rfl (fun ls hl => ?_)
      refine lv_iconst (v := nI 0) hE.x hE.b dX9_presses_29 rfl ?_
      refine lv_istore (lv' := [(5, .int (nI 0)), (4, .int (-1)), (3, .int (-1)), (0, .ref o), (1, .int (nI an)), (2, .int w)]) hE.x hE.b dX9_presses_30 hl (by decide) rfl (fun ls hl => ?_)
      have k32 : ∀ (fu : Nat) (x : Option (Nat × Nat)) (bI9 : Int32) (mI : Int32) (t : Nat) (F1 : Nat → Int32) (H : Heap) (locs : List Loc) (ls : Array Slot), T - t < fu → (t ≤ T) → (F1 16 = F 16) → (x = prs (prsC (A 0) C an) t) → (bI9 = oI (x.map Prod.fst)) → (mI = oI (x.map Prod.snd)) → (mI.toInt ≤ 60 ∧ -1 ≤ mI.toInt) → zB g s (mW g o a F1 L A ++ X) H locs → lv_has ls 8 [(5, .int (nI t)), (4, .int mI), (3, .int bI9), (0, .ref o), (1, .int (nI an)), (2, .int w)] → W p l e { frames := 7, cells := 0, slots := 0, locals := 180 } s m args below meth c H locs 0 0 (MQ below (zQi g (fun r ws => ∃ (F1 : Nat → Int32), r = (pressesR (A 0) T C (nI an) w) ∧ ws = mW g o a F1 L (chk (pIn 0 63 (nI an) && pIn 0 1 w) A) ++ X ∧ F1 16 = F 16)) args s 0 0 (zA (gz g))) (F0 m 32 ls []) := by
        intro fu
        induction fu with
        | zero => intro x bI9 mI t F1 H locs ls hfu ht h16 hx hb hm hmb hB hl; exact absurd hfu (Nat.not_lt_zero _)
        | succ fu ih32 =>
          intro x bI9 mI t F1 H locs ls hfu ht h16 hx hb hm hmb hB hl
          refine lv_iload hE.x hE.b dX9_presses_32 (lv_at hl 0 rfl) ?_
          refine lv_aload_n hE.x hE.b dX9_presses_34 rfl (lv_at hl 3 rfl) ?_
          refine z_qi hB (z_cV hE hB (c_X9_towns l g o a F1 L A X T hT) q4_76 kX9_towns ⟨rfl, rfl⟩ ⟨Nat.le_of_ble_eq_true rfl, Nat.le_of_ble_eq_true rfl⟩ 0 rfl rfl rfl hl.1 rfl (Nat.le_of_ble_eq_true rfl) dX9_presses_35 ⟨Nat.le_of_ble_eq_true rfl, Nat.le_of_ble_eq_true rfl⟩) (fun r_9 w_10 H locs hw hB => ?_)
          obtain ⟨hr9, hw9⟩ := hw
          have hr9 := hr9.symm
          subst hr9
          have hw9 := hw9.symm
          subst hw9
          refine z_ge (tgt := 119) (X := ((t : Nat) : Int)) (Y := ((T : Nat) : Int)) hE dX9_presses_38 (by decide) (nI_toInt (n := t) (by omega)) (nI_toInt (n := T) (by omega)) (fun c_11 => ?_) (fun c_11 => ?_)
          · refine lv_iload_n hE.x hE.b dX9_presses_119 rfl (lv_at hl 5 rfl) ?_
            refine lv_if_ne (tgt := 127) hE.x hE.b dX9_presses_120 (by decide) (fun c_12 => ?_) (fun c_12 => ?_)
            · refine lv_iload_n hE.x hE.b dX9_presses_127 rfl (lv_at hl 2 rfl) ?_
              refine lv_iconst (v := (-1)) hE.x hE.b dX9_presses_128 rfl ?_
              refine lv_icmp_ne (tgt := 136) hE.x hE.b dX9_presses_129 (by decide) (fun c_13 => ?_) (fun c_13 => ?_)
              · refine lv_iload hE.x hE.b dX9_presses_136 (lv_at hl 1 rfl) ?_
                exact z_iret (v := mI) (ws := mW g o a F1 L A ++ X) hE hB hr (⟨F1, by rw [show t = T by omega] at hx; rw [pressesR_v (by simp only [c_3, c_8, Bool.and_true, Bool.true_and, if_true]), rcl (show an < 2 ^ 31 by omega), ← hx, prV_m c_12 (by rw [← hb]; exact c_13)]; exact hm, by unfold chk; simp only [c_3, c_8, Bool.and_true, Bool.true_and, if_true], h16⟩) dX9_presses_138
              · refine lv_iconst (v := nI 0) hE.x hE.b dX9_presses_132 rfl ?_
                refine lv_goto (tgt := 138) hE.x hE.b dX9_presses_133 (by decide) ?_
                exact z_iret (v := (nI 0)) (ws := mW g o a F1 L A ++ X) hE hB hr (⟨F1, by rw [show t = T by omega] at hx; rw [pressesR_v (by simp only [c_3, c_8, Bool.and_true, Bool.true_and, if_true]), rcl (show an < 2 ^ 31 by omega), ← hx, prV_n hx hT6 c_12 (by rw [← hb]; exact c_13)], by unfold chk; simp only [c_3, c_8, Bool.and_true, Bool.true_and, if_true], h16⟩) dX9_presses_138
            · refine lv_iload_n hE.x hE.b dX9_presses_123 rfl (lv_at hl 2 rfl) ?_
              refine lv_goto (tgt := 138) hE.x hE.b dX9_presses_124 (by decide) ?_
              exact z_iret (v := bI9) (ws := mW g o a F1 L A ++ X) hE hB hr (⟨F1, by rw [show t = T by omega] at hx; rw [pressesR_v (by simp only [c_3, c_8, Bool.and_true, Bool.true_and, if_true]), rcl (show an < 2 ^ 31 by omega), ← hx, prV_0 c_12]; exact hb, by unfold chk; simp only [c_3, c_8, Bool.and_true, Bool.true_and, if_true], h16⟩) dX9_presses_138
          · refine lv_iconst (v := nI 0) hE.x hE.b dX9_presses_41 rfl ?_
            refine lv_istore (lv' := [(6, .int (nI 0)), (5, .int (nI t)), (4, .int mI), (3, .int bI9), (0, .ref o), (1, .int (nI an)), (2, .int w)]) hE.x hE.b dX9_presses_42 hl (by decide) rfl (fun ls hl => ?_)
            refine lv_iconst (v := nI 0) hE.x hE.b dX9_presses_44 rfl ?_
            refine lv_istore (lv' := [(7, .int (nI 0)), (6, .int (nI 0)), (5, .int (nI t)), (4, .int mI), (3, .int bI9), (0, .ref o), (1, .int (nI an)), (2, .int w)]) hE.x hE.b dX9_presses_45 hl (by decide) rfl (fun ls hl => ?_)
            have k47 : ∀ (fu : Nat) (ct : Nat) (d : Nat) (F1 : Nat → Int32) (H : Heap) (locs : List Loc) (ls : Array Slot), 60 - d < fu → (d ≤ 60) → (F1 16 = F 16) → (ct = cn (fun d => fbB (acAl (A 0) C (nI d) 0) an t) d) → zB g s (mW g o a F1 L A ++ X) H locs → lv_has ls 8 [(7, .int (nI d)), (6, .int (nI ct)), (5, .int (nI t)), (4, .int mI), (3, .int bI9), (0, .ref o), (1, .int (nI an)), (2, .int w)] → W p l e { frames := 7, cells := 0, slots := 0, locals := 180 } s m args below meth c H locs 0 0 (MQ below (zQi g (fun r ws => ∃ (F1 : Nat → Int32), r = (pressesR (A 0) T C (nI an) w) ∧ ws = mW g o a F1 L (chk (pIn 0 63 (nI an) && pIn 0 1 w) A) ++ X ∧ F1 16 = F 16)) args s 0 0 (zA (gz g))) (F0 m 47 ls []) := by
              intro fu
              induction fu with
              | zero => intro ct d F1 H locs ls hfu hd h16 hct hB hl; exact absurd hfu (Nat.not_lt_zero _)
              | succ fu ih47 =>
                intro ct d F1 H locs ls hfu hd h16 hct hB hl
                refine lv_iload hE.x hE.b dX9_presses_47 (lv_at hl 0 rfl) ?_
                refine lv_bipush (v := (nI 60)) hE.x hE.b dX9_presses_49 rfl ?_
                refine z_ge (tgt := 83) (X := ((d : Nat) : Int)) (Y := (60 : Int)) hE dX9_presses_51 (by decide) (nI_toInt (n := d) (by omega)) rfl (fun c_14 => ?_) (fun c_14 => ?_)
                · have hd60 : d = 60 := by omega
                  have hctE : ct = (prsC (A 0) C an) t := by rw [hct, hd60]; rfl
                  have hct60 : ct ≤ 60 := by rw [hct, hd60]; exact cn_le _ 60
                  refine lv_iload hE.x hE.b dX9_presses_83 (lv_at hl 1 rfl) ?_
                  refine lv_iload hE.x hE.b dX9_presses_85 (lv_at hl 3 rfl) ?_
                  refine z_le (tgt := 95) (X := ((ct : Nat) : Int)) (Y := mI.toInt) hE dX9_presses_87 (by decide) (nI_toInt (n := ct) (by omega)) rfl (fun c_15 => ?_) (fun c_15 => ?_)
                  · refine lv_iload_n hE.x hE.b dX9_presses_95 rfl (lv_at hl 4 rfl) ?_
                    refine lv_istore_n (lv' := [(3, .int bI9), (7, .int (nI d)), (6, .int (nI ct)), (5, .int (nI t)), (4, .int mI), (0, .ref o), (1, .int (nI an)), (2, .int w)]) hE.x hE.b dX9_presses_96 rfl hl (by decide) rfl (fun ls hl => ?_)
                    refine lv_iload hE.x hE.b dX9_presses_97 (lv_at hl 2 rfl) ?_
                    refine lv_iload hE.x hE.b dX9_presses_99 (lv_at hl 4 rfl) ?_
                    refine z_le (tgt := 109) (X := ((ct : Nat) : Int)) (Y := mI.toInt) hE dX9_presses_101 (by decide) (nI_toInt (n := ct) (by omega)) rfl (fun c_16 => ?_) (fun c_16 => ?_)
                    · refine lv_iload hE.x hE.b dX9_presses_109 (lv_at hl 4 rfl) ?_
                      refine lv_istore (lv' := [(4, .int mI), (3, .int bI9), (7, .int (nI d)), (6, .int (nI ct)), (5, .int (nI t)), (0, .ref o), (1, .int (nI an)), (2, .int w)]) hE.x hE.b dX9_presses_111 hl (by decide) rfl (fun ls hl => ?_)
                      refine lv_iinc (v := (nI (t + 1))) (lv' := [(5, .int (nI (t + 1))), (4, .int mI), (3, .int bI9), (7, .int (nI d)), (6, .int (nI ct)), (0, .ref o), (1, .int (nI an)), (2, .int w)]) hE.x hE.b dX9_presses_113 hl (k := 4) rfl (nI_add _ _) (by decide) rfl (fun ls hl => ?_)
                      refine lv_goto (tgt := 32) hE.x hE.b dX9_presses_116 (by decide) ?_
                      exact ih32 x bI9 mI (t + 1) F1 _ _ _ (by omega) (by omega) h16 ((prs_old hx hm hctE (fun _ => prsC_60) (by omega))) hb hm hmb hB (lv_sub hl [0, 1, 2, 5, 6, 7] rfl)
                    · · exact absurd c_16 (by omega)
                  · refine lv_iload hE.x hE.b dX9_presses_90 (lv_at hl 2 rfl) ?_
                    refine lv_goto (tgt := 96) hE.x hE.b dX9_presses_92 (by decide) ?_
                    refine lv_istore_n (lv' := [(3, .int (nI t)), (7, .int (nI d)), (6, .int (nI ct)), (5, .int (nI t)), (4, .int mI), (0, .ref o), (1, .int (nI an)), (2, .int w)]) hE.x hE.b dX9_presses_96 rfl hl (by decide) rfl (fun ls hl => ?_)
                    refine lv_iload hE.x hE.b dX9_presses_97 (lv_at hl 2 rfl) ?_
                    refine lv_iload hE.x hE.b dX9_presses_99 (lv_at hl 4 rfl) ?_
                    refine z_le (tgt := 109) (X := ((ct : Nat) : Int)) (Y := mI.toInt) hE dX9_presses_101 (by decide) (nI_toInt (n := ct) (by omega)) rfl (fun c_17 => ?_) (fun c_17 => ?_)
                    · · exact absurd c_17 (by omega)
                    · refine lv_iload hE.x hE.b dX9_presses_104 (lv_at hl 2 rfl) ?_
                      refine lv_goto (tgt := 111) hE.x hE.b dX9_presses_106 (by decide) ?_
                      refine lv_istore (lv' := [(4, .int (nI ct)), (3, .int (nI t)), (7, .int (nI d)), (6, .int (nI ct)), (5, .int (nI t)), (0, .ref o), (1, .int (nI an)), (2, .int w)]) hE.x hE.b dX9_presses_111 hl (by decide) rfl (fun ls hl => ?_)
                      refine lv_iinc (v := (nI (t + 1))) (lv' := [(5, .int (nI (t + 1))), (4, .int (nI ct)), (3, .int (nI t)), (7, .int (nI d)), (6, .int (nI ct)), (0, .ref o), (1, .int (nI an)), (2, .int w)]) hE.x hE.b dX9_presses_113 hl (k := 4) rfl (nI_add _ _) (by decide) rfl (fun ls hl => ?_)
                      refine lv_goto (tgt := 32) hE.x hE.b dX9_presses_116 (by decide) ?_
                      exact ih32 (some (t, (prsC (A 0) C an) t)) (nI t) (nI ct) (t + 1) F1 _ _ _ (by omega) (by omega) h16 ((prs_new hx hm hctE (fun _ => prsC_60) (by omega))) rfl (by rw [hctE]; rfl) (by rw [nI_toInt (show ct < 2 ^ 31 by omega)]; omega) hB (lv_sub hl [0, 1, 2, 5, 6, 7] rfl)
                · have hcl := cn_le (fun d => fbB (acAl (A 0) C (nI d) 0) an t) d
                  refine lv_iload hE.x hE.b dX9_presses_54 (lv_at hl 1 rfl) ?_
                  refine lv_aload_n hE.x hE.b dX9_presses_56 rfl (lv_at hl 5 rfl) ?_
                  refine lv_iload hE.x hE.b dX9_presses_57 (lv_at hl 2 rfl) ?_
                  refine lv_iload_n hE.x hE.b dX9_presses_59 rfl (lv_at hl 6 rfl) ?_
                  refine lv_iload hE.x hE.b dX9_presses_60 (lv_at hl 0 rfl) ?_
                  refine lv_iconst (v := nI 0) hE.x hE.b dX9_presses_62 rfl ?_
                  refine z_qi hB (z_cV hE hB (c_X9_forbidsSome l g o a F1 L A X C t an (nI d) 0 hC (by omega) (by omega) (by omega) (by omega)) q5_3 kX9_forbidsSome ⟨rfl, rfl⟩ ⟨Nat.le_of_ble_eq_true rfl, Nat.le_of_ble_eq_true rfl⟩ 0 rfl rfl rfl hl.1 rfl (Nat.le_of_ble_eq_true rfl) dX9_presses_63 ⟨Nat.le_of_ble_eq_true rfl, Nat.le_of_ble_eq_true rfl⟩) (fun r_18 w_19 H locs hw hB => ?_)
                  obtain ⟨F1_20, hr9, hw9, hf_21⟩ := hw
                  have hr9 := hr9.symm
                  subst hr9
                  have hw9 := hw9.symm
                  subst hw9
                  have h16 := hf_21.trans h16
                  refine z_bf (b := (fbB (acAl (A 0) C (nI d) 0) an t)) (tgt := 73) hE dX9_presses_66 (by decide) (fun c_22 => ?_) (fun c_22 => ?_)
                  · refine lv_iconst (v := nI 0) hE.x hE.b dX9_presses_73 rfl ?_
                    refine z_iaddN hE dX9_presses_74 ?_
                    refine lv_istore (lv' := [(6, .int (nI (ct + 0))), (7, .int (nI d)), (5, .int (nI t)), (4, .int mI), (3, .int bI9), (0, .ref o), (1, .int (nI an)), (2, .int w)]) hE.x hE.b dX9_presses_75 hl (by decide) rfl (fun ls hl => ?_)
                    refine lv_iinc (v := (nI (d + 1))) (lv' := [(7, .int (nI (d + 1))), (6, .int (nI (ct + 0))), (5, .int (nI t)), (4, .int mI), (3, .int bI9), (0, .ref o), (1, .int (nI an)), (2, .int w)]) hE.x hE.b dX9_presses_77 hl (k := 1) rfl (nI_add _ _) (by decide) rfl (fun ls hl => ?_)
                    refine lv_goto (tgt := 47) hE.x hE.b dX9_presses_80 (by decide) ?_
                    exact ih47 (ct + 0) (d + 1) F1_20 _ _ _ (by omega) (by omega) h16 (by rw [cn_f (P := (fun d => fbB (acAl (A 0) C (nI d) 0) an t)) c_22, hct]; rfl) hB hl
                  · refine lv_iconst (v := nI 1) hE.x hE.b dX9_presses_69 rfl ?_
                    refine lv_goto (tgt := 74) hE.x hE.b dX9_presses_70 (by decide) ?_
                    refine z_iaddN hE dX9_presses_74 ?_
                    refine lv_istore (lv' := [(6, .int (nI (ct + 1))), (7, .int (nI d)), (5, .int (nI t)), (4, .int mI), (3, .int bI9), (0, .ref o), (1, .int (nI an)), (2, .int w)]) hE.x hE.b dX9_presses_75 hl (by decide) rfl (fun ls hl => ?_)
                    refine lv_iinc (v := (nI (d + 1))) (lv' := [(7, .int (nI (d + 1))), (6, .int (nI (ct + 1))), (5, .int (nI t)), (4, .int mI), (3, .int bI9), (0, .ref o), (1, .int (nI an)), (2, .int w)]) hE.x hE.b dX9_presses_77 hl (k := 1) rfl (nI_add _ _) (by decide) rfl (fun ls hl => ?_)
                    refine lv_goto (tgt := 47) hE.x hE.b dX9_presses_80 (by decide) ?_
                    exact ih47 (ct + 1) (d + 1) F1_20 _ _ _ (by omega) (by omega) h16 (by rw [cn_t (P := (fun d => fbB (acAl (A 0) C (nI d) 0) an t)) c_22, hct]) hB hl
            exact k47 (60 - 0 + 1) 0 0 F1 _ _ _ (Nat.lt_succ_self _) (by omega) h16 rfl hB hl
      exact k32 (T - 0 + 1) none (-1) (-1) 0 F _ _ _ (Nat.lt_succ_self _) (by omega) h16 rfl rfl rfl (by decide) hB hl
    · refine lv_aload_n hE.x hE.b dX9_presses_17 rfl (lv_at hl 0 rfl) ?_
      refine lv_bipush (v := (-2)) hE.x hE.b dX9_presses_18 rfl ?_
      refine z_qi hB (z_cV hE hB (c_X9_bad l g o a F L A X (-2)) q4_91 kX9_bad ⟨rfl, rfl⟩ ⟨Nat.le_of_ble_eq_true rfl, Nat.le_of_ble_eq_true rfl⟩ 0 rfl rfl rfl hl.1 rfl (Nat.le_of_ble_eq_true rfl) dX9_presses_20 ⟨Nat.le_of_ble_eq_true rfl, Nat.le_of_ble_eq_true rfl⟩) (fun r_23 w_24 H locs hw hB => ?_)
      obtain ⟨hr9, hw9⟩ := hw
      have hr9 := hr9.symm
      subst hr9
      have hw9 := hw9.symm
      subst hw9
      exact z_iret (v := (-2)) (ws := mW g o a F L (bump 0 A) ++ X) hE hB hr (⟨F, by unfold pressesR ; simp only [c_3, c_8, Bool.and_false, Bool.false_and, Bool.false_eq_true, if_false, Bool.and_true, Bool.true_and], by unfold chk ; simp only [c_3, c_8, Bool.and_false, Bool.false_and, Bool.false_eq_true, if_false, Bool.and_true, Bool.true_and], rfl⟩) dX9_presses_23

set_option maxHeartbeats 4000000 in
set_option maxRecDepth 100000 in
theorem c_X9_leave (l : Launch) (g : zG) (o : Nat) (a : Nat → Nat) (F : Nat → Int32) (L : Nat → Int64) (A : Nat → Nat → Int32) (X : va_W) (T : Nat) (C : Nat) (V : Nat) (U : Nat) (tw : Int32) (ac : Int32) (dd : Int32) (dy : Int32) (sh : Int32) (hn : nOK (A 0) T C V U) : Met l yX9_leave (Cond.code yX9_leave cX9_leave 7 (some .int) :: TBL) { frames := 2, cells := 0, slots := 0, locals := 46 } (zPc [.ref o, .int tw, .int ac, .int dd, .int dy, .int sh] g (mW g o a F L A ++ X)) (zQi g (fun r ws => r = (leaveR T V tw ac dd dy sh) ∧ ws = mW g o a F L (leaveA A T V tw ac dd dy sh) ++ X)) 0 0 (zA (gz g)) := by
  refine z_start (by decide +kernel) rfl (Nat.le_of_ble_eq_true rfl) ?_
  intro p e s m args below meth c ls hE hr hnm hB hl
  have hl : lv_has ls 7 [(0, .ref o), (1, .int tw), (2, .int ac), (3, .int dd), (4, .int dy), (5, .int sh)] := hl
  revert hB
  generalize s.heap = H
  generalize ([] : List Loc) = locs
  intro hB
  have hT := hn.T
  have hT6 := hn.T6
  have hC := hn.C
  have hC8 := hn.C8
  have hV := hn.V
  have hV8 := hn.V8
  have hU := hn.U
  have hU8 := hn.U8
  refine lv_aload_n hE.x hE.b dX9_leave_0 rfl (lv_at hl 0 rfl) ?_
  refine lv_iload_n hE.x hE.b dX9_leave_1 rfl (lv_at hl 1 rfl) ?_
  refine z_qi hB (z_cV hE hB (c_X9_isTown l g o a F L A X T tw hT (by omega)) q4_106 kX9_isTown ⟨rfl, rfl⟩ ⟨Nat.le_of_ble_eq_true rfl, Nat.le_of_ble_eq_true rfl⟩ 0 rfl rfl rfl hl.1 rfl (Nat.le_of_ble_eq_true rfl) dX9_leave_2 ⟨Nat.le_of_ble_eq_true rfl, Nat.le_of_ble_eq_true rfl⟩) (fun r_1 w_2 H locs hw hB => ?_)
  obtain ⟨hr9, hw9⟩ := hw
  have hr9 := hr9.symm
  subst hr9
  have hw9 := hw9.symm
  subst hw9
  refine z_bf (b := (pTown T tw)) (tgt := 32) hE dX9_leave_5 (by decide) (fun c_3 => ?_) (fun c_3 => ?_)
  · refine lv_aload_n hE.x hE.b dX9_leave_32 rfl (lv_at hl 0 rfl) ?_
    refine lv_bipush (v := (-2)) hE.x hE.b dX9_leave_33 rfl ?_
    refine z_qi hB (z_cV hE hB (c_X9_bad l g o a F L A X (-2)) q4_91 kX9_bad ⟨rfl, rfl⟩ ⟨Nat.le_of_ble_eq_true rfl, Nat.le_of_ble_eq_true rfl⟩ 0 rfl rfl rfl hl.1 rfl (Nat.le_of_ble_eq_true rfl) dX9_leave_35 ⟨Nat.le_of_ble_eq_true rfl, Nat.le_of_ble_eq_true rfl⟩) (fun r_4 w_5 H locs hw hB => ?_)
    obtain ⟨hr9, hw9⟩ := hw
    have hr9 := hr9.symm
    subst hr9
    have hw9 := hw9.symm
    subst hw9
    exact z_iret (v := (-2)) (ws := mW g o a F L (bump 0 A) ++ X) hE hB hr (⟨by unfold leaveR askOK; simp only [c_3, Bool.and_false, Bool.false_and, Bool.false_eq_true, if_false, Bool.and_true, Bool.true_and], by unfold leaveA askOK; simp only [c_3, Bool.and_false, Bool.false_and, Bool.false_eq_true, if_false, Bool.and_true, Bool.true_and]⟩) dX9_leave_38
  · refine lv_iload_n hE.x hE.b dX9_leave_8 rfl (lv_at hl 2 rfl) ?_
    refine z_qi hB (z_cS hE hB (c_X9_isAct l g ac (mW g o a F L A ++ X)) q4_119 kX9_isAct ⟨rfl, rfl⟩ ⟨Nat.le_of_ble_eq_true rfl, Nat.le_of_ble_eq_true rfl⟩ rfl hl.1 rfl (Nat.le_of_ble_eq_true rfl) dX9_leave_9 ⟨Nat.le_of_ble_eq_true rfl, Nat.le_of_ble_eq_true rfl⟩) (fun r_6 w_7 H locs hw hB => ?_)
    obtain ⟨hr9, hw9⟩ := hw
    have hr9 := hr9.symm
    subst hr9
    have hw9 := hw9.symm
    subst hw9
    refine z_bf (b := (pIn 0 5 ac)) (tgt := 32) hE dX9_leave_12 (by decide) (fun c_8 => ?_) (fun c_8 => ?_)
    · refine lv_aload_n hE.x hE.b dX9_leave_32 rfl (lv_at hl 0 rfl) ?_
      refine lv_bipush (v := (-2)) hE.x hE.b dX9_leave_33 rfl ?_
      refine z_qi hB (z_cV hE hB (c_X9_bad l g o a F L A X (-2)) q4_91 kX9_bad ⟨rfl, rfl⟩ ⟨Nat.le_of_ble_eq_true rfl, Nat.le_of_ble_eq_true rfl⟩ 0 rfl rfl rfl hl.1 rfl (Nat.le_of_ble_eq_true rfl) dX9_leave_35 ⟨Nat.le_of_ble_eq_true rfl, Nat.le_of_ble_eq_true rfl⟩) (fun r_9 w_10 H locs hw hB => ?_)
      obtain ⟨hr9, hw9⟩ := hw
      have hr9 := hr9.symm
      subst hr9
      have hw9 := hw9.symm
      subst hw9
      exact z_iret (v := (-2)) (ws := mW g o a F L (bump 0 A) ++ X) hE hB hr (⟨by unfold leaveR askOK; simp only [c_3, c_8, Bool.and_false, Bool.false_and, Bool.false_eq_true, if_false, Bool.and_true, Bool.true_and], by unfold leaveA askOK; simp only [c_3, c_8, Bool.and_false, Bool.false_and, Bool.false_eq_true, if_false, Bool.and_true, Bool.true_and]⟩) dX9_leave_38
    · refine lv_iload_n hE.x hE.b dX9_leave_15 rfl (lv_at hl 3 rfl) ?_
      refine z_qi hB (z_cS hE hB (c_X9_isDay l g dd (mW g o a F L A ++ X)) q4_170 kX9_isDay ⟨rfl, rfl⟩ ⟨Nat.le_of_ble_eq_true rfl, Nat.le_of_ble_eq_true rfl⟩ rfl hl.1 rfl (Nat.le_of_ble_eq_true rfl) dX9_leave_16 ⟨Nat.le_of_ble_eq_true rfl, Nat.le_of_ble_eq_true rfl⟩) (fun r_11 w_12 H locs hw hB => ?_)
      obtain ⟨hr9, hw9⟩ := hw
      have hr9 := hr9.symm
      subst hr9
      have hw9 := hw9.symm
      subst hw9
      refine z_bf (b := (pIn 0 59 dd)) (tgt := 32) hE dX9_leave_19 (by decide) (fun c_13 => ?_) (fun c_13 => ?_)
      · refine lv_aload_n hE.x hE.b dX9_leave_32 rfl (lv_at hl 0 rfl) ?_
        refine lv_bipush (v := (-2)) hE.x hE.b dX9_leave_33 rfl ?_
        refine z_qi hB (z_cV hE hB (c_X9_bad l g o a F L A X (-2)) q4_91 kX9_bad ⟨rfl, rfl⟩ ⟨Nat.le_of_ble_eq_true rfl, Nat.le_of_ble_eq_true rfl⟩ 0 rfl rfl rfl hl.1 rfl (Nat.le_of_ble_eq_true rfl) dX9_leave_35 ⟨Nat.le_of_ble_eq_true rfl, Nat.le_of_ble_eq_true rfl⟩) (fun r_14 w_15 H locs hw hB => ?_)
        obtain ⟨hr9, hw9⟩ := hw
        have hr9 := hr9.symm
        subst hr9
        have hw9 := hw9.symm
        subst hw9
        exact z_iret (v := (-2)) (ws := mW g o a F L (bump 0 A) ++ X) hE hB hr (⟨by unfold leaveR askOK; simp only [c_3, c_8, c_13, Bool.and_false, Bool.false_and, Bool.false_eq_true, if_false, Bool.and_true, Bool.true_and], by unfold leaveA askOK; simp only [c_3, c_8, c_13, Bool.and_false, Bool.false_and, Bool.false_eq_true, if_false, Bool.and_true, Bool.true_and]⟩) dX9_leave_38
      · refine lv_iload hE.x hE.b dX9_leave_22 (lv_at hl 4 rfl) ?_
        refine lv_iload hE.x hE.b dX9_leave_24 (lv_at hl 5 rfl) ?_
        refine z_qi hB (z_cS hE hB (c_X9_isAsker l g dy sh (mW g o a F L A ++ X)) q4_174 kX9_isAsker ⟨rfl, rfl⟩ ⟨Nat.le_of_ble_eq_true rfl, Nat.le_of_ble_eq_true rfl⟩ rfl hl.1 rfl (Nat.le_of_ble_eq_true rfl) dX9_leave_26 ⟨Nat.le_of_ble_eq_true rfl, Nat.le_of_ble_eq_true rfl⟩) (fun r_16 w_17 H locs hw hB => ?_)
        obtain ⟨hr9, hw9⟩ := hw
        have hr9 := hr9.symm
        subst hr9
        have hw9 := hw9.symm
        subst hw9
        refine z_bt (b := (pIn 0 1 dy && pIn 0 1 sh)) (tgt := 39) hE dX9_leave_29 (by decide) (fun c_18 => ?_) (fun c_18 => ?_)
        · refine lv_aload_n hE.x hE.b dX9_leave_39 rfl (lv_at hl 0 rfl) ?_
          refine z_get (v := .ref (a 0)) hE hB inX9 0 rfl rfl 0 (by decide) q4_1 (fun _ h9 => h9) rfl dX9_leave_40 ?_
          refine lv_iconst (v := nI 2) hE.x hE.b dX9_leave_43 rfl ?_
          refine z_iald (k := 2) (f := (A 0)) hE hB 1 rfl (by omega) (by decide) dX9_leave_44 ?_
          refine z_top (y := (nI V)) hV ?_
          refine lv_bipush (v := (nI 8)) hE.x hE.b dX9_leave_45 rfl ?_
          refine z_ne (tgt := 55) (X := ((V : Nat) : Int)) (Y := (8 : Int)) hE dX9_leave_47 (by decide) (nI_toInt (n := V) (by omega)) rfl (fun c_19 => ?_) (fun c_19 => ?_)
          · refine lv_bipush (v := (nI 86)) hE.x hE.b dX9_leave_55 rfl ?_
            refine lv_iconst (v := nI 5) hE.x hE.b dX9_leave_57 rfl ?_
            refine lv_aload_n hE.x hE.b dX9_leave_58 rfl (lv_at hl 0 rfl) ?_
            refine z_get (v := .ref (a 0)) hE hB inX9 0 rfl rfl 0 (by decide) q4_1 (fun _ h9 => h9) rfl dX9_leave_59 ?_
            refine lv_iconst (v := nI 2) hE.x hE.b dX9_leave_62 rfl ?_
            refine z_iald (k := 2) (f := (A 0)) hE hB 1 rfl (by omega) (by decide) dX9_leave_63 ?_
            refine z_top (y := (nI V)) hV ?_
            refine z_imulN hE dX9_leave_64 ?_
            refine z_iaddN hE dX9_leave_65 ?_
            refine lv_istore (lv' := [(6, .int (nI (86 + (5 * V)))), (0, .ref o), (1, .int tw), (2, .int ac), (3, .int dd), (4, .int dy), (5, .int sh)]) hE.x hE.b dX9_leave_66 hl (by decide) rfl (fun ls hl => ?_)
            refine lv_aload_n hE.x hE.b dX9_leave_68 rfl (lv_at hl 1 rfl) ?_
            refine z_get (v := .ref (a 0)) hE hB inX9 0 rfl rfl 0 (by decide) q4_1 (fun _ h9 => h9) rfl dX9_leave_69 ?_
            refine lv_iload hE.x hE.b dX9_leave_72 (lv_at hl 0 rfl) ?_
            refine lv_iload_n hE.x hE.b dX9_leave_74 rfl (lv_at hl 2 rfl) ?_
            refine z_iast (k := (86 + (5 * V))) (f := (A 0)) (x := tw) (ws' := mW g o a F L (updA A 0 (upd (A 0) (86 + (5 * V)) tw)) ++ X) hE hB 1 rfl (by omega) (by decide) rfl dX9_leave_75 (fun H locs hB => ?_)
            refine lv_aload_n hE.x hE.b dX9_leave_76 rfl (lv_at hl 1 rfl) ?_
            refine z_get (v := .ref (a 0)) hE hB inX9 0 rfl rfl 0 (by decide) q4_1 (fun _ h9 => h9) rfl dX9_leave_77 ?_
            refine lv_iload hE.x hE.b dX9_leave_80 (lv_at hl 0 rfl) ?_
            refine lv_iconst (v := nI 1) hE.x hE.b dX9_leave_82 rfl ?_
            refine z_iaddN hE dX9_leave_83 ?_
            refine lv_iload_n hE.x hE.b dX9_leave_84 rfl (lv_at hl 3 rfl) ?_
            refine z_iast (k := ((86 + (5 * V)) + 1)) (f := (upd (A 0) (86 + (5 * V)) tw)) (x := ac) (ws' := mW g o a F L (updA A 0 (upd (upd (A 0) (86 + (5 * V)) tw) ((86 + (5 * V)) + 1) ac)) ++ X) hE hB 1 rfl (by omega) (by decide) rfl dX9_leave_85 (fun H locs hB => ?_)
            refine lv_aload_n hE.x hE.b dX9_leave_86 rfl (lv_at hl 1 rfl) ?_
            refine z_get (v := .ref (a 0)) hE hB inX9 0 rfl rfl 0 (by decide) q4_1 (fun _ h9 => h9) rfl dX9_leave_87 ?_
            refine lv_iload hE.x hE.b dX9_leave_90 (lv_at hl 0 rfl) ?_
            refine lv_iconst (v := nI 2) hE.x hE.b dX9_leave_92 rfl ?_
            refine z_iaddN hE dX9_leave_93 ?_
            refine lv_iload_n hE.x hE.b dX9_leave_94 rfl (lv_at hl 4 rfl) ?_
            refine z_iast (k := ((86 + (5 * V)) + 2)) (f := (upd (upd (A 0) (86 + (5 * V)) tw) ((86 + (5 * V)) + 1) ac)) (x := dd) (ws' := mW g o a F L (updA A 0 (upd (upd (upd (A 0) (86 + (5 * V)) tw) ((86 + (5 * V)) + 1) ac) ((86 + (5 * V)) + 2) dd)) ++ X) hE hB 1 rfl (by omega) (by decide) rfl dX9_leave_95 (fun H locs hB => ?_)
            refine lv_aload_n hE.x hE.b dX9_leave_96 rfl (lv_at hl 1 rfl) ?_
            refine z_get (v := .ref (a 0)) hE hB inX9 0 rfl rfl 0 (by decide) q4_1 (fun _ h9 => h9) rfl dX9_leave_97 ?_
            refine lv_iload hE.x hE.b dX9_leave_100 (lv_at hl 0 rfl) ?_
            refine lv_iconst (v := nI 3) hE.x hE.b dX9_leave_102 rfl ?_
            refine z_iaddN hE dX9_leave_103 ?_
            refine lv_iload hE.x hE.b dX9_leave_104 (lv_at hl 5 rfl) ?_
            refine z_iast (k := ((86 + (5 * V)) + 3)) (f := (upd (upd (upd (A 0) (86 + (5 * V)) tw) ((86 + (5 * V)) + 1) ac) ((86 + (5 * V)) + 2) dd)) (x := dy) (ws' := mW g o a F L (updA A 0 (upd (upd (upd (upd (A 0) (86 + (5 * V)) tw) ((86 + (5 * V)) + 1) ac) ((86 + (5 * V)) + 2) dd) ((86 + (5 * V)) + 3) dy)) ++ X) hE hB 1 rfl (by omega) (by decide) rfl dX9_leave_106 (fun H locs hB => ?_)
            refine lv_aload_n hE.x hE.b dX9_leave_107 rfl (lv_at hl 1 rfl) ?_
            refine z_get (v := .ref (a 0)) hE hB inX9 0 rfl rfl 0 (by decide) q4_1 (fun _ h9 => h9) rfl dX9_leave_108 ?_
            refine lv_iload hE.x hE.b dX9_leave_111 (lv_at hl 0 rfl) ?_
            refine lv_iconst (v := nI 4) hE.x hE.b dX9_leave_113 rfl ?_
            refine z_iaddN hE dX9_leave_114 ?_
            refine lv_iload hE.x hE.b dX9_leave_115 (lv_at hl 6 rfl) ?_
            refine z_iast (k := ((86 + (5 * V)) + 4)) (f := (upd (upd (upd (upd (A 0) (86 + (5 * V)) tw) ((86 + (5 * V)) + 1) ac) ((86 + (5 * V)) + 2) dd) ((86 + (5 * V)) + 3) dy)) (x := sh) (ws' := mW g o a F L (updA A 0 (upd (upd (upd (upd (upd (A 0) (86 + (5 * V)) tw) ((86 + (5 * V)) + 1) ac) ((86 + (5 * V)) + 2) dd) ((86 + (5 * V)) + 3) dy) ((86 + (5 * V)) + 4) sh)) ++ X) hE hB 1 rfl (by omega) (by decide) rfl dX9_leave_117 (fun H locs hB => ?_)
            refine lv_aload_n hE.x hE.b dX9_leave_118 rfl (lv_at hl 1 rfl) ?_
            refine z_get (v := .ref (a 0)) hE hB inX9 0 rfl rfl 0 (by decide) q4_1 (fun _ h9 => h9) rfl dX9_leave_119 ?_
            refine lv_iconst (v := nI 2) hE.x hE.b dX9_leave_122 rfl ?_
            refine lv_dup2_11 hE.x hE.b dX9_leave_123 rfl rfl ?_
            refine z_iald (k := 2) (f := (upd (upd (upd (upd (upd (A 0) (86 + (5 * V)) tw) ((86 + (5 * V)) + 1) ac) ((86 + (5 * V)) + 2) dd) ((86 + (5 * V)) + 3) dy) ((86 + (5 * V)) + 4) sh)) hE hB 1 rfl (by omega) (by decide) dX9_leave_124 ?_
            refine z_top (y := (nI V)) (by simp only [upd]; rw [if_neg (by omega), if_neg (by omega), if_neg (by omega), if_neg (by omega), if_neg (by omega)]; exact hV) ?_
            refine lv_iconst (v := nI 1) hE.x hE.b dX9_leave_125 rfl ?_
            refine z_iaddN hE dX9_leave_126 ?_
            refine z_iast (k := 2) (f := (upd (upd (upd (upd (upd (A 0) (86 + (5 * V)) tw) ((86 + (5 * V)) + 1) ac) ((86 + (5 * V)) + 2) dd) ((86 + (5 * V)) + 3) dy) ((86 + (5 * V)) + 4) sh)) (x := (nI (V + 1))) (ws' := mW g o a F L (updA A 0 (upd (upd (upd (upd (upd (upd (A 0) (86 + (5 * V)) tw) ((86 + (5 * V)) + 1) ac) ((86 + (5 * V)) + 2) dd) ((86 + (5 * V)) + 3) dy) ((86 + (5 * V)) + 4) sh) 2 (nI (V + 1)))) ++ X) hE hB 1 rfl (by omega) (by decide) rfl dX9_leave_127 (fun H locs hB => ?_)
            refine lv_aload_n hE.x hE.b dX9_leave_128 rfl (lv_at hl 1 rfl) ?_
            refine z_get (v := .ref (a 0)) hE hB inX9 0 rfl rfl 0 (by decide) q4_1 (fun _ h9 => h9) rfl dX9_leave_129 ?_
            refine lv_iconst (v := nI 2) hE.x hE.b dX9_leave_132 rfl ?_
            refine z_iald (k := 2) (f := (upd (upd (upd (upd (upd (upd (A 0) (86 + (5 * V)) tw) ((86 + (5 * V)) + 1) ac) ((86 + (5 * V)) + 2) dd) ((86 + (5 * V)) + 3) dy) ((86 + (5 * V)) + 4) sh) 2 (nI (V + 1)))) hE hB 1 rfl (by omega) (by decide) dX9_leave_133 ?_
            refine z_top (y := (nI (V + 1))) (by simp [upd]) ?_
            refine lv_iconst (v := nI 1) hE.x hE.b dX9_leave_134 rfl ?_
            refine z_isubN hE (by omega) dX9_leave_135 ?_
            exact z_iret (v := (nI ((V + 1) - 1))) (ws := mW g o a F L (updA A 0 (upd (upd (upd (upd (upd (upd (A 0) (86 + (5 * V)) tw) ((86 + (5 * V)) + 1) ac) ((86 + (5 * V)) + 2) dd) ((86 + (5 * V)) + 3) dy) ((86 + (5 * V)) + 4) sh) 2 (nI (V + 1)))) ++ X) hE hB hr (⟨by unfold leaveR askOK; simp only [c_3, c_8, c_13, c_18, Bool.and_true, Bool.true_and, if_true]; rw [if_neg (by omega), Nat.add_sub_cancel], by unfold leaveA askOK; simp only [c_3, c_8, c_13, c_18, Bool.and_true, Bool.true_and, if_true]; rw [if_neg (by omega)]; rfl⟩) dX9_leave_136
          · refine lv_aload_n hE.x hE.b dX9_leave_50 rfl (lv_at hl 0 rfl) ?_
            refine z_qi hB (z_cV hE hB (c_X9_full l g o a F L A X) q4_95 kX9_full ⟨rfl, rfl⟩ ⟨Nat.le_of_ble_eq_true rfl, Nat.le_of_ble_eq_true rfl⟩ 0 rfl rfl rfl hl.1 rfl (Nat.le_of_ble_eq_true rfl) dX9_leave_51 ⟨Nat.le_of_ble_eq_true rfl, Nat.le_of_ble_eq_true rfl⟩) (fun r_20 w_21 H locs hw hB => ?_)
            obtain ⟨hr9, hw9⟩ := hw
            have hr9 := hr9.symm
            subst hr9
            have hw9 := hw9.symm
            subst hw9
            exact z_iret (v := (-4)) (ws := mW g o a F L (bump 2 A) ++ X) hE hB hr (⟨by unfold leaveR askOK; simp only [c_3, c_8, c_13, c_18, Bool.and_true, Bool.true_and, if_true]; rw [if_pos (by omega)], by unfold leaveA askOK; simp only [c_3, c_8, c_13, c_18, Bool.and_true, Bool.true_and, if_true]; rw [if_pos (by omega)]⟩) dX9_leave_54
        · refine lv_aload_n hE.x hE.b dX9_leave_32 rfl (lv_at hl 0 rfl) ?_
          refine lv_bipush (v := (-2)) hE.x hE.b dX9_leave_33 rfl ?_
          refine z_qi hB (z_cV hE hB (c_X9_bad l g o a F L A X (-2)) q4_91 kX9_bad ⟨rfl, rfl⟩ ⟨Nat.le_of_ble_eq_true rfl, Nat.le_of_ble_eq_true rfl⟩ 0 rfl rfl rfl hl.1 rfl (Nat.le_of_ble_eq_true rfl) dX9_leave_35 ⟨Nat.le_of_ble_eq_true rfl, Nat.le_of_ble_eq_true rfl⟩) (fun r_22 w_23 H locs hw hB => ?_)
          obtain ⟨hr9, hw9⟩ := hw
          have hr9 := hr9.symm
          subst hr9
          have hw9 := hw9.symm
          subst hw9
          exact z_iret (v := (-2)) (ws := mW g o a F L (bump 0 A) ++ X) hE hB hr (⟨by unfold leaveR askOK; simp only [c_3, c_8, c_13, c_18, Bool.and_false, Bool.false_and, Bool.false_eq_true, if_false, Bool.and_true, Bool.true_and], by unfold leaveA askOK; simp only [c_3, c_8, c_13, c_18, Bool.and_false, Bool.false_and, Bool.false_eq_true, if_false, Bool.and_true, Bool.true_and]⟩) dX9_leave_38

set_option maxHeartbeats 4000000 in
set_option maxRecDepth 100000 in
theorem c_X9_burn (l : Launch) (g : zG) (o : Nat) (a : Nat → Nat) (F : Nat → Int32) (L : Nat → Int64) (A : Nat → Nat → Int32) (X : va_W) (T : Nat) (C : Nat) (V : Nat) (U : Nat) (hn : nOK (A 0) T C V U) : Met l yX9_burn (Cond.code yX9_burn cX9_burn 2 (some .int) :: TBL) { frames := 0, cells := 0, slots := 0, locals := 0 } (zPc [.ref o] g (mW g o a F L A ++ X)) (zQi g (fun r ws => r = nI V ∧ ws = mW g o a F L (updA A 0 (upd (A 0) 2 (nI 0))) ++ X)) 0 0 (zA (gz g)) := by
  refine z_start (by decide +kernel) rfl (Nat.le_of_ble_eq_true rfl) ?_
  intro p e s m args below meth c ls hE hr hnm hB hl
  have hl : lv_has ls 2 [(0, .ref o)] := hl
  revert hB
  generalize s.heap = H
  generalize ([] : List Loc) = locs
  intro hB
  have hT := hn.T
  have hT6 := hn.T6
  have hC := hn.C
  have hC8 := hn.C8
  have hV := hn.V
  have hV8 := hn.V8
  have hU := hn.U
  have hU8 := hn.U8
  refine lv_aload_n hE.x hE.b dX9_burn_0 rfl (lv_at hl 0 rfl) ?_
  refine z_get (v := .ref (a 0)) hE hB inX9 0 rfl rfl 0 (by decide) q4_1 (fun _ h9 => h9) rfl dX9_burn_1 ?_
  refine lv_iconst (v := nI 2) hE.x hE.b dX9_burn_4 rfl ?_
  refine z_iald (k := 2) (f := (A 0)) hE hB 1 rfl (by omega) (by decide) dX9_burn_5 ?_
  refine z_top (y := (nI V)) hV ?_
  refine lv_istore_n (lv' := [(1, .int (nI V)), (0, .ref o)]) hE.x hE.b dX9_burn_6 rfl hl (by decide) rfl (fun ls hl => ?_)
  refine lv_aload_n hE.x hE.b dX9_burn_7 rfl (lv_at hl 1 rfl) ?_
  refine z_get (v := .ref (a 0)) hE hB inX9 0 rfl rfl 0 (by decide) q4_1 (fun _ h9 => h9) rfl dX9_burn_8 ?_
  refine lv_iconst (v := nI 2) hE.x hE.b dX9_burn_11 rfl ?_
  refine lv_iconst (v := nI 0) hE.x hE.b dX9_burn_12 rfl ?_
  refine z_iast (k := 2) (f := (A 0)) (x := (nI 0)) (ws' := mW g o a F L (updA A 0 (upd (A 0) 2 (nI 0))) ++ X) hE hB 1 rfl (by omega) (by decide) rfl dX9_burn_13 (fun H locs hB => ?_)
  refine lv_iload_n hE.x hE.b dX9_burn_14 rfl (lv_at hl 0 rfl) ?_
  exact z_iret (v := (nI V)) (ws := mW g o a F L (updA A 0 (upd (A 0) 2 (nI 0))) ++ X) hE hB hr (⟨rfl, rfl⟩) dX9_burn_15

set_option maxHeartbeats 4000000 in
set_option maxRecDepth 100000 in
theorem c_X9_forged (l : Launch) (g : zG) (o : Nat) (a : Nat → Nat) (F : Nat → Int32) (L : Nat → Int64) (A : Nat → Nat → Int32) (X : va_W) (T : Nat) (C : Nat) (V : Nat) (U : Nat) (hn : nOK (A 0) T C V U) : Met l yX9_forged (Cond.code yX9_forged cX9_forged 4 (some .int) :: TBL) { frames := 6, cells := 0, slots := 0, locals := 154 } (zPc [.ref o] g (mW g o a F L A ++ X)) (zQi g (fun r ws => ∃ (F1 : Nat → Int32), r = (forgedR (A 0) C V) ∧ ws = mW g o a F1 L A ++ X ∧ F1 16 = F 16)) 0 0 (zA (gz g)) := by
  refine z_start (by decide +kernel) rfl (Nat.le_of_ble_eq_true rfl) ?_
  intro p e s m args below meth c ls hE hr hnm hB hl
  have hl : lv_has ls 4 [(0, .ref o)] := hl
  revert hB
  generalize s.heap = H
  generalize ([] : List Loc) = locs
  intro hB
  have hT := hn.T
  have hT6 := hn.T6
  have hC := hn.C
  have hC8 := hn.C8
  have hV := hn.V
  have hV8 := hn.V8
  have hU := hn.U
  have hU8 := hn.U8
  have h16 : F 16 = F 16 := rfl
  refine lv_iconst (v := nI 0) hE.x hE.b dX9_forged_0 rfl ?_
  refine lv_istore_n (lv' := [(1, .int (nI 0)), (0, .ref o)]) hE.x hE.b dX9_forged_1 rfl hl (by decide) rfl (fun ls hl => ?_)
  refine lv_iconst (v := nI 0) hE.x hE.b dX9_forged_2 rfl ?_
  refine lv_istore_n (lv' := [(2, .int (nI 0)), (1, .int (nI 0)), (0, .ref o)]) hE.x hE.b dX9_forged_3 rfl hl (by decide) rfl (fun ls hl => ?_)
  have k4 : ∀ (fu : Nat) (b : Nat) (k : Nat) (F1 : Nat → Int32) (H : Heap) (locs : List Loc) (ls : Array Slot), V - k < fu → (k ≤ V) → (F1 16 = F 16) → (b = rdB (fgP (A 0) C) k) → zB g s (mW g o a F1 L A ++ X) H locs → lv_has ls 4 [(2, .int (nI k)), (1, .int (nI b)), (0, .ref o)] → W p l e { frames := 6, cells := 0, slots := 0, locals := 154 } s m args below meth c H locs 0 0 (MQ below (zQi g (fun r ws => ∃ (F1 : Nat → Int32), r = (forgedR (A 0) C V) ∧ ws = mW g o a F1 L A ++ X ∧ F1 16 = F 16)) args s 0 0 (zA (gz g))) (F0 m 4 ls []) := by
    intro fu
    induction fu with
    | zero => intro b k F1 H locs ls hfu hk h16 hb hB hl; exact absurd hfu (Nat.not_lt_zero _)
    | succ fu ih4 =>
      intro b k F1 H locs ls hfu hk h16 hb hB hl
      refine lv_iload_n hE.x hE.b dX9_forged_4 rfl (lv_at hl 0 rfl) ?_
      refine lv_aload_n hE.x hE.b dX9_forged_5 rfl (lv_at hl 2 rfl) ?_
      refine z_get (v := .ref (a 0)) hE hB inX9 0 rfl rfl 0 (by decide) q4_1 (fun _ h9 => h9) rfl dX9_forged_6 ?_
      refine lv_iconst (v := nI 2) hE.x hE.b dX9_forged_9 rfl ?_
      refine z_iald (k := 2) (f := (A 0)) hE hB 1 rfl (by omega) (by decide) dX9_forged_10 ?_
      refine z_top (y := (nI V)) hV ?_
      refine z_ge (tgt := 83) (X := ((k : Nat) : Int)) (Y := ((V : Nat) : Int)) hE dX9_forged_11 (by decide) (nI_toInt (n := k) (by omega)) (nI_toInt (n := V) (by omega)) (fun c_1 => ?_) (fun c_1 => ?_)
      · refine lv_iload_n hE.x hE.b dX9_forged_83 rfl (lv_at hl 1 rfl) ?_
        exact z_iret (v := (nI b)) (ws := mW g o a F1 L A ++ X) hE hB hr (⟨F1, by unfold forgedR; rw [hb, show k = V by omega], rfl, h16⟩) dX9_forged_84
      · obtain ⟨t, a1, a2, a3, a4, ht, -, -, -, -, et, -⟩ := hn.Lv k (by omega)
        refine lv_bipush (v := (nI 86)) hE.x hE.b dX9_forged_14 rfl ?_
        refine lv_iconst (v := nI 5) hE.x hE.b dX9_forged_16 rfl ?_
        refine lv_iload_n hE.x hE.b dX9_forged_17 rfl (lv_at hl 0 rfl) ?_
        refine z_imulN hE dX9_forged_18 ?_
        refine z_iaddN hE dX9_forged_19 ?_
        refine lv_istore_n (lv' := [(3, .int (nI (86 + (5 * k)))), (2, .int (nI k)), (1, .int (nI b)), (0, .ref o)]) hE.x hE.b dX9_forged_20 rfl hl (by decide) rfl (fun ls hl => ?_)
        refine lv_iload_n hE.x hE.b dX9_forged_21 rfl (lv_at hl 2 rfl) ?_
        refine lv_aload_n hE.x hE.b dX9_forged_22 rfl (lv_at hl 3 rfl) ?_
        refine lv_aload_n hE.x hE.b dX9_forged_23 rfl (lv_at hl 3 rfl) ?_
        refine z_get (v := .ref (a 0)) hE hB inX9 0 rfl rfl 0 (by decide) q4_1 (fun _ h9 => h9) rfl dX9_forged_24 ?_
        refine lv_iload_n hE.x hE.b dX9_forged_27 rfl (lv_at hl 0 rfl) ?_
        refine z_iald (k := (86 + (5 * k))) (f := (A 0)) hE hB 1 rfl (by omega) (by decide) dX9_forged_28 ?_
        refine z_top (y := (nI t)) et ?_
        refine lv_aload_n hE.x hE.b dX9_forged_29 rfl (lv_at hl 3 rfl) ?_
        refine z_get (v := .ref (a 0)) hE hB inX9 0 rfl rfl 0 (by decide) q4_1 (fun _ h9 => h9) rfl dX9_forged_30 ?_
        refine lv_iload_n hE.x hE.b dX9_forged_33 rfl (lv_at hl 0 rfl) ?_
        refine lv_iconst (v := nI 1) hE.x hE.b dX9_forged_34 rfl ?_
        refine z_iaddN hE dX9_forged_35 ?_
        refine z_iald (k := ((86 + (5 * k)) + 1)) (f := (A 0)) hE hB 1 rfl (by omega) (by decide) dX9_forged_36 ?_
        refine lv_aload_n hE.x hE.b dX9_forged_37 rfl (lv_at hl 3 rfl) ?_
        refine z_get (v := .ref (a 0)) hE hB inX9 0 rfl rfl 0 (by decide) q4_1 (fun _ h9 => h9) rfl dX9_forged_38 ?_
        refine lv_iload_n hE.x hE.b dX9_forged_41 rfl (lv_at hl 0 rfl) ?_
        refine lv_iconst (v := nI 2) hE.x hE.b dX9_forged_42 rfl ?_
        refine z_iaddN hE dX9_forged_43 ?_
        refine z_iald (k := ((86 + (5 * k)) + 2)) (f := (A 0)) hE hB 1 rfl (by omega) (by decide) dX9_forged_44 ?_
        refine lv_aload_n hE.x hE.b dX9_forged_45 rfl (lv_at hl 3 rfl) ?_
        refine z_get (v := .ref (a 0)) hE hB inX9 0 rfl rfl 0 (by decide) q4_1 (fun _ h9 => h9) rfl dX9_forged_46 ?_
        refine lv_iload_n hE.x hE.b dX9_forged_49 rfl (lv_at hl 0 rfl) ?_
        refine lv_iconst (v := nI 3) hE.x hE.b dX9_forged_50 rfl ?_
        refine z_iaddN hE dX9_forged_51 ?_
        refine z_iald (k := ((86 + (5 * k)) + 3)) (f := (A 0)) hE hB 1 rfl (by omega) (by decide) dX9_forged_52 ?_
        refine lv_aload_n hE.x hE.b dX9_forged_53 rfl (lv_at hl 3 rfl) ?_
        refine z_get (v := .ref (a 0)) hE hB inX9 0 rfl rfl 0 (by decide) q4_1 (fun _ h9 => h9) rfl dX9_forged_54 ?_
        refine lv_iload_n hE.x hE.b dX9_forged_57 rfl (lv_at hl 0 rfl) ?_
        refine lv_iconst (v := nI 4) hE.x hE.b dX9_forged_58 rfl ?_
        refine z_iaddN hE dX9_forged_59 ?_
        refine z_iald (k := ((86 + (5 * k)) + 4)) (f := (A 0)) hE hB 1 rfl (by omega) (by decide) dX9_forged_60 ?_
        refine lv_iconst (v := nI 0) hE.x hE.b dX9_forged_61 rfl ?_
        refine z_qi hB (z_cV hE hB (c_X9_isAllowed l g o a F1 L A X C t ((A 0) ((86 + (5 * k)) + 1)) ((A 0) ((86 + (5 * k)) + 2)) ((A 0) ((86 + (5 * k)) + 3)) ((A 0) ((86 + (5 * k)) + 4)) 0 hC (by omega) (by omega) (by omega)) q4_207 kX9_isAllowed ⟨rfl, rfl⟩ ⟨Nat.le_of_ble_eq_true rfl, Nat.le_of_ble_eq_true rfl⟩ 0 rfl rfl rfl hl.1 rfl (Nat.le_of_ble_eq_true rfl) dX9_forged_62 ⟨Nat.le_of_ble_eq_true rfl, Nat.le_of_ble_eq_true rfl⟩) (fun r_2 w_3 H locs hw hB => ?_)
        obtain ⟨F1_4, hr9, hw9, hf_5⟩ := hw
        have hr9 := hr9.symm
        subst hr9
        have hw9 := hw9.symm
        subst hw9
        have h16 := hf_5.trans h16
        refine z_bf (b := (isA (A 0) C t ((A 0) ((86 + (5 * k)) + 1)) ((A 0) ((86 + (5 * k)) + 2)) ((A 0) ((86 + (5 * k)) + 3)) ((A 0) ((86 + (5 * k)) + 4)) 0)) (tgt := 72) hE dX9_forged_65 (by decide) (fun c_6 => ?_) (fun c_6 => ?_)
        · refine lv_iconst (v := nI 1) hE.x hE.b dX9_forged_72 rfl ?_
          refine lv_iload_n hE.x hE.b dX9_forged_73 rfl (lv_at hl 1 rfl) ?_
          refine lv_ishl hE.x hE.b dX9_forged_74 ?_
          refine z_top (y := (nI (2 ^ k))) (shl_8 k (by omega)) ?_
          refine lv_ior hE.x hE.b dX9_forged_75 ?_
          refine z_top (y := (nI (b ||| (2 ^ k)))) (or_nI _ _) ?_
          refine lv_istore_n (lv' := [(1, .int (nI (b ||| (2 ^ k)))), (3, .int (nI (86 + (5 * k)))), (2, .int (nI k)), (0, .ref o)]) hE.x hE.b dX9_forged_76 rfl hl (by decide) rfl (fun ls hl => ?_)
          refine lv_iinc (v := (nI (k + 1))) (lv' := [(2, .int (nI (k + 1))), (1, .int (nI (b ||| (2 ^ k)))), (3, .int (nI (86 + (5 * k)))), (0, .ref o)]) hE.x hE.b dX9_forged_77 hl (k := 2) rfl (nI_add _ _) (by decide) rfl (fun ls hl => ?_)
          refine lv_goto (tgt := 4) hE.x hE.b dX9_forged_80 (by decide) ?_
          exact ih4 (b ||| (2 ^ k)) (k + 1) F1_4 _ _ _ (by omega) (by omega) h16 (rdB_y hb (by rw [fgP_d et (by omega), c_6]; rfl)) hB (lv_sub hl [0, 1, 3] rfl)
        · refine lv_iconst (v := nI 0) hE.x hE.b dX9_forged_68 rfl ?_
          refine lv_goto (tgt := 75) hE.x hE.b dX9_forged_69 (by decide) ?_
          refine lv_ior hE.x hE.b dX9_forged_75 ?_
          refine z_top (y := (nI (b ||| 0))) (or_nI _ _) ?_
          refine lv_istore_n (lv' := [(1, .int (nI (b ||| 0))), (3, .int (nI (86 + (5 * k)))), (2, .int (nI k)), (0, .ref o)]) hE.x hE.b dX9_forged_76 rfl hl (by decide) rfl (fun ls hl => ?_)
          refine lv_iinc (v := (nI (k + 1))) (lv' := [(2, .int (nI (k + 1))), (1, .int (nI (b ||| 0))), (3, .int (nI (86 + (5 * k)))), (0, .ref o)]) hE.x hE.b dX9_forged_77 hl (k := 2) rfl (nI_add _ _) (by decide) rfl (fun ls hl => ?_)
          refine lv_goto (tgt := 4) hE.x hE.b dX9_forged_80 (by decide) ?_
          exact ih4 (b ||| 0) (k + 1) F1_4 _ _ _ (by omega) (by omega) h16 (rdB_yf hb (by rw [fgP_d et (by omega), c_6]; rfl)) hB (lv_sub hl [0, 1, 3] rfl)
  exact k4 (V - 0 + 1) 0 0 F _ _ _ (Nat.lt_succ_self _) (by omega) h16 rfl hB hl

set_option maxHeartbeats 4000000 in
set_option maxRecDepth 100000 in
theorem c_X9_whose (l : Launch) (g : zG) (o : Nat) (a : Nat → Nat) (F : Nat → Int32) (L : Nat → Int64) (A : Nat → Nat → Int32) (X : va_W) (T : Nat) (C : Nat) (V : Nat) (U : Nat) (tw : Int32) (w : Int32) (ac : Int32) (dd : Int32) (dy : Int32) (sh : Int32) (hn : nOK (A 0) T C V U) : Met l yX9_whose (Cond.code yX9_whose cX9_whose 9 (some .int) :: TBL) { frames := 6, cells := 0, slots := 0, locals := 154 } (zPc [.ref o, .int tw, .int w, .int ac, .int dd, .int dy, .int sh] g (mW g o a F L A ++ X)) (zQi g (fun r ws => ∃ (F2 : Nat → Int32) (f1 : Nat → Int32), r = (whoseR (A 0) T C tw w ac dd dy sh) ∧ ws = mW g o a F2 L (updA (chk (whoseOK T tw w ac dd dy sh) A) 4 f1) ++ X ∧ F2 16 = F 16)) 0 0 (zA (gz g)) := by
  refine z_start (by decide +kernel) rfl (Nat.le_of_ble_eq_true rfl) ?_
  intro p e s m args below meth c ls hE hr hnm hB hl
  have hl : lv_has ls 9 [(0, .ref o), (1, .int tw), (2, .int w), (3, .int ac), (4, .int dd), (5, .int dy), (6, .int sh)] := hl
  revert hB
  generalize s.heap = H
  generalize ([] : List Loc) = locs
  intro hB
  have hT := hn.T
  have hT6 := hn.T6
  have hC := hn.C
  have hC8 := hn.C8
  have hV := hn.V
  have hV8 := hn.V8
  have hU := hn.U
  have hU8 := hn.U8
  have h16 : F 16 = F 16 := rfl
  refine lv_aload_n hE.x hE.b dX9_whose_0 rfl (lv_at hl 0 rfl) ?_
  refine lv_iload_n hE.x hE.b dX9_whose_1 rfl (lv_at hl 1 rfl) ?_
  refine z_qi hB (z_cV hE hB (c_X9_isTown l g o a F L A X T tw hT (by omega)) q4_106 kX9_isTown ⟨rfl, rfl⟩ ⟨Nat.le_of_ble_eq_true rfl, Nat.le_of_ble_eq_true rfl⟩ 0 rfl rfl rfl hl.1 rfl (Nat.le_of_ble_eq_true rfl) dX9_whose_2 ⟨Nat.le_of_ble_eq_true rfl, Nat.le_of_ble_eq_true rfl⟩) (fun r_1 w_2 H locs hw hB => ?_)
  obtain ⟨hr9, hw9⟩ := hw
  have hr9 := hr9.symm
  subst hr9
  have hw9 := hw9.symm
  subst hw9
  refine z_bf (b := (pTown T tw)) (tgt := 45) hE dX9_whose_5 (by decide) (fun c_3 => ?_) (fun c_3 => ?_)
  · refine lv_aload_n hE.x hE.b dX9_whose_45 rfl (lv_at hl 0 rfl) ?_
    refine lv_bipush (v := (-2)) hE.x hE.b dX9_whose_46 rfl ?_
    refine z_qi hB (z_cV hE hB (c_X9_bad l g o a F L A X (-2)) q4_91 kX9_bad ⟨rfl, rfl⟩ ⟨Nat.le_of_ble_eq_true rfl, Nat.le_of_ble_eq_true rfl⟩ 0 rfl rfl rfl hl.1 rfl (Nat.le_of_ble_eq_true rfl) dX9_whose_48 ⟨Nat.le_of_ble_eq_true rfl, Nat.le_of_ble_eq_true rfl⟩) (fun r_4 w_5 H locs hw hB => ?_)
    obtain ⟨hr9, hw9⟩ := hw
    have hr9 := hr9.symm
    subst hr9
    have hw9 := hw9.symm
    subst hw9
    exact z_iret (v := (-2)) (ws := mW g o a F L (bump 0 A) ++ X) hE hB hr (⟨F, A 4, by unfold whoseR whoseOK; simp only [c_3, Bool.and_false, Bool.false_and, Bool.false_eq_true, if_false, Bool.and_true, Bool.true_and], by unfold chk whoseOK; simp only [c_3, Bool.and_false, Bool.false_and, Bool.false_eq_true, if_false, Bool.and_true, Bool.true_and]; rfl, rfl⟩) dX9_whose_51
  · refine lv_iload_n hE.x hE.b dX9_whose_8 rfl (lv_at hl 2 rfl) ?_
    refine lv_i2l hE.x hE.b dX9_whose_9 rfl ?_
    refine lv_lconst (v := lN 0) hE.x hE.b dX9_whose_10 rfl ?_
    refine lv_ldc2 (v := lN 20) hE.x hE.b hE.o (hE.t _ q5_34) dX9_whose_11 ?_
    refine z_qi hB (z_cS hE hB (c_X9_in l g (w.toInt64) (lN 0) (lN 20) w.toInt 0 20 (mW g o a F L A ++ X) (Int32.toInt_toInt64 _) (by decide) (by decide)) q4_88 kX9_in ⟨rfl, rfl⟩ ⟨Nat.le_of_ble_eq_true rfl, Nat.le_of_ble_eq_true rfl⟩ rfl hl.1 rfl (Nat.le_of_ble_eq_true rfl) dX9_whose_14 ⟨Nat.le_of_ble_eq_true rfl, Nat.le_of_ble_eq_true rfl⟩) (fun r_6 w_7 H locs hw hB => ?_)
    obtain ⟨hr9, hw9⟩ := hw
    have hr9 := hr9.symm
    subst hr9
    have hw9 := hw9.symm
    subst hw9
    refine z_bf (b := (inZ 0 20 w.toInt)) (tgt := 45) hE dX9_whose_17 (by decide) (fun c_8 => ?_) (fun c_8 => ?_)
    · refine lv_aload_n hE.x hE.b dX9_whose_45 rfl (lv_at hl 0 rfl) ?_
      refine lv_bipush (v := (-2)) hE.x hE.b dX9_whose_46 rfl ?_
      refine z_qi hB (z_cV hE hB (c_X9_bad l g o a F L A X (-2)) q4_91 kX9_bad ⟨rfl, rfl⟩ ⟨Nat.le_of_ble_eq_true rfl, Nat.le_of_ble_eq_true rfl⟩ 0 rfl rfl rfl hl.1 rfl (Nat.le_of_ble_eq_true rfl) dX9_whose_48 ⟨Nat.le_of_ble_eq_true rfl, Nat.le_of_ble_eq_true rfl⟩) (fun r_9 w_10 H locs hw hB => ?_)
      obtain ⟨hr9, hw9⟩ := hw
      have hr9 := hr9.symm
      subst hr9
      have hw9 := hw9.symm
      subst hw9
      exact z_iret (v := (-2)) (ws := mW g o a F L (bump 0 A) ++ X) hE hB hr (⟨F, A 4, by unfold whoseR whoseOK; simp only [c_3, c_8, Bool.and_false, Bool.false_and, Bool.false_eq_true, if_false, Bool.and_true, Bool.true_and], by unfold chk whoseOK; simp only [c_3, c_8, Bool.and_false, Bool.false_and, Bool.false_eq_true, if_false, Bool.and_true, Bool.true_and]; rfl, rfl⟩) dX9_whose_51
    · refine lv_iload_n hE.x hE.b dX9_whose_20 rfl (lv_at hl 3 rfl) ?_
      refine z_qi hB (z_cS hE hB (c_X9_isAct l g ac (mW g o a F L A ++ X)) q4_119 kX9_isAct ⟨rfl, rfl⟩ ⟨Nat.le_of_ble_eq_true rfl, Nat.le_of_ble_eq_true rfl⟩ rfl hl.1 rfl (Nat.le_of_ble_eq_true rfl) dX9_whose_21 ⟨Nat.le_of_ble_eq_true rfl, Nat.le_of_ble_eq_true rfl⟩) (fun r_11 w_12 H locs hw hB => ?_)
      obtain ⟨hr9, hw9⟩ := hw
      have hr9 := hr9.symm
      subst hr9
      have hw9 := hw9.symm
      subst hw9
      refine z_bf (b := (pIn 0 5 ac)) (tgt := 45) hE dX9_whose_24 (by decide) (fun c_13 => ?_) (fun c_13 => ?_)
      · refine lv_aload_n hE.x hE.b dX9_whose_45 rfl (lv_at hl 0 rfl) ?_
        refine lv_bipush (v := (-2)) hE.x hE.b dX9_whose_46 rfl ?_
        refine z_qi hB (z_cV hE hB (c_X9_bad l g o a F L A X (-2)) q4_91 kX9_bad ⟨rfl, rfl⟩ ⟨Nat.le_of_ble_eq_true rfl, Nat.le_of_ble_eq_true rfl⟩ 0 rfl rfl rfl hl.1 rfl (Nat.le_of_ble_eq_true rfl) dX9_whose_48 ⟨Nat.le_of_ble_eq_true rfl, Nat.le_of_ble_eq_true rfl⟩) (fun r_14 w_15 H locs hw hB => ?_)
        obtain ⟨hr9, hw9⟩ := hw
        have hr9 := hr9.symm
        subst hr9
        have hw9 := hw9.symm
        subst hw9
        exact z_iret (v := (-2)) (ws := mW g o a F L (bump 0 A) ++ X) hE hB hr (⟨F, A 4, by unfold whoseR whoseOK; simp only [c_3, c_8, c_13, Bool.and_false, Bool.false_and, Bool.false_eq_true, if_false, Bool.and_true, Bool.true_and], by unfold chk whoseOK; simp only [c_3, c_8, c_13, Bool.and_false, Bool.false_and, Bool.false_eq_true, if_false, Bool.and_true, Bool.true_and]; rfl, rfl⟩) dX9_whose_51
      · refine lv_iload hE.x hE.b dX9_whose_27 (lv_at hl 4 rfl) ?_
        refine z_qi hB (z_cS hE hB (c_X9_isDay l g dd (mW g o a F L A ++ X)) q4_170 kX9_isDay ⟨rfl, rfl⟩ ⟨Nat.le_of_ble_eq_true rfl, Nat.le_of_ble_eq_true rfl⟩ rfl hl.1 rfl (Nat.le_of_ble_eq_true rfl) dX9_whose_29 ⟨Nat.le_of_ble_eq_true rfl, Nat.le_of_ble_eq_true rfl⟩) (fun r_16 w_17 H locs hw hB => ?_)
        obtain ⟨hr9, hw9⟩ := hw
        have hr9 := hr9.symm
        subst hr9
        have hw9 := hw9.symm
        subst hw9
        refine z_bf (b := (pIn 0 59 dd)) (tgt := 45) hE dX9_whose_32 (by decide) (fun c_18 => ?_) (fun c_18 => ?_)
        · refine lv_aload_n hE.x hE.b dX9_whose_45 rfl (lv_at hl 0 rfl) ?_
          refine lv_bipush (v := (-2)) hE.x hE.b dX9_whose_46 rfl ?_
          refine z_qi hB (z_cV hE hB (c_X9_bad l g o a F L A X (-2)) q4_91 kX9_bad ⟨rfl, rfl⟩ ⟨Nat.le_of_ble_eq_true rfl, Nat.le_of_ble_eq_true rfl⟩ 0 rfl rfl rfl hl.1 rfl (Nat.le_of_ble_eq_true rfl) dX9_whose_48 ⟨Nat.le_of_ble_eq_true rfl, Nat.le_of_ble_eq_true rfl⟩) (fun r_19 w_20 H locs hw hB => ?_)
          obtain ⟨hr9, hw9⟩ := hw
          have hr9 := hr9.symm
          subst hr9
          have hw9 := hw9.symm
          subst hw9
          exact z_iret (v := (-2)) (ws := mW g o a F L (bump 0 A) ++ X) hE hB hr (⟨F, A 4, by unfold whoseR whoseOK; simp only [c_3, c_8, c_13, c_18, Bool.and_false, Bool.false_and, Bool.false_eq_true, if_false, Bool.and_true, Bool.true_and], by unfold chk whoseOK; simp only [c_3, c_8, c_13, c_18, Bool.and_false, Bool.false_and, Bool.false_eq_true, if_false, Bool.and_true, Bool.true_and]; rfl, rfl⟩) dX9_whose_51
        · refine lv_iload hE.x hE.b dX9_whose_35 (lv_at hl 5 rfl) ?_
          refine lv_iload hE.x hE.b dX9_whose_37 (lv_at hl 6 rfl) ?_
          refine z_qi hB (z_cS hE hB (c_X9_isAsker l g dy sh (mW g o a F L A ++ X)) q4_174 kX9_isAsker ⟨rfl, rfl⟩ ⟨Nat.le_of_ble_eq_true rfl, Nat.le_of_ble_eq_true rfl⟩ rfl hl.1 rfl (Nat.le_of_ble_eq_true rfl) dX9_whose_39 ⟨Nat.le_of_ble_eq_true rfl, Nat.le_of_ble_eq_true rfl⟩) (fun r_21 w_22 H locs hw hB => ?_)
          obtain ⟨hr9, hw9⟩ := hw
          have hr9 := hr9.symm
          subst hr9
          have hw9 := hw9.symm
          subst hw9
          refine z_bt (b := (pIn 0 1 dy && pIn 0 1 sh)) (tgt := 52) hE dX9_whose_42 (by decide) (fun c_23 => ?_) (fun c_23 => ?_)
          · obtain ⟨tn, htn, rfl⟩ := pTown_nI c_3 (by omega)
            obtain ⟨wn, hwn, rfl⟩ := pIn_nI (hi := 20) c_8 (by omega)
            refine lv_iconst (v := nI 0) hE.x hE.b dX9_whose_52 rfl ?_
            refine lv_istore (lv' := [(7, .int (nI 0)), (0, .ref o), (1, .int (nI tn)), (2, .int (nI wn)), (3, .int ac), (4, .int dd), (5, .int dy), (6, .int sh)]) hE.x hE.b dX9_whose_53 hl (by decide) rfl (fun ls hl => ?_)
            refine lv_aload_n hE.x hE.b dX9_whose_55 rfl (lv_at hl 1 rfl) ?_
            refine lv_iload_n hE.x hE.b dX9_whose_56 rfl (lv_at hl 2 rfl) ?_
            refine z_qv hB (z_cV hE hB (c_X9_layFar l g o a F L A X T C V U tn hn (by omega)) q4_197 kX9_layFar ⟨rfl, rfl⟩ ⟨Nat.le_of_ble_eq_true rfl, Nat.le_of_ble_eq_true rfl⟩ 0 rfl rfl rfl hl.1 rfl (Nat.le_of_ble_eq_true rfl) dX9_whose_57 ⟨Nat.le_of_ble_eq_true rfl, Nat.le_of_ble_eq_true rfl⟩) (fun w_25 H locs hw hB => ?_)
            obtain ⟨f1_26, hw9, hf_27⟩ := hw
            have hw9 := hw9.symm
            subst hw9
            refine lv_iconst (v := nI 0) hE.x hE.b dX9_whose_60 rfl ?_
            refine lv_istore (lv' := [(8, .int (nI 0)), (7, .int (nI 0)), (0, .ref o), (1, .int (nI tn)), (2, .int (nI wn)), (3, .int ac), (4, .int dd), (5, .int dy), (6, .int sh)]) hE.x hE.b dX9_whose_61 hl (by decide) rfl (fun ls hl => ?_)
            have k63 : ∀ (fu : Nat) (b : Nat) (k : Nat) (F1 : Nat → Int32) (H : Heap) (locs : List Loc) (ls : Array Slot), T - k < fu → (k ≤ T) → (F1 16 = F 16) → (b = rdB (whP (A 0) T C tn wn ac dd dy sh) k) → zB g s (mW g o a F1 L (updA A 4 f1_26) ++ X) H locs → lv_has ls 9 [(8, .int (nI k)), (7, .int (nI b)), (0, .ref o), (1, .int (nI tn)), (2, .int (nI wn)), (3, .int ac), (4, .int dd), (5, .int dy), (6, .int sh)] → W p l e { frames := 6, cells := 0, slots := 0, locals := 154 } s m args below meth c H locs 0 0 (MQ below (zQi g (fun r ws => ∃ (F2 : Nat → Int32) (f1 : Nat → Int32), r = (whoseR (A 0) T C (nI tn) (nI wn) ac dd dy sh) ∧ ws = mW g o a F2 L (updA (chk (whoseOK T (nI tn) (nI wn) ac dd dy sh) A) 4 f1) ++ X ∧ F2 16 = F 16)) args s 0 0 (zA (gz g))) (F0 m 63 ls []) := by
              intro fu
              induction fu with
              | zero => intro b k F1 H locs ls hfu hk h16 hb hB hl; exact absurd hfu (Nat.not_lt_zero _)
              | succ fu ih63 =>
                intro b k F1 H locs ls hfu hk h16 hb hB hl
                refine lv_iload hE.x hE.b dX9_whose_63 (lv_at hl 0 rfl) ?_
                refine lv_aload_n hE.x hE.b dX9_whose_65 rfl (lv_at hl 2 rfl) ?_
                refine z_qi hB (z_cV hE hB (c_X9_towns l g o a F1 L (updA A 4 f1_26) X T hT) q4_76 kX9_towns ⟨rfl, rfl⟩ ⟨Nat.le_of_ble_eq_true rfl, Nat.le_of_ble_eq_true rfl⟩ 0 rfl rfl rfl hl.1 rfl (Nat.le_of_ble_eq_true rfl) dX9_whose_66 ⟨Nat.le_of_ble_eq_true rfl, Nat.le_of_ble_eq_true rfl⟩) (fun r_28 w_29 H locs hw hB => ?_)
                obtain ⟨hr9, hw9⟩ := hw
                have hr9 := hr9.symm
                subst hr9
                have hw9 := hw9.symm
                subst hw9
                refine z_ge (tgt := 119) (X := ((k : Nat) : Int)) (Y := ((T : Nat) : Int)) hE dX9_whose_69 (by decide) (nI_toInt (n := k) (by omega)) (nI_toInt (n := T) (by omega)) (fun c_30 => ?_) (fun c_30 => ?_)
                · refine lv_iload hE.x hE.b dX9_whose_119 (lv_at hl 1 rfl) ?_
                  exact z_iret (v := (nI b)) (ws := mW g o a F1 L (updA A 4 f1_26) ++ X) hE hB hr (⟨F1, f1_26, by unfold whoseR whoseOK; simp only [c_3, c_8, c_13, c_18, c_23, Bool.and_true, Bool.true_and, if_true, rcl (show tn < 2 ^ 31 by omega), rcl (show wn < 2 ^ 31 by omega)]; rw [hb, show k = T by omega], by unfold chk whoseOK; simp only [c_3, c_8, c_13, c_18, c_23, Bool.and_true, Bool.true_and, if_true], h16⟩) dX9_whose_121
                · have hfk := fD_le (n := A 0) (T := T) (fr := tn) (x := k)
                  refine lv_iload hE.x hE.b dX9_whose_72 (lv_at hl 1 rfl) ?_
                  refine lv_aload_n hE.x hE.b dX9_whose_74 rfl (lv_at hl 2 rfl) ?_
                  refine z_get (v := .ref (a 4)) hE hB inX9 0 rfl rfl 12 (by decide) q4_13 (fun _ h9 => h9) rfl dX9_whose_75 ?_
                  refine lv_iload hE.x hE.b dX9_whose_78 (lv_at hl 0 rfl) ?_
                  refine z_iald (k := k) (f := ((updA A 4 f1_26) 4)) hE hB 5 rfl (by omega) (by decide) dX9_whose_80 ?_
                  refine z_top (y := (nI (fD (A 0) T tn k))) (hf_27 k (by omega)) ?_
                  refine lv_iload_n hE.x hE.b dX9_whose_81 rfl (lv_at hl 4 rfl) ?_
                  refine z_gt (tgt := 109) (X := (((fD (A 0) T tn k) : Nat) : Int)) (Y := ((wn : Nat) : Int)) hE dX9_whose_82 (by decide) (nI_toInt (n := (fD (A 0) T tn k)) (by omega)) (nI_toInt (n := wn) (by omega)) (fun c_31 => ?_) (fun c_31 => ?_)
                  · refine lv_iconst (v := nI 0) hE.x hE.b dX9_whose_109 rfl ?_
                    refine lv_ior hE.x hE.b dX9_whose_110 ?_
                    refine z_top (y := (nI (b ||| 0))) (or_nI _ _) ?_
                    refine lv_istore (lv' := [(7, .int (nI (b ||| 0))), (8, .int (nI k)), (0, .ref o), (1, .int (nI tn)), (2, .int (nI wn)), (3, .int ac), (4, .int dd), (5, .int dy), (6, .int sh)]) hE.x hE.b dX9_whose_111 hl (by decide) rfl (fun ls hl => ?_)
                    refine lv_iinc (v := (nI (k + 1))) (lv' := [(8, .int (nI (k + 1))), (7, .int (nI (b ||| 0))), (0, .ref o), (1, .int (nI tn)), (2, .int (nI wn)), (3, .int ac), (4, .int dd), (5, .int dy), (6, .int sh)]) hE.x hE.b dX9_whose_113 hl (k := 1) rfl (nI_add _ _) (by decide) rfl (fun ls hl => ?_)
                    refine lv_goto (tgt := 63) hE.x hE.b dX9_whose_116 (by decide) ?_
                    exact ih63 (b ||| 0) (k + 1) F1 _ _ _ (by omega) (by omega) h16 (rdB_yf hb (by unfold whP; rw [decide_eq_false (by omega)]; rfl)) hB hl
                  · refine lv_aload_n hE.x hE.b dX9_whose_85 rfl (lv_at hl 2 rfl) ?_
                    refine lv_iload hE.x hE.b dX9_whose_86 (lv_at hl 0 rfl) ?_
                    refine lv_iload_n hE.x hE.b dX9_whose_88 rfl (lv_at hl 5 rfl) ?_
                    refine lv_iload hE.x hE.b dX9_whose_89 (lv_at hl 6 rfl) ?_
                    refine lv_iload hE.x hE.b dX9_whose_91 (lv_at hl 7 rfl) ?_
                    refine lv_iload hE.x hE.b dX9_whose_93 (lv_at hl 8 rfl) ?_
                    refine lv_iconst (v := nI 0) hE.x hE.b dX9_whose_95 rfl ?_
                    refine z_qi hB (z_cV hE hB (c_X9_isAllowed l g o a F1 L (updA A 4 f1_26) X C k ac dd dy sh 0 hC (by omega) (by omega) (by omega)) q4_207 kX9_isAllowed ⟨rfl, rfl⟩ ⟨Nat.le_of_ble_eq_true rfl, Nat.le_of_ble_eq_true rfl⟩ 0 rfl rfl rfl hl.1 rfl (Nat.le_of_ble_eq_true rfl) dX9_whose_96 ⟨Nat.le_of_ble_eq_true rfl, Nat.le_of_ble_eq_true rfl⟩) (fun r_32 w_33 H locs hw hB => ?_)
                    obtain ⟨F1_34, hr9, hw9, hf_35⟩ := hw
                    have hr9 := hr9.symm
                    subst hr9
                    have hw9 := hw9.symm
                    subst hw9
                    have h16 := hf_35.trans h16
                    refine z_bf (b := (isA ((updA A 4 f1_26) 0) C k ac dd dy sh 0)) (tgt := 109) hE dX9_whose_99 (by decide) (fun c_36 => ?_) (fun c_36 => ?_)
                    · refine lv_iconst (v := nI 0) hE.x hE.b dX9_whose_109 rfl ?_
                      refine lv_ior hE.x hE.b dX9_whose_110 ?_
                      refine z_top (y := (nI (b ||| 0))) (or_nI _ _) ?_
                      refine lv_istore (lv' := [(7, .int (nI (b ||| 0))), (8, .int (nI k)), (0, .ref o), (1, .int (nI tn)), (2, .int (nI wn)), (3, .int ac), (4, .int dd), (5, .int dy), (6, .int sh)]) hE.x hE.b dX9_whose_111 hl (by decide) rfl (fun ls hl => ?_)
                      refine lv_iinc (v := (nI (k + 1))) (lv' := [(8, .int (nI (k + 1))), (7, .int (nI (b ||| 0))), (0, .ref o), (1, .int (nI tn)), (2, .int (nI wn)), (3, .int ac), (4, .int dd), (5, .int dy), (6, .int sh)]) hE.x hE.b dX9_whose_113 hl (k := 1) rfl (nI_add _ _) (by decide) rfl (fun ls hl => ?_)
                      refine lv_goto (tgt := 63) hE.x hE.b dX9_whose_116 (by decide) ?_
                      exact ih63 (b ||| 0) (k + 1) F1_34 _ _ _ (by omega) (by omega) h16 (rdB_yf hb (by unfold whP; rw [show isA (A 0) C k ac dd dy sh 0 = false from c_36]; exact Bool.and_false _)) hB hl
                    · refine lv_iconst (v := nI 1) hE.x hE.b dX9_whose_102 rfl ?_
                      refine lv_iload hE.x hE.b dX9_whose_103 (lv_at hl 0 rfl) ?_
                      refine lv_ishl hE.x hE.b dX9_whose_105 ?_
                      refine z_top (y := (nI (2 ^ k))) (shl_8 k (by omega)) ?_
                      refine lv_goto (tgt := 110) hE.x hE.b dX9_whose_106 (by decide) ?_
                      refine lv_ior hE.x hE.b dX9_whose_110 ?_
                      refine z_top (y := (nI (b ||| (2 ^ k)))) (or_nI _ _) ?_
                      refine lv_istore (lv' := [(7, .int (nI (b ||| (2 ^ k)))), (8, .int (nI k)), (0, .ref o), (1, .int (nI tn)), (2, .int (nI wn)), (3, .int ac), (4, .int dd), (5, .int dy), (6, .int sh)]) hE.x hE.b dX9_whose_111 hl (by decide) rfl (fun ls hl => ?_)
                      refine lv_iinc (v := (nI (k + 1))) (lv' := [(8, .int (nI (k + 1))), (7, .int (nI (b ||| (2 ^ k)))), (0, .ref o), (1, .int (nI tn)), (2, .int (nI wn)), (3, .int ac), (4, .int dd), (5, .int dy), (6, .int sh)]) hE.x hE.b dX9_whose_113 hl (k := 1) rfl (nI_add _ _) (by decide) rfl (fun ls hl => ?_)
                      refine lv_goto (tgt := 63) hE.x hE.b dX9_whose_116 (by decide) ?_
                      exact ih63 (b ||| (2 ^ k)) (k + 1) F1_34 _ _ _ (by omega) (by omega) h16 (rdB_y hb (by unfold whP; rw [show isA (A 0) C k ac dd dy sh 0 = true from c_36, decide_eq_true (by omega)]; rfl)) hB hl
            exact k63 (T - 0 + 1) 0 0 F _ _ _ (Nat.lt_succ_self _) (by omega) h16 rfl hB hl
          · refine lv_aload_n hE.x hE.b dX9_whose_45 rfl (lv_at hl 0 rfl) ?_
            refine lv_bipush (v := (-2)) hE.x hE.b dX9_whose_46 rfl ?_
            refine z_qi hB (z_cV hE hB (c_X9_bad l g o a F L A X (-2)) q4_91 kX9_bad ⟨rfl, rfl⟩ ⟨Nat.le_of_ble_eq_true rfl, Nat.le_of_ble_eq_true rfl⟩ 0 rfl rfl rfl hl.1 rfl (Nat.le_of_ble_eq_true rfl) dX9_whose_48 ⟨Nat.le_of_ble_eq_true rfl, Nat.le_of_ble_eq_true rfl⟩) (fun r_37 w_38 H locs hw hB => ?_)
            obtain ⟨hr9, hw9⟩ := hw
            have hr9 := hr9.symm
            subst hr9
            have hw9 := hw9.symm
            subst hw9
            exact z_iret (v := (-2)) (ws := mW g o a F L (bump 0 A) ++ X) hE hB hr (⟨F, A 4, by unfold whoseR whoseOK; simp only [c_3, c_8, c_13, c_18, c_23, Bool.and_false, Bool.false_and, Bool.false_eq_true, if_false, Bool.and_true, Bool.true_and], by unfold chk whoseOK; simp only [c_3, c_8, c_13, c_18, c_23, Bool.and_false, Bool.false_and, Bool.false_eq_true, if_false, Bool.and_true, Bool.true_and]; rfl, rfl⟩) dX9_whose_51

set_option maxHeartbeats 4000000 in
set_option maxRecDepth 100000 in
theorem c_X9_fraction (l : Launch) (g : zG) (o : Nat) (a : Nat → Nat) (F : Nat → Int32) (L : Nat → Int64) (A : Nat → Nat → Int32) (X : va_W) (u : Nat) (v : Nat) (hu : u ≤ 60) (hv : v ≤ 60) (hv0 : 0 < v) : Met l yX9_fraction (Cond.code yX9_fraction cX9_fraction 6 none :: TBL) { frames := 0, cells := 0, slots := 0, locals := 0 } (zPc [.ref o, .int (nI u), .int (nI v)] g (mW g o a F L A ++ X)) (zQv g (fun ws => ws = mW g o a F (vp_updL (vp_updL L 4 (lN (u / Nat.gcd u v))) 5 (lN (v / Nat.gcd u v))) A ++ X)) 0 0 (zA (gz g)) := by
  refine z_start (by decide +kernel) rfl (Nat.le_of_ble_eq_true rfl) ?_
  intro p e s m args below meth c ls hE hr hnm hB hl
  have hl : lv_has ls 6 [(0, .ref o), (1, .int (nI u)), (2, .int (nI v))] := hl
  revert hB
  generalize s.heap = H
  generalize ([] : List Loc) = locs
  intro hB
  refine lv_iload_n hE.x hE.b dX9_fraction_0 rfl (lv_at hl 1 rfl) ?_
  refine lv_istore_n (lv' := [(3, .int (nI u)), (0, .ref o), (1, .int (nI u)), (2, .int (nI v))]) hE.x hE.b dX9_fraction_1 rfl hl (by decide) rfl (fun ls hl => ?_)
  refine lv_iload_n hE.x hE.b dX9_fraction_2 rfl (lv_at hl 3 rfl) ?_
  refine lv_istore (lv' := [(4, .int (nI v)), (3, .int (nI u)), (0, .ref o), (1, .int (nI u)), (2, .int (nI v))]) hE.x hE.b dX9_fraction_3 hl (by decide) rfl (fun ls hl => ?_)
  have k5 : ∀ (fu : Nat) (x : Nat) (y : Nat) (H : Heap) (locs : List Loc) (ls : Array Slot), y < fu → (x ≤ 60) → (y ≤ 60) → (Nat.gcd x y = Nat.gcd u v) → zB g s (mW g o a F L A ++ X) H locs → lv_has ls 6 [(4, .int (nI y)), (3, .int (nI x)), (0, .ref o), (1, .int (nI u)), (2, .int (nI v))] → W p l e { frames := 0, cells := 0, slots := 0, locals := 0 } s m args below meth c H locs 0 0 (MQ below (zQv g (fun ws => ws = mW g o a F (vp_updL (vp_updL L 4 (lN (u / Nat.gcd u v))) 5 (lN (v / Nat.gcd u v))) A ++ X)) args s 0 0 (zA (gz g))) (F0 m 5 ls []) := by
    intro fu
    induction fu with
    | zero => intro x y H locs ls hfu hx hy hg hB hl; exact absurd hfu (Nat.not_lt_zero _)
    | succ fu ih5 =>
      intro x y H locs ls hfu hx hy hg hB hl
      refine lv_iload hE.x hE.b dX9_fraction_5 (lv_at hl 0 rfl) ?_
      refine z_eq0 (tgt := 26) (X := ((y : Nat) : Int)) hE dX9_fraction_7 (by decide) (nI_toInt (n := y) (by omega)) (fun c_1 => ?_) (fun c_1 => ?_)
      · have hy0 : y = 0 := by omega
        have hxg : x = Nat.gcd u v := by rw [← hg, hy0, Nat.gcd_zero_right]
        have hg0 : 0 < Nat.gcd u v := Nat.gcd_pos_of_pos_right u hv0
        have hdu := Nat.div_le_self u x
        have hdv := Nat.div_le_self v x
        refine lv_aload_n hE.x hE.b dX9_fraction_26 rfl (lv_at hl 2 rfl) ?_
        refine lv_iload_n hE.x hE.b dX9_fraction_27 rfl (lv_at hl 3 rfl) ?_
        refine lv_iload_n hE.x hE.b dX9_fraction_28 rfl (lv_at hl 1 rfl) ?_
        refine lv_idiv hE.x hE.b dX9_fraction_29 (nI_ne0 (by omega) (by omega)) ?_
        refine z_top (y := (nI (u / x))) (pk_div (by omega) (by omega) (by omega)) ?_
        refine lv_i2l (v := lN (u / x)) hE.x hE.b dX9_fraction_30 (nI_l (by omega)) ?_
        refine z_put (v := .long (lN (u / x))) (ty := .long) (ws' := mW g o a F (vp_updL L 4 (lN (u / x))) A ++ X) hE hB inX9 tyX9 tyX9_ok nmX9 0 rfl rfl 4 (by decide) q4_5 (fun _ h9 => h9) rfl (by decide +kernel) rfl rfl (Nat.le_of_ble_eq_true rfl) rfl dX9_fraction_31 (fun H locs hB => ?_)
        refine lv_aload_n hE.x hE.b dX9_fraction_34 rfl (lv_at hl 2 rfl) ?_
        refine lv_iload_n hE.x hE.b dX9_fraction_35 rfl (lv_at hl 4 rfl) ?_
        refine lv_iload_n hE.x hE.b dX9_fraction_36 rfl (lv_at hl 1 rfl) ?_
        refine lv_idiv hE.x hE.b dX9_fraction_37 (nI_ne0 (by omega) (by omega)) ?_
        refine z_top (y := (nI (v / x))) (pk_div (by omega) (by omega) (by omega)) ?_
        refine lv_i2l (v := lN (v / x)) hE.x hE.b dX9_fraction_38 (nI_l (by omega)) ?_
        refine z_put (v := .long (lN (v / x))) (ty := .long) (ws' := mW g o a F (vp_updL (vp_updL L 4 (lN (u / x))) 5 (lN (v / x))) A ++ X) hE hB inX9 tyX9 tyX9_ok nmX9 0 rfl rfl 5 (by decide) q4_6 (fun _ h9 => h9) rfl (by decide +kernel) rfl rfl (Nat.le_of_ble_eq_true rfl) rfl dX9_fraction_39 (fun H locs hB => ?_)
        exact z_vret (ws := mW g o a F (vp_updL (vp_updL L 4 (lN (u / x))) 5 (lN (v / x))) A ++ X) hE hB hr (by rw [hxg]) dX9_fraction_42
      · have hyl : x % y < y := Nat.mod_lt _ (by omega)
        refine lv_iload_n hE.x hE.b dX9_fraction_10 rfl (lv_at hl 1 rfl) ?_
        refine lv_iload hE.x hE.b dX9_fraction_11 (lv_at hl 0 rfl) ?_
        refine lv_irem hE.x hE.b dX9_fraction_13 (nI_ne0 (by omega) (by omega)) ?_
        refine z_top (y := (nI (x % y))) (pk_rem (by omega) (by omega) (by omega)) ?_
        refine lv_istore (lv' := [(5, .int (nI (x % y))), (4, .int (nI y)), (3, .int (nI x)), (0, .ref o), (1, .int (nI u)), (2, .int (nI v))]) hE.x hE.b dX9_fraction_14 hl (by decide) rfl (fun ls hl => ?_)
        refine lv_iload hE.x hE.b dX9_fraction_16 (lv_at hl 1 rfl) ?_
        refine lv_istore_n (lv' := [(3, .int (nI y)), (5, .int (nI (x % y))), (4, .int (nI y)), (0, .ref o), (1, .int (nI u)), (2, .int (nI v))]) hE.x hE.b dX9_fraction_18 rfl hl (by decide) rfl (fun ls hl => ?_)
        refine lv_iload hE.x hE.b dX9_fraction_19 (lv_at hl 1 rfl) ?_
        refine lv_istore (lv' := [(4, .int (nI (x % y))), (3, .int (nI y)), (5, .int (nI (x % y))), (0, .ref o), (1, .int (nI u)), (2, .int (nI v))]) hE.x hE.b dX9_fraction_21 hl (by decide) rfl (fun ls hl => ?_)
        refine lv_goto (tgt := 5) hE.x hE.b dX9_fraction_23 (by decide) ?_
        exact ih5 y (x % y) _ _ _ (by omega) (by omega) (by omega) (gcd_st hg) hB (lv_sub hl [0, 1, 3, 4, 5] rfl)
  exact k5 (v + 1) u v _ _ _ (Nat.lt_succ_self _) (by omega) (by omega) rfl hB hl

set_option maxHeartbeats 4000000 in
set_option maxRecDepth 100000 in
theorem c_X9_odds (l : Launch) (g : zG) (o : Nat) (a : Nat → Nat) (F : Nat → Int32) (L : Nat → Int64) (A : Nat → Nat → Int32) (X : va_W) (T : Nat) (C : Nat) (V : Nat) (U : Nat) (tw : Int32) (ac : Int32) (da : Int32) (db : Int32) (dy : Int32) (sh : Int32) (hn : nOK (A 0) T C V U) : Met l yX9_odds (Cond.code yX9_odds cX9_odds 9 (some .int) :: TBL) { frames := 6, cells := 0, slots := 0, locals := 154 } (zPc [.ref o, .int tw, .int ac, .int da, .int db, .int dy, .int sh] g (mW g o a F L A ++ X)) (zQi g (fun r ws => ∃ (F1 : Nat → Int32), r = (if oddsOK T tw ac da db dy sh = true then nI 1 else (-2)) ∧ ws = mW g o a F1 (oddsL (A 0) L T C tw ac da db dy sh) (chk (oddsOK T tw ac da db dy sh) A) ++ X ∧ F1 16 = F 16)) 0 0 (zA (gz g)) := by
  refine z_start (by decide +kernel) rfl (Nat.le_of_ble_eq_true rfl) ?_
  intro p e s m args below meth c ls hE hr hnm hB hl
  have hl : lv_has ls 9 [(0, .ref o), (1, .int tw), (2, .int ac), (3, .int da), (4, .int db), (5, .int dy), (6, .int sh)] := hl
  revert hB
  generalize s.heap = H
  generalize ([] : List Loc) = locs
  intro hB
  have hT := hn.T
  have hT6 := hn.T6
  have hC := hn.C
  have hC8 := hn.C8
  have hV := hn.V
  have hV8 := hn.V8
  have hU := hn.U
  have hU8 := hn.U8
  have h16 : F 16 = F 16 := rfl
  refine lv_aload_n hE.x hE.b dX9_odds_0 rfl (lv_at hl 0 rfl) ?_
  refine lv_iload_n hE.x hE.b dX9_odds_1 rfl (lv_at hl 1 rfl) ?_
  refine z_qi hB (z_cV hE hB (c_X9_isTown l g o a F L A X T tw hT (by omega)) q4_106 kX9_isTown ⟨rfl, rfl⟩ ⟨Nat.le_of_ble_eq_true rfl, Nat.le_of_ble_eq_true rfl⟩ 0 rfl rfl rfl hl.1 rfl (Nat.le_of_ble_eq_true rfl) dX9_odds_2 ⟨Nat.le_of_ble_eq_true rfl, Nat.le_of_ble_eq_true rfl⟩) (fun r_1 w_2 H locs hw hB => ?_)
  obtain ⟨hr9, hw9⟩ := hw
  have hr9 := hr9.symm
  subst hr9
  have hw9 := hw9.symm
  subst hw9
  refine z_bf (b := (pTown T tw)) (tgt := 46) hE dX9_odds_5 (by decide) (fun c_3 => ?_) (fun c_3 => ?_)
  · refine lv_aload_n hE.x hE.b dX9_odds_46 rfl (lv_at hl 0 rfl) ?_
    refine lv_bipush (v := (-2)) hE.x hE.b dX9_odds_47 rfl ?_
    refine z_qi hB (z_cV hE hB (c_X9_bad l g o a F L A X (-2)) q4_91 kX9_bad ⟨rfl, rfl⟩ ⟨Nat.le_of_ble_eq_true rfl, Nat.le_of_ble_eq_true rfl⟩ 0 rfl rfl rfl hl.1 rfl (Nat.le_of_ble_eq_true rfl) dX9_odds_49 ⟨Nat.le_of_ble_eq_true rfl, Nat.le_of_ble_eq_true rfl⟩) (fun r_4 w_5 H locs hw hB => ?_)
    obtain ⟨hr9, hw9⟩ := hw
    have hr9 := hr9.symm
    subst hr9
    have hw9 := hw9.symm
    subst hw9
    exact z_iret (v := (-2)) (ws := mW g o a F L (bump 0 A) ++ X) hE hB hr (⟨F, by unfold oddsOK; simp only [c_3, Bool.and_false, Bool.false_and, Bool.false_eq_true, if_false, Bool.and_true, Bool.true_and], by unfold oddsL chk oddsOK; simp only [c_3, Bool.and_false, Bool.false_and, Bool.false_eq_true, if_false, Bool.and_true, Bool.true_and], rfl⟩) dX9_odds_52
  · refine lv_iload_n hE.x hE.b dX9_odds_8 rfl (lv_at hl 2 rfl) ?_
    refine z_qi hB (z_cS hE hB (c_X9_isAct l g ac (mW g o a F L A ++ X)) q4_119 kX9_isAct ⟨rfl, rfl⟩ ⟨Nat.le_of_ble_eq_true rfl, Nat.le_of_ble_eq_true rfl⟩ rfl hl.1 rfl (Nat.le_of_ble_eq_true rfl) dX9_odds_9 ⟨Nat.le_of_ble_eq_true rfl, Nat.le_of_ble_eq_true rfl⟩) (fun r_6 w_7 H locs hw hB => ?_)
    obtain ⟨hr9, hw9⟩ := hw
    have hr9 := hr9.symm
    subst hr9
    have hw9 := hw9.symm
    subst hw9
    refine z_bf (b := (pIn 0 5 ac)) (tgt := 46) hE dX9_odds_12 (by decide) (fun c_8 => ?_) (fun c_8 => ?_)
    · refine lv_aload_n hE.x hE.b dX9_odds_46 rfl (lv_at hl 0 rfl) ?_
      refine lv_bipush (v := (-2)) hE.x hE.b dX9_odds_47 rfl ?_
      refine z_qi hB (z_cV hE hB (c_X9_bad l g o a F L A X (-2)) q4_91 kX9_bad ⟨rfl, rfl⟩ ⟨Nat.le_of_ble_eq_true rfl, Nat.le_of_ble_eq_true rfl⟩ 0 rfl rfl rfl hl.1 rfl (Nat.le_of_ble_eq_true rfl) dX9_odds_49 ⟨Nat.le_of_ble_eq_true rfl, Nat.le_of_ble_eq_true rfl⟩) (fun r_9 w_10 H locs hw hB => ?_)
      obtain ⟨hr9, hw9⟩ := hw
      have hr9 := hr9.symm
      subst hr9
      have hw9 := hw9.symm
      subst hw9
      exact z_iret (v := (-2)) (ws := mW g o a F L (bump 0 A) ++ X) hE hB hr (⟨F, by unfold oddsOK; simp only [c_3, c_8, Bool.and_false, Bool.false_and, Bool.false_eq_true, if_false, Bool.and_true, Bool.true_and], by unfold oddsL chk oddsOK; simp only [c_3, c_8, Bool.and_false, Bool.false_and, Bool.false_eq_true, if_false, Bool.and_true, Bool.true_and], rfl⟩) dX9_odds_52
    · refine lv_iload_n hE.x hE.b dX9_odds_15 rfl (lv_at hl 3 rfl) ?_
      refine z_qi hB (z_cS hE hB (c_X9_isDay l g da (mW g o a F L A ++ X)) q4_170 kX9_isDay ⟨rfl, rfl⟩ ⟨Nat.le_of_ble_eq_true rfl, Nat.le_of_ble_eq_true rfl⟩ rfl hl.1 rfl (Nat.le_of_ble_eq_true rfl) dX9_odds_16 ⟨Nat.le_of_ble_eq_true rfl, Nat.le_of_ble_eq_true rfl⟩) (fun r_11 w_12 H locs hw hB => ?_)
      obtain ⟨hr9, hw9⟩ := hw
      have hr9 := hr9.symm
      subst hr9
      have hw9 := hw9.symm
      subst hw9
      refine z_bf (b := (pIn 0 59 da)) (tgt := 46) hE dX9_odds_19 (by decide) (fun c_13 => ?_) (fun c_13 => ?_)
      · refine lv_aload_n hE.x hE.b dX9_odds_46 rfl (lv_at hl 0 rfl) ?_
        refine lv_bipush (v := (-2)) hE.x hE.b dX9_odds_47 rfl ?_
        refine z_qi hB (z_cV hE hB (c_X9_bad l g o a F L A X (-2)) q4_91 kX9_bad ⟨rfl, rfl⟩ ⟨Nat.le_of_ble_eq_true rfl, Nat.le_of_ble_eq_true rfl⟩ 0 rfl rfl rfl hl.1 rfl (Nat.le_of_ble_eq_true rfl) dX9_odds_49 ⟨Nat.le_of_ble_eq_true rfl, Nat.le_of_ble_eq_true rfl⟩) (fun r_14 w_15 H locs hw hB => ?_)
        obtain ⟨hr9, hw9⟩ := hw
        have hr9 := hr9.symm
        subst hr9
        have hw9 := hw9.symm
        subst hw9
        exact z_iret (v := (-2)) (ws := mW g o a F L (bump 0 A) ++ X) hE hB hr (⟨F, by unfold oddsOK; simp only [c_3, c_8, c_13, Bool.and_false, Bool.false_and, Bool.false_eq_true, if_false, Bool.and_true, Bool.true_and], by unfold oddsL chk oddsOK; simp only [c_3, c_8, c_13, Bool.and_false, Bool.false_and, Bool.false_eq_true, if_false, Bool.and_true, Bool.true_and], rfl⟩) dX9_odds_52
      · refine lv_iload hE.x hE.b dX9_odds_22 (lv_at hl 4 rfl) ?_
        refine z_qi hB (z_cS hE hB (c_X9_isDay l g db (mW g o a F L A ++ X)) q4_170 kX9_isDay ⟨rfl, rfl⟩ ⟨Nat.le_of_ble_eq_true rfl, Nat.le_of_ble_eq_true rfl⟩ rfl hl.1 rfl (Nat.le_of_ble_eq_true rfl) dX9_odds_24 ⟨Nat.le_of_ble_eq_true rfl, Nat.le_of_ble_eq_true rfl⟩) (fun r_16 w_17 H locs hw hB => ?_)
        obtain ⟨hr9, hw9⟩ := hw
        have hr9 := hr9.symm
        subst hr9
        have hw9 := hw9.symm
        subst hw9
        refine z_bf (b := (pIn 0 59 db)) (tgt := 46) hE dX9_odds_27 (by decide) (fun c_18 => ?_) (fun c_18 => ?_)
        · refine lv_aload_n hE.x hE.b dX9_odds_46 rfl (lv_at hl 0 rfl) ?_
          refine lv_bipush (v := (-2)) hE.x hE.b dX9_odds_47 rfl ?_
          refine z_qi hB (z_cV hE hB (c_X9_bad l g o a F L A X (-2)) q4_91 kX9_bad ⟨rfl, rfl⟩ ⟨Nat.le_of_ble_eq_true rfl, Nat.le_of_ble_eq_true rfl⟩ 0 rfl rfl rfl hl.1 rfl (Nat.le_of_ble_eq_true rfl) dX9_odds_49 ⟨Nat.le_of_ble_eq_true rfl, Nat.le_of_ble_eq_true rfl⟩) (fun r_19 w_20 H locs hw hB => ?_)
          obtain ⟨hr9, hw9⟩ := hw
          have hr9 := hr9.symm
          subst hr9
          have hw9 := hw9.symm
          subst hw9
          exact z_iret (v := (-2)) (ws := mW g o a F L (bump 0 A) ++ X) hE hB hr (⟨F, by unfold oddsOK; simp only [c_3, c_8, c_13, c_18, Bool.and_false, Bool.false_and, Bool.false_eq_true, if_false, Bool.and_true, Bool.true_and], by unfold oddsL chk oddsOK; simp only [c_3, c_8, c_13, c_18, Bool.and_false, Bool.false_and, Bool.false_eq_true, if_false, Bool.and_true, Bool.true_and], rfl⟩) dX9_odds_52
        · refine lv_iload_n hE.x hE.b dX9_odds_30 rfl (lv_at hl 3 rfl) ?_
          refine lv_iload hE.x hE.b dX9_odds_31 (lv_at hl 4 rfl) ?_
          refine z_gt (tgt := 46) (X := da.toInt) (Y := db.toInt) hE dX9_odds_33 (by decide) rfl rfl (fun c_21 => ?_) (fun c_21 => ?_)
          · refine lv_aload_n hE.x hE.b dX9_odds_46 rfl (lv_at hl 0 rfl) ?_
            refine lv_bipush (v := (-2)) hE.x hE.b dX9_odds_47 rfl ?_
            refine z_qi hB (z_cV hE hB (c_X9_bad l g o a F L A X (-2)) q4_91 kX9_bad ⟨rfl, rfl⟩ ⟨Nat.le_of_ble_eq_true rfl, Nat.le_of_ble_eq_true rfl⟩ 0 rfl rfl rfl hl.1 rfl (Nat.le_of_ble_eq_true rfl) dX9_odds_49 ⟨Nat.le_of_ble_eq_true rfl, Nat.le_of_ble_eq_true rfl⟩) (fun r_22 w_23 H locs hw hB => ?_)
            obtain ⟨hr9, hw9⟩ := hw
            have hr9 := hr9.symm
            subst hr9
            have hw9 := hw9.symm
            subst hw9
            exact z_iret (v := (-2)) (ws := mW g o a F L (bump 0 A) ++ X) hE hB hr (⟨F, by unfold oddsOK; simp only [c_3, c_8, c_13, c_18, decide_eq_false (show ¬ da.toInt ≤ db.toInt by omega), Bool.and_false, Bool.false_and, Bool.false_eq_true, if_false, Bool.and_true, Bool.true_and], by unfold oddsL chk oddsOK; simp only [c_3, c_8, c_13, c_18, decide_eq_false (show ¬ da.toInt ≤ db.toInt by omega), Bool.and_false, Bool.false_and, Bool.false_eq_true, if_false, Bool.and_true, Bool.true_and], rfl⟩) dX9_odds_52
          · refine lv_iload hE.x hE.b dX9_odds_36 (lv_at hl 5 rfl) ?_
            refine lv_iload hE.x hE.b dX9_odds_38 (lv_at hl 6 rfl) ?_
            refine z_qi hB (z_cS hE hB (c_X9_isAsker l g dy sh (mW g o a F L A ++ X)) q4_174 kX9_isAsker ⟨rfl, rfl⟩ ⟨Nat.le_of_ble_eq_true rfl, Nat.le_of_ble_eq_true rfl⟩ rfl hl.1 rfl (Nat.le_of_ble_eq_true rfl) dX9_odds_40 ⟨Nat.le_of_ble_eq_true rfl, Nat.le_of_ble_eq_true rfl⟩) (fun r_24 w_25 H locs hw hB => ?_)
            obtain ⟨hr9, hw9⟩ := hw
            have hr9 := hr9.symm
            subst hr9
            have hw9 := hw9.symm
            subst hw9
            refine z_bt (b := (pIn 0 1 dy && pIn 0 1 sh)) (tgt := 53) hE dX9_odds_43 (by decide) (fun c_26 => ?_) (fun c_26 => ?_)
            · obtain ⟨tn, htn, rfl⟩ := pTown_nI c_3 (by omega)
              obtain ⟨an, han, rfl⟩ := pIn_nI (hi := 59) c_13 (by omega)
              obtain ⟨bn, hbn, rfl⟩ := pIn_nI (hi := 59) c_18 (by omega)
              refine lv_iconst (v := nI 0) hE.x hE.b dX9_odds_53 rfl ?_
              have hab : an ≤ bn := by have h7 := c_21; rw [nI_toInt (show an < 2 ^ 31 by omega), nI_toInt (show bn < 2 ^ 31 by omega)] at h7; omega
              refine lv_istore (lv' := [(7, .int (nI 0)), (0, .ref o), (1, .int (nI tn)), (2, .int ac), (3, .int (nI an)), (4, .int (nI bn)), (5, .int dy), (6, .int sh)]) hE.x hE.b dX9_odds_54 hl (by decide) rfl (fun ls hl => ?_)
              refine lv_iload_n hE.x hE.b dX9_odds_56 rfl (lv_at hl 4 rfl) ?_
              refine lv_istore (lv' := [(8, .int (nI an)), (7, .int (nI 0)), (0, .ref o), (1, .int (nI tn)), (2, .int ac), (3, .int (nI an)), (4, .int (nI bn)), (5, .int dy), (6, .int sh)]) hE.x hE.b dX9_odds_57 hl (by decide) rfl (fun ls hl => ?_)
              have k59 : ∀ (fu : Nat) (v : Nat) (k : Nat) (F1 : Nat → Int32) (H : Heap) (locs : List Loc) (ls : Array Slot), bn + 1 - (an + k) < fu → (an + k ≤ bn + 1) → (F1 16 = F 16) → (v = cn (odP (A 0) C tn ac an dy sh) k) → zB g s (mW g o a F1 L A ++ X) H locs → lv_has ls 9 [(8, .int (nI (an + k))), (7, .int (nI v)), (0, .ref o), (1, .int (nI tn)), (2, .int ac), (3, .int (nI an)), (4, .int (nI bn)), (5, .int dy), (6, .int sh)] → W p l e { frames := 6, cells := 0, slots := 0, locals := 154 } s m args below meth c H locs 0 0 (MQ below (zQi g (fun r ws => ∃ (F1 : Nat → Int32), r = (if oddsOK T (nI tn) ac (nI an) (nI bn) dy sh = true then nI 1 else (-2)) ∧ ws = mW g o a F1 (oddsL (A 0) L T C (nI tn) ac (nI an) (nI bn) dy sh) (chk (oddsOK T (nI tn) ac (nI an) (nI bn) dy sh) A) ++ X ∧ F1 16 = F 16)) args s 0 0 (zA (gz g))) (F0 m 59 ls []) := by
                intro fu
                induction fu with
                | zero => intro v k F1 H locs ls hfu hk h16 hv hB hl; exact absurd hfu (Nat.not_lt_zero _)
                | succ fu ih59 =>
                  intro v k F1 H locs ls hfu hk h16 hv hB hl
                  refine lv_iload hE.x hE.b dX9_odds_59 (lv_at hl 0 rfl) ?_
                  refine lv_iload hE.x hE.b dX9_odds_61 (lv_at hl 6 rfl) ?_
                  refine z_gt (tgt := 98) (X := (((an + k) : Nat) : Int)) (Y := ((bn : Nat) : Int)) hE dX9_odds_63 (by decide) (nI_toInt (n := (an + k)) (by omega)) (nI_toInt (n := bn) (by omega)) (fun c_27 => ?_) (fun c_27 => ?_)
                  · have hvk := cn_le (odP (A 0) C tn ac an dy sh) k
                    refine lv_aload_n hE.x hE.b dX9_odds_98 rfl (lv_at hl 2 rfl) ?_
                    refine lv_iload hE.x hE.b dX9_odds_99 (lv_at hl 1 rfl) ?_
                    refine lv_iload hE.x hE.b dX9_odds_101 (lv_at hl 6 rfl) ?_
                    refine lv_iload_n hE.x hE.b dX9_odds_103 rfl (lv_at hl 5 rfl) ?_
                    refine z_isubN hE (by omega) dX9_odds_104 ?_
                    refine lv_iconst (v := nI 1) hE.x hE.b dX9_odds_105 rfl ?_
                    refine z_iaddN hE dX9_odds_106 ?_
                    refine z_qv hB (z_cV hE hB (c_X9_fraction l g o a F1 L A X v ((bn - an) + 1) (by omega) (by omega) (by omega)) q5_39 kX9_fraction ⟨rfl, rfl⟩ ⟨Nat.le_of_ble_eq_true rfl, Nat.le_of_ble_eq_true rfl⟩ 0 rfl rfl rfl hl.1 rfl (Nat.le_of_ble_eq_true rfl) dX9_odds_107 ⟨Nat.le_of_ble_eq_true rfl, Nat.le_of_ble_eq_true rfl⟩) (fun w_29 H locs hw hB => ?_)
                    have hw9 := hw
                    have hw9 := hw9.symm
                    subst hw9
                    refine lv_iconst (v := nI 1) hE.x hE.b dX9_odds_110 rfl ?_
                    exact z_iret (v := (nI 1)) (ws := mW g o a F1 (vp_updL (vp_updL L 4 (lN (v / Nat.gcd v ((bn - an) + 1)))) 5 (lN (((bn - an) + 1) / Nat.gcd v ((bn - an) + 1)))) A ++ X) hE hB hr (⟨F1, by unfold oddsOK; simp only [c_3, c_8, c_13, c_18, c_26, decide_eq_true (show (nI an).toInt ≤ (nI bn).toInt by rw [nI_toInt (show an < 2 ^ 31 by omega), nI_toInt (show bn < 2 ^ 31 by omega)]; omega), Bool.and_true, Bool.true_and, if_true], by unfold oddsL oddsN oddsM odV chk oddsOK; simp only [c_3, c_8, c_13, c_18, c_26, decide_eq_true (show (nI an).toInt ≤ (nI bn).toInt by rw [nI_toInt (show an < 2 ^ 31 by omega), nI_toInt (show bn < 2 ^ 31 by omega)]; omega), Bool.and_true, Bool.true_and, if_true, rcl (show tn < 2 ^ 31 by omega), rcl (show an < 2 ^ 31 by omega), rcl (show bn < 2 ^ 31 by omega)]; rw [hv, show k = bn + 1 - an by omega, show bn - an + 1 = bn + 1 - an by omega], h16⟩) dX9_odds_111
                  · have hvk := cn_le (odP (A 0) C tn ac an dy sh) k
                    refine lv_iload hE.x hE.b dX9_odds_66 (lv_at hl 1 rfl) ?_
                    refine lv_aload_n hE.x hE.b dX9_odds_68 rfl (lv_at hl 2 rfl) ?_
                    refine lv_iload_n hE.x hE.b dX9_odds_69 rfl (lv_at hl 3 rfl) ?_
                    refine lv_iload_n hE.x hE.b dX9_odds_70 rfl (lv_at hl 4 rfl) ?_
                    refine lv_iload hE.x hE.b dX9_odds_71 (lv_at hl 0 rfl) ?_
                    refine lv_iload hE.x hE.b dX9_odds_73 (lv_at hl 7 rfl) ?_
                    refine lv_iload hE.x hE.b dX9_odds_75 (lv_at hl 8 rfl) ?_
                    refine lv_iconst (v := nI 0) hE.x hE.b dX9_odds_77 rfl ?_
                    refine z_qi hB (z_cV hE hB (c_X9_isAllowed l g o a F1 L A X C tn ac (nI (an + k)) dy sh 0 hC (by omega) (by omega) (by omega)) q4_207 kX9_isAllowed ⟨rfl, rfl⟩ ⟨Nat.le_of_ble_eq_true rfl, Nat.le_of_ble_eq_true rfl⟩ 0 rfl rfl rfl hl.1 rfl (Nat.le_of_ble_eq_true rfl) dX9_odds_78 ⟨Nat.le_of_ble_eq_true rfl, Nat.le_of_ble_eq_true rfl⟩) (fun r_30 w_31 H locs hw hB => ?_)
                    obtain ⟨F1_32, hr9, hw9, hf_33⟩ := hw
                    have hr9 := hr9.symm
                    subst hr9
                    have hw9 := hw9.symm
                    subst hw9
                    have h16 := hf_33.trans h16
                    refine z_bf (b := (isA (A 0) C tn ac (nI (an + k)) dy sh 0)) (tgt := 88) hE dX9_odds_81 (by decide) (fun c_34 => ?_) (fun c_34 => ?_)
                    · refine lv_iconst (v := nI 1) hE.x hE.b dX9_odds_88 rfl ?_
                      refine z_iaddN hE dX9_odds_89 ?_
                      refine lv_istore (lv' := [(7, .int (nI (v + 1))), (8, .int (nI (an + k))), (0, .ref o), (1, .int (nI tn)), (2, .int ac), (3, .int (nI an)), (4, .int (nI bn)), (5, .int dy), (6, .int sh)]) hE.x hE.b dX9_odds_90 hl (by decide) rfl (fun ls hl => ?_)
                      refine lv_iinc (v := (nI ((an + k) + 1))) (lv' := [(8, .int (nI ((an + k) + 1))), (7, .int (nI (v + 1))), (0, .ref o), (1, .int (nI tn)), (2, .int ac), (3, .int (nI an)), (4, .int (nI bn)), (5, .int dy), (6, .int sh)]) hE.x hE.b dX9_odds_92 hl (k := 1) rfl (nI_add _ _) (by decide) rfl (fun ls hl => ?_)
                      refine lv_goto (tgt := 59) hE.x hE.b dX9_odds_95 (by decide) ?_
                      exact ih59 (v + 1) (k + 1) F1_32 _ _ _ (by omega) (by omega) h16 (by rw [cn_t (P := (odP (A 0) C tn ac an dy sh)) (by unfold odP; rw [c_34]; rfl), hv]) hB hl
                    · refine lv_iconst (v := nI 0) hE.x hE.b dX9_odds_84 rfl ?_
                      refine lv_goto (tgt := 89) hE.x hE.b dX9_odds_85 (by decide) ?_
                      refine z_iaddN hE dX9_odds_89 ?_
                      refine lv_istore (lv' := [(7, .int (nI (v + 0))), (8, .int (nI (an + k))), (0, .ref o), (1, .int (nI tn)), (2, .int ac), (3, .int (nI an)), (4, .int (nI bn)), (5, .int dy), (6, .int sh)]) hE.x hE.b dX9_odds_90 hl (by decide) rfl (fun ls hl => ?_)
                      refine lv_iinc (v := (nI ((an + k) + 1))) (lv' := [(8, .int (nI ((an + k) + 1))), (7, .int (nI (v + 0))), (0, .ref o), (1, .int (nI tn)), (2, .int ac), (3, .int (nI an)), (4, .int (nI bn)), (5, .int dy), (6, .int sh)]) hE.x hE.b dX9_odds_92 hl (k := 1) rfl (nI_add _ _) (by decide) rfl (fun ls hl => ?_)
                      refine lv_goto (tgt := 59) hE.x hE.b dX9_odds_95 (by decide) ?_
                      exact ih59 (v + 0) (k + 1) F1_32 _ _ _ (by omega) (by omega) h16 (by rw [cn_f (P := (odP (A 0) C tn ac an dy sh)) (by unfold odP; rw [c_34]; rfl), hv]; rfl) hB hl
              exact k59 (bn + 1 - (an + 0) + 1) 0 0 F _ _ _ (Nat.lt_succ_self _) (by omega) h16 rfl hB hl
            · refine lv_aload_n hE.x hE.b dX9_odds_46 rfl (lv_at hl 0 rfl) ?_
              refine lv_bipush (v := (-2)) hE.x hE.b dX9_odds_47 rfl ?_
              refine z_qi hB (z_cV hE hB (c_X9_bad l g o a F L A X (-2)) q4_91 kX9_bad ⟨rfl, rfl⟩ ⟨Nat.le_of_ble_eq_true rfl, Nat.le_of_ble_eq_true rfl⟩ 0 rfl rfl rfl hl.1 rfl (Nat.le_of_ble_eq_true rfl) dX9_odds_49 ⟨Nat.le_of_ble_eq_true rfl, Nat.le_of_ble_eq_true rfl⟩) (fun r_35 w_36 H locs hw hB => ?_)
              obtain ⟨hr9, hw9⟩ := hw
              have hr9 := hr9.symm
              subst hr9
              have hw9 := hw9.symm
              subst hw9
              exact z_iret (v := (-2)) (ws := mW g o a F L (bump 0 A) ++ X) hE hB hr (⟨F, by unfold oddsOK; simp only [c_3, c_8, c_13, c_18, c_26, Bool.and_false, Bool.false_and, Bool.false_eq_true, if_false, Bool.and_true, Bool.true_and], by unfold oddsL chk oddsOK; simp only [c_3, c_8, c_13, c_18, c_26, Bool.and_false, Bool.false_and, Bool.false_eq_true, if_false, Bool.and_true, Bool.true_and], rfl⟩) dX9_odds_52
end
