section
-- ===== PART A: goes FIRST, ahead of the names: the tables' words, and 'selects' of the private methods out of them =====
/-- a private method of a class that the tables say can be made, by its rows of tables_1 -/
def lw_okq (q : MethodName × Nat) : Prop := (q.1.cls ≠ "java/lang/invoke/MethodHandle" ∧ q.1.cls ≠ "java/lang/invoke/VarHandle") ∧ Cond.instantiable q.1.cls q.2 ∈ tables_1 ∧ Cond.privateMethod q.1 ∈ tables_1 ∧ Cond.instanceMethod q.1 ∈ tables_1
theorem lw_p0 : lw_okq (⟨"LeftByLast", "cameFrom", "(II)Z"⟩, 8) := ⟨⟨by decide +kernel, by decide +kernel⟩, List.mem_of_getElem? (i := 17) (by decide +kernel), List.mem_of_getElem? (i := 432) (by decide +kernel), List.mem_of_getElem? (i := 433) (by decide +kernel)⟩
theorem lw_p1 : lw_okq (⟨"LeftByLast$Changes", "dropOldest", "()V"⟩, 6) := ⟨⟨by decide +kernel, by decide +kernel⟩, List.mem_of_getElem? (i := 264) (by decide +kernel), List.mem_of_getElem? (i := 475) (by decide +kernel), List.mem_of_getElem? (i := 476) (by decide +kernel)⟩
theorem lw_p2 : lw_okq (⟨"LeftByLast", "ofCustomer", "(II)I"⟩, 8) := ⟨⟨by decide +kernel, by decide +kernel⟩, List.mem_of_getElem? (i := 17) (by decide +kernel), List.mem_of_getElem? (i := 491) (by decide +kernel), List.mem_of_getElem? (i := 492) (by decide +kernel)⟩
theorem lw_p3 : lw_okq (⟨"LeftByLast$Law", "readText", "()Z"⟩, 11) := ⟨⟨by decide +kernel, by decide +kernel⟩, List.mem_of_getElem? (i := 146) (by decide +kernel), List.mem_of_getElem? (i := 522) (by decide +kernel), List.mem_of_getElem? (i := 523) (by decide +kernel)⟩
theorem lw_p4 : lw_okq (⟨"LeftByLast$Law", "readJoined", "(II)Z"⟩, 11) := ⟨⟨by decide +kernel, by decide +kernel⟩, List.mem_of_getElem? (i := 146) (by decide +kernel), List.mem_of_getElem? (i := 526) (by decide +kernel), List.mem_of_getElem? (i := 527) (by decide +kernel)⟩
theorem lw_p5 : lw_okq (⟨"LeftByLast$Law", "readOperand", "(I)Z"⟩, 11) := ⟨⟨by decide +kernel, by decide +kernel⟩, List.mem_of_getElem? (i := 146) (by decide +kernel), List.mem_of_getElem? (i := 530) (by decide +kernel), List.mem_of_getElem? (i := 531) (by decide +kernel)⟩
theorem lw_p6 : lw_okq (⟨"LeftByLast$Law", "sign", "()I"⟩, 11) := ⟨⟨by decide +kernel, by decide +kernel⟩, List.mem_of_getElem? (i := 146) (by decide +kernel), List.mem_of_getElem? (i := 534) (by decide +kernel), List.mem_of_getElem? (i := 535) (by decide +kernel)⟩
theorem lw_p7 : lw_okq (⟨"LeftByLast$Law", "readNumber", "()Z"⟩, 11) := ⟨⟨by decide +kernel, by decide +kernel⟩, List.mem_of_getElem? (i := 146) (by decide +kernel), List.mem_of_getElem? (i := 538) (by decide +kernel), List.mem_of_getElem? (i := 539) (by decide +kernel)⟩
theorem lw_p8 : lw_okq (⟨"LeftByLast$Law", "note", "(I)V"⟩, 11) := ⟨⟨by decide +kernel, by decide +kernel⟩, List.mem_of_getElem? (i := 146) (by decide +kernel), List.mem_of_getElem? (i := 542) (by decide +kernel), List.mem_of_getElem? (i := 543) (by decide +kernel)⟩
theorem lw_p9 : lw_okq (⟨"LeftByLast$Law", "readClosing", "()Z"⟩, 11) := ⟨⟨by decide +kernel, by decide +kernel⟩, List.mem_of_getElem? (i := 146) (by decide +kernel), List.mem_of_getElem? (i := 549) (by decide +kernel), List.mem_of_getElem? (i := 550) (by decide +kernel)⟩
theorem lw_p10 : lw_okq (⟨"LeftByLast$Day", "shownIf", "(LLeftByLast$Moment;)I"⟩, 12) := ⟨⟨by decide +kernel, by decide +kernel⟩, List.mem_of_getElem? (i := 193) (by decide +kernel), List.mem_of_getElem? (i := 584) (by decide +kernel), List.mem_of_getElem? (i := 585) (by decide +kernel)⟩
theorem lw_p11 : lw_okq (⟨"LeftByLast$Day", "choice", "(LLeftByLast$Moment;I)I"⟩, 12) := ⟨⟨by decide +kernel, by decide +kernel⟩, List.mem_of_getElem? (i := 193) (by decide +kernel), List.mem_of_getElem? (i := 596) (by decide +kernel), List.mem_of_getElem? (i := 597) (by decide +kernel)⟩
theorem lw_p12 : lw_okq (⟨"LeftByLast$Day", "weigh", "(LLeftByLast$Moment;II)V"⟩, 12) := ⟨⟨by decide +kernel, by decide +kernel⟩, List.mem_of_getElem? (i := 193) (by decide +kernel), List.mem_of_getElem? (i := 606) (by decide +kernel), List.mem_of_getElem? (i := 607) (by decide +kernel)⟩
theorem lw_p13 : lw_okq (⟨"LeftByLast$Law", "workOut", "()I"⟩, 11) := ⟨⟨by decide +kernel, by decide +kernel⟩, List.mem_of_getElem? (i := 146) (by decide +kernel), List.mem_of_getElem? (i := 614) (by decide +kernel), List.mem_of_getElem? (i := 615) (by decide +kernel)⟩
theorem lw_p14 : lw_okq (⟨"LeftByLast$Day", "heaviest", "(II)I"⟩, 12) := ⟨⟨by decide +kernel, by decide +kernel⟩, List.mem_of_getElem? (i := 193) (by decide +kernel), List.mem_of_getElem? (i := 625) (by decide +kernel), List.mem_of_getElem? (i := 626) (by decide +kernel)⟩
theorem lw_p15 : lw_okq (⟨"LeftByLast$Thought", "beginRows", "()I"⟩, 4) := ⟨⟨by decide +kernel, by decide +kernel⟩, List.mem_of_getElem? (i := 187) (by decide +kernel), List.mem_of_getElem? (i := 655) (by decide +kernel), List.mem_of_getElem? (i := 656) (by decide +kernel)⟩
def lw_privs_1 : List (MethodName × Nat) := [(⟨"LeftByLast", "cameFrom", "(II)Z"⟩, 8), (⟨"LeftByLast$Changes", "dropOldest", "()V"⟩, 6), (⟨"LeftByLast", "ofCustomer", "(II)I"⟩, 8), (⟨"LeftByLast$Law", "readText", "()Z"⟩, 11), (⟨"LeftByLast$Law", "readJoined", "(II)Z"⟩, 11), (⟨"LeftByLast$Law", "readOperand", "(I)Z"⟩, 11), (⟨"LeftByLast$Law", "sign", "()I"⟩, 11), (⟨"LeftByLast$Law", "readNumber", "()Z"⟩, 11), (⟨"LeftByLast$Law", "note", "(I)V"⟩, 11), (⟨"LeftByLast$Law", "readClosing", "()Z"⟩, 11), (⟨"LeftByLast$Day", "shownIf", "(LLeftByLast$Moment;)I"⟩, 12), (⟨"LeftByLast$Day", "choice", "(LLeftByLast$Moment;I)I"⟩, 12), (⟨"LeftByLast$Day", "weigh", "(LLeftByLast$Moment;II)V"⟩, 12), (⟨"LeftByLast$Law", "workOut", "()I"⟩, 11), (⟨"LeftByLast$Day", "heaviest", "(II)I"⟩, 12), (⟨"LeftByLast$Thought", "beginRows", "()I"⟩, 4)]
theorem lw_r1 : ∀ q ∈ lw_privs_1, lw_okq q := List.forall_mem_cons.mpr ⟨lw_p0, List.forall_mem_cons.mpr ⟨lw_p1, List.forall_mem_cons.mpr ⟨lw_p2, List.forall_mem_cons.mpr ⟨lw_p3, List.forall_mem_cons.mpr ⟨lw_p4, List.forall_mem_cons.mpr ⟨lw_p5, List.forall_mem_cons.mpr ⟨lw_p6, List.forall_mem_cons.mpr ⟨lw_p7, List.forall_mem_cons.mpr ⟨lw_p8, List.forall_mem_cons.mpr ⟨lw_p9, List.forall_mem_cons.mpr ⟨lw_p10, List.forall_mem_cons.mpr ⟨lw_p11, List.forall_mem_cons.mpr ⟨lw_p12, List.forall_mem_cons.mpr ⟨lw_p13, List.forall_mem_cons.mpr ⟨lw_p14, List.forall_mem_cons.mpr ⟨lw_p15, fun _ h => absurd h List.not_mem_nil⟩⟩⟩⟩⟩⟩⟩⟩⟩⟩⟩⟩⟩⟩⟩⟩
theorem lw_p16 : lw_okq (⟨"LeftByLast$Thought", "nextRow", "()I"⟩, 4) := ⟨⟨by decide +kernel, by decide +kernel⟩, List.mem_of_getElem? (i := 187) (by decide +kernel), List.mem_of_getElem? (i := 664) (by decide +kernel), List.mem_of_getElem? (i := 665) (by decide +kernel)⟩
theorem lw_p17 : lw_okq (⟨"LeftByLast$Thought", "mix", "(I)I"⟩, 4) := ⟨⟨by decide +kernel, by decide +kernel⟩, List.mem_of_getElem? (i := 187) (by decide +kernel), List.mem_of_getElem? (i := 776) (by decide +kernel), List.mem_of_getElem? (i := 777) (by decide +kernel)⟩
theorem lw_p18 : lw_okq (⟨"LeftByLast$Thought", "allBought", "([II)Z"⟩, 4) := ⟨⟨by decide +kernel, by decide +kernel⟩, List.mem_of_getElem? (i := 187) (by decide +kernel), List.mem_of_getElem? (i := 803) (by decide +kernel), List.mem_of_getElem? (i := 804) (by decide +kernel)⟩
theorem lw_p19 : lw_okq (⟨"LeftByLast$Acts", "own", "(III)I"⟩, 5) := ⟨⟨by decide +kernel, by decide +kernel⟩, List.mem_of_getElem? (i := 325) (by decide +kernel), List.mem_of_getElem? (i := 858) (by decide +kernel), List.mem_of_getElem? (i := 859) (by decide +kernel)⟩
theorem lw_p20 : lw_okq (⟨"LeftByLast$Acts", "run", "(IIII)I"⟩, 5) := ⟨⟨by decide +kernel, by decide +kernel⟩, List.mem_of_getElem? (i := 325) (by decide +kernel), List.mem_of_getElem? (i := 866) (by decide +kernel), List.mem_of_getElem? (i := 867) (by decide +kernel)⟩
theorem lw_p21 : lw_okq (⟨"LeftByLast$Acts", "result", "(IIII)I"⟩, 5) := ⟨⟨by decide +kernel, by decide +kernel⟩, List.mem_of_getElem? (i := 325) (by decide +kernel), List.mem_of_getElem? (i := 874) (by decide +kernel), List.mem_of_getElem? (i := 875) (by decide +kernel)⟩
theorem lw_p22 : lw_okq (⟨"LeftByLastModel", "adds", "(III)V"⟩, 62) := ⟨⟨by decide +kernel, by decide +kernel⟩, List.mem_of_getElem? (i := 952) (by decide +kernel), List.mem_of_getElem? (i := 1166) (by decide +kernel), List.mem_of_getElem? (i := 1167) (by decide +kernel)⟩
theorem lw_p23 : lw_okq (⟨"LeftByLastModel", "isThing", "(I)Z"⟩, 62) := ⟨⟨by decide +kernel, by decide +kernel⟩, List.mem_of_getElem? (i := 952) (by decide +kernel), List.mem_of_getElem? (i := 1184) (by decide +kernel), List.mem_of_getElem? (i := 1185) (by decide +kernel)⟩
theorem lw_p24 : lw_okq (⟨"LeftByLastModel", "becomes", "(II)I"⟩, 62) := ⟨⟨by decide +kernel, by decide +kernel⟩, List.mem_of_getElem? (i := 952) (by decide +kernel), List.mem_of_getElem? (i := 1188) (by decide +kernel), List.mem_of_getElem? (i := 1189) (by decide +kernel)⟩
theorem lw_p25 : lw_okq (⟨"LeftByLastModel", "isCustomer", "(I)Z"⟩, 62) := ⟨⟨by decide +kernel, by decide +kernel⟩, List.mem_of_getElem? (i := 952) (by decide +kernel), List.mem_of_getElem? (i := 1192) (by decide +kernel), List.mem_of_getElem? (i := 1193) (by decide +kernel)⟩
theorem lw_p26 : lw_okq (⟨"LeftByLastModel", "isKn", "(I)Z"⟩, 62) := ⟨⟨by decide +kernel, by decide +kernel⟩, List.mem_of_getElem? (i := 952) (by decide +kernel), List.mem_of_getElem? (i := 1196) (by decide +kernel), List.mem_of_getElem? (i := 1197) (by decide +kernel)⟩
theorem lw_p27 : lw_okq (⟨"LeftByLastModel", "ofCustomer", "(II)I"⟩, 62) := ⟨⟨by decide +kernel, by decide +kernel⟩, List.mem_of_getElem? (i := 952) (by decide +kernel), List.mem_of_getElem? (i := 1210) (by decide +kernel), List.mem_of_getElem? (i := 1211) (by decide +kernel)⟩
theorem lw_p28 : lw_okq (⟨"LeftByLastModel", "placeOf", "(I)I"⟩, 62) := ⟨⟨by decide +kernel, by decide +kernel⟩, List.mem_of_getElem? (i := 952) (by decide +kernel), List.mem_of_getElem? (i := 1214) (by decide +kernel), List.mem_of_getElem? (i := 1215) (by decide +kernel)⟩
theorem lw_p29 : lw_okq (⟨"LeftByLastModel", "wishOf", "(II)I"⟩, 62) := ⟨⟨by decide +kernel, by decide +kernel⟩, List.mem_of_getElem? (i := 952) (by decide +kernel), List.mem_of_getElem? (i := 1218) (by decide +kernel), List.mem_of_getElem? (i := 1219) (by decide +kernel)⟩
theorem lw_p30 : lw_okq (⟨"LeftByLastModel", "workOut", "(II)I"⟩, 62) := ⟨⟨by decide +kernel, by decide +kernel⟩, List.mem_of_getElem? (i := 952) (by decide +kernel), List.mem_of_getElem? (i := 1237) (by decide +kernel), List.mem_of_getElem? (i := 1238) (by decide +kernel)⟩
theorem lw_p31 : lw_okq (⟨"LeftByLastModel", "either", "()I"⟩, 62) := ⟨⟨by decide +kernel, by decide +kernel⟩, List.mem_of_getElem? (i := 952) (by decide +kernel), List.mem_of_getElem? (i := 1241) (by decide +kernel), List.mem_of_getElem? (i := 1242) (by decide +kernel)⟩
def lw_privs_2 : List (MethodName × Nat) := [(⟨"LeftByLast$Thought", "nextRow", "()I"⟩, 4), (⟨"LeftByLast$Thought", "mix", "(I)I"⟩, 4), (⟨"LeftByLast$Thought", "allBought", "([II)Z"⟩, 4), (⟨"LeftByLast$Acts", "own", "(III)I"⟩, 5), (⟨"LeftByLast$Acts", "run", "(IIII)I"⟩, 5), (⟨"LeftByLast$Acts", "result", "(IIII)I"⟩, 5), (⟨"LeftByLastModel", "adds", "(III)V"⟩, 62), (⟨"LeftByLastModel", "isThing", "(I)Z"⟩, 62), (⟨"LeftByLastModel", "becomes", "(II)I"⟩, 62), (⟨"LeftByLastModel", "isCustomer", "(I)Z"⟩, 62), (⟨"LeftByLastModel", "isKn", "(I)Z"⟩, 62), (⟨"LeftByLastModel", "ofCustomer", "(II)I"⟩, 62), (⟨"LeftByLastModel", "placeOf", "(I)I"⟩, 62), (⟨"LeftByLastModel", "wishOf", "(II)I"⟩, 62), (⟨"LeftByLastModel", "workOut", "(II)I"⟩, 62), (⟨"LeftByLastModel", "either", "()I"⟩, 62)]
theorem lw_r2 : ∀ q ∈ lw_privs_2, lw_okq q := List.forall_mem_cons.mpr ⟨lw_p16, List.forall_mem_cons.mpr ⟨lw_p17, List.forall_mem_cons.mpr ⟨lw_p18, List.forall_mem_cons.mpr ⟨lw_p19, List.forall_mem_cons.mpr ⟨lw_p20, List.forall_mem_cons.mpr ⟨lw_p21, List.forall_mem_cons.mpr ⟨lw_p22, List.forall_mem_cons.mpr ⟨lw_p23, List.forall_mem_cons.mpr ⟨lw_p24, List.forall_mem_cons.mpr ⟨lw_p25, List.forall_mem_cons.mpr ⟨lw_p26, List.forall_mem_cons.mpr ⟨lw_p27, List.forall_mem_cons.mpr ⟨lw_p28, List.forall_mem_cons.mpr ⟨lw_p29, List.forall_mem_cons.mpr ⟨lw_p30, List.forall_mem_cons.mpr ⟨lw_p31, fun _ h => absurd h List.not_mem_nil⟩⟩⟩⟩⟩⟩⟩⟩⟩⟩⟩⟩⟩⟩⟩⟩
theorem lw_p32 : lw_okq (⟨"LeftByLastModel", "both", "()I"⟩, 62) := ⟨⟨by decide +kernel, by decide +kernel⟩, List.mem_of_getElem? (i := 952) (by decide +kernel), List.mem_of_getElem? (i := 1245) (by decide +kernel), List.mem_of_getElem? (i := 1246) (by decide +kernel)⟩
theorem lw_p33 : lw_okq (⟨"LeftByLastModel", "compared", "()I"⟩, 62) := ⟨⟨by decide +kernel, by decide +kernel⟩, List.mem_of_getElem? (i := 952) (by decide +kernel), List.mem_of_getElem? (i := 1249) (by decide +kernel), List.mem_of_getElem? (i := 1250) (by decide +kernel)⟩
theorem lw_p34 : lw_okq (⟨"LeftByLastModel", "sums", "()I"⟩, 62) := ⟨⟨by decide +kernel, by decide +kernel⟩, List.mem_of_getElem? (i := 952) (by decide +kernel), List.mem_of_getElem? (i := 1253) (by decide +kernel), List.mem_of_getElem? (i := 1254) (by decide +kernel)⟩
theorem lw_p35 : lw_okq (⟨"LeftByLastModel", "product", "()I"⟩, 62) := ⟨⟨by decide +kernel, by decide +kernel⟩, List.mem_of_getElem? (i := 952) (by decide +kernel), List.mem_of_getElem? (i := 1257) (by decide +kernel), List.mem_of_getElem? (i := 1258) (by decide +kernel)⟩
theorem lw_p36 : lw_okq (⟨"LeftByLastModel", "one", "()I"⟩, 62) := ⟨⟨by decide +kernel, by decide +kernel⟩, List.mem_of_getElem? (i := 952) (by decide +kernel), List.mem_of_getElem? (i := 1261) (by decide +kernel), List.mem_of_getElem? (i := 1262) (by decide +kernel)⟩
theorem lw_p37 : lw_okq (⟨"LeftByLastModel", "byteAt", "()I"⟩, 62) := ⟨⟨by decide +kernel, by decide +kernel⟩, List.mem_of_getElem? (i := 952) (by decide +kernel), List.mem_of_getElem? (i := 1265) (by decide +kernel), List.mem_of_getElem? (i := 1266) (by decide +kernel)⟩
theorem lw_p38 : lw_okq (⟨"LeftByLastModel", "wrong", "()I"⟩, 62) := ⟨⟨by decide +kernel, by decide +kernel⟩, List.mem_of_getElem? (i := 952) (by decide +kernel), List.mem_of_getElem? (i := 1269) (by decide +kernel), List.mem_of_getElem? (i := 1270) (by decide +kernel)⟩
theorem lw_p39 : lw_okq (⟨"LeftByLastModel", "takes", "(I)Z"⟩, 62) := ⟨⟨by decide +kernel, by decide +kernel⟩, List.mem_of_getElem? (i := 952) (by decide +kernel), List.mem_of_getElem? (i := 1273) (by decide +kernel), List.mem_of_getElem? (i := 1274) (by decide +kernel)⟩
theorem lw_p40 : lw_okq (⟨"LeftByLastModel", "today", "()V"⟩, 62) := ⟨⟨by decide +kernel, by decide +kernel⟩, List.mem_of_getElem? (i := 952) (by decide +kernel), List.mem_of_getElem? (i := 1284) (by decide +kernel), List.mem_of_getElem? (i := 1285) (by decide +kernel)⟩
theorem lw_p41 : lw_okq (⟨"LeftByLastModel", "lineUp", "()V"⟩, 62) := ⟨⟨by decide +kernel, by decide +kernel⟩, List.mem_of_getElem? (i := 952) (by decide +kernel), List.mem_of_getElem? (i := 1288) (by decide +kernel), List.mem_of_getElem? (i := 1289) (by decide +kernel)⟩
theorem lw_p42 : lw_okq (⟨"LeftByLastModel", "plainDay", "()V"⟩, 62) := ⟨⟨by decide +kernel, by decide +kernel⟩, List.mem_of_getElem? (i := 952) (by decide +kernel), List.mem_of_getElem? (i := 1292) (by decide +kernel), List.mem_of_getElem? (i := 1293) (by decide +kernel)⟩
theorem lw_p43 : lw_okq (⟨"LeftByLastModel", "goesDay", "(IIII)V"⟩, 62) := ⟨⟨by decide +kernel, by decide +kernel⟩, List.mem_of_getElem? (i := 952) (by decide +kernel), List.mem_of_getElem? (i := 1296) (by decide +kernel), List.mem_of_getElem? (i := 1297) (by decide +kernel)⟩
theorem lw_p44 : lw_okq (⟨"LeftByLastModel", "opens", "()V"⟩, 62) := ⟨⟨by decide +kernel, by decide +kernel⟩, List.mem_of_getElem? (i := 952) (by decide +kernel), List.mem_of_getElem? (i := 1300) (by decide +kernel), List.mem_of_getElem? (i := 1301) (by decide +kernel)⟩
theorem lw_p45 : lw_okq (⟨"LeftByLastModel", "rises", "()V"⟩, 62) := ⟨⟨by decide +kernel, by decide +kernel⟩, List.mem_of_getElem? (i := 952) (by decide +kernel), List.mem_of_getElem? (i := 1304) (by decide +kernel), List.mem_of_getElem? (i := 1305) (by decide +kernel)⟩
theorem lw_p46 : lw_okq (⟨"LeftByLastModel", "visits", "(IIII)V"⟩, 62) := ⟨⟨by decide +kernel, by decide +kernel⟩, List.mem_of_getElem? (i := 952) (by decide +kernel), List.mem_of_getElem? (i := 1308) (by decide +kernel), List.mem_of_getElem? (i := 1309) (by decide +kernel)⟩
theorem lw_p47 : lw_okq (⟨"LeftByLastModel", "buysOne", "(II)V"⟩, 62) := ⟨⟨by decide +kernel, by decide +kernel⟩, List.mem_of_getElem? (i := 952) (by decide +kernel), List.mem_of_getElem? (i := 1312) (by decide +kernel), List.mem_of_getElem? (i := 1313) (by decide +kernel)⟩
def lw_privs_3 : List (MethodName × Nat) := [(⟨"LeftByLastModel", "both", "()I"⟩, 62), (⟨"LeftByLastModel", "compared", "()I"⟩, 62), (⟨"LeftByLastModel", "sums", "()I"⟩, 62), (⟨"LeftByLastModel", "product", "()I"⟩, 62), (⟨"LeftByLastModel", "one", "()I"⟩, 62), (⟨"LeftByLastModel", "byteAt", "()I"⟩, 62), (⟨"LeftByLastModel", "wrong", "()I"⟩, 62), (⟨"LeftByLastModel", "takes", "(I)Z"⟩, 62), (⟨"LeftByLastModel", "today", "()V"⟩, 62), (⟨"LeftByLastModel", "lineUp", "()V"⟩, 62), (⟨"LeftByLastModel", "plainDay", "()V"⟩, 62), (⟨"LeftByLastModel", "goesDay", "(IIII)V"⟩, 62), (⟨"LeftByLastModel", "opens", "()V"⟩, 62), (⟨"LeftByLastModel", "rises", "()V"⟩, 62), (⟨"LeftByLastModel", "visits", "(IIII)V"⟩, 62), (⟨"LeftByLastModel", "buysOne", "(II)V"⟩, 62)]
theorem lw_r3 : ∀ q ∈ lw_privs_3, lw_okq q := List.forall_mem_cons.mpr ⟨lw_p32, List.forall_mem_cons.mpr ⟨lw_p33, List.forall_mem_cons.mpr ⟨lw_p34, List.forall_mem_cons.mpr ⟨lw_p35, List.forall_mem_cons.mpr ⟨lw_p36, List.forall_mem_cons.mpr ⟨lw_p37, List.forall_mem_cons.mpr ⟨lw_p38, List.forall_mem_cons.mpr ⟨lw_p39, List.forall_mem_cons.mpr ⟨lw_p40, List.forall_mem_cons.mpr ⟨lw_p41, List.forall_mem_cons.mpr ⟨lw_p42, List.forall_mem_cons.mpr ⟨lw_p43, List.forall_mem_cons.mpr ⟨lw_p44, List.forall_mem_cons.mpr ⟨lw_p45, List.forall_mem_cons.mpr ⟨lw_p46, List.forall_mem_cons.mpr ⟨lw_p47, fun _ h => absurd h List.not_mem_nil⟩⟩⟩⟩⟩⟩⟩⟩⟩⟩⟩⟩⟩⟩⟩⟩
theorem lw_p48 : lw_okq (⟨"LeftByLastModel", "takesUp", "(III)V"⟩, 62) := ⟨⟨by decide +kernel, by decide +kernel⟩, List.mem_of_getElem? (i := 952) (by decide +kernel), List.mem_of_getElem? (i := 1316) (by decide +kernel), List.mem_of_getElem? (i := 1317) (by decide +kernel)⟩
theorem lw_p49 : lw_okq (⟨"LeftByLastModel", "numberOf", "(IIII)I"⟩, 62) := ⟨⟨by decide +kernel, by decide +kernel⟩, List.mem_of_getElem? (i := 952) (by decide +kernel), List.mem_of_getElem? (i := 1320) (by decide +kernel), List.mem_of_getElem? (i := 1321) (by decide +kernel)⟩
theorem lw_p50 : lw_okq (⟨"LeftByLastModel", "ruled", "(IIIII)I"⟩, 62) := ⟨⟨by decide +kernel, by decide +kernel⟩, List.mem_of_getElem? (i := 952) (by decide +kernel), List.mem_of_getElem? (i := 1324) (by decide +kernel), List.mem_of_getElem? (i := 1325) (by decide +kernel)⟩
theorem lw_p51 : lw_okq (⟨"LeftByLastModel", "measured", "(I)I"⟩, 62) := ⟨⟨by decide +kernel, by decide +kernel⟩, List.mem_of_getElem? (i := 952) (by decide +kernel), List.mem_of_getElem? (i := 1333) (by decide +kernel), List.mem_of_getElem? (i := 1334) (by decide +kernel)⟩
theorem lw_p52 : lw_okq (⟨"LeftByLastModel", "rowsOn", "(IIII)V"⟩, 62) := ⟨⟨by decide +kernel, by decide +kernel⟩, List.mem_of_getElem? (i := 952) (by decide +kernel), List.mem_of_getElem? (i := 1341) (by decide +kernel), List.mem_of_getElem? (i := 1342) (by decide +kernel)⟩
theorem lw_p53 : lw_okq (⟨"LeftByLastModel", "rowIsOut", "(II)V"⟩, 62) := ⟨⟨by decide +kernel, by decide +kernel⟩, List.mem_of_getElem? (i := 952) (by decide +kernel), List.mem_of_getElem? (i := 1345) (by decide +kernel), List.mem_of_getElem? (i := 1346) (by decide +kernel)⟩
theorem lw_p54 : lw_okq (⟨"LeftByLastModel", "isAsTold", "(I)Z"⟩, 62) := ⟨⟨by decide +kernel, by decide +kernel⟩, List.mem_of_getElem? (i := 952) (by decide +kernel), List.mem_of_getElem? (i := 1349) (by decide +kernel), List.mem_of_getElem? (i := 1350) (by decide +kernel)⟩
theorem lw_p55 : lw_okq (⟨"LeftByLastModel", "isAs", "(JI)Z"⟩, 62) := ⟨⟨by decide +kernel, by decide +kernel⟩, List.mem_of_getElem? (i := 952) (by decide +kernel), List.mem_of_getElem? (i := 1353) (by decide +kernel), List.mem_of_getElem? (i := 1354) (by decide +kernel)⟩
theorem lw_p56 : lw_okq (⟨"LeftByLastModel", "changesPlaces", "(II)V"⟩, 62) := ⟨⟨by decide +kernel, by decide +kernel⟩, List.mem_of_getElem? (i := 952) (by decide +kernel), List.mem_of_getElem? (i := 1362) (by decide +kernel), List.mem_of_getElem? (i := 1363) (by decide +kernel)⟩
theorem lw_p57 : lw_okq (⟨"LeftByLastModel", "rowIs", "(I)I"⟩, 62) := ⟨⟨by decide +kernel, by decide +kernel⟩, List.mem_of_getElem? (i := 952) (by decide +kernel), List.mem_of_getElem? (i := 1416) (by decide +kernel), List.mem_of_getElem? (i := 1417) (by decide +kernel)⟩
theorem lw_p58 : lw_okq (⟨"LeftByLastModel", "isBody", "(I)Z"⟩, 62) := ⟨⟨by decide +kernel, by decide +kernel⟩, List.mem_of_getElem? (i := 952) (by decide +kernel), List.mem_of_getElem? (i := 1440) (by decide +kernel), List.mem_of_getElem? (i := 1441) (by decide +kernel)⟩
theorem lw_p59 : lw_okq (⟨"LeftByLastModel", "takesAs", "(II)I"⟩, 62) := ⟨⟨by decide +kernel, by decide +kernel⟩, List.mem_of_getElem? (i := 952) (by decide +kernel), List.mem_of_getElem? (i := 1444) (by decide +kernel), List.mem_of_getElem? (i := 1445) (by decide +kernel)⟩
theorem lw_p60 : lw_okq (⟨"LeftByLastModel", "begins", "(I)V"⟩, 62) := ⟨⟨by decide +kernel, by decide +kernel⟩, List.mem_of_getElem? (i := 952) (by decide +kernel), List.mem_of_getElem? (i := 1448) (by decide +kernel), List.mem_of_getElem? (i := 1449) (by decide +kernel)⟩
theorem lw_p61 : lw_okq (⟨"LeftByLastModel", "buysAs", "(II)I"⟩, 62) := ⟨⟨by decide +kernel, by decide +kernel⟩, List.mem_of_getElem? (i := 952) (by decide +kernel), List.mem_of_getElem? (i := 1452) (by decide +kernel), List.mem_of_getElem? (i := 1453) (by decide +kernel)⟩
theorem lw_p62 : lw_okq (⟨"LeftByLastModel", "putsAs", "(II)I"⟩, 62) := ⟨⟨by decide +kernel, by decide +kernel⟩, List.mem_of_getElem? (i := 952) (by decide +kernel), List.mem_of_getElem? (i := 1456) (by decide +kernel), List.mem_of_getElem? (i := 1457) (by decide +kernel)⟩
theorem lw_p63 : lw_okq (⟨"LeftByLastModel", "tellsAs", "(II)I"⟩, 62) := ⟨⟨by decide +kernel, by decide +kernel⟩, List.mem_of_getElem? (i := 952) (by decide +kernel), List.mem_of_getElem? (i := 1460) (by decide +kernel), List.mem_of_getElem? (i := 1461) (by decide +kernel)⟩
def lw_privs_4 : List (MethodName × Nat) := [(⟨"LeftByLastModel", "takesUp", "(III)V"⟩, 62), (⟨"LeftByLastModel", "numberOf", "(IIII)I"⟩, 62), (⟨"LeftByLastModel", "ruled", "(IIIII)I"⟩, 62), (⟨"LeftByLastModel", "measured", "(I)I"⟩, 62), (⟨"LeftByLastModel", "rowsOn", "(IIII)V"⟩, 62), (⟨"LeftByLastModel", "rowIsOut", "(II)V"⟩, 62), (⟨"LeftByLastModel", "isAsTold", "(I)Z"⟩, 62), (⟨"LeftByLastModel", "isAs", "(JI)Z"⟩, 62), (⟨"LeftByLastModel", "changesPlaces", "(II)V"⟩, 62), (⟨"LeftByLastModel", "rowIs", "(I)I"⟩, 62), (⟨"LeftByLastModel", "isBody", "(I)Z"⟩, 62), (⟨"LeftByLastModel", "takesAs", "(II)I"⟩, 62), (⟨"LeftByLastModel", "begins", "(I)V"⟩, 62), (⟨"LeftByLastModel", "buysAs", "(II)I"⟩, 62), (⟨"LeftByLastModel", "putsAs", "(II)I"⟩, 62), (⟨"LeftByLastModel", "tellsAs", "(II)I"⟩, 62)]
theorem lw_r4 : ∀ q ∈ lw_privs_4, lw_okq q := List.forall_mem_cons.mpr ⟨lw_p48, List.forall_mem_cons.mpr ⟨lw_p49, List.forall_mem_cons.mpr ⟨lw_p50, List.forall_mem_cons.mpr ⟨lw_p51, List.forall_mem_cons.mpr ⟨lw_p52, List.forall_mem_cons.mpr ⟨lw_p53, List.forall_mem_cons.mpr ⟨lw_p54, List.forall_mem_cons.mpr ⟨lw_p55, List.forall_mem_cons.mpr ⟨lw_p56, List.forall_mem_cons.mpr ⟨lw_p57, List.forall_mem_cons.mpr ⟨lw_p58, List.forall_mem_cons.mpr ⟨lw_p59, List.forall_mem_cons.mpr ⟨lw_p60, List.forall_mem_cons.mpr ⟨lw_p61, List.forall_mem_cons.mpr ⟨lw_p62, List.forall_mem_cons.mpr ⟨lw_p63, fun _ h => absurd h List.not_mem_nil⟩⟩⟩⟩⟩⟩⟩⟩⟩⟩⟩⟩⟩⟩⟩⟩
theorem lw_p64 : lw_okq (⟨"LeftByLastModel", "refusal", "(II)I"⟩, 62) := ⟨⟨by decide +kernel, by decide +kernel⟩, List.mem_of_getElem? (i := 952) (by decide +kernel), List.mem_of_getElem? (i := 1480) (by decide +kernel), List.mem_of_getElem? (i := 1481) (by decide +kernel)⟩
theorem lw_p65 : lw_okq (⟨"LeftByLastModel", "kindOf", "(I)I"⟩, 62) := ⟨⟨by decide +kernel, by decide +kernel⟩, List.mem_of_getElem? (i := 952) (by decide +kernel), List.mem_of_getElem? (i := 1500) (by decide +kernel), List.mem_of_getElem? (i := 1501) (by decide +kernel)⟩
def lw_privs_5 : List (MethodName × Nat) := [(⟨"LeftByLastModel", "refusal", "(II)I"⟩, 62), (⟨"LeftByLastModel", "kindOf", "(I)I"⟩, 62)]
theorem lw_r5 : ∀ q ∈ lw_privs_5, lw_okq q := List.forall_mem_cons.mpr ⟨lw_p64, List.forall_mem_cons.mpr ⟨lw_p65, fun _ h => absurd h List.not_mem_nil⟩⟩
def lw_privs : List (MethodName × Nat) := lw_privs_1 ++ (lw_privs_2 ++ (lw_privs_3 ++ (lw_privs_4 ++ (lw_privs_5))))
def lw_tbl : List Cond := k2_sels lw_privs ++ tables_1
theorem lw_privs_ok : ∀ q ∈ lw_privs, lw_okq q := by
  show ∀ q ∈ lw_privs_1 ++ (lw_privs_2 ++ (lw_privs_3 ++ (lw_privs_4 ++ (lw_privs_5)))), lw_okq q
  exact List.forall_mem_append.mpr ⟨lw_r1, List.forall_mem_append.mpr ⟨lw_r2, List.forall_mem_append.mpr ⟨lw_r3, List.forall_mem_append.mpr ⟨lw_r4, lw_r5⟩⟩⟩⟩
end
section
def RX0 : String := "LeftByLast$Acts"
def TX0 : u_T := fun k => match k with
  | 0 => ("LeftByLast$Acts", "bodies", "I", false)
  | 1 => ("LeftByLast$Acts", "ran", "I", false)
  | 2 => ("LeftByLast$Acts", "actor", "I", false)
  | 3 => ("LeftByLast$Acts", "kinds", "[I", true)
  | _ => ("LeftByLast$Acts", "traced", "[I", true)
def tyX0 : Nat → FieldType := fun k => match k with
  | 0 => .int
  | 1 => .int
  | 2 => .int
  | 3 => .array .int
  | _ => .array .int
abbrev wsX00 : List Cond := u_ws RX0 TX0 5
theorem nmX0 : ∀ a, a < 5 → ∀ b, b < 5 → a ≠ b → (TX0 a).2.1 ≠ (TX0 b).2.1 := by decide +kernel
theorem tyX0_ok : ∀ k, k < 5 → parseFieldDescriptor (TX0 k).2.2.1 = some (tyX0 k) := by decide +kernel
abbrev cX0_init : ByteArray := prog_2_method_1_code
def yX0_init : MethodName := ⟨RX0, "<init>", "()V"⟩
abbrev cX0_add : ByteArray := prog_2_method_2_code
def yX0_add : MethodName := ⟨RX0, "add", "(I)I"⟩
abbrev cX0_kindOf : ByteArray := prog_2_method_3_code
def yX0_kindOf : MethodName := ⟨RX0, "kindOf", "(I)I"⟩
abbrev cX0_isTraced : ByteArray := prog_2_method_4_code
def yX0_isTraced : MethodName := ⟨RX0, "isTraced", "(I)Z"⟩
abbrev cX0_isUnder : ByteArray := prog_2_method_5_code
def yX0_isUnder : MethodName := ⟨RX0, "isUnder", "(II)Z"⟩
abbrev cX0_begin : ByteArray := prog_2_method_6_code
def yX0_begin : MethodName := ⟨RX0, "begin", "(III)I"⟩
abbrev cX0_own : ByteArray := prog_2_method_7_code
def yX0_own : MethodName := ⟨RX0, "own", "(III)I"⟩
abbrev cX0_run : ByteArray := prog_2_method_8_code
def yX0_run : MethodName := ⟨RX0, "run", "(IIII)I"⟩
abbrev cX0_result : ByteArray := prog_2_method_9_code
def yX0_result : MethodName := ⟨RX0, "result", "(IIII)I"⟩
def RX1 : String := "LeftByLast$Changes"
def TX1 : u_T := fun k => match k with
  | 0 => ("LeftByLast$Changes", "done", "I", false)
  | 1 => ("LeftByLast$Changes", "undone", "I", false)
  | 2 => ("LeftByLast$Changes", "number", "[I", true)
  | 3 => ("LeftByLast$Changes", "what", "[I", true)
  | 4 => ("LeftByLast$Changes", "old", "[I", true)
  | _ => ("LeftByLast$Changes", "told", "[I", true)
def tyX1 : Nat → FieldType := fun k => match k with
  | 0 => .int
  | 1 => .int
  | 2 => .array .int
  | 3 => .array .int
  | 4 => .array .int
  | _ => .array .int
abbrev wsX10 : List Cond := u_ws RX1 TX1 6
theorem nmX1 : ∀ a, a < 6 → ∀ b, b < 6 → a ≠ b → (TX1 a).2.1 ≠ (TX1 b).2.1 := by decide +kernel
theorem tyX1_ok : ∀ k, k < 6 → parseFieldDescriptor (TX1 k).2.2.1 = some (tyX1 k) := by decide +kernel
abbrev cX1_init : ByteArray := prog_3_method_1_code
def yX1_init : MethodName := ⟨RX1, "<init>", "()V"⟩
abbrev cX1_add : ByteArray := prog_3_method_2_code
def yX1_add : MethodName := ⟨RX1, "add", "(IIII)V"⟩
abbrev cX1_dropOldest : ByteArray := prog_3_method_3_code
def yX1_dropOldest : MethodName := ⟨RX1, "dropOldest", "()V"⟩
abbrev cX1_layOld : ByteArray := prog_3_method_4_code
def yX1_layOld : MethodName := ⟨RX1, "layOld", "(LLeftByLast$Shop;)I"⟩
abbrev cX1_layNew : ByteArray := prog_3_method_5_code
def yX1_layNew : MethodName := ⟨RX1, "layNew", "(LLeftByLast$Shop;)I"⟩
def RX2 : String := "LeftByLast$Day"
def TX2 : u_T := fun k => match k with
  | 0 => ("LeftByLast$Day", "shop", "LLeftByLast$Shop;", true)
  | 1 => ("LeftByLast$Day", "rule", "LLeftByLast$Law;", true)
  | 2 => ("LeftByLast$Day", "row", "[I", true)
  | 3 => ("LeftByLast$Day", "coin", "[I", true)
  | 4 => ("LeftByLast$Day", "bought", "[I", true)
  | 5 => ("LeftByLast$Day", "gain", "[I", true)
  | 6 => ("LeftByLast$Day", "weight", "[I", true)
  | 7 => ("LeftByLast$Day", "ahead", "[LLeftByLast$Moment;", true)
  | 8 => ("LeftByLast$Day", "rise", "I", false)
  | 9 => ("LeftByLast$Day", "friends", "I", false)
  | 10 => ("LeftByLast$Day", "nephewPlace", "I", false)
  | _ => ("LeftByLast$Day", "shown", "I", false)
def tyX2 : Nat → FieldType := fun k => match k with
  | 0 => .object "LeftByLast$Shop"
  | 1 => .object "LeftByLast$Law"
  | 2 => .array .int
  | 3 => .array .int
  | 4 => .array .int
  | 5 => .array .int
  | 6 => .array .int
  | 7 => .array (.object "LeftByLast$Moment")
  | 8 => .int
  | 9 => .int
  | 10 => .int
  | _ => .int
abbrev wsX20 : List Cond := u_ws RX2 TX2 12
theorem nmX2 : ∀ a, a < 12 → ∀ b, b < 12 → a ≠ b → (TX2 a).2.1 ≠ (TX2 b).2.1 := by decide +kernel
theorem tyX2_ok : ∀ k, k < 12 → parseFieldDescriptor (TX2 k).2.2.1 = some (tyX2 k) := by decide +kernel
abbrev cX2_init : ByteArray := prog_4_method_1_code
def yX2_init : MethodName := ⟨RX2, "<init>", "(LLeftByLast$Shop;LLeftByLast$Law;)V"⟩
abbrev cX2_begin : ByteArray := prog_4_method_2_code
def yX2_begin : MethodName := ⟨RX2, "begin", "()V"⟩
abbrev cX2_start : ByteArray := prog_4_method_3_code
def yX2_start : MethodName := ⟨RX2, "start", "()LLeftByLast$Moment;"⟩
abbrev cX2_end : ByteArray := prog_4_method_4_code
def yX2_end : MethodName := ⟨RX2, "end", "()LLeftByLast$Moment;"⟩
abbrev cX2_visitAlone : ByteArray := prog_4_method_5_code
def yX2_visitAlone : MethodName := ⟨RX2, "visitAlone", "(I)LLeftByLast$Moment;"⟩
abbrev cX2_goThrough : ByteArray := prog_4_method_6_code
def yX2_goThrough : MethodName := ⟨RX2, "goThrough", "(II)V"⟩
abbrev cX2_shownIf : ByteArray := prog_4_method_7_code
def yX2_shownIf : MethodName := ⟨RX2, "shownIf", "(LLeftByLast$Moment;)I"⟩
abbrev cX2_choice : ByteArray := prog_4_method_8_code
def yX2_choice : MethodName := ⟨RX2, "choice", "(LLeftByLast$Moment;I)I"⟩
abbrev cX2_weigh : ByteArray := prog_4_method_9_code
def yX2_weigh : MethodName := ⟨RX2, "weigh", "(LLeftByLast$Moment;II)V"⟩
abbrev cX2_heaviest : ByteArray := prog_4_method_10_code
def yX2_heaviest : MethodName := ⟨RX2, "heaviest", "(II)I"⟩
def RX3 : String := "LeftByLast$Image"
def TX3 : u_T := fun k => match k with
  | 0 => ("LeftByLast$Image", "isThere", "Z", false)
  | 1 => ("LeftByLast$Image", "things", "I", false)
  | 2 => ("LeftByLast$Image", "customers", "I", false)
  | 3 => ("LeftByLast$Image", "takenIn", "I", false)
  | 4 => ("LeftByLast$Image", "been", "I", false)
  | 5 => ("LeftByLast$Image", "now", "LLeftByLast$Moment;", true)
  | 6 => ("LeftByLast$Image", "coin", "[I", true)
  | _ => ("LeftByLast$Image", "row", "[I", true)
def tyX3 : Nat → FieldType := fun k => match k with
  | 0 => .boolean
  | 1 => .int
  | 2 => .int
  | 3 => .int
  | 4 => .int
  | 5 => .object "LeftByLast$Moment"
  | 6 => .array .int
  | _ => .array .int
abbrev wsX30 : List Cond := u_ws RX3 TX3 8
theorem nmX3 : ∀ a, a < 8 → ∀ b, b < 8 → a ≠ b → (TX3 a).2.1 ≠ (TX3 b).2.1 := by decide +kernel
theorem tyX3_ok : ∀ k, k < 8 → parseFieldDescriptor (TX3 k).2.2.1 = some (tyX3 k) := by decide +kernel
abbrev cX3_init : ByteArray := prog_5_method_1_code
def yX3_init : MethodName := ⟨RX3, "<init>", "()V"⟩
abbrev cX3_take : ByteArray := prog_5_method_2_code
def yX3_take : MethodName := ⟨RX3, "take", "(LLeftByLast$Shop;)I"⟩
abbrev cX3_layBack : ByteArray := prog_5_method_3_code
def yX3_layBack : MethodName := ⟨RX3, "layBack", "(LLeftByLast$Shop;)I"⟩
def RX4 : String := "LeftByLast$Law"
def TX4 : u_T := fun k => match k with
  | 0 => ("LeftByLast$Law", "fed", "I", false)
  | 1 => ("LeftByLast$Law", "at", "I", false)
  | 2 => ("LeftByLast$Law", "draftLength", "I", false)
  | 3 => ("LeftByLast$Law", "codeLength", "I", false)
  | 4 => ("LeftByLast$Law", "tape", "[I", true)
  | 5 => ("LeftByLast$Law", "code", "[I", false)
  | 6 => ("LeftByLast$Law", "draft", "[I", false)
  | 7 => ("LeftByLast$Law", "named", "[I", true)
  | 8 => ("LeftByLast$Law", "pile", "[I", true)
  | 9 => ("LeftByLast$Law", "asked", "[I", true)
  | _ => ("LeftByLast$Law", "answered", "[I", true)
def tyX4 : Nat → FieldType := fun k => match k with
  | 0 => .int
  | 1 => .int
  | 2 => .int
  | 3 => .int
  | 4 => .array .int
  | 5 => .array .int
  | 6 => .array .int
  | 7 => .array .int
  | 8 => .array .int
  | 9 => .array .int
  | _ => .array .int
abbrev wsX40 : List Cond := u_ws RX4 TX4 11
theorem nmX4 : ∀ a, a < 11 → ∀ b, b < 11 → a ≠ b → (TX4 a).2.1 ≠ (TX4 b).2.1 := by decide +kernel
theorem tyX4_ok : ∀ k, k < 11 → parseFieldDescriptor (TX4 k).2.2.1 = some (tyX4 k) := by decide +kernel
abbrev cX4_init : ByteArray := prog_6_method_1_code
def yX4_init : MethodName := ⟨RX4, "<init>", "()V"⟩
abbrev cX4_feedOn : ByteArray := prog_6_method_2_code
def yX4_feedOn : MethodName := ⟨RX4, "feedOn", "(I)I"⟩
abbrev cX4_lay : ByteArray := prog_6_method_3_code
def yX4_lay : MethodName := ⟨RX4, "lay", "()I"⟩
abbrev cX4_sign : ByteArray := prog_6_method_4_code
def yX4_sign : MethodName := ⟨RX4, "sign", "()I"⟩
abbrev cX4_note : ByteArray := prog_6_method_5_code
def yX4_note : MethodName := ⟨RX4, "note", "(I)V"⟩
abbrev cX4_readText : ByteArray := prog_6_method_6_code
def yX4_readText : MethodName := ⟨RX4, "readText", "()Z"⟩
abbrev cX4_readJoined : ByteArray := prog_6_method_7_code
def yX4_readJoined : MethodName := ⟨RX4, "readJoined", "(II)Z"⟩
abbrev cX4_readOperand : ByteArray := prog_6_method_8_code
def yX4_readOperand : MethodName := ⟨RX4, "readOperand", "(I)Z"⟩
abbrev cX4_readClosing : ByteArray := prog_6_method_9_code
def yX4_readClosing : MethodName := ⟨RX4, "readClosing", "()Z"⟩
abbrev cX4_readNumber : ByteArray := prog_6_method_10_code
def yX4_readNumber : MethodName := ⟨RX4, "readNumber", "()Z"⟩
abbrev cX4_levelOf : ByteArray := prog_6_method_11_code
def yX4_levelOf : MethodName := ⟨RX4, "levelOf", "(I)I"⟩
abbrev cX4_nameOf : ByteArray := prog_6_method_12_code
def yX4_nameOf : MethodName := ⟨RX4, "nameOf", "(I)I"⟩
abbrev cX4_number : ByteArray := prog_6_method_13_code
def yX4_number : MethodName := ⟨RX4, "number", "(IIIIIII)I"⟩
abbrev cX4_workOut : ByteArray := prog_6_method_14_code
def yX4_workOut : MethodName := ⟨RX4, "workOut", "()I"⟩
abbrev cX4_turned : ByteArray := prog_6_method_15_code
def yX4_turned : MethodName := ⟨RX4, "turned", "(II)I"⟩
abbrev cX4_joined : ByteArray := prog_6_method_16_code
def yX4_joined : MethodName := ⟨RX4, "joined", "(III)I"⟩
def RX5 : String := "LeftByLast$Moment"
def TX5 : u_T := fun k => match k with
  | 0 => ("LeftByLast$Moment", "there", "I", false)
  | 1 => ("LeftByLast$Moment", "left", "I", false)
  | 2 => ("LeftByLast$Moment", "served", "I", false)
  | 3 => ("LeftByLast$Moment", "paid", "I", false)
  | 4 => ("LeftByLast$Moment", "joy", "I", false)
  | _ => ("LeftByLast$Moment", "price", "[I", true)
def tyX5 : Nat → FieldType := fun k => match k with
  | 0 => .int
  | 1 => .int
  | 2 => .int
  | 3 => .int
  | 4 => .int
  | _ => .array .int
abbrev wsX50 : List Cond := u_ws RX5 TX5 6
theorem nmX5 : ∀ a, a < 6 → ∀ b, b < 6 → a ≠ b → (TX5 a).2.1 ≠ (TX5 b).2.1 := by decide +kernel
theorem tyX5_ok : ∀ k, k < 6 → parseFieldDescriptor (TX5 k).2.2.1 = some (tyX5 k) := by decide +kernel
abbrev cX5_init : ByteArray := prog_7_method_1_code
def yX5_init : MethodName := ⟨RX5, "<init>", "()V"⟩
abbrev cX5_become : ByteArray := prog_7_method_2_code
def yX5_become : MethodName := ⟨RX5, "become", "(LLeftByLast$Moment;)V"⟩
abbrev cX5_clearSums : ByteArray := prog_7_method_3_code
def yX5_clearSums : MethodName := ⟨RX5, "clearSums", "()V"⟩
abbrev cX5_sell : ByteArray := prog_7_method_4_code
def yX5_sell : MethodName := ⟨RX5, "sell", "(II)V"⟩
abbrev cX5_putDown : ByteArray := prog_7_method_5_code
def yX5_putDown : MethodName := ⟨RX5, "putDown", "(II)V"⟩
abbrev cX5_sum : ByteArray := prog_7_method_6_code
def yX5_sum : MethodName := ⟨RX5, "sum", "(I)I"⟩
def RX6 : String := "LeftByLast$Shelves"
def TX6 : u_T := fun k => match k with
  | 0 => ("LeftByLast$Shelves", "sort", "[I", true)
  | 1 => ("LeftByLast$Shelves", "body", "[I", true)
  | 2 => ("LeftByLast$Shelves", "size", "[I", true)
  | _ => ("LeftByLast$Shelves", "cells", "[J", true)
def tyX6 : Nat → FieldType := fun k => match k with
  | 0 => .array .int
  | 1 => .array .int
  | 2 => .array .int
  | _ => .array .long
abbrev wsX60 : List Cond := u_ws RX6 TX6 4
theorem nmX6 : ∀ a, a < 4 → ∀ b, b < 4 → a ≠ b → (TX6 a).2.1 ≠ (TX6 b).2.1 := by decide +kernel
theorem tyX6_ok : ∀ k, k < 4 → parseFieldDescriptor (TX6 k).2.2.1 = some (tyX6 k) := by decide +kernel
abbrev cX6_init : ByteArray := prog_8_method_1_code
def yX6_init : MethodName := ⟨RX6, "<init>", "()V"⟩
abbrev cX6_isShelf : ByteArray := prog_8_method_2_code
def yX6_isShelf : MethodName := ⟨RX6, "isShelf", "(I)Z"⟩
abbrev cX6_isRow : ByteArray := prog_8_method_3_code
def yX6_isRow : MethodName := ⟨RX6, "isRow", "(I)Z"⟩
abbrev cX6_refusalOfBytes : ByteArray := prog_8_method_4_code
def yX6_refusalOfBytes : MethodName := ⟨RX6, "refusalOfBytes", "(I)I"⟩
abbrev cX6_refusalOfPlace : ByteArray := prog_8_method_5_code
def yX6_refusalOfPlace : MethodName := ⟨RX6, "refusalOfPlace", "(II)I"⟩
abbrev cX6_refusalOfPair : ByteArray := prog_8_method_6_code
def yX6_refusalOfPair : MethodName := ⟨RX6, "refusalOfPair", "(II)I"⟩
abbrev cX6_hasPlaces : ByteArray := prog_8_method_7_code
def yX6_hasPlaces : MethodName := ⟨RX6, "hasPlaces", "(III)Z"⟩
abbrev cX6_hold : ByteArray := prog_8_method_8_code
def yX6_hold : MethodName := ⟨RX6, "hold", "(II)V"⟩
abbrev cX6_holdRow : ByteArray := prog_8_method_9_code
def yX6_holdRow : MethodName := ⟨RX6, "holdRow", "(III)V"⟩
abbrev cX6_store : ByteArray := prog_8_method_10_code
def yX6_store : MethodName := ⟨RX6, "store", "(IIJ)V"⟩
abbrev cX6_lowest : ByteArray := prog_8_method_11_code
def yX6_lowest : MethodName := ⟨RX6, "lowest", "(IJ)J"⟩
abbrev cX6_valueAt : ByteArray := prog_8_method_12_code
def yX6_valueAt : MethodName := ⟨RX6, "valueAt", "(II)J"⟩
abbrev cX6_copy : ByteArray := prog_8_method_13_code
def yX6_copy : MethodName := ⟨RX6, "copy", "(IIIII)V"⟩
abbrev cX6_readInto : ByteArray := prog_8_method_14_code
def yX6_readInto : MethodName := ⟨RX6, "readInto", "([II)I"⟩
def RX7 : String := "LeftByLast$Shop"
def TX7 : u_T := fun k => match k with
  | 0 => ("LeftByLast$Shop", "things", "I", false)
  | 1 => ("LeftByLast$Shop", "customers", "I", false)
  | 2 => ("LeftByLast$Shop", "rise", "I", false)
  | 3 => ("LeftByLast$Shop", "been", "I", false)
  | 4 => ("LeftByLast$Shop", "takenIn", "I", false)
  | 5 => ("LeftByLast$Shop", "led", "I", false)
  | 6 => ("LeftByLast$Shop", "coin", "[I", true)
  | 7 => ("LeftByLast$Shop", "hands", "[I", true)
  | 8 => ("LeftByLast$Shop", "way", "[I", true)
  | 9 => ("LeftByLast$Shop", "row", "[I", true)
  | 10 => ("LeftByLast$Shop", "lastBought", "[I", true)
  | 11 => ("LeftByLast$Shop", "lastTaken", "[I", true)
  | 12 => ("LeftByLast$Shop", "wish", "[I", true)
  | _ => ("LeftByLast$Shop", "now", "LLeftByLast$Moment;", true)
def tyX7 : Nat → FieldType := fun k => match k with
  | 0 => .int
  | 1 => .int
  | 2 => .int
  | 3 => .int
  | 4 => .int
  | 5 => .int
  | 6 => .array .int
  | 7 => .array .int
  | 8 => .array .int
  | 9 => .array .int
  | 10 => .array .int
  | 11 => .array .int
  | 12 => .array .int
  | _ => .object "LeftByLast$Moment"
abbrev wsX70 : List Cond := u_ws RX7 TX7 14
theorem nmX7 : ∀ a, a < 14 → ∀ b, b < 14 → a ≠ b → (TX7 a).2.1 ≠ (TX7 b).2.1 := by decide +kernel
theorem tyX7_ok : ∀ k, k < 14 → parseFieldDescriptor (TX7 k).2.2.1 = some (tyX7 k) := by decide +kernel
abbrev cX7_init : ByteArray := prog_9_method_1_code
def yX7_init : MethodName := ⟨RX7, "<init>", "()V"⟩
abbrev cX7_isThing : ByteArray := prog_9_method_2_code
def yX7_isThing : MethodName := ⟨RX7, "isThing", "(I)Z"⟩
abbrev cX7_isCustomer : ByteArray := prog_9_method_3_code
def yX7_isCustomer : MethodName := ⟨RX7, "isCustomer", "(I)Z"⟩
abbrev cX7_isPair : ByteArray := prog_9_method_4_code
def yX7_isPair : MethodName := ⟨RX7, "isPair", "(I)Z"⟩
abbrev cX7_addThing : ByteArray := prog_9_method_5_code
def yX7_addThing : MethodName := ⟨RX7, "addThing", "(I)I"⟩
abbrev cX7_addCustomer : ByteArray := prog_9_method_6_code
def yX7_addCustomer : MethodName := ⟨RX7, "addCustomer", "(III)I"⟩
abbrev cX7_wishOf : ByteArray := prog_9_method_7_code
def yX7_wishOf : MethodName := ⟨RX7, "wishOf", "(II)I"⟩
abbrev cX7_toldOf : ByteArray := prog_9_method_8_code
def yX7_toldOf : MethodName := ⟨RX7, "toldOf", "(II)I"⟩
abbrev cX7_lay : ByteArray := prog_9_method_9_code
def yX7_lay : MethodName := ⟨RX7, "lay", "(III)V"⟩
abbrev cX7_placeOf : ByteArray := prog_9_method_10_code
def yX7_placeOf : MethodName := ⟨RX7, "placeOf", "(I)I"⟩
abbrev cX7_firstNotBeen : ByteArray := prog_9_method_11_code
def yX7_firstNotBeen : MethodName := ⟨RX7, "firstNotBeen", "()I"⟩
abbrev cX7_takeOver : ByteArray := prog_9_method_12_code
def yX7_takeOver : MethodName := ⟨RX7, "takeOver", "(IILLeftByLast$Moment;)V"⟩
def RX8 : String := "LeftByLast$Thought"
def TX8 : u_T := fun k => match k with
  | 0 => ("LeftByLast$Thought", "shop", "LLeftByLast$Shop;", true)
  | 1 => ("LeftByLast$Thought", "day", "LLeftByLast$Day;", true)
  | 2 => ("LeftByLast$Thought", "most", "I", false)
  | _ => ("LeftByLast$Thought", "bestRow", "[I", true)
def tyX8 : Nat → FieldType := fun k => match k with
  | 0 => .object "LeftByLast$Shop"
  | 1 => .object "LeftByLast$Day"
  | 2 => .int
  | _ => .array .int
abbrev wsX80 : List Cond := u_ws RX8 TX8 4
theorem nmX8 : ∀ a, a < 4 → ∀ b, b < 4 → a ≠ b → (TX8 a).2.1 ≠ (TX8 b).2.1 := by decide +kernel
theorem tyX8_ok : ∀ k, k < 4 → parseFieldDescriptor (TX8 k).2.2.1 = some (tyX8 k) := by decide +kernel
abbrev cX8_init : ByteArray := prog_10_method_1_code
def yX8_init : MethodName := ⟨RX8, "<init>", "(LLeftByLast$Shop;LLeftByLast$Law;)V"⟩
abbrev cX8_seekRow : ByteArray := prog_10_method_2_code
def yX8_seekRow : MethodName := ⟨RX8, "seekRow", "(I)V"⟩
abbrev cX8_rowsWithSuch : ByteArray := prog_10_method_3_code
def yX8_rowsWithSuch : MethodName := ⟨RX8, "rowsWithSuch", "([II)I"⟩
abbrev cX8_allBought : ByteArray := prog_10_method_4_code
def yX8_allBought : MethodName := ⟨RX8, "allBought", "([II)Z"⟩
abbrev cX8_beginRows : ByteArray := prog_10_method_5_code
def yX8_beginRows : MethodName := ⟨RX8, "beginRows", "()I"⟩
abbrev cX8_nextRow : ByteArray := prog_10_method_6_code
def yX8_nextRow : MethodName := ⟨RX8, "nextRow", "()I"⟩
abbrev cX8_bestChange : ByteArray := prog_10_method_7_code
def yX8_bestChange : MethodName := ⟨RX8, "bestChange", "(I)I"⟩
abbrev cX8_worthOfPlaceAhead : ByteArray := prog_10_method_8_code
def yX8_worthOfPlaceAhead : MethodName := ⟨RX8, "worthOfPlaceAhead", "(I)I"⟩
abbrev cX8_fewestFriends : ByteArray := prog_10_method_9_code
def yX8_fewestFriends : MethodName := ⟨RX8, "fewestFriends", "(II)I"⟩
abbrev cX8_bestNephew : ByteArray := prog_10_method_10_code
def yX8_bestNephew : MethodName := ⟨RX8, "bestNephew", "()I"⟩
abbrev cX8_bestPrice : ByteArray := prog_10_method_11_code
def yX8_bestPrice : MethodName := ⟨RX8, "bestPrice", "(I)I"⟩
abbrev cX8_leastCoin : ByteArray := prog_10_method_12_code
def yX8_leastCoin : MethodName := ⟨RX8, "leastCoin", "(I)I"⟩
abbrev cX8_leastRise : ByteArray := prog_10_method_13_code
def yX8_leastRise : MethodName := ⟨RX8, "leastRise", "()I"⟩
abbrev cX8_servedByDraws : ByteArray := prog_10_method_14_code
def yX8_servedByDraws : MethodName := ⟨RX8, "servedByDraws", "(III)I"⟩
abbrev cX8_mix : ByteArray := prog_10_method_15_code
def yX8_mix : MethodName := ⟨RX8, "mix", "(I)I"⟩
abbrev cX8_firstUntrue : ByteArray := prog_10_method_16_code
def yX8_firstUntrue : MethodName := ⟨RX8, "firstUntrue", "([II)I"⟩
def RX9 : String := "LeftByLast"
def TX9 : u_T := fun k => match k with
  | 0 => ("LeftByLast", "shop", "LLeftByLast$Shop;", true)
  | 1 => ("LeftByLast", "rule", "LLeftByLast$Law;", true)
  | 2 => ("LeftByLast", "thought", "LLeftByLast$Thought;", true)
  | 3 => ("LeftByLast", "changes", "LLeftByLast$Changes;", true)
  | 4 => ("LeftByLast", "kept", "LLeftByLast$Image;", true)
  | 5 => ("LeftByLast", "acts", "LLeftByLast$Acts;", true)
  | 6 => ("LeftByLast", "shelves", "LLeftByLast$Shelves;", true)
  | _ => ("LeftByLast", "told", "[I", true)
def tyX9 : Nat → FieldType := fun k => match k with
  | 0 => .object "LeftByLast$Shop"
  | 1 => .object "LeftByLast$Law"
  | 2 => .object "LeftByLast$Thought"
  | 3 => .object "LeftByLast$Changes"
  | 4 => .object "LeftByLast$Image"
  | 5 => .object "LeftByLast$Acts"
  | 6 => .object "LeftByLast$Shelves"
  | _ => .array .int
abbrev wsX90 : List Cond := u_ws RX9 TX9 8
theorem nmX9 : ∀ a, a < 8 → ∀ b, b < 8 → a ≠ b → (TX9 a).2.1 ≠ (TX9 b).2.1 := by decide +kernel
theorem tyX9_ok : ∀ k, k < 8 → parseFieldDescriptor (TX9 k).2.2.1 = some (tyX9 k) := by decide +kernel
abbrev cX9_init : ByteArray := prog_1_method_1_code
def yX9_init : MethodName := ⟨RX9, "<init>", "()V"⟩
abbrev cX9_thing : ByteArray := prog_1_method_2_code
def yX9_thing : MethodName := ⟨RX9, "thing", "(I)I"⟩
abbrev cX9_customer : ByteArray := prog_1_method_3_code
def yX9_customer : MethodName := ⟨RX9, "customer", "(II)I"⟩
abbrev cX9_customers : ByteArray := prog_1_method_4_code
def yX9_customers : MethodName := ⟨RX9, "customers", "(III)I"⟩
abbrev cX9_cameFrom : ByteArray := prog_1_method_5_code
def yX9_cameFrom : MethodName := ⟨RX9, "cameFrom", "(II)Z"⟩
abbrev cX9_isCustomerSo : ByteArray := prog_1_method_6_code
def yX9_isCustomerSo : MethodName := ⟨RX9, "isCustomerSo", "(III)Z"⟩
abbrev cX9_mend : ByteArray := prog_1_method_7_code
def yX9_mend : MethodName := ⟨RX9, "mend", "(III)I"⟩
abbrev cX9_mostOf : ByteArray := prog_1_method_8_code
def yX9_mostOf : MethodName := ⟨RX9, "mostOf", "(I)I"⟩
abbrev cX9_of : ByteArray := prog_1_method_9_code
def yX9_of : MethodName := ⟨RX9, "of", "(II)I"⟩
abbrev cX9_ofCustomer : ByteArray := prog_1_method_10_code
def yX9_ofCustomer : MethodName := ⟨RX9, "ofCustomer", "(II)I"⟩
abbrev cX9_swap : ByteArray := prog_1_method_11_code
def yX9_swap : MethodName := ⟨RX9, "swap", "(I)I"⟩
abbrev cX9_feed : ByteArray := prog_1_method_12_code
def yX9_feed : MethodName := ⟨RX9, "feed", "(I)I"⟩
abbrev cX9_law : ByteArray := prog_1_method_13_code
def yX9_law : MethodName := ⟨RX9, "law", "()I"⟩
abbrev cX9_buys : ByteArray := prog_1_method_14_code
def yX9_buys : MethodName := ⟨RX9, "buys", "(I)I"⟩
abbrev cX9_day : ByteArray := prog_1_method_15_code
def yX9_day : MethodName := ⟨RX9, "day", "(I)I"⟩
abbrev cX9_order : ByteArray := prog_1_method_16_code
def yX9_order : MethodName := ⟨RX9, "order", "(II)I"⟩
abbrev cX9_change : ByteArray := prog_1_method_17_code
def yX9_change : MethodName := ⟨RX9, "change", "(I)I"⟩
abbrev cX9_isMeasure : ByteArray := prog_1_method_18_code
def yX9_isMeasure : MethodName := ⟨RX9, "isMeasure", "(I)Z"⟩
abbrev cX9_place : ByteArray := prog_1_method_19_code
def yX9_place : MethodName := ⟨RX9, "place", "(I)I"⟩
abbrev cX9_friends : ByteArray := prog_1_method_20_code
def yX9_friends : MethodName := ⟨RX9, "friends", "(I)I"⟩
abbrev cX9_nephew : ByteArray := prog_1_method_21_code
def yX9_nephew : MethodName := ⟨RX9, "nephew", "(I)I"⟩
abbrev cX9_price : ByteArray := prog_1_method_22_code
def yX9_price : MethodName := ⟨RX9, "price", "(I)I"⟩
abbrev cX9_enough : ByteArray := prog_1_method_23_code
def yX9_enough : MethodName := ⟨RX9, "enough", "(I)I"⟩
abbrev cX9_riseFor : ByteArray := prog_1_method_24_code
def yX9_riseFor : MethodName := ⟨RX9, "riseFor", "()I"⟩
abbrev cX9_visit : ByteArray := prog_1_method_25_code
def yX9_visit : MethodName := ⟨RX9, "visit", "()I"⟩
abbrev cX9_evening : ByteArray := prog_1_method_26_code
def yX9_evening : MethodName := ⟨RX9, "evening", "()I"⟩
abbrev cX9_led : ByteArray := prog_1_method_27_code
def yX9_led : MethodName := ⟨RX9, "led", "(II)I"⟩
abbrev cX9_drawn : ByteArray := prog_1_method_28_code
def yX9_drawn : MethodName := ⟨RX9, "drawn", "(III)I"⟩
abbrev cX9_judge : ByteArray := prog_1_method_29_code
def yX9_judge : MethodName := ⟨RX9, "judge", "(I)I"⟩
abbrev cX9_whose : ByteArray := prog_1_method_30_code
def yX9_whose : MethodName := ⟨RX9, "whose", "(I)I"⟩
abbrev cX9_image : ByteArray := prog_1_method_31_code
def yX9_image : MethodName := ⟨RX9, "image", "()I"⟩
abbrev cX9_back : ByteArray := prog_1_method_32_code
def yX9_back : MethodName := ⟨RX9, "back", "()I"⟩
abbrev cX9_undo : ByteArray := prog_1_method_33_code
def yX9_undo : MethodName := ⟨RX9, "undo", "()I"⟩
abbrev cX9_redo : ByteArray := prog_1_method_34_code
def yX9_redo : MethodName := ⟨RX9, "redo", "()I"⟩
abbrev cX9_body : ByteArray := prog_1_method_35_code
def yX9_body : MethodName := ⟨RX9, "body", "(I)I"⟩
abbrev cX9_act : ByteArray := prog_1_method_36_code
def yX9_act : MethodName := ⟨RX9, "act", "(III)I"⟩
abbrev cX9_trace : ByteArray := prog_1_method_37_code
def yX9_trace : MethodName := ⟨RX9, "trace", "(I)I"⟩
abbrev cX9_keep : ByteArray := prog_1_method_38_code
def yX9_keep : MethodName := ⟨RX9, "keep", "(II)I"⟩
abbrev cX9_row : ByteArray := prog_1_method_39_code
def yX9_row : MethodName := ⟨RX9, "row", "(III)I"⟩
abbrev cX9_put : ByteArray := prog_1_method_40_code
def yX9_put : MethodName := ⟨RX9, "put", "(IIJ)I"⟩
abbrev cX9_element : ByteArray := prog_1_method_41_code
def yX9_element : MethodName := ⟨RX9, "element", "(II)J"⟩
abbrev cX9_shift : ByteArray := prog_1_method_42_code
def yX9_shift : MethodName := ⟨RX9, "shift", "(IIIII)I"⟩
abbrev cX9_taken : ByteArray := prog_1_method_43_code
def yX9_taken : MethodName := ⟨RX9, "taken", "(II)I"⟩
abbrev cX9_count : ByteArray := prog_1_method_44_code
def yX9_count : MethodName := ⟨RX9, "count", "(I)I"⟩
abbrev cX9_bit : ByteArray := prog_1_method_45_code
def yX9_bit : MethodName := ⟨RX9, "bit", "(II)I"⟩
abbrev cX9_orNot : ByteArray := prog_1_method_46_code
def yX9_orNot : MethodName := ⟨RX9, "orNot", "(I)I"⟩
abbrev cX9_exchange : ByteArray := prog_1_method_47_code
def yX9_exchange : MethodName := ⟨RX9, "exchange", "([III)V"⟩
def RX10 : String := "LeftByLastModel"
def TX10 : u_T := fun k => match k with
  | 0 => ("LeftByLastModel", "may", "[I", true)
  | 1 => ("LeftByLastModel", "changeAt", "[I", true)
  | 2 => ("LeftByLastModel", "changeWas", "[I", true)
  | 3 => ("LeftByLastModel", "changeIs", "[I", true)
  | 4 => ("LeftByLastModel", "keptMany", "I", false)
  | 5 => ("LeftByLastModel", "done", "I", false)
  | 6 => ("LeftByLastModel", "things", "I", false)
  | 7 => ("LeftByLastModel", "customers", "I", false)
  | 8 => ("LeftByLastModel", "there", "I", false)
  | 9 => ("LeftByLastModel", "left", "I", false)
  | 10 => ("LeftByLastModel", "takenIn", "I", false)
  | 11 => ("LeftByLastModel", "hands", "[I", true)
  | 12 => ("LeftByLastModel", "line", "[I", true)
  | 13 => ("LeftByLastModel", "been", "I", false)
  | 14 => ("LeftByLastModel", "tape", "[I", true)
  | 15 => ("LeftByLastModel", "tapeMany", "I", false)
  | 16 => ("LeftByLastModel", "text", "[I", true)
  | 17 => ("LeftByLastModel", "textMany", "I", false)
  | 18 => ("LeftByLastModel", "base", "I", false)
  | 19 => ("LeftByLastModel", "at", "I", false)
  | 20 => ("LeftByLastModel", "ends", "I", false)
  | 21 => ("LeftByLastModel", "fault", "I", false)
  | 22 => ("LeftByLastModel", "opened", "I", false)
  | 23 => ("LeftByLastModel", "names", "[I", true)
  | 24 => ("LeftByLastModel", "prices", "[I", true)
  | 25 => ("LeftByLastModel", "shopThere", "I", false)
  | 26 => ("LeftByLastModel", "shopLeft", "I", false)
  | 27 => ("LeftByLastModel", "paid", "I", false)
  | 28 => ("LeftByLastModel", "joy", "I", false)
  | 29 => ("LeftByLastModel", "bought", "I", false)
  | 30 => ("LeftByLastModel", "taken1", "I", false)
  | 31 => ("LeftByLastModel", "told", "[I", true)
  | 32 => ("LeftByLastModel", "row", "[I", true)
  | 33 => ("LeftByLastModel", "boughtBy", "[I", true)
  | 34 => ("LeftByLastModel", "joyOf", "[I", true)
  | 35 => ("LeftByLastModel", "served", "I", false)
  | 36 => ("LeftByLastModel", "bestRow", "[I", true)
  | 37 => ("LeftByLastModel", "bestOf", "I", false)
  | 38 => ("LeftByLastModel", "asTold", "I", false)
  | 39 => ("LeftByLastModel", "ledBought", "[I", true)
  | 40 => ("LeftByLastModel", "ledTaken", "[I", true)
  | 41 => ("LeftByLastModel", "ledSet", "I", false)
  | 42 => ("LeftByLastModel", "isKept", "Z", false)
  | 43 => ("LeftByLastModel", "imageThings", "I", false)
  | 44 => ("LeftByLastModel", "imageCustomers", "I", false)
  | 45 => ("LeftByLastModel", "imageThere", "I", false)
  | 46 => ("LeftByLastModel", "imageLeft", "I", false)
  | 47 => ("LeftByLastModel", "imageTaken", "I", false)
  | 48 => ("LeftByLastModel", "imageBeen", "I", false)
  | 49 => ("LeftByLastModel", "imagePrice", "[I", true)
  | 50 => ("LeftByLastModel", "imageCoin", "[I", true)
  | 51 => ("LeftByLastModel", "imageLine", "[I", true)
  | 52 => ("LeftByLastModel", "bodies", "I", false)
  | 53 => ("LeftByLastModel", "bodyKind", "[I", true)
  | 54 => ("LeftByLastModel", "trace", "[I", true)
  | 55 => ("LeftByLastModel", "ran", "I", false)
  | 56 => ("LeftByLastModel", "ownKind", "I", false)
  | 57 => ("LeftByLastModel", "ownNumber", "I", false)
  | 58 => ("LeftByLastModel", "shelf", "[I", true)
  | 59 => ("LeftByLastModel", "many", "[I", true)
  | 60 => ("LeftByLastModel", "items", "[J", true)
  | _ => ("LeftByLastModel", "carried", "[J", true)
def tyX10 : Nat → FieldType := fun k => match k with
  | 0 => .array .int
  | 1 => .array .int
  | 2 => .array .int
  | 3 => .array .int
  | 4 => .int
  | 5 => .int
  | 6 => .int
  | 7 => .int
  | 8 => .int
  | 9 => .int
  | 10 => .int
  | 11 => .array .int
  | 12 => .array .int
  | 13 => .int
  | 14 => .array .int
  | 15 => .int
  | 16 => .array .int
  | 17 => .int
  | 18 => .int
  | 19 => .int
  | 20 => .int
  | 21 => .int
  | 22 => .int
  | 23 => .array .int
  | 24 => .array .int
  | 25 => .int
  | 26 => .int
  | 27 => .int
  | 28 => .int
  | 29 => .int
  | 30 => .int
  | 31 => .array .int
  | 32 => .array .int
  | 33 => .array .int
  | 34 => .array .int
  | 35 => .int
  | 36 => .array .int
  | 37 => .int
  | 38 => .int
  | 39 => .array .int
  | 40 => .array .int
  | 41 => .int
  | 42 => .boolean
  | 43 => .int
  | 44 => .int
  | 45 => .int
  | 46 => .int
  | 47 => .int
  | 48 => .int
  | 49 => .array .int
  | 50 => .array .int
  | 51 => .array .int
  | 52 => .int
  | 53 => .array .int
  | 54 => .array .int
  | 55 => .int
  | 56 => .int
  | 57 => .int
  | 58 => .array .int
  | 59 => .array .int
  | 60 => .array .long
  | _ => .array .long
abbrev wsX100 : List Cond := u_ws RX10 TX10 62
theorem nmX10 : ∀ a, a < 62 → ∀ b, b < 62 → a ≠ b → (TX10 a).2.1 ≠ (TX10 b).2.1 := by decide +kernel
theorem tyX10_ok : ∀ k, k < 62 → parseFieldDescriptor (TX10 k).2.2.1 = some (tyX10 k) := by decide +kernel
abbrev cX10_within : ByteArray := prog_12_method_1_code
def yX10_within : MethodName := ⟨RX10, "within", "(JJJ)Z"⟩
abbrev cX10_bitsOf : ByteArray := prog_12_method_2_code
def yX10_bitsOf : MethodName := ⟨RX10, "bitsOf", "(I)I"⟩
abbrev cX10_isIn : ByteArray := prog_12_method_3_code
def yX10_isIn : MethodName := ⟨RX10, "isIn", "(II)Z"⟩
abbrev cX10_init : ByteArray := prog_12_method_4_code
def yX10_init : MethodName := ⟨RX10, "<init>", "()V"⟩
abbrev cX10_becomes : ByteArray := prog_12_method_5_code
def yX10_becomes : MethodName := ⟨RX10, "becomes", "(II)I"⟩
abbrev cX10_undo : ByteArray := prog_12_method_6_code
def yX10_undo : MethodName := ⟨RX10, "undo", "()I"⟩
abbrev cX10_redo : ByteArray := prog_12_method_7_code
def yX10_redo : MethodName := ⟨RX10, "redo", "()I"⟩
abbrev cX10_isThing : ByteArray := prog_12_method_8_code
def yX10_isThing : MethodName := ⟨RX10, "isThing", "(I)Z"⟩
abbrev cX10_isCustomer : ByteArray := prog_12_method_9_code
def yX10_isCustomer : MethodName := ⟨RX10, "isCustomer", "(I)Z"⟩
abbrev cX10_thing : ByteArray := prog_12_method_10_code
def yX10_thing : MethodName := ⟨RX10, "thing", "(I)I"⟩
abbrev cX10_adds : ByteArray := prog_12_method_11_code
def yX10_adds : MethodName := ⟨RX10, "adds", "(III)V"⟩
abbrev cX10_customer : ByteArray := prog_12_method_12_code
def yX10_customer : MethodName := ⟨RX10, "customer", "(II)I"⟩
abbrev cX10_customers : ByteArray := prog_12_method_13_code
def yX10_customers : MethodName := ⟨RX10, "customers", "(III)I"⟩
abbrev cX10_isKn : ByteArray := prog_12_method_14_code
def yX10_isKn : MethodName := ⟨RX10, "isKn", "(I)Z"⟩
abbrev cX10_mend : ByteArray := prog_12_method_15_code
def yX10_mend : MethodName := ⟨RX10, "mend", "(III)I"⟩
abbrev cX10_placeOf : ByteArray := prog_12_method_16_code
def yX10_placeOf : MethodName := ⟨RX10, "placeOf", "(I)I"⟩
abbrev cX10_ofCustomer : ByteArray := prog_12_method_17_code
def yX10_ofCustomer : MethodName := ⟨RX10, "ofCustomer", "(II)I"⟩
abbrev cX10_of : ByteArray := prog_12_method_18_code
def yX10_of : MethodName := ⟨RX10, "of", "(II)I"⟩
abbrev cX10_swap : ByteArray := prog_12_method_19_code
def yX10_swap : MethodName := ⟨RX10, "swap", "(I)I"⟩
abbrev cX10_wishOf : ByteArray := prog_12_method_20_code
def yX10_wishOf : MethodName := ⟨RX10, "wishOf", "(II)I"⟩
abbrev cX10_feed : ByteArray := prog_12_method_21_code
def yX10_feed : MethodName := ⟨RX10, "feed", "(I)I"⟩
abbrev cX10_byteAt : ByteArray := prog_12_method_22_code
def yX10_byteAt : MethodName := ⟨RX10, "byteAt", "()I"⟩
abbrev cX10_wrong : ByteArray := prog_12_method_23_code
def yX10_wrong : MethodName := ⟨RX10, "wrong", "()I"⟩
abbrev cX10_takes : ByteArray := prog_12_method_24_code
def yX10_takes : MethodName := ⟨RX10, "takes", "(I)Z"⟩
abbrev cX10_either : ByteArray := prog_12_method_25_code
def yX10_either : MethodName := ⟨RX10, "either", "()I"⟩
abbrev cX10_both : ByteArray := prog_12_method_26_code
def yX10_both : MethodName := ⟨RX10, "both", "()I"⟩
abbrev cX10_compared : ByteArray := prog_12_method_27_code
def yX10_compared : MethodName := ⟨RX10, "compared", "()I"⟩
abbrev cX10_sums : ByteArray := prog_12_method_28_code
def yX10_sums : MethodName := ⟨RX10, "sums", "()I"⟩
abbrev cX10_product : ByteArray := prog_12_method_29_code
def yX10_product : MethodName := ⟨RX10, "product", "()I"⟩
abbrev cX10_nameOf : ByteArray := prog_12_method_30_code
def yX10_nameOf : MethodName := ⟨RX10, "nameOf", "(I)I"⟩
abbrev cX10_one : ByteArray := prog_12_method_31_code
def yX10_one : MethodName := ⟨RX10, "one", "()I"⟩
abbrev cX10_workOut : ByteArray := prog_12_method_32_code
def yX10_workOut : MethodName := ⟨RX10, "workOut", "(II)I"⟩
abbrev cX10_law : ByteArray := prog_12_method_33_code
def yX10_law : MethodName := ⟨RX10, "law", "()I"⟩
abbrev cX10_numberOf : ByteArray := prog_12_method_34_code
def yX10_numberOf : MethodName := ⟨RX10, "numberOf", "(IIII)I"⟩
abbrev cX10_ruled : ByteArray := prog_12_method_35_code
def yX10_ruled : MethodName := ⟨RX10, "ruled", "(IIIII)I"⟩
abbrev cX10_buysOne : ByteArray := prog_12_method_36_code
def yX10_buysOne : MethodName := ⟨RX10, "buysOne", "(II)V"⟩
abbrev cX10_takesUp : ByteArray := prog_12_method_37_code
def yX10_takesUp : MethodName := ⟨RX10, "takesUp", "(III)V"⟩
abbrev cX10_rises : ByteArray := prog_12_method_38_code
def yX10_rises : MethodName := ⟨RX10, "rises", "()V"⟩
abbrev cX10_visits : ByteArray := prog_12_method_39_code
def yX10_visits : MethodName := ⟨RX10, "visits", "(IIII)V"⟩
abbrev cX10_opens : ByteArray := prog_12_method_40_code
def yX10_opens : MethodName := ⟨RX10, "opens", "()V"⟩
abbrev cX10_goesDay : ByteArray := prog_12_method_41_code
def yX10_goesDay : MethodName := ⟨RX10, "goesDay", "(IIII)V"⟩
abbrev cX10_plainDay : ByteArray := prog_12_method_42_code
def yX10_plainDay : MethodName := ⟨RX10, "plainDay", "()V"⟩
abbrev cX10_lineUp : ByteArray := prog_12_method_43_code
def yX10_lineUp : MethodName := ⟨RX10, "lineUp", "()V"⟩
abbrev cX10_today : ByteArray := prog_12_method_44_code
def yX10_today : MethodName := ⟨RX10, "today", "()V"⟩
abbrev cX10_measured : ByteArray := prog_12_method_45_code
def yX10_measured : MethodName := ⟨RX10, "measured", "(I)I"⟩
abbrev cX10_buys : ByteArray := prog_12_method_46_code
def yX10_buys : MethodName := ⟨RX10, "buys", "(I)I"⟩
abbrev cX10_day : ByteArray := prog_12_method_47_code
def yX10_day : MethodName := ⟨RX10, "day", "(I)I"⟩
abbrev cX10_rowIsOut : ByteArray := prog_12_method_48_code
def yX10_rowIsOut : MethodName := ⟨RX10, "rowIsOut", "(II)V"⟩
abbrev cX10_rowsOn : ByteArray := prog_12_method_49_code
def yX10_rowsOn : MethodName := ⟨RX10, "rowsOn", "(IIII)V"⟩
abbrev cX10_order : ByteArray := prog_12_method_50_code
def yX10_order : MethodName := ⟨RX10, "order", "(II)I"⟩
abbrev cX10_changesPlaces : ByteArray := prog_12_method_51_code
def yX10_changesPlaces : MethodName := ⟨RX10, "changesPlaces", "(II)V"⟩
abbrev cX10_change : ByteArray := prog_12_method_52_code
def yX10_change : MethodName := ⟨RX10, "change", "(I)I"⟩
abbrev cX10_place : ByteArray := prog_12_method_53_code
def yX10_place : MethodName := ⟨RX10, "place", "(I)I"⟩
abbrev cX10_friends : ByteArray := prog_12_method_54_code
def yX10_friends : MethodName := ⟨RX10, "friends", "(I)I"⟩
abbrev cX10_nephew : ByteArray := prog_12_method_55_code
def yX10_nephew : MethodName := ⟨RX10, "nephew", "(I)I"⟩
abbrev cX10_price : ByteArray := prog_12_method_56_code
def yX10_price : MethodName := ⟨RX10, "price", "(I)I"⟩
abbrev cX10_enough : ByteArray := prog_12_method_57_code
def yX10_enough : MethodName := ⟨RX10, "enough", "(I)I"⟩
abbrev cX10_riseFor : ByteArray := prog_12_method_58_code
def yX10_riseFor : MethodName := ⟨RX10, "riseFor", "()I"⟩
abbrev cX10_visit : ByteArray := prog_12_method_59_code
def yX10_visit : MethodName := ⟨RX10, "visit", "()I"⟩
abbrev cX10_evening : ByteArray := prog_12_method_60_code
def yX10_evening : MethodName := ⟨RX10, "evening", "()I"⟩
abbrev cX10_led : ByteArray := prog_12_method_61_code
def yX10_led : MethodName := ⟨RX10, "led", "(II)I"⟩
abbrev cX10_drawn : ByteArray := prog_12_method_62_code
def yX10_drawn : MethodName := ⟨RX10, "drawn", "(III)I"⟩
abbrev cX10_rowIs : ByteArray := prog_12_method_63_code
def yX10_rowIs : MethodName := ⟨RX10, "rowIs", "(I)I"⟩
abbrev cX10_isAs : ByteArray := prog_12_method_64_code
def yX10_isAs : MethodName := ⟨RX10, "isAs", "(JI)Z"⟩
abbrev cX10_isAsTold : ByteArray := prog_12_method_65_code
def yX10_isAsTold : MethodName := ⟨RX10, "isAsTold", "(I)Z"⟩
abbrev cX10_judge : ByteArray := prog_12_method_66_code
def yX10_judge : MethodName := ⟨RX10, "judge", "(I)I"⟩
abbrev cX10_whose : ByteArray := prog_12_method_67_code
def yX10_whose : MethodName := ⟨RX10, "whose", "(I)I"⟩
abbrev cX10_image : ByteArray := prog_12_method_68_code
def yX10_image : MethodName := ⟨RX10, "image", "()I"⟩
abbrev cX10_back : ByteArray := prog_12_method_69_code
def yX10_back : MethodName := ⟨RX10, "back", "()I"⟩
abbrev cX10_isBody : ByteArray := prog_12_method_70_code
def yX10_isBody : MethodName := ⟨RX10, "isBody", "(I)Z"⟩
abbrev cX10_kindOf : ByteArray := prog_12_method_71_code
def yX10_kindOf : MethodName := ⟨RX10, "kindOf", "(I)I"⟩
abbrev cX10_body : ByteArray := prog_12_method_72_code
def yX10_body : MethodName := ⟨RX10, "body", "(I)I"⟩
abbrev cX10_above : ByteArray := prog_12_method_73_code
def yX10_above : MethodName := ⟨RX10, "above", "(I)I"⟩
abbrev cX10_begins : ByteArray := prog_12_method_74_code
def yX10_begins : MethodName := ⟨RX10, "begins", "(I)V"⟩
abbrev cX10_takesAs : ByteArray := prog_12_method_75_code
def yX10_takesAs : MethodName := ⟨RX10, "takesAs", "(II)I"⟩
abbrev cX10_buysAs : ByteArray := prog_12_method_76_code
def yX10_buysAs : MethodName := ⟨RX10, "buysAs", "(II)I"⟩
abbrev cX10_putsAs : ByteArray := prog_12_method_77_code
def yX10_putsAs : MethodName := ⟨RX10, "putsAs", "(II)I"⟩
abbrev cX10_tellsAs : ByteArray := prog_12_method_78_code
def yX10_tellsAs : MethodName := ⟨RX10, "tellsAs", "(II)I"⟩
abbrev cX10_act : ByteArray := prog_12_method_79_code
def yX10_act : MethodName := ⟨RX10, "act", "(III)I"⟩
abbrev cX10_trace : ByteArray := prog_12_method_80_code
def yX10_trace : MethodName := ⟨RX10, "trace", "(I)I"⟩
abbrev cX10_isShelf : ByteArray := prog_12_method_81_code
def yX10_isShelf : MethodName := ⟨RX10, "isShelf", "(I)Z"⟩
abbrev cX10_keep : ByteArray := prog_12_method_82_code
def yX10_keep : MethodName := ⟨RX10, "keep", "(II)I"⟩
abbrev cX10_row : ByteArray := prog_12_method_83_code
def yX10_row : MethodName := ⟨RX10, "row", "(III)I"⟩
abbrev cX10_refusal : ByteArray := prog_12_method_84_code
def yX10_refusal : MethodName := ⟨RX10, "refusal", "(II)I"⟩
abbrev cX10_asSort : ByteArray := prog_12_method_85_code
def yX10_asSort : MethodName := ⟨RX10, "asSort", "(IJ)J"⟩
abbrev cX10_put : ByteArray := prog_12_method_86_code
def yX10_put : MethodName := ⟨RX10, "put", "(IIJ)I"⟩
abbrev cX10_element : ByteArray := prog_12_method_87_code
def yX10_element : MethodName := ⟨RX10, "element", "(II)J"⟩
abbrev cX10_shift : ByteArray := prog_12_method_88_code
def yX10_shift : MethodName := ⟨RX10, "shift", "(IIIII)I"⟩
abbrev cX10_taken : ByteArray := prog_12_method_89_code
def yX10_taken : MethodName := ⟨RX10, "taken", "(II)I"⟩
abbrev cX10_count : ByteArray := prog_12_method_90_code
def yX10_count : MethodName := ⟨RX10, "count", "(I)I"⟩
def RJ6 : String := "java/lang/Integer"
def TJ6 : u_T := fun k => match k with
  | _ => ("", "", "", false)
def tyJ6 : Nat → FieldType := fun k => match k with
  | _ => .int
abbrev wsJ60 : List Cond := u_ws RJ6 TJ6 0
theorem nmJ6 : ∀ a, a < 0 → ∀ b, b < 0 → a ≠ b → (TJ6 a).2.1 ≠ (TJ6 b).2.1 := by decide +kernel
theorem tyJ6_ok : ∀ k, k < 0 → parseFieldDescriptor (TJ6 k).2.2.1 = some (tyJ6 k) := by decide +kernel
abbrev cJ6_bitCount_0f7a4 : ByteArray := prog_13_method_49_code
def yJ6_bitCount_0f7a4 : MethodName := ⟨RJ6, "bitCount", "(I)I"⟩
def RJ9 : String := "java/lang/Math"
def TJ9 : u_T := fun k => match k with
  | _ => ("", "", "", false)
def tyJ9 : Nat → FieldType := fun k => match k with
  | _ => .int
abbrev wsJ90 : List Cond := u_ws RJ9 TJ9 0
theorem nmJ9 : ∀ a, a < 0 → ∀ b, b < 0 → a ≠ b → (TJ9 a).2.1 ≠ (TJ9 b).2.1 := by decide +kernel
theorem tyJ9_ok : ∀ k, k < 0 → parseFieldDescriptor (TJ9 k).2.2.1 = some (tyJ9 k) := by decide +kernel
abbrev cJ9_max_7cf53 : ByteArray := prog_14_method_65_code
def yJ9_max_7cf53 : MethodName := ⟨RJ9, "max", "(II)I"⟩
abbrev cJ9_min_7cf53 : ByteArray := prog_14_method_69_code
def yJ9_min_7cf53 : MethodName := ⟨RJ9, "min", "(II)I"⟩
def RJ10 : String := "java/lang/System"
def TJ10 : u_T := fun k => match k with
  | _ => ("", "", "", false)
def tyJ10 : Nat → FieldType := fun k => match k with
  | _ => .int
abbrev wsJ100 : List Cond := u_ws RJ10 TJ10 0
theorem nmJ10 : ∀ a, a < 0 → ∀ b, b < 0 → a ≠ b → (TJ10 a).2.1 ≠ (TJ10 b).2.1 := by decide +kernel
theorem tyJ10_ok : ∀ k, k < 0 → parseFieldDescriptor (TJ10 k).2.2.1 = some (tyJ10 k) := by decide +kernel
def RJ7 : String := "java/util/Arrays"
def TJ7 : u_T := fun k => match k with
  | _ => ("", "", "", false)
def tyJ7 : Nat → FieldType := fun k => match k with
  | _ => .int
abbrev wsJ70 : List Cond := u_ws RJ7 TJ7 0
theorem nmJ7 : ∀ a, a < 0 → ∀ b, b < 0 → a ≠ b → (TJ7 a).2.1 ≠ (TJ7 b).2.1 := by decide +kernel
theorem tyJ7_ok : ∀ k, k < 0 → parseFieldDescriptor (TJ7 k).2.2.1 = some (tyJ7 k) := by decide +kernel
abbrev cJ7_fill_53178 : ByteArray := prog_16_method_103_code
def yJ7_fill_53178 : MethodName := ⟨RJ7, "fill", "([II)V"⟩
def RL : String := "LeftByLastLaw"
abbrev cL_law : ByteArray := code
def yL_law : MethodName := ⟨RL, "law", "([I)Z"⟩
abbrev vwCl : List vw_C := [(RX0, TX0, 5), (RX1, TX1, 6), (RX2, TX2, 12), (RX3, TX3, 8), (RX4, TX4, 11), (RX5, TX5, 6), (RX6, TX6, 4), (RX7, TX7, 14), (RX8, TX8, 4), (RX9, TX9, 8), (RX10, TX10, 62)]
end
section
/-! the abstract machine: values, a store of numbered objects, one instruction a step; calls by a relation -/
abbrev rf_E : Type := Nat × Int × Nat × Nat × Nat × Nat × List (Int × Nat)
abbrev rf_M : Type := (MethodName × ByteArray × Nat × Option FieldType × String) × (Nat × Nat × Nat × Nat × Nat × List Nat) × (Nat → Option rf_E)
abbrev rf_L : Type := List (Nat × Value)
abbrev rf_S : Type := List va_E
abbrev rf_A : Type := Nat → Option (Nat × (Nat → Int32))
abbrev rf_P : Type := Option Value → rf_S → Prop
def rf_fld (ci k : Nat) : String × String × String × Bool := match vwCl[ci]? with
  | some q => q.2.1 k
  | none => ("", "", "", false)
def rf_fty (ci k : Nat) : FieldType := match ci with
  | 0 => tyX0 k
  | 1 => tyX1 k
  | 2 => tyX2 k
  | 3 => tyX3 k
  | 4 => tyX4 k
  | 5 => tyX5 k
  | 6 => tyX6 k
  | 7 => tyX7 k
  | 8 => tyX8 k
  | 9 => tyX9 k
  | _ => tyX10 k
def rf_num (ci : Nat) : Nat := match vwCl[ci]? with
  | some q => q.2.2
  | none => 0
/-! the checks: an entry is what the bytes hold, and its link stands in the tables -/
def rf_tb : List Jvm.Cond := lw_tbl.filter goodWord
def rf_dec (cc : ByteArray) (pc : Nat) (i : Instr) (n nxt : Nat) : Bool := decide (decode cc pc = .ok (i, n)) && Nat.beq nxt (pc + n)
def rf_lk (i : Nat) (w : Cond) : Bool := decide (lw_tbl[i]? = some w)
def rf_c4 (b : Nat) : Fin 4 := Fin.ofNat 4 b
def rf_cop (b : Nat) : Jvm.ClassFile.Cond := match b with
  | 0 => .eq
  | 1 => .ne
  | 2 => .lt
  | 3 => .ge
  | 4 => .gt
  | _ => .le
def rf_pl (d : String) : Option Nat := (parseMethodDescriptor d).map (fun q => q.parameters.length)
def rf_okc (c : String) : Bool := decide (c ≠ "java/lang/invoke/MethodHandle") && decide (c ≠ "java/lang/invoke/VarHandle")
/-- the pairs of a table switch, out of its offsets -/
def rf_tsw (pc : Nat) : Int → List Int → List (Int × Nat) → Bool
  | _, [], [] => true
  | lo, o :: os, (k, t) :: r => decide (k = lo) && decide ((pc : Int) + o = (t : Int)) && rf_tsw pc (lo + 1) os r
  | _, _, _ => false
def rf_lsw (pc : Nat) : List (Int × Int) → List (Int × Nat) → Bool
  | [], [] => true
  | (k, o) :: r, (k', t) :: r' => decide (k = k') && decide ((pc : Int) + o = (t : Int)) && rf_lsw pc r r'
  | _, _ => false
def rf_chk (ms : List rf_M) (own : String) (cc : ByteArray) (nm : String) (nL : Nat) (ret : Option FieldType) (pc : Nat) (E : rf_E) : Bool :=
  match E with
  | (op, a, b, c, x, nxt, sw) =>
  match op with
  | 0 => (match c with
    | 0 => rf_dec cc pc (.iconst a) 1 nxt
    | 1 => rf_dec cc pc (.bipush a) 2 nxt && decide ((Int8.ofInt a).toInt32 = Int32.ofInt a)
    | 2 => rf_dec cc pc (.sipush a) 3 nxt && decide ((Int16.ofInt a).toInt32 = Int32.ofInt a)
    | 3 => rf_dec cc pc (.ldc b) 2 nxt && rf_lk x (.constant own b (Int32.ofInt a))
    | _ => rf_dec cc pc (.ldc_w b) 3 nxt && rf_lk x (.constant own b (Int32.ofInt a)))
  | 1 => (match c with
    | 0 => rf_dec cc pc (.lconst (Fin.ofNat 2 b)) 1 nxt && decide (Int64.ofNat ((Fin.ofNat 2 b : Fin 2) : Nat) = Int64.ofInt a)
    | _ => rf_dec cc pc (.ldc2_w b) 3 nxt && rf_lk x (.constantLong own b (Int64.ofInt a)))
  | 2 => (match c with
    | 0 => rf_dec cc pc (.iload_n (rf_c4 b)) 1 nxt && Nat.blt b 4
    | _ => rf_dec cc pc (.iload b) 2 nxt)
  | 3 => (match c with
    | 0 => rf_dec cc pc (.lload_n (rf_c4 b)) 1 nxt && Nat.blt b 4
    | _ => rf_dec cc pc (.lload b) 2 nxt)
  | 4 => (match c with
    | 0 => rf_dec cc pc (.aload_n (rf_c4 b)) 1 nxt && Nat.blt b 4
    | _ => rf_dec cc pc (.aload b) 2 nxt)
  | 5 => (match c with
    | 0 => rf_dec cc pc (.istore_n (rf_c4 b)) 1 nxt && Nat.blt b 4
    | _ => rf_dec cc pc (.istore b) 2 nxt) && Nat.blt b nL
  | 6 => (match c with
    | 0 => rf_dec cc pc (.astore_n (rf_c4 b)) 1 nxt && Nat.blt b 4
    | _ => rf_dec cc pc (.astore b) 2 nxt) && Nat.blt b nL
  | 8 => rf_dec cc pc (.iinc b a) 3 nxt && Nat.blt b nL
  | 9 => (match b with
    | 0 => rf_dec cc pc .iadd 1 nxt
    | 1 => rf_dec cc pc .isub 1 nxt
    | 2 => rf_dec cc pc .imul 1 nxt
    | 3 => rf_dec cc pc .iand 1 nxt
    | 4 => rf_dec cc pc .ior 1 nxt
    | 5 => rf_dec cc pc .ixor 1 nxt
    | 6 => rf_dec cc pc .ishl 1 nxt
    | 7 => rf_dec cc pc .ishr 1 nxt
    | _ => rf_dec cc pc .iushr 1 nxt)
  | 10 => rf_dec cc pc .idiv 1 nxt
  | 11 => rf_dec cc pc .irem 1 nxt
  | 12 => rf_dec cc pc .ineg 1 nxt
  | 13 => rf_dec cc pc .i2l 1 nxt
  | 14 => rf_dec cc pc .l2i 1 nxt
  | 15 => rf_dec cc pc .i2b 1 nxt
  | 16 => rf_dec cc pc .i2s 1 nxt
  | 17 => (match b with
    | 0 => rf_dec cc pc .land 1 nxt
    | _ => rf_dec cc pc .lor 1 nxt)
  | 18 => rf_dec cc pc .lshl 1 nxt
  | 19 => rf_dec cc pc .lcmp 1 nxt
  | 20 => rf_dec cc pc .dup 1 nxt
  | 21 => rf_dec cc pc .dup_x1 1 nxt
  | 22 => rf_dec cc pc .dup2 1 nxt
  | 23 => rf_dec cc pc .pop 1 nxt
  | 24 => rf_dec cc pc .pop2 1 nxt
  | 25 => rf_dec cc pc (.ifCond (rf_cop b) a) 3 nxt && decide ((pc : Int) + a = (c : Int))
  | 26 => rf_dec cc pc (.if_icmp (rf_cop b) a) 3 nxt && decide ((pc : Int) + a = (c : Int))
  | 27 => rf_dec cc pc (.goto a) 3 nxt && decide ((pc : Int) + a = (c : Int))
  | 28 => (match decode cc pc with
    | .ok (.lookupswitch d ps, _) => decide ((pc : Int) + d = (c : Int)) && rf_lsw pc ps.toList sw && (ps.toList.zip (ps.toList.drop 1)).all (fun (a, next) => a.1 < next.1)
    | .ok (.tableswitch d lo hi offs, _) => decide ((pc : Int) + d = (c : Int)) && decide (hi = lo + (offs.size : Int) - 1) && rf_tsw pc lo offs.toList sw
    | _ => false)
  | 29 => rf_dec cc pc (.getfield a.toNat) 3 nxt && rf_lk x (.fieldLink own a.toNat (rf_fld b c).1 (rf_fld b c).2.1 (rf_fld b c).2.2.1) && Nat.blt c (rf_num b) && Nat.blt b 11
  | 30 => rf_dec cc pc (.putfield a.toNat) 3 nxt && rf_lk x (.fieldLink own a.toNat (rf_fld b c).1 (rf_fld b c).2.1 (rf_fld b c).2.2.1) && Nat.blt c (rf_num b) && Nat.blt b 11 && (!(rf_fld b c).2.2.2 || (decide (nm = "<init>") && decide ((rf_fld b c).1 = own)))
  | 31 => (match b with
    | 0 => rf_dec cc pc (.getstatic a.toNat) 3 nxt && rf_lk x (.fieldLink own a.toNat "LeftByLast$Acts" "BODY" "[I")
    | 1 => rf_dec cc pc (.getstatic a.toNat) 3 nxt && rf_lk x (.fieldLink own a.toNat "LeftByLast$Acts" "ABOVE" "[I")
    | _ => false)
  | 32 => rf_dec cc pc .iaload 1 nxt
  | 33 => rf_dec cc pc .iastore 1 nxt
  | 34 => rf_dec cc pc .laload 1 nxt
  | 35 => rf_dec cc pc .lastore 1 nxt
  | 36 => rf_dec cc pc .aaload 1 nxt
  | 37 => rf_dec cc pc .aastore 1 nxt
  | 38 => rf_dec cc pc .arraylength 1 nxt
  | 39 => rf_dec cc pc (.new a.toNat) 3 nxt && Nat.blt b 11 && (match vwCl[b]? with
    | some q => rf_lk x (.classLink own a.toNat q.1)
    | none => false)
  | 40 => (match b with
    | 0 => rf_dec cc pc (.newarray .int) 2 nxt
    | _ => rf_dec cc pc (.newarray .long) 2 nxt)
  | 41 => rf_dec cc pc (.anewarray a.toNat) 3 nxt && rf_lk x (.classLink own a.toNat "LeftByLast$Moment")
  | 42 => rf_dec cc pc (.invokespecial a.toNat) 3 nxt && rf_lk x (.methodLink own a.toNat objectInit)
  | 43 => rf_dec cc pc (.invokestatic a.toNat) 3 nxt && rf_lk x (.methodLink own a.toNat arraycopyName)
  | 44 => rf_dec cc pc (.invokestatic a.toNat) 3 nxt && rf_lk x (.methodLink own a.toNat Lib.Math.max.name)
  | 45 => rf_dec cc pc (.invokestatic a.toNat) 3 nxt && rf_lk x (.methodLink own a.toNat Lib.Math.min.name)
  | 46 => (match ms[b]? with
    | none => false
    | some mj => (match mj.2.1.1 with
      | 0 => rf_dec cc pc (.invokestatic a.toNat) 3 nxt && decide (rf_pl mj.1.1.desc = some c)
      | 1 => rf_dec cc pc (.invokevirtual a.toNat) 3 nxt && decide (rf_pl mj.1.1.desc = some (c - 1)) && Nat.blt 0 c
      | _ => rf_dec cc pc (.invokespecial a.toNat) 3 nxt && decide (rf_pl mj.1.1.desc = some (c - 1)) && Nat.blt 0 c && decide (mj.1.1.name = "<init>") && decide (mj.1.2.2.2.1 = none)) && (match sw with
        | [] => rf_lk x (.methodLink own a.toNat mj.1.1)
        | _ => rf_lk x (.methodLinkNest own a.toNat mj.1.1 "LeftByLast")))
  | 47 => rf_dec cc pc .return_ 1 nxt && decide (ret = none)
  | 48 => rf_dec cc pc .ireturn 1 nxt && decide (ret = some .int ∨ ret = some .boolean)
  | 49 => rf_dec cc pc .lreturn 1 nxt && decide (ret = some .long)
  | 50 => rf_dec cc pc .areturn 1 nxt && (match ret with
    | some (.object _) => true
    | _ => false)
  | _ => false
def rf_chkT (ms : List rf_M) (mi : rf_M) (n : Nat) : Bool := (List.range n).all fun pc => match mi.2.2 pc with
  | none => true
  | some E => rf_chk ms mi.1.2.2.2.2 mi.1.2.1 mi.1.1.name mi.1.2.2.1 mi.1.2.2.2.1 pc E
/-- a stretch of a long method -/
def rf_chkR (ms : List rf_M) (mi : rf_M) (a n : Nat) : Bool := (List.range n).all fun i => match mi.2.2 (a + i) with
  | none => true
  | some E => rf_chk ms mi.1.2.2.2.2 mi.1.2.1 mi.1.1.name mi.1.2.2.1 mi.1.2.2.2.1 (a + i) E
def rf_chkW (mi : rf_M) : Bool := match mi.2.1.2.2.2.2.2 with
  | [i0, i1, i2, i3] => rf_lk i0 (.code mi.1.1 mi.1.2.1 mi.1.2.2.1 mi.1.2.2.2.1) && rf_lk i1 (.initialized mi.1.1.cls) && rf_okc mi.1.1.cls && plainName mi.1.1.cls && decide (mi.1.1.cls = mi.1.2.2.2.2) && Nat.ble mi.1.2.2.1 40 && (match mi.2.1.1 with
    | 0 => rf_lk i2 (.static mi.1.1)
    | 1 => rf_lk i2 (.instanceMethod mi.1.1) && rf_lk i3 (.selects mi.1.1.cls mi.1.1 mi.1.1) && decide ((vwCl[mi.2.1.2.2.2.2.1]?).map (·.1) = some mi.1.1.cls)
    | _ => rf_lk i2 (.instanceMethod mi.1.1))
  | _ => false
/-- a table, and nothing beyond n -/
def rf_gd (n : Nat) (t : Nat → Option rf_E) : Nat → Option rf_E := fun pc => bif Nat.blt pc n then t pc else none
theorem rf_gd_lt {n : Nat} {t : Nat → Option rf_E} {pc : Nat} {E : rf_E} (h : rf_gd n t pc = some E) : pc < n := by
  unfold rf_gd at h
  cases hb : Nat.blt pc n with
  | false => rw [hb] at h; cases h
  | true => exact Nat.le_of_ble_eq_true hb
theorem rf_chkR_at {ms : List rf_M} {mi : rf_M} {a n pc : Nat} {E : rf_E} (h : rf_chkR ms mi a n = true) (hE : mi.2.2 pc = some E) (h1 : a ≤ pc) (h2 : pc < a + n) : rf_chk ms mi.1.2.2.2.2 mi.1.2.1 mi.1.1.name mi.1.2.2.1 mi.1.2.2.2.1 pc E = true := by
  have h3 := List.all_eq_true.mp h (pc - a) (List.mem_range.mpr (by omega))
  rw [show a + (pc - a) = pc by omega, hE] at h3
  exact h3
end
section
/-! the abstract machine -/
def rf_fit : FieldType → Value → Bool
  | .int, .int _ => true
  | .boolean, .int x => decide (x = 0 ∨ x = 1)
  | .object _, .ref _ => true
  | .array _, .ref _ => true
  | _, _ => false
def rf_mv (ad : Nat → Nat) : Value → Value
  | .ref i => .ref (ad i)
  | v => v
def rf_mo (ad : Nat → Nat) (aC : Nat → ClassId) : va_E → va_E
  | .inl (k, n, .inr (.inr (.inr (.inr f)))) => .inl (aC k, n, .inr (.inr (.inr (.inr fun j => (f j).map ad))))
  | .inl (k, n, .inr (.inr (.inr (.inl f)))) => .inl (aC k, n, .inr (.inr (.inr (.inl f))))
  | .inl (k, n, .inr (.inr (.inl f))) => .inl (aC k, n, .inr (.inr (.inl f)))
  | .inl (k, n, .inr (.inl f)) => .inl (aC k, n, .inr (.inl f))
  | .inl (k, n, .inl f) => .inl (aC k, n, .inl f)
  | .inr (ci, fs) => .inr (ci, fs.map (rf_mv ad))
def rf_ws (ad : Nat → Nat) (aC : Nat → ClassId) (σ : rf_S) : va_W := σ.mapIdx fun i o => (ad i, rf_mo ad aC o)
def rf_mL (ad : Nat → Nat) (L : rf_L) : rf_L := L.map fun q => (q.1, rf_mv ad q.2)
def rf_tys (aC : Nat → ClassId) : List (ClassId × FieldType) := [(aC 0, .int), (aC 1, .long), (aC 2, .object "LeftByLast$Moment")]
def rf_get (L : rf_L) (i : Nat) : Option Value := (L.find? (fun q => q.1 == i)).map (·.2)
def rf_set (L : rf_L) (i : Nat) (v : Value) : rf_L := (i, v) :: L.filter (fun q => !(q.1 == i) && !(q.1 + 1 == i && q.2.category == 2))
def rf_cat (st : List Value) : Nat := (st.map fun v => v.category).sum
def rf_cmp (b : Nat) (x y : Int32) : Bool := match b with
  | 0 => decide (x = y)
  | 1 => !decide (x = y)
  | 2 => decide (x < y)
  | 3 => decide (y ≤ x)
  | 4 => decide (y < x)
  | _ => decide (x ≤ y)
def rf_bin (b : Nat) (x y : Int32) : Int32 := match b with
  | 0 => x + y
  | 1 => x - y
  | 2 => x * y
  | 3 => x &&& y
  | 4 => x ||| y
  | 5 => x ^^^ y
  | 6 => x <<< (y &&& 31)
  | 7 => x >>> (y &&& 31)
  | _ => (x.toUInt32 >>> (y.toUInt32 &&& Int32.toUInt32 31)).toInt32
def rf_ixs (i : Int32) (n : Nat) : Bool := decide (¬ i < 0) && decide (i.toNatClampNeg < n)
def rf_sw (sw : List (Int × Nat)) (d : Nat) (x : Int) : Nat := match sw with
  | [] => d
  | (k, t) :: r => bif decide (x = k) then t else rf_sw r d x
/-- a reference that a store of n objects knows -/
def rf_wfv (n : Nat) : Value → Bool
  | .ref i => Nat.blt i n || Nat.ble 1000000 i
  | _ => true
def rf_wfl (n : Nat) (L : rf_L) (st : List Value) : Bool := L.all (fun q => rf_wfv n q.2) && st.all (rf_wfv n)
def rf_wfo (n : Nat) : va_E → Prop
  | .inl (_, _, .inr (.inr (.inr (.inr f)))) => ∀ j i, f j = some i → i < n
  | .inl _ => True
  | .inr (_, fs) => fs.all (rf_wfv n) = true
def rf_wfs (σ : rf_S) : Prop := ∀ o ∈ σ, rf_wfo σ.length o
/-- one instruction that neither calls, makes nor leaves -/
def rf_stp (SA : rf_A) (E : rf_E) (L : rf_L) (st : List Value) (σ : rf_S) : Option (Nat × rf_L × List Value × rf_S) :=
  match E with
  | (op, a, b, c, x, nxt, sw) =>
  match op with
  | 0 => some (nxt, L, .int (Int32.ofInt a) :: st, σ)
  | 1 => some (nxt, L, .long (Int64.ofInt a) :: st, σ)
  | 2 => match rf_get L b with
    | some (.int v) => some (nxt, L, .int v :: st, σ)
    | _ => none
  | 3 => match rf_get L b with
    | some (.long v) => some (nxt, L, .long v :: st, σ)
    | _ => none
  | 4 => match rf_get L b with
    | some (.ref v) => some (nxt, L, .ref v :: st, σ)
    | _ => none
  | 5 => match st with
    | .int v :: r => some (nxt, rf_set L b (.int v), r, σ)
    | _ => none
  | 6 => match st with
    | .ref v :: r => some (nxt, rf_set L b (.ref v), r, σ)
    | _ => none
  | 8 => match rf_get L b with
    | some (.int v) => some (nxt, rf_set L b (.int (v + Int32.ofInt a)), st, σ)
    | _ => none
  | 9 => match st with
    | .int y :: .int z :: r => some (nxt, L, .int (rf_bin b z y) :: r, σ)
    | _ => none
  | 10 => match st with
    | .int y :: .int z :: r => bif decide (y = 0) then none else some (nxt, L, .int (z / y) :: r, σ)
    | _ => none
  | 11 => match st with
    | .int y :: .int z :: r => bif decide (y = 0) then none else some (nxt, L, .int (z - z / y * y) :: r, σ)
    | _ => none
  | 12 => match st with
    | .int y :: r => some (nxt, L, .int (-y) :: r, σ)
    | _ => none
  | 13 => match st with
    | .int y :: r => some (nxt, L, .long y.toInt64 :: r, σ)
    | _ => none
  | 14 => match st with
    | .long y :: r => some (nxt, L, .int y.toInt32 :: r, σ)
    | _ => none
  | 15 => match st with
    | .int y :: r => some (nxt, L, .int y.toInt8.toInt32 :: r, σ)
    | _ => none
  | 16 => match st with
    | .int y :: r => some (nxt, L, .int y.toInt16.toInt32 :: r, σ)
    | _ => none
  | 17 => match st with
    | .long y :: .long z :: r => some (nxt, L, .long (match b with | 0 => z &&& y | _ => z ||| y) :: r, σ)
    | _ => none
  | 18 => match st with
    | .int y :: .long z :: r => some (nxt, L, .long (z <<< (y.toInt64 &&& 63)) :: r, σ)
    | _ => none
  | 19 => match st with
    | .long y :: .long z :: r => some (nxt, L, .int (lg_cmp z y) :: r, σ)
    | _ => none
  | 20 => match st with
    | v :: r => bif v.category == 1 then some (nxt, L, v :: v :: r, σ) else none
    | _ => none
  | 21 => match st with
    | v :: w :: r => bif v.category == 1 && w.category == 1 then some (nxt, L, v :: w :: v :: r, σ) else none
    | _ => none
  | 22 => match st with
    | v :: w :: r => bif v.category == 1 && w.category == 1 then some (nxt, L, v :: w :: v :: w :: r, σ) else none
    | _ => none
  | 23 => match st with
    | v :: r => bif v.category == 1 then some (nxt, L, r, σ) else none
    | _ => none
  | 24 => match st with
    | v :: r => bif v.category == 2 then some (nxt, L, r, σ) else none
    | _ => none
  | 25 => match st with
    | .int y :: r => some ((bif rf_cmp b y 0 then c else nxt), L, r, σ)
    | _ => none
  | 26 => match st with
    | .int y :: .int z :: r => some ((bif rf_cmp b z y then c else nxt), L, r, σ)
    | _ => none
  | 27 => some (c, L, st, σ)
  | 28 => match st with
    | .int y :: r => some (rf_sw sw c y.toInt, L, r, σ)
    | _ => none
  | 29 => match st with
    | .ref r0 :: r => match σ[r0]? with
      | some (.inr (ci, fs)) => bif Nat.beq ci b then (match fs[c]? with
        | some v => some (nxt, L, v :: r, σ)
        | none => none) else none
      | _ => none
    | _ => none
  | 30 => match st with
    | v :: .ref r0 :: r => match σ[r0]? with
      | some (.inr (ci, fs)) => bif Nat.beq ci b && rf_fit (rf_fty b c) v && Nat.blt c fs.length then some (nxt, L, r, σ.set r0 (.inr (b, fs.set c v))) else none
      | _ => none
    | _ => none
  | 31 => some (nxt, L, .ref (1000000 + b) :: st, σ)
  | 32 => match st with
    | .int i :: .ref r0 :: r => bif Nat.ble 1000000 r0 then (match SA (r0 - 1000000) with
        | some q => bif rf_ixs i q.1 then some (nxt, L, .int (q.2 i.toNatClampNeg) :: r, σ) else none
        | none => none) else (match σ[r0]? with
      | some (.inl (0, n, .inl f)) => bif rf_ixs i n then some (nxt, L, .int (f i.toNatClampNeg) :: r, σ) else none
      | _ => none)
    | _ => none
  | 33 => match st with
    | .int v :: .int i :: .ref r0 :: r => match σ[r0]? with
      | some (.inl (0, n, .inl f)) => bif rf_ixs i n then some (nxt, L, r, σ.set r0 (.inl (0, n, .inl (upd f i.toNatClampNeg v)))) else none
      | _ => none
    | _ => none
  | 34 => match st with
    | .int i :: .ref r0 :: r => match σ[r0]? with
      | some (.inl (1, n, .inr (.inl f))) => bif rf_ixs i n then some (nxt, L, .long (f i.toNatClampNeg) :: r, σ) else none
      | _ => none
    | _ => none
  | 35 => match st with
    | .long v :: .int i :: .ref r0 :: r => match σ[r0]? with
      | some (.inl (1, n, .inr (.inl f))) => bif rf_ixs i n then some (nxt, L, r, σ.set r0 (.inl (1, n, .inr (.inl (vp_updL f i.toNatClampNeg v))))) else none
      | _ => none
    | _ => none
  | 36 => match st with
    | .int i :: .ref r0 :: r => match σ[r0]? with
      | some (.inl (2, n, .inr (.inr (.inr (.inr f))))) => bif rf_ixs i n then (match f i.toNatClampNeg with
        | some q => some (nxt, L, .ref q :: r, σ)
        | none => none) else none
      | _ => none
    | _ => none
  | 37 => match st with
    | .ref v :: .int i :: .ref r0 :: r => match σ[r0]?, σ[v]? with
      | some (.inl (2, n, .inr (.inr (.inr (.inr f))))), some (.inr (5, _)) => bif rf_ixs i n then some (nxt, L, r, σ.set r0 (.inl (2, n, .inr (.inr (.inr (.inr (va_up f i.toNatClampNeg (some v)))))))) else none
      | _, _ => none
    | _ => none
  | 38 => match st with
    | .ref r0 :: r => bif Nat.ble 1000000 r0 then (match SA (r0 - 1000000) with
        | some q => some (nxt, L, .int (Int32.ofNat q.1) :: r, σ)
        | none => none) else (match σ[r0]? with
      | some (.inl (k, n, _)) => bif Nat.blt k 3 then some (nxt, L, .int (Int32.ofNat n) :: r, σ) else none
      | _ => none)
    | _ => none
  | 42 => match st with
    | .ref _ :: r => bif Nat.ble (rf_cat r) 8 then some (nxt, L, r, σ) else none
    | _ => none
  | 43 => match st with
    | .int n :: .int dp :: .ref r1 :: .int sp :: .ref r0 :: r =>
      bif decide (¬ n < 0) && decide (¬ dp < 0) && decide (¬ sp < 0) && Nat.ble (rf_cat r) 8 then (match σ[r0]?, σ[r1]? with
        | some (.inl (0, n0, .inl f)), some (.inl (0, n1, .inl g)) => bif Nat.ble (sp.toNatClampNeg + n.toNatClampNeg) n0 && Nat.ble (dp.toNatClampNeg + n.toNatClampNeg) n1 then some (nxt, L, r, σ.set r1 (.inl (0, n1, .inl (va_cpy f g sp.toNatClampNeg dp.toNatClampNeg n.toNatClampNeg)))) else none
        | some (.inl (1, n0, .inr (.inl f))), some (.inl (1, n1, .inr (.inl g))) => bif Nat.ble (sp.toNatClampNeg + n.toNatClampNeg) n0 && Nat.ble (dp.toNatClampNeg + n.toNatClampNeg) n1 then some (nxt, L, r, σ.set r1 (.inl (1, n1, .inr (.inl (va_cpy f g sp.toNatClampNeg dp.toNatClampNeg n.toNatClampNeg))))) else none
        | _, _ => none) else none
    | _ => none
  | 44 => match st with
    | .int y :: .int z :: r => bif Nat.ble (rf_cat r) 8 then some (nxt, L, .int (if z < y then y else z) :: r, σ) else none
    | _ => none
  | 45 => match st with
    | .int y :: .int z :: r => bif Nat.ble (rf_cat r) 8 then some (nxt, L, .int (if y < z then y else z) :: r, σ) else none
    | _ => none
  | _ => none
/-- an instruction that makes an object: what is left of the stack, the object, its slots -/
def rf_alc (E : rf_E) (st : List Value) : Option (List Value × va_E × Nat) :=
  match E with
  | (op, a, b, c, x, nxt, sw) =>
  match op with
  | 39 => some (st, .inr (b, (List.range (rf_num b)).map (fun k => defaultValue (rf_fty b k))), rf_num b)
  | 40 => match st with
    | .int n :: r => bif decide (¬ n < 0) && Nat.ble n.toNatClampNeg 1000 then (match b with
      | 0 => some (r, .inl (0, n.toNatClampNeg, .inl (fun _ => 0)), n.toNatClampNeg)
      | _ => some (r, .inl (1, n.toNatClampNeg, .inr (.inl (fun _ => 0))), n.toNatClampNeg)) else none
    | _ => none
  | 41 => match st with
    | .int n :: r => bif decide (¬ n < 0) && Nat.ble n.toNatClampNeg 1000 then some (r, .inl (2, n.toNatClampNeg, .inr (.inr (.inr (.inr (fun _ => none))))), n.toNatClampNeg) else none
    | _ => none
  | _ => none
/-- the callee's receiver is of its class -/
def rf_recv (kind ci : Nat) (As : List Value) (σ : rf_S) : Bool := match kind with
  | 0 => true
  | 1 => (match As with
    | .ref r :: _ => (match σ[r]? with
      | some (.inr (cj, _)) => Nat.beq cj ci
      | _ => false)
    | _ => false)
  | _ => (match As with
    | .ref _ :: _ => true
    | _ => false)
def rf_wp (SA : rf_A) (ms : List rf_M) (C : Nat → List Value → rf_S → rf_P → Prop) (mi : rf_M) : Nat → Nat → rf_L → List Value → rf_S → Nat → Nat → rf_P → Prop
  | 0, _, _, _, _, _, _, _ => False
  | n + 1, pc, L, st, σ, u, v, post =>
    match mi.2.2 pc with
    | none => False
    | some E =>
      if E.1 = 46 then
        (match ms[E.2.2.1]? with
        | none => False
        | some mj =>
          E.2.2.2.1 ≤ st.length ∧ rf_cat (st.drop E.2.2.2.1) ≤ 8 ∧ rf_recv mj.2.1.1 mj.2.1.2.2.2.2.1 (st.take E.2.2.2.1).reverse σ = true ∧ u + mj.2.1.2.2.1 ≤ mi.2.1.2.2.1 ∧ v + mj.2.1.2.2.2.1 ≤ mi.2.1.2.2.2.1 ∧
          C E.2.2.1 (st.take E.2.2.2.1).reverse σ (fun rv σ1 => (σ1.length = σ.length ∨ rf_wfl σ.length L (st.drop E.2.2.2.1) = true) ∧ rf_wp SA ms C mi n E.2.2.2.2.2.1 L (rv.toList ++ st.drop E.2.2.2.1) σ1 (u + mj.2.1.2.2.1) (v + mj.2.1.2.2.2.1) post))
      else if 39 ≤ E.1 ∧ E.1 ≤ 41 then
        (match rf_alc E st with
        | none => False
        | some (r, o, w) => σ.length < 1000000 ∧ rf_wfs σ ∧ rf_wfl σ.length L r = true ∧ u + 1 ≤ mi.2.1.2.2.1 ∧ v + w ≤ mi.2.1.2.2.2.1 ∧
          rf_wp SA ms C mi n E.2.2.2.2.2.1 L (.ref σ.length :: r) (σ ++ [o]) (u + 1) (v + w) post)
      else if 47 ≤ E.1 then
        u ≤ mi.2.1.2.2.1 ∧ v ≤ mi.2.1.2.2.2.1 ∧ (match E.1, st with
        | 47, [] => post none σ
        | 48, [.int z] => (narrow (mi.1.2.2.2.1.getD .int) (.int z) = .int z) ∧ post (some (.int z)) σ
        | 49, [.long z] => post (some (.long z)) σ
        | 50, [.ref z] => post (some (.ref z)) σ
        | _, _ => False)
      else
        (match rf_stp SA E L st σ with
        | none => False
        | some (pc', L', st', σ') => rf_wp SA ms C mi n pc' L' st' σ' u v post)
def rf_run (SA : rf_A) (ms : List rf_M) : Nat → Nat → List Value → rf_S → rf_P → Prop
  | 0, _, _, _, _ => False
  | d + 1, k, As, σ, post => ∃ mi, ms[k]? = some mi ∧ (lg_sl As).length ≤ mi.1.2.2.1 ∧ ∃ n, rf_wp SA ms (rf_run SA ms d) mi n 0 (lv_args 0 As) [] σ 0 0 post
end
section
/-! each step of the abstract machine is a walk of the machine -/
theorem rf_dec_ok {cc : ByteArray} {pc : Nat} {i : Instr} {n nxt : Nat} (h : rf_dec cc pc i n nxt = true) : decode cc pc = .ok (i, n) ∧ nxt = pc + n := by
  simp only [rf_dec, Bool.and_eq_true, decide_eq_true_eq] at h
  exact ⟨h.1, Nat.eq_of_beq_eq_true h.2⟩
theorem rf_lk_ok {i : Nat} {w : Jvm.Cond} (h : rf_lk i w = true) : w ∈ lw_tbl := List.mem_of_getElem? (of_decide_eq_true h)
theorem rf_lk_tb {i : Nat} {w : Jvm.Cond} (h : rf_lk i w = true) (hg : goodWord w = true) : w ∈ rf_tb := List.mem_filter.mpr ⟨rf_lk_ok h, hg⟩
theorem rf_get_mem {L : rf_L} {i : Nat} {v : Value} (h : rf_get L i = some v) : (i, v) ∈ L := by
  unfold rf_get at h
  cases hf : L.find? (fun q => q.1 == i) with
  | none => rw [hf] at h; cases h
  | some q =>
    rw [hf] at h
    have h1 := List.find?_some hf
    have h2 := List.mem_of_find?_eq_some hf
    simp only [Option.map_some, Option.some.injEq] at h
    have h3 : q.1 = i := by simpa using h1
    rw [← h, ← h3]
    exact h2
theorem rf_get_at {L : rf_L} {i nL : Nat} {v : Value} {ad : Nat → Nat} {ls : Array Slot} (h : rf_get L i = some v) (hl : lv_has ls nL (rf_mL ad L)) : ls[i]? = some (.val (rf_mv ad v)) :=
  hl.2.2 (i, rf_mv ad v) (List.mem_map.mpr ⟨(i, v), rf_get_mem h, rfl⟩)
theorem rf_mv_cat (ad : Nat → Nat) (v : Value) : (rf_mv ad v).category = v.category := by cases v <;> rfl
theorem rf_cat_map (ad : Nat → Nat) (st : List Value) : ((st.map (rf_mv ad)).map fun v => v.category).sum = rf_cat st := by
  unfold rf_cat
  rw [List.map_map]
  congr 1
  apply List.map_congr_left
  intro v _
  exact rf_mv_cat ad v
theorem rf_mL_set (ad : Nat → Nat) (L : rf_L) (i : Nat) (v : Value) : (i, rf_mv ad v) :: (rf_mL ad L).filter (fun q => !(q.1 == i) && !(q.1 + 1 == i && q.2.category == 2)) = rf_mL ad (rf_set L i v) := by
  unfold rf_set rf_mL
  rw [List.map_cons, List.filter_map]
  congr 2
  apply List.filter_congr
  intro q _
  simp [Function.comp, rf_mv_cat]
theorem rf_ws_get {ad : Nat → Nat} {aC : Nat → ClassId} {σ : rf_S} {i : Nat} {o : va_E} (h : σ[i]? = some o) : (rf_ws ad aC σ)[i]? = some (ad i, rf_mo ad aC o) := by
  unfold rf_ws
  rw [List.getElem?_mapIdx, h]
  rfl
theorem rf_ws_set (ad : Nat → Nat) (aC : Nat → ClassId) (σ : rf_S) (i : Nat) (o : va_E) : (rf_ws ad aC σ).set i (ad i, rf_mo ad aC o) = rf_ws ad aC (σ.set i o) := by
  apply List.ext_getElem?
  intro j
  unfold rf_ws
  rw [List.getElem?_mapIdx, List.getElem?_set, List.getElem?_set, List.getElem?_mapIdx, List.length_mapIdx]
  by_cases h : i = j
  · subst h
    by_cases h2 : i < σ.length
    · simp [h2]
    · simp [h2]
  · simp [h]
def rf_St (SA : rf_A) (ad : Nat → Nat) (A : Nat → Prop) (U : State) (H : Heap) : Prop := (∀ j x, SA j = some x → va_T .int (ad (1000000 + j)) x.1 (fun i => .int (x.2 i)) A U H) ∧ va_Z "LeftByLast$Acts" "BODY" "[I" (.ref (ad 1000000)) A U H ∧ va_Z "LeftByLast$Acts" "ABOVE" "[I" (.ref (ad 1000001)) A U H
def rf_Nx (U : State) : Prop := (∀ a i y h, Jvm.Cond.methodLinkNest a i y h ∈ lw_tbl → va_Nw (.methodLinkNest a i y h) U) ∧ va_AO "LeftByLast$Moment" U
def rf_Cx (p : Program) (R : Room) (s : State) (m : MethodId) (args : Array Value) (meth : Method) (c : Code) (own : String) (cc : ByteArray) (nL : Nat) (nm : String) (dD : va_G) (aC : Nat → ClassId) (SA : rf_A) (ad : Nat → Nat) (A : Nat → Prop) : Prop :=
  p.tables.exec = Jvm.exec ∧ c.code = cc ∧ c.maxLocals = nL ∧ s.vm.findClass own = some m.cls ∧ (∀ w ∈ rf_tb, w.before args s = true) ∧ va_K dD vwCl (rf_tys aC) s ∧ rf_St SA ad A s s.heap ∧ (∀ q : Nat, s.heap.size ≤ q → A q) ∧ meth.name = nm ∧ rf_Nx s ∧ 1 ≤ R.frames ∧ 64 ≤ R.locals
def rf_Wd (dD : va_G) (ad : Nat → Nat) (aC : Nat → ClassId) (A : Nat → Prop) (s : State) (σ : rf_S) (H : Heap) (locs : List Loc) : Prop := va_P dD vwCl (rf_ws ad aC σ) H ∧ va_D A (rf_ws ad aC σ) ∧ va_S A s.heap H locs
def rf_G (p : Program) (l : Launch) (e : Env) (R : Room) (s : State) (m : MethodId) (args : Array Value) (below : List Frame) (meth : Method) (c : Code) (cells slots : Nat) (Q : State → Prop) (nL : Nat) (dD : va_G) (ad : Nat → Nat) (aC : Nat → ClassId) (A : Nat → Prop) (r : Nat × rf_L × List Value × rf_S) : Prop :=
  ∀ (H : Heap) (locs : List Loc) (ls : Array Slot), rf_Wd dD ad aC A s r.2.2.2 H locs → lv_has ls nL (rf_mL ad r.2.1) → W p l e R s m args below meth c H locs cells slots Q (F0 m r.1 ls (r.2.2.1.map (rf_mv ad)))
theorem rf_in0 : ∀ w ∈ u_ws RX0 TX0 5, w ∈ rf_tb := by decide +kernel
theorem rf_in1 : ∀ w ∈ u_ws RX1 TX1 6, w ∈ rf_tb := by decide +kernel
theorem rf_in2 : ∀ w ∈ u_ws RX2 TX2 12, w ∈ rf_tb := by decide +kernel
theorem rf_in3 : ∀ w ∈ u_ws RX3 TX3 8, w ∈ rf_tb := by decide +kernel
theorem rf_in4 : ∀ w ∈ u_ws RX4 TX4 11, w ∈ rf_tb := by decide +kernel
theorem rf_in5 : ∀ w ∈ u_ws RX5 TX5 6, w ∈ rf_tb := by decide +kernel
theorem rf_in6 : ∀ w ∈ u_ws RX6 TX6 4, w ∈ rf_tb := by decide +kernel
theorem rf_in7 : ∀ w ∈ u_ws RX7 TX7 14, w ∈ rf_tb := by decide +kernel
theorem rf_in8 : ∀ w ∈ u_ws RX8 TX8 4, w ∈ rf_tb := by decide +kernel
theorem rf_in9 : ∀ w ∈ u_ws RX9 TX9 8, w ∈ rf_tb := by decide +kernel
theorem rf_in10 : ∀ w ∈ u_ws RX10 TX10 62, w ∈ rf_tb := by decide +kernel
/-- what is known of a class by its number -/
theorem rf_cls {b : Nat} (hb : b < 11) : ∃ (C : String) (T : u_T) (N : Nat), vwCl[b]? = some (C, T, N) ∧ (∀ w ∈ u_ws C T N, w ∈ rf_tb) ∧ (∀ k, k < N → parseFieldDescriptor (T k).2.2.1 = some (rf_fty b k)) ∧ (∀ a, a < N → ∀ b, b < N → a ≠ b → (T a).2.1 ≠ (T b).2.1) ∧ (∀ k, rf_fld b k = T k) ∧ rf_num b = N := by
  match b, hb with
  | 0, _ => exact ⟨RX0, TX0, 5, rfl, rf_in0, tyX0_ok, nmX0, fun _ => rfl, rfl⟩
  | 1, _ => exact ⟨RX1, TX1, 6, rfl, rf_in1, tyX1_ok, nmX1, fun _ => rfl, rfl⟩
  | 2, _ => exact ⟨RX2, TX2, 12, rfl, rf_in2, tyX2_ok, nmX2, fun _ => rfl, rfl⟩
  | 3, _ => exact ⟨RX3, TX3, 8, rfl, rf_in3, tyX3_ok, nmX3, fun _ => rfl, rfl⟩
  | 4, _ => exact ⟨RX4, TX4, 11, rfl, rf_in4, tyX4_ok, nmX4, fun _ => rfl, rfl⟩
  | 5, _ => exact ⟨RX5, TX5, 6, rfl, rf_in5, tyX5_ok, nmX5, fun _ => rfl, rfl⟩
  | 6, _ => exact ⟨RX6, TX6, 4, rfl, rf_in6, tyX6_ok, nmX6, fun _ => rfl, rfl⟩
  | 7, _ => exact ⟨RX7, TX7, 14, rfl, rf_in7, tyX7_ok, nmX7, fun _ => rfl, rfl⟩
  | 8, _ => exact ⟨RX8, TX8, 4, rfl, rf_in8, tyX8_ok, nmX8, fun _ => rfl, rfl⟩
  | 9, _ => exact ⟨RX9, TX9, 8, rfl, rf_in9, tyX9_ok, nmX9, fun _ => rfl, rfl⟩
  | 10, _ => exact ⟨RX10, TX10, 62, rfl, rf_in10, tyX10_ok, nmX10, fun _ => rfl, rfl⟩
theorem rf_fit_ok {ty : FieldType} {v : Value} (ad : Nat → Nat) (h : rf_fit ty v = true) : narrow ty (rf_mv ad v) = rf_mv ad v ∧ fits ty (rf_mv ad v) = true := by
  cases ty <;> cases v <;> simp only [rf_fit, Bool.false_eq_true, decide_eq_true_eq] at h <;> try exact ⟨rfl, rfl⟩
  rcases h with rfl | rfl <;> exact ⟨rfl, rfl⟩
theorem rf_ixs_ok {i : Int32} {n : Nat} (h : rf_ixs i n = true) : vp_in i n := by
  simp only [rf_ixs, Bool.and_eq_true, decide_eq_true_eq] at h
  rintro (q | q)
  · exact h.1 q
  · omega
end
section
section
variable {p : Program} {l : Launch} {e : Env} {R : Room} {s : State} {m : MethodId} {args : Array Value} {below : List Frame} {meth : Method} {c : Code} {cells slots : Nat} {Q : State → Prop} {own : String} {cc : ByteArray} {nL : Nat} {nm : String} {dD : va_G} {aC : Nat → ClassId} {SA : rf_A} {ad : Nat → Nat} {A : Nat → Prop} {ms : List rf_M} {ret : Option FieldType} {pc : Nat} {L : rf_L} {st : List Value} {σ : rf_S} {r : Nat × rf_L × List Value × rf_S}
theorem rf_s0 (C : rf_Cx p R s m args meth c own cc nL nm dD aC SA ad A) {a : Int} {b k x nxt : Nat} {sw : List (Int × Nat)} (hc : rf_chk ms own cc nm nL ret pc (0, a, b, k, x, nxt, sw) = true) (hs : rf_stp SA (0, a, b, k, x, nxt, sw) L st σ = some r) (hG : rf_G p l e R s m args below meth c cells slots Q nL dD ad aC A r) : rf_G p l e R s m args below meth c cells slots Q nL dD ad aC A (pc, L, st, σ) := by
  obtain ⟨hx, hb, -, hown, hts, -⟩ := C
  intro H locs ls hW hl
  simp only [rf_stp, Option.some.injEq] at hs
  subst hs
  have hg := hG H locs ls hW hl
  simp only [rf_chk] at hc
  split at hc
  · obtain ⟨hd, rfl⟩ := rf_dec_ok hc
    exact lv_iconst hx hb hd rfl hg
  · rw [Bool.and_eq_true] at hc
    obtain ⟨hd, rfl⟩ := rf_dec_ok hc.1
    exact lv_bipush hx hb hd (of_decide_eq_true hc.2) hg
  · rw [Bool.and_eq_true] at hc
    obtain ⟨hd, rfl⟩ := rf_dec_ok hc.1
    exact lv_sipush hx hb hd (of_decide_eq_true hc.2) hg
  · rw [Bool.and_eq_true] at hc
    obtain ⟨hd, rfl⟩ := rf_dec_ok hc.1
    exact lv_ldc hx hb hown (hts _ (rf_lk_tb hc.2 rfl)) hd hg
  · rw [Bool.and_eq_true] at hc
    obtain ⟨hd, rfl⟩ := rf_dec_ok hc.1
    exact lv_ldcw hx hb hown (hts _ (rf_lk_tb hc.2 rfl)) hd hg
theorem rf_s1 (C : rf_Cx p R s m args meth c own cc nL nm dD aC SA ad A) {a : Int} {b k x nxt : Nat} {sw : List (Int × Nat)} (hc : rf_chk ms own cc nm nL ret pc (1, a, b, k, x, nxt, sw) = true) (hs : rf_stp SA (1, a, b, k, x, nxt, sw) L st σ = some r) (hG : rf_G p l e R s m args below meth c cells slots Q nL dD ad aC A r) : rf_G p l e R s m args below meth c cells slots Q nL dD ad aC A (pc, L, st, σ) := by
  obtain ⟨hx, hb, -, hown, hts, -⟩ := C
  intro H locs ls hW hl
  simp only [rf_stp, Option.some.injEq] at hs
  subst hs
  have hg := hG H locs ls hW hl
  simp only [rf_chk] at hc
  split at hc
  · rw [Bool.and_eq_true] at hc
    obtain ⟨hd, rfl⟩ := rf_dec_ok hc.1
    exact lv_lconst hx hb hd (of_decide_eq_true hc.2) hg
  · rw [Bool.and_eq_true] at hc
    obtain ⟨hd, rfl⟩ := rf_dec_ok hc.1
    exact lv_ldc2 hx hb hown (hts _ (rf_lk_tb hc.2 rfl)) hd hg
theorem rf_c4_v {b : Nat} (h : Nat.blt b 4 = true) : ((rf_c4 b : Fin 4) : Nat) = b := Nat.mod_eq_of_lt (Nat.le_of_ble_eq_true h)
theorem rf_s2 (C : rf_Cx p R s m args meth c own cc nL nm dD aC SA ad A) {a : Int} {b k x nxt : Nat} {sw : List (Int × Nat)} (hc : rf_chk ms own cc nm nL ret pc (2, a, b, k, x, nxt, sw) = true) (hs : rf_stp SA (2, a, b, k, x, nxt, sw) L st σ = some r) (hG : rf_G p l e R s m args below meth c cells slots Q nL dD ad aC A r) : rf_G p l e R s m args below meth c cells slots Q nL dD ad aC A (pc, L, st, σ) := by
  obtain ⟨hx, hb, -⟩ := C
  intro H locs ls hW hl
  simp only [rf_stp] at hs
  split at hs
  case h_2 => cases hs
  case h_1 v hv =>
  cases hs
  have hg := hG H locs ls hW hl
  have hat := rf_get_at hv hl
  simp only [rf_chk] at hc
  split at hc
  · rw [Bool.and_eq_true] at hc
    obtain ⟨hd, rfl⟩ := rf_dec_ok hc.1
    exact lv_iload_n hx hb hd (rf_c4_v hc.2) hat hg
  · obtain ⟨hd, rfl⟩ := rf_dec_ok hc
    exact lv_iload hx hb hd hat hg
theorem rf_s3 (C : rf_Cx p R s m args meth c own cc nL nm dD aC SA ad A) {a : Int} {b k x nxt : Nat} {sw : List (Int × Nat)} (hc : rf_chk ms own cc nm nL ret pc (3, a, b, k, x, nxt, sw) = true) (hs : rf_stp SA (3, a, b, k, x, nxt, sw) L st σ = some r) (hG : rf_G p l e R s m args below meth c cells slots Q nL dD ad aC A r) : rf_G p l e R s m args below meth c cells slots Q nL dD ad aC A (pc, L, st, σ) := by
  obtain ⟨hx, hb, -⟩ := C
  intro H locs ls hW hl
  simp only [rf_stp] at hs
  split at hs
  case h_2 => cases hs
  case h_1 v hv =>
  cases hs
  have hg := hG H locs ls hW hl
  have hat := rf_get_at hv hl
  simp only [rf_chk] at hc
  split at hc
  · rw [Bool.and_eq_true] at hc
    obtain ⟨hd, rfl⟩ := rf_dec_ok hc.1
    exact lv_lload_n hx hb hd (rf_c4_v hc.2) hat hg
  · obtain ⟨hd, rfl⟩ := rf_dec_ok hc
    exact lv_lload hx hb hd hat hg
theorem rf_s4 (C : rf_Cx p R s m args meth c own cc nL nm dD aC SA ad A) {a : Int} {b k x nxt : Nat} {sw : List (Int × Nat)} (hc : rf_chk ms own cc nm nL ret pc (4, a, b, k, x, nxt, sw) = true) (hs : rf_stp SA (4, a, b, k, x, nxt, sw) L st σ = some r) (hG : rf_G p l e R s m args below meth c cells slots Q nL dD ad aC A r) : rf_G p l e R s m args below meth c cells slots Q nL dD ad aC A (pc, L, st, σ) := by
  obtain ⟨hx, hb, -⟩ := C
  intro H locs ls hW hl
  simp only [rf_stp] at hs
  split at hs
  case h_2 => cases hs
  case h_1 v hv =>
  cases hs
  have hg := hG H locs ls hW hl
  have hat := rf_get_at hv hl
  simp only [rf_chk] at hc
  split at hc
  · rw [Bool.and_eq_true] at hc
    obtain ⟨hd, rfl⟩ := rf_dec_ok hc.1
    exact lv_aload_n hx hb hd (rf_c4_v hc.2) hat hg
  · obtain ⟨hd, rfl⟩ := rf_dec_ok hc
    exact lv_aload hx hb hd hat hg
theorem rf_s5 (C : rf_Cx p R s m args meth c own cc nL nm dD aC SA ad A) {a : Int} {b k x nxt : Nat} {sw : List (Int × Nat)} (hc : rf_chk ms own cc nm nL ret pc (5, a, b, k, x, nxt, sw) = true) (hs : rf_stp SA (5, a, b, k, x, nxt, sw) L st σ = some r) (hG : rf_G p l e R s m args below meth c cells slots Q nL dD ad aC A r) : rf_G p l e R s m args below meth c cells slots Q nL dD ad aC A (pc, L, st, σ) := by
  obtain ⟨hx, hb, -⟩ := C
  intro H locs ls hW hl
  simp only [rf_stp] at hs
  split at hs
  case h_2 => cases hs
  case h_1 v rr =>
  cases hs
  simp only [rf_chk, Bool.and_eq_true] at hc
  obtain ⟨hc, hn⟩ := hc
  have hn : b < nL := Nat.le_of_ble_eq_true hn
  split at hc
  · rw [Bool.and_eq_true] at hc
    obtain ⟨hd, rfl⟩ := rf_dec_ok hc.1
    exact lv_istore_n hx hb hd (rf_c4_v hc.2) hl hn (rf_mL_set ad L b (.int v)) (fun ls' hl' => hG H locs ls' hW hl')
  · obtain ⟨hd, rfl⟩ := rf_dec_ok hc
    exact lv_istore hx hb hd hl hn (rf_mL_set ad L b (.int v)) (fun ls' hl' => hG H locs ls' hW hl')
theorem rf_s6 (C : rf_Cx p R s m args meth c own cc nL nm dD aC SA ad A) {a : Int} {b k x nxt : Nat} {sw : List (Int × Nat)} (hc : rf_chk ms own cc nm nL ret pc (6, a, b, k, x, nxt, sw) = true) (hs : rf_stp SA (6, a, b, k, x, nxt, sw) L st σ = some r) (hG : rf_G p l e R s m args below meth c cells slots Q nL dD ad aC A r) : rf_G p l e R s m args below meth c cells slots Q nL dD ad aC A (pc, L, st, σ) := by
  obtain ⟨hx, hb, -⟩ := C
  intro H locs ls hW hl
  simp only [rf_stp] at hs
  split at hs
  case h_2 => cases hs
  case h_1 v rr =>
  cases hs
  simp only [rf_chk, Bool.and_eq_true] at hc
  obtain ⟨hc, hn⟩ := hc
  have hn : b < nL := Nat.le_of_ble_eq_true hn
  split at hc
  · rw [Bool.and_eq_true] at hc
    obtain ⟨hd, rfl⟩ := rf_dec_ok hc.1
    exact lv_astore_n hx hb hd (rf_c4_v hc.2) hl hn (rf_mL_set ad L b (.ref v)) (fun ls' hl' => hG H locs ls' hW hl')
  · obtain ⟨hd, rfl⟩ := rf_dec_ok hc
    exact lv_astore hx hb hd hl hn (rf_mL_set ad L b (.ref v)) (fun ls' hl' => hG H locs ls' hW hl')
theorem rf_s8 (C : rf_Cx p R s m args meth c own cc nL nm dD aC SA ad A) {a : Int} {b k x nxt : Nat} {sw : List (Int × Nat)} (hc : rf_chk ms own cc nm nL ret pc (8, a, b, k, x, nxt, sw) = true) (hs : rf_stp SA (8, a, b, k, x, nxt, sw) L st σ = some r) (hG : rf_G p l e R s m args below meth c cells slots Q nL dD ad aC A r) : rf_G p l e R s m args below meth c cells slots Q nL dD ad aC A (pc, L, st, σ) := by
  obtain ⟨hx, hb, -⟩ := C
  intro H locs ls hW hl
  simp only [rf_stp] at hs
  split at hs
  case h_2 => cases hs
  case h_1 v hv =>
  cases hs
  simp only [rf_chk, Bool.and_eq_true] at hc
  obtain ⟨hd, rfl⟩ := rf_dec_ok hc.1
  have hn : b < nL := Nat.le_of_ble_eq_true hc.2
  obtain ⟨j, hj⟩ := List.getElem?_of_mem (List.mem_map.mpr ⟨(b, Value.int v), rf_get_mem hv, rfl⟩ : (b, rf_mv ad (.int v)) ∈ rf_mL ad L)
  exact lv_iinc hx hb hd hl hj rfl hn (rf_mL_set ad L b (.int (v + Int32.ofInt a))) (fun ls' hl' => hG H locs ls' hW hl')
theorem rf_s9 (C : rf_Cx p R s m args meth c own cc nL nm dD aC SA ad A) {a : Int} {b k x nxt : Nat} {sw : List (Int × Nat)} (hc : rf_chk ms own cc nm nL ret pc (9, a, b, k, x, nxt, sw) = true) (hs : rf_stp SA (9, a, b, k, x, nxt, sw) L st σ = some r) (hG : rf_G p l e R s m args below meth c cells slots Q nL dD ad aC A r) : rf_G p l e R s m args below meth c cells slots Q nL dD ad aC A (pc, L, st, σ) := by
  obtain ⟨hx, hb, -⟩ := C
  intro H locs ls hW hl
  simp only [rf_stp] at hs
  split at hs
  case h_2 => cases hs
  case h_1 y z rr =>
  cases hs
  have hg := hG H locs ls hW hl
  simp only [rf_chk] at hc
  match b, hc, hg with
  | 0, hc, hg => obtain ⟨hd, rfl⟩ := rf_dec_ok hc; exact lv_iadd hx hb hd hg
  | 1, hc, hg => obtain ⟨hd, rfl⟩ := rf_dec_ok hc; exact lv_isub hx hb hd hg
  | 2, hc, hg => obtain ⟨hd, rfl⟩ := rf_dec_ok hc; exact lv_imul hx hb hd hg
  | 3, hc, hg => obtain ⟨hd, rfl⟩ := rf_dec_ok hc; exact lv_iand hx hb hd hg
  | 4, hc, hg => obtain ⟨hd, rfl⟩ := rf_dec_ok hc; exact lv_ior hx hb hd hg
  | 5, hc, hg => obtain ⟨hd, rfl⟩ := rf_dec_ok hc; exact lv_ixor hx hb hd hg
  | 6, hc, hg => obtain ⟨hd, rfl⟩ := rf_dec_ok hc; exact lv_ishl hx hb hd hg
  | 7, hc, hg => obtain ⟨hd, rfl⟩ := rf_dec_ok hc; exact lv_ishr hx hb hd hg
  | n + 8, hc, hg => obtain ⟨hd, rfl⟩ := rf_dec_ok hc; exact lv_iushr hx hb hd rfl hg
theorem rf_s10 (C : rf_Cx p R s m args meth c own cc nL nm dD aC SA ad A) {a : Int} {b k x nxt : Nat} {sw : List (Int × Nat)} (hc : rf_chk ms own cc nm nL ret pc (10, a, b, k, x, nxt, sw) = true) (hs : rf_stp SA (10, a, b, k, x, nxt, sw) L st σ = some r) (hG : rf_G p l e R s m args below meth c cells slots Q nL dD ad aC A r) : rf_G p l e R s m args below meth c cells slots Q nL dD ad aC A (pc, L, st, σ) := by
  obtain ⟨hx, hb, -⟩ := C
  intro H locs ls hW hl
  simp only [rf_stp] at hs
  split at hs
  case h_2 => cases hs
  case h_1 y z rr =>
  by_cases hy : y = 0
  · rw [decide_eq_true hy] at hs; cases hs
  · rw [decide_eq_false hy] at hs
    cases hs
    simp only [rf_chk] at hc
    obtain ⟨hd, rfl⟩ := rf_dec_ok hc
    exact lv_idiv hx hb hd hy (hG H locs ls hW hl)
theorem rf_s11 (C : rf_Cx p R s m args meth c own cc nL nm dD aC SA ad A) {a : Int} {b k x nxt : Nat} {sw : List (Int × Nat)} (hc : rf_chk ms own cc nm nL ret pc (11, a, b, k, x, nxt, sw) = true) (hs : rf_stp SA (11, a, b, k, x, nxt, sw) L st σ = some r) (hG : rf_G p l e R s m args below meth c cells slots Q nL dD ad aC A r) : rf_G p l e R s m args below meth c cells slots Q nL dD ad aC A (pc, L, st, σ) := by
  obtain ⟨hx, hb, -⟩ := C
  intro H locs ls hW hl
  simp only [rf_stp] at hs
  split at hs
  case h_2 => cases hs
  case h_1 y z rr =>
  by_cases hy : y = 0
  · rw [decide_eq_true hy] at hs; cases hs
  · rw [decide_eq_false hy] at hs
    cases hs
    simp only [rf_chk] at hc
    obtain ⟨hd, rfl⟩ := rf_dec_ok hc
    exact lv_irem hx hb hd hy (hG H locs ls hW hl)
theorem rf_s12 (C : rf_Cx p R s m args meth c own cc nL nm dD aC SA ad A) {a : Int} {b k x nxt : Nat} {sw : List (Int × Nat)} (hc : rf_chk ms own cc nm nL ret pc (12, a, b, k, x, nxt, sw) = true) (hs : rf_stp SA (12, a, b, k, x, nxt, sw) L st σ = some r) (hG : rf_G p l e R s m args below meth c cells slots Q nL dD ad aC A r) : rf_G p l e R s m args below meth c cells slots Q nL dD ad aC A (pc, L, st, σ) := by
  obtain ⟨hx, hb, hml, hown, hts, hK, hSt, hA, hnm, hNx, hfr, hlo⟩ := C
  intro H locs ls hW hl
  simp only [rf_stp] at hs
  split at hs
  case h_2 => cases hs
  case h_1 =>
  cases hs
  simp only [rf_chk] at hc
  obtain ⟨hd, rfl⟩ := rf_dec_ok hc
  exact lv_ineg hx hb hd (hG H locs ls hW hl)
theorem rf_s13 (C : rf_Cx p R s m args meth c own cc nL nm dD aC SA ad A) {a : Int} {b k x nxt : Nat} {sw : List (Int × Nat)} (hc : rf_chk ms own cc nm nL ret pc (13, a, b, k, x, nxt, sw) = true) (hs : rf_stp SA (13, a, b, k, x, nxt, sw) L st σ = some r) (hG : rf_G p l e R s m args below meth c cells slots Q nL dD ad aC A r) : rf_G p l e R s m args below meth c cells slots Q nL dD ad aC A (pc, L, st, σ) := by
  obtain ⟨hx, hb, hml, hown, hts, hK, hSt, hA, hnm, hNx, hfr, hlo⟩ := C
  intro H locs ls hW hl
  simp only [rf_stp] at hs
  split at hs
  case h_2 => cases hs
  case h_1 =>
  cases hs
  simp only [rf_chk] at hc
  obtain ⟨hd, rfl⟩ := rf_dec_ok hc
  exact lv_i2l hx hb hd rfl (hG H locs ls hW hl)
theorem rf_s14 (C : rf_Cx p R s m args meth c own cc nL nm dD aC SA ad A) {a : Int} {b k x nxt : Nat} {sw : List (Int × Nat)} (hc : rf_chk ms own cc nm nL ret pc (14, a, b, k, x, nxt, sw) = true) (hs : rf_stp SA (14, a, b, k, x, nxt, sw) L st σ = some r) (hG : rf_G p l e R s m args below meth c cells slots Q nL dD ad aC A r) : rf_G p l e R s m args below meth c cells slots Q nL dD ad aC A (pc, L, st, σ) := by
  obtain ⟨hx, hb, hml, hown, hts, hK, hSt, hA, hnm, hNx, hfr, hlo⟩ := C
  intro H locs ls hW hl
  simp only [rf_stp] at hs
  split at hs
  case h_2 => cases hs
  case h_1 =>
  cases hs
  simp only [rf_chk] at hc
  obtain ⟨hd, rfl⟩ := rf_dec_ok hc
  exact lv_l2i hx hb hd rfl (hG H locs ls hW hl)
theorem rf_s15 (C : rf_Cx p R s m args meth c own cc nL nm dD aC SA ad A) {a : Int} {b k x nxt : Nat} {sw : List (Int × Nat)} (hc : rf_chk ms own cc nm nL ret pc (15, a, b, k, x, nxt, sw) = true) (hs : rf_stp SA (15, a, b, k, x, nxt, sw) L st σ = some r) (hG : rf_G p l e R s m args below meth c cells slots Q nL dD ad aC A r) : rf_G p l e R s m args below meth c cells slots Q nL dD ad aC A (pc, L, st, σ) := by
  obtain ⟨hx, hb, hml, hown, hts, hK, hSt, hA, hnm, hNx, hfr, hlo⟩ := C
  intro H locs ls hW hl
  simp only [rf_stp] at hs
  split at hs
  case h_2 => cases hs
  case h_1 =>
  cases hs
  simp only [rf_chk] at hc
  obtain ⟨hd, rfl⟩ := rf_dec_ok hc
  exact lv_i2b hx hb hd rfl (hG H locs ls hW hl)
theorem rf_s16 (C : rf_Cx p R s m args meth c own cc nL nm dD aC SA ad A) {a : Int} {b k x nxt : Nat} {sw : List (Int × Nat)} (hc : rf_chk ms own cc nm nL ret pc (16, a, b, k, x, nxt, sw) = true) (hs : rf_stp SA (16, a, b, k, x, nxt, sw) L st σ = some r) (hG : rf_G p l e R s m args below meth c cells slots Q nL dD ad aC A r) : rf_G p l e R s m args below meth c cells slots Q nL dD ad aC A (pc, L, st, σ) := by
  obtain ⟨hx, hb, hml, hown, hts, hK, hSt, hA, hnm, hNx, hfr, hlo⟩ := C
  intro H locs ls hW hl
  simp only [rf_stp] at hs
  split at hs
  case h_2 => cases hs
  case h_1 =>
  cases hs
  simp only [rf_chk] at hc
  obtain ⟨hd, rfl⟩ := rf_dec_ok hc
  exact lv_i2s hx hb hd rfl (hG H locs ls hW hl)
theorem rf_s17 (C : rf_Cx p R s m args meth c own cc nL nm dD aC SA ad A) {a : Int} {b k x nxt : Nat} {sw : List (Int × Nat)} (hc : rf_chk ms own cc nm nL ret pc (17, a, b, k, x, nxt, sw) = true) (hs : rf_stp SA (17, a, b, k, x, nxt, sw) L st σ = some r) (hG : rf_G p l e R s m args below meth c cells slots Q nL dD ad aC A r) : rf_G p l e R s m args below meth c cells slots Q nL dD ad aC A (pc, L, st, σ) := by
  obtain ⟨hx, hb, hml, hown, hts, hK, hSt, hA, hnm, hNx, hfr, hlo⟩ := C
  intro H locs ls hW hl
  simp only [rf_stp] at hs
  split at hs
  case h_2 => cases hs
  case h_1 =>
  cases hs
  have hg := hG H locs ls hW hl
  simp only [rf_chk] at hc
  match b, hc, hg with
  | 0, hc, hg => obtain ⟨hd, rfl⟩ := rf_dec_ok hc; exact lv_land hx hb hd hg
  | n + 1, hc, hg => obtain ⟨hd, rfl⟩ := rf_dec_ok hc; exact lv_lor hx hb hd hg
theorem rf_s18 (C : rf_Cx p R s m args meth c own cc nL nm dD aC SA ad A) {a : Int} {b k x nxt : Nat} {sw : List (Int × Nat)} (hc : rf_chk ms own cc nm nL ret pc (18, a, b, k, x, nxt, sw) = true) (hs : rf_stp SA (18, a, b, k, x, nxt, sw) L st σ = some r) (hG : rf_G p l e R s m args below meth c cells slots Q nL dD ad aC A r) : rf_G p l e R s m args below meth c cells slots Q nL dD ad aC A (pc, L, st, σ) := by
  obtain ⟨hx, hb, hml, hown, hts, hK, hSt, hA, hnm, hNx, hfr, hlo⟩ := C
  intro H locs ls hW hl
  simp only [rf_stp] at hs
  split at hs
  case h_2 => cases hs
  case h_1 =>
  cases hs
  simp only [rf_chk] at hc
  obtain ⟨hd, rfl⟩ := rf_dec_ok hc
  exact lv_lshl hx hb hd rfl (hG H locs ls hW hl)
theorem rf_s19 (C : rf_Cx p R s m args meth c own cc nL nm dD aC SA ad A) {a : Int} {b k x nxt : Nat} {sw : List (Int × Nat)} (hc : rf_chk ms own cc nm nL ret pc (19, a, b, k, x, nxt, sw) = true) (hs : rf_stp SA (19, a, b, k, x, nxt, sw) L st σ = some r) (hG : rf_G p l e R s m args below meth c cells slots Q nL dD ad aC A r) : rf_G p l e R s m args below meth c cells slots Q nL dD ad aC A (pc, L, st, σ) := by
  obtain ⟨hx, hb, hml, hown, hts, hK, hSt, hA, hnm, hNx, hfr, hlo⟩ := C
  intro H locs ls hW hl
  simp only [rf_stp] at hs
  split at hs
  case h_2 => cases hs
  case h_1 =>
  cases hs
  simp only [rf_chk] at hc
  obtain ⟨hd, rfl⟩ := rf_dec_ok hc
  exact W.lcmp hx hb hd (hG H locs ls hW hl)
theorem rf_s20 (C : rf_Cx p R s m args meth c own cc nL nm dD aC SA ad A) {a : Int} {b k x nxt : Nat} {sw : List (Int × Nat)} (hc : rf_chk ms own cc nm nL ret pc (20, a, b, k, x, nxt, sw) = true) (hs : rf_stp SA (20, a, b, k, x, nxt, sw) L st σ = some r) (hG : rf_G p l e R s m args below meth c cells slots Q nL dD ad aC A r) : rf_G p l e R s m args below meth c cells slots Q nL dD ad aC A (pc, L, st, σ) := by
  obtain ⟨hx, hb, hml, hown, hts, hK, hSt, hA, hnm, hNx, hfr, hlo⟩ := C
  intro H locs ls hW hl
  simp only [rf_stp] at hs
  split at hs
  case h_2 => cases hs
  case h_1 =>
  rw [cond_eq_ite] at hs
  split at hs
  case isFalse => cases hs
  case isTrue hcat =>
  cases hs
  simp only [rf_chk] at hc
  obtain ⟨hd, rfl⟩ := rf_dec_ok hc
  exact lv_dup hx hb hd (by rw [rf_mv_cat]; exact eq_of_beq hcat) (hG H locs ls hW hl)
theorem rf_s21 (C : rf_Cx p R s m args meth c own cc nL nm dD aC SA ad A) {a : Int} {b k x nxt : Nat} {sw : List (Int × Nat)} (hc : rf_chk ms own cc nm nL ret pc (21, a, b, k, x, nxt, sw) = true) (hs : rf_stp SA (21, a, b, k, x, nxt, sw) L st σ = some r) (hG : rf_G p l e R s m args below meth c cells slots Q nL dD ad aC A r) : rf_G p l e R s m args below meth c cells slots Q nL dD ad aC A (pc, L, st, σ) := by
  obtain ⟨hx, hb, hml, hown, hts, hK, hSt, hA, hnm, hNx, hfr, hlo⟩ := C
  intro H locs ls hW hl
  simp only [rf_stp] at hs
  split at hs
  case h_2 => cases hs
  case h_1 =>
  rw [cond_eq_ite] at hs
  split at hs
  case isFalse => cases hs
  case isTrue hcat =>
  cases hs
  simp only [rf_chk] at hc
  obtain ⟨hd, rfl⟩ := rf_dec_ok hc
  rw [Bool.and_eq_true] at hcat
  exact lv_dup_x1 hx hb hd (by rw [rf_mv_cat]; exact eq_of_beq hcat.1) (by rw [rf_mv_cat]; exact eq_of_beq hcat.2) (hG H locs ls hW hl)
theorem rf_s22 (C : rf_Cx p R s m args meth c own cc nL nm dD aC SA ad A) {a : Int} {b k x nxt : Nat} {sw : List (Int × Nat)} (hc : rf_chk ms own cc nm nL ret pc (22, a, b, k, x, nxt, sw) = true) (hs : rf_stp SA (22, a, b, k, x, nxt, sw) L st σ = some r) (hG : rf_G p l e R s m args below meth c cells slots Q nL dD ad aC A r) : rf_G p l e R s m args below meth c cells slots Q nL dD ad aC A (pc, L, st, σ) := by
  obtain ⟨hx, hb, hml, hown, hts, hK, hSt, hA, hnm, hNx, hfr, hlo⟩ := C
  intro H locs ls hW hl
  simp only [rf_stp] at hs
  split at hs
  case h_2 => cases hs
  case h_1 =>
  rw [cond_eq_ite] at hs
  split at hs
  case isFalse => cases hs
  case isTrue hcat =>
  cases hs
  simp only [rf_chk] at hc
  obtain ⟨hd, rfl⟩ := rf_dec_ok hc
  rw [Bool.and_eq_true] at hcat
  exact lv_dup2_11 hx hb hd (by rw [rf_mv_cat]; exact eq_of_beq hcat.1) (by rw [rf_mv_cat]; exact eq_of_beq hcat.2) (hG H locs ls hW hl)
theorem rf_s23 (C : rf_Cx p R s m args meth c own cc nL nm dD aC SA ad A) {a : Int} {b k x nxt : Nat} {sw : List (Int × Nat)} (hc : rf_chk ms own cc nm nL ret pc (23, a, b, k, x, nxt, sw) = true) (hs : rf_stp SA (23, a, b, k, x, nxt, sw) L st σ = some r) (hG : rf_G p l e R s m args below meth c cells slots Q nL dD ad aC A r) : rf_G p l e R s m args below meth c cells slots Q nL dD ad aC A (pc, L, st, σ) := by
  obtain ⟨hx, hb, hml, hown, hts, hK, hSt, hA, hnm, hNx, hfr, hlo⟩ := C
  intro H locs ls hW hl
  simp only [rf_stp] at hs
  split at hs
  case h_2 => cases hs
  case h_1 =>
  rw [cond_eq_ite] at hs
  split at hs
  case isFalse => cases hs
  case isTrue hcat =>
  cases hs
  simp only [rf_chk] at hc
  obtain ⟨hd, rfl⟩ := rf_dec_ok hc
  exact lv_pop hx hb hd (by rw [rf_mv_cat]; exact eq_of_beq hcat) (hG H locs ls hW hl)
theorem rf_s24 (C : rf_Cx p R s m args meth c own cc nL nm dD aC SA ad A) {a : Int} {b k x nxt : Nat} {sw : List (Int × Nat)} (hc : rf_chk ms own cc nm nL ret pc (24, a, b, k, x, nxt, sw) = true) (hs : rf_stp SA (24, a, b, k, x, nxt, sw) L st σ = some r) (hG : rf_G p l e R s m args below meth c cells slots Q nL dD ad aC A r) : rf_G p l e R s m args below meth c cells slots Q nL dD ad aC A (pc, L, st, σ) := by
  obtain ⟨hx, hb, hml, hown, hts, hK, hSt, hA, hnm, hNx, hfr, hlo⟩ := C
  intro H locs ls hW hl
  simp only [rf_stp] at hs
  split at hs
  case h_2 => cases hs
  case h_1 =>
  rw [cond_eq_ite] at hs
  split at hs
  case isFalse => cases hs
  case isTrue hcat =>
  cases hs
  simp only [rf_chk] at hc
  obtain ⟨hd, rfl⟩ := rf_dec_ok hc
  exact lv_pop2_2 hx hb hd (by rw [rf_mv_cat]; exact eq_of_beq hcat) (hG H locs ls hW hl)
theorem rf_s25 (C : rf_Cx p R s m args meth c own cc nL nm dD aC SA ad A) {a : Int} {b k x nxt : Nat} {sw : List (Int × Nat)} (hc : rf_chk ms own cc nm nL ret pc (25, a, b, k, x, nxt, sw) = true) (hs : rf_stp SA (25, a, b, k, x, nxt, sw) L st σ = some r) (hG : rf_G p l e R s m args below meth c cells slots Q nL dD ad aC A r) : rf_G p l e R s m args below meth c cells slots Q nL dD ad aC A (pc, L, st, σ) := by
  obtain ⟨hx, hb, hml, hown, hts, hK, hSt, hA, hnm, hNx, hfr, hlo⟩ := C
  intro H locs ls hW hl
  simp only [rf_stp] at hs
  split at hs
  case h_2 => cases hs
  case h_1 =>
  cases hs
  have hg := hG H locs ls hW hl
  simp only [rf_chk, Bool.and_eq_true, decide_eq_true_eq] at hc
  obtain ⟨hc, ht⟩ := hc
  match b, hc, hg with
  | 0, hc, hg => obtain ⟨hd, rfl⟩ := rf_dec_ok hc; exact lv_if_eq hx hb hd ht (fun q => by simpa only [rf_cmp, decide_eq_true q, cond_true] using hg) (fun q => by simpa only [rf_cmp, decide_eq_false q, cond_false] using hg)
  | 1, hc, hg => obtain ⟨hd, rfl⟩ := rf_dec_ok hc; exact lv_if_ne hx hb hd ht (fun q => by simpa only [rf_cmp, decide_eq_false q, Bool.not_false, cond_true] using hg) (fun q => by simpa only [rf_cmp, decide_eq_true q, Bool.not_true, cond_false] using hg)
  | 2, hc, hg => obtain ⟨hd, rfl⟩ := rf_dec_ok hc; exact lv_if_lt hx hb hd ht (fun q => by simpa only [rf_cmp, decide_eq_true q, cond_true] using hg) (fun q => by simpa only [rf_cmp, decide_eq_false q, cond_false] using hg)
  | 3, hc, hg => obtain ⟨hd, rfl⟩ := rf_dec_ok hc; exact lv_if_ge hx hb hd ht (fun q => by simpa only [rf_cmp, decide_eq_true q, cond_true] using hg) (fun q => by simpa only [rf_cmp, decide_eq_false q, cond_false] using hg)
  | 4, hc, hg => obtain ⟨hd, rfl⟩ := rf_dec_ok hc; exact lv_if_gt hx hb hd ht (fun q => by simpa only [rf_cmp, decide_eq_true q, cond_true] using hg) (fun q => by simpa only [rf_cmp, decide_eq_false q, cond_false] using hg)
  | n + 5, hc, hg => obtain ⟨hd, rfl⟩ := rf_dec_ok hc; exact lv_if_le hx hb hd ht (fun q => by simpa only [rf_cmp, decide_eq_true q, cond_true] using hg) (fun q => by simpa only [rf_cmp, decide_eq_false q, cond_false] using hg)
theorem rf_s26 (C : rf_Cx p R s m args meth c own cc nL nm dD aC SA ad A) {a : Int} {b k x nxt : Nat} {sw : List (Int × Nat)} (hc : rf_chk ms own cc nm nL ret pc (26, a, b, k, x, nxt, sw) = true) (hs : rf_stp SA (26, a, b, k, x, nxt, sw) L st σ = some r) (hG : rf_G p l e R s m args below meth c cells slots Q nL dD ad aC A r) : rf_G p l e R s m args below meth c cells slots Q nL dD ad aC A (pc, L, st, σ) := by
  obtain ⟨hx, hb, hml, hown, hts, hK, hSt, hA, hnm, hNx, hfr, hlo⟩ := C
  intro H locs ls hW hl
  simp only [rf_stp] at hs
  split at hs
  case h_2 => cases hs
  case h_1 =>
  cases hs
  have hg := hG H locs ls hW hl
  simp only [rf_chk, Bool.and_eq_true, decide_eq_true_eq] at hc
  obtain ⟨hc, ht⟩ := hc
  match b, hc, hg with
  | 0, hc, hg => obtain ⟨hd, rfl⟩ := rf_dec_ok hc; exact lv_icmp_eq hx hb hd ht (fun q => by simpa only [rf_cmp, decide_eq_true q, cond_true] using hg) (fun q => by simpa only [rf_cmp, decide_eq_false q, cond_false] using hg)
  | 1, hc, hg => obtain ⟨hd, rfl⟩ := rf_dec_ok hc; exact lv_icmp_ne hx hb hd ht (fun q => by simpa only [rf_cmp, decide_eq_false q, Bool.not_false, cond_true] using hg) (fun q => by simpa only [rf_cmp, decide_eq_true q, Bool.not_true, cond_false] using hg)
  | 2, hc, hg => obtain ⟨hd, rfl⟩ := rf_dec_ok hc; exact lv_icmp_lt hx hb hd ht (fun q => by simpa only [rf_cmp, decide_eq_true q, cond_true] using hg) (fun q => by simpa only [rf_cmp, decide_eq_false q, cond_false] using hg)
  | 3, hc, hg => obtain ⟨hd, rfl⟩ := rf_dec_ok hc; exact lv_icmp_ge hx hb hd ht (fun q => by simpa only [rf_cmp, decide_eq_true q, cond_true] using hg) (fun q => by simpa only [rf_cmp, decide_eq_false q, cond_false] using hg)
  | 4, hc, hg => obtain ⟨hd, rfl⟩ := rf_dec_ok hc; exact lv_icmp_gt hx hb hd ht (fun q => by simpa only [rf_cmp, decide_eq_true q, cond_true] using hg) (fun q => by simpa only [rf_cmp, decide_eq_false q, cond_false] using hg)
  | n + 5, hc, hg => obtain ⟨hd, rfl⟩ := rf_dec_ok hc; exact lv_icmp_le hx hb hd ht (fun q => by simpa only [rf_cmp, decide_eq_true q, cond_true] using hg) (fun q => by simpa only [rf_cmp, decide_eq_false q, cond_false] using hg)
theorem rf_s27 (C : rf_Cx p R s m args meth c own cc nL nm dD aC SA ad A) {a : Int} {b k x nxt : Nat} {sw : List (Int × Nat)} (hc : rf_chk ms own cc nm nL ret pc (27, a, b, k, x, nxt, sw) = true) (hs : rf_stp SA (27, a, b, k, x, nxt, sw) L st σ = some r) (hG : rf_G p l e R s m args below meth c cells slots Q nL dD ad aC A r) : rf_G p l e R s m args below meth c cells slots Q nL dD ad aC A (pc, L, st, σ) := by
  obtain ⟨hx, hb, hml, hown, hts, hK, hSt, hA, hnm, hNx, hfr, hlo⟩ := C
  intro H locs ls hW hl
  simp only [rf_stp] at hs
  cases hs
  simp only [rf_chk, Bool.and_eq_true, decide_eq_true_eq] at hc
  obtain ⟨hd, rfl⟩ := rf_dec_ok hc.1
  exact lv_goto hx hb hd hc.2 (hG H locs ls hW hl)
end
end
section
theorem rf_oi1 : Jvm.Cond.instanceMethod objectInit ∈ rf_tb := by decide +kernel
theorem rf_oi2 : Jvm.Cond.code objectInit ⟨#[0xb1]⟩ 1 none ∈ rf_tb := by decide +kernel
theorem rf_ac1 : Jvm.Cond.native arraycopyName ∈ rf_tb := by decide +kernel
theorem rf_ac2 : Jvm.Cond.static arraycopyName ∈ rf_tb := by decide +kernel
theorem rf_ma1 : Jvm.Cond.static Lib.Math.max.name ∈ rf_tb := by decide +kernel
theorem rf_ma2 : Jvm.Cond.initialized "java/lang/Math" ∈ rf_tb := by decide +kernel
theorem rf_ma3 : Jvm.Cond.code Lib.Math.max.name Lib.Math.max.code 2 (some .int) ∈ rf_tb := by decide +kernel
theorem rf_mi1 : Jvm.Cond.static Lib.Math.min.name ∈ rf_tb := by decide +kernel
theorem rf_mi2 : Jvm.Cond.initialized "java/lang/Math" ∈ rf_tb := by decide +kernel
theorem rf_mi3 : Jvm.Cond.code Lib.Math.min.name Lib.Math.min.code 2 (some .int) ∈ rf_tb := by decide +kernel
theorem rf_ac3 : Jvm.Cond.initialized "java/lang/System" ∈ rf_tb := by decide +kernel
/-! switches, fields, arrays, Object.<init>, arraycopy -/
theorem rf_lsw_ok {pc : Nat} {d : Int} {c : Nat} (hd : (pc : Int) + d = (c : Int)) (x : Int) : ∀ (ps : List (Int × Int)) (sw : List (Int × Nat)), rf_lsw pc ps sw = true → (pc : Int) + Op.lookupswitch.offset ps d x = (rf_sw sw c x : Int)
  | [], [], _ => hd
  | (k, o) :: r, (k', t) :: r', h => by
    simp only [rf_lsw, Bool.and_eq_true, decide_eq_true_eq] at h
    obtain ⟨⟨rfl, h2⟩, h3⟩ := h
    by_cases hx : x = k
    · subst hx
      simp only [Op.lookupswitch.offset, rf_sw, decide_true, cond_true]
      simpa using h2
    · have ih := rf_lsw_ok hd x r r' h3
      simp only [Op.lookupswitch.offset, rf_sw, decide_eq_false hx, cond_false]
      rw [← ih]
      congr 1
      simp
      intro q
      exact absurd q.symm hx
  | [], _ :: _, h => by simp [rf_lsw] at h
  | _ :: _, [], h => by simp [rf_lsw] at h
theorem rf_tsw_ok {pc : Nat} (c : Nat) (x : Int) : ∀ (os : List Int) (lo : Int) (sw : List (Int × Nat)), rf_tsw pc lo os sw = true → (∀ i : Nat, x = lo + (i : Int) → i < os.length → ∃ o, os[i]? = some o ∧ (pc : Int) + o = (rf_sw sw c x : Int)) ∧ ((x < lo ∨ lo + (os.length : Int) ≤ x) → rf_sw sw c x = c)
  | [], lo, [], _ => ⟨fun i _ h => absurd h (Nat.not_lt_zero i), fun _ => rfl⟩
  | o :: os, lo, (k, t) :: r, h => by
    simp only [rf_tsw, Bool.and_eq_true, decide_eq_true_eq] at h
    obtain ⟨⟨rfl, h2⟩, h3⟩ := h
    obtain ⟨i1, i2⟩ := rf_tsw_ok c x os (k + 1) r h3
    refine ⟨fun i hi hl => ?_, fun hx => ?_⟩
    · cases i with
      | zero =>
        have hxk : x = k := by omega
        exact ⟨o, rfl, by simp only [rf_sw, decide_eq_true hxk, cond_true]; exact h2⟩
      | succ i =>
        have hxk : ¬ x = k := by omega
        obtain ⟨o', e1, e2⟩ := i1 i (by omega) (by simpa using hl)
        exact ⟨o', by simpa using e1, by simp only [rf_sw, decide_eq_false hxk, cond_false]; exact e2⟩
    · simp only [List.length_cons] at hx
      have hxk : ¬ x = k := by omega
      simp only [rf_sw, decide_eq_false hxk, cond_false]
      exact i2 (by omega)
  | [], _, _ :: _, h => by simp [rf_tsw] at h
  | _ :: _, _, [], h => by simp [rf_tsw] at h
section
variable {p : Program} {l : Launch} {e : Env} {R : Room} {s : State} {m : MethodId} {args : Array Value} {below : List Frame} {meth : Method} {c : Code} {cells slots : Nat} {Q : State → Prop} {own : String} {cc : ByteArray} {nL : Nat} {nm : String} {dD : va_G} {aC : Nat → ClassId} {SA : rf_A} {ad : Nat → Nat} {A : Nat → Prop} {ms : List rf_M} {ret : Option FieldType} {pc : Nat} {L : rf_L} {st : List Value} {σ : rf_S} {r : Nat × rf_L × List Value × rf_S}
theorem rf_s28 (C : rf_Cx p R s m args meth c own cc nL nm dD aC SA ad A) {a : Int} {b k x nxt : Nat} {sw : List (Int × Nat)} (hc : rf_chk ms own cc nm nL ret pc (28, a, b, k, x, nxt, sw) = true) (hs : rf_stp SA (28, a, b, k, x, nxt, sw) L st σ = some r) (hG : rf_G p l e R s m args below meth c cells slots Q nL dD ad aC A r) : rf_G p l e R s m args below meth c cells slots Q nL dD ad aC A (pc, L, st, σ) := by
  obtain ⟨hx, hb, hml, hown, hts, hK, hSt, hA, hnm, hNx, hfr, hlo⟩ := C
  intro H locs ls hW hl
  simp only [rf_stp] at hs
  split at hs
  case h_2 => cases hs
  case h_1 y rr =>
  cases hs
  have hg := hG H locs ls hW hl
  simp only [rf_chk] at hc
  split at hc
  case h_3 => cases hc
  case h_1 d ps len hdec =>
    simp only [Bool.and_eq_true, decide_eq_true_eq] at hc
    exact lv_lookup hx hb hdec hc.2 rfl (rf_lsw_ok hc.1.1 y.toInt ps.toList sw hc.1.2) hg
  case h_2 d lo hi offs len hdec =>
    simp only [Bool.and_eq_true, decide_eq_true_eq] at hc
    obtain ⟨⟨h1, h2⟩, h3⟩ := hc
    obtain ⟨i1, i2⟩ := rf_tsw_ok k y.toInt offs.toList lo sw h3
    by_cases hlo : y.toInt < lo
    · have e1 := i2 (Or.inl hlo)
      rw [e1] at hg
      exact lv_tableOut hx hb hdec (Or.inl hlo) h1 hg
    · by_cases hhi : hi < y.toInt
      · have e1 := i2 (Or.inr (by simp only [Array.length_toList]; omega))
        rw [e1] at hg
        exact lv_tableOut hx hb hdec (Or.inr hhi) h1 hg
      · obtain ⟨o', e1, e2⟩ := i1 (y.toInt - lo).toNat (by omega) (by simp only [Array.length_toList]; omega)
        exact lv_tableIn hx hb hdec hlo hhi (by rw [← Array.getElem?_toList]; exact e1) e2 hg
theorem rf_s29 (C : rf_Cx p R s m args meth c own cc nL nm dD aC SA ad A) {a : Int} {b k x nxt : Nat} {sw : List (Int × Nat)} (hc : rf_chk ms own cc nm nL ret pc (29, a, b, k, x, nxt, sw) = true) (hs : rf_stp SA (29, a, b, k, x, nxt, sw) L st σ = some r) (hG : rf_G p l e R s m args below meth c cells slots Q nL dD ad aC A r) : rf_G p l e R s m args below meth c cells slots Q nL dD ad aC A (pc, L, st, σ) := by
  obtain ⟨hx, hb, hml, hown, hts, hK, hSt, hA, hnm, hNx, hfr, hlo⟩ := C
  intro H locs ls hW hl
  simp only [rf_stp] at hs
  split at hs
  case h_2 => cases hs
  case h_1 r0 rr =>
  split at hs
  case h_2 => cases hs
  case h_1 ci fs hcell =>
  rw [cond_eq_ite] at hs
  split at hs
  case isFalse => cases hs
  case isTrue hci =>
  have hci : ci = b := Nat.eq_of_beq_eq_true hci
  subst hci
  split at hs
  case h_2 => cases hs
  case h_1 v hv =>
  cases hs
  simp only [rf_chk, Bool.and_eq_true] at hc
  obtain ⟨⟨⟨hd0, hlk⟩, hk⟩, hbn⟩ := hc
  obtain ⟨hd, rfl⟩ := rf_dec_ok hd0
  have hbn : ci < 11 := Nat.le_of_ble_eq_true hbn
  obtain ⟨C0, T, N, h1, h2, h3, h4, h5, h6⟩ := rf_cls hbn
  have hk : k < N := by rw [← h6]; exact Nat.le_of_ble_eq_true hk
  rw [h5 k] at hlk
  have he := rf_ws_get (ad := ad) (aC := aC) hcell
  exact va_get hx hb hts h2 hown hK hW.1 r0 he h1 k hk (hts _ (rf_lk_tb hlk rfl)) (fun _ h9 => h9) (by rw [List.getElem?_map, hv]; rfl) hd (hG H locs ls hW hl)
theorem rf_s30 (C : rf_Cx p R s m args meth c own cc nL nm dD aC SA ad A) {a : Int} {b k x nxt : Nat} {sw : List (Int × Nat)} (hc : rf_chk ms own cc nm nL ret pc (30, a, b, k, x, nxt, sw) = true) (hs : rf_stp SA (30, a, b, k, x, nxt, sw) L st σ = some r) (hG : rf_G p l e R s m args below meth c cells slots Q nL dD ad aC A r) : rf_G p l e R s m args below meth c cells slots Q nL dD ad aC A (pc, L, st, σ) := by
  obtain ⟨hx, hb, hml, hown, hts, hK, hSt, hA, hnm, hNx, hfr, hlo⟩ := C
  intro H locs ls hW hl
  simp only [rf_stp] at hs
  split at hs
  case h_2 => cases hs
  case h_1 v r0 rr =>
  split at hs
  case h_2 => cases hs
  case h_1 ci fs hcell =>
  rw [cond_eq_ite] at hs
  split at hs
  case isFalse => cases hs
  case isTrue hci =>
  simp only [Bool.and_eq_true] at hci
  obtain ⟨⟨hci, hfit⟩, hlen⟩ := hci
  have hci : ci = b := Nat.eq_of_beq_eq_true hci
  subst hci
  cases hs
  have hlen : k < fs.length := Nat.le_of_ble_eq_true hlen
  simp only [rf_chk, Bool.and_eq_true] at hc
  obtain ⟨⟨⟨⟨hd0, hlk⟩, hk⟩, hbn⟩, hfin⟩ := hc
  obtain ⟨hd, rfl⟩ := rf_dec_ok hd0
  have hbn : ci < 11 := Nat.le_of_ble_eq_true hbn
  obtain ⟨C0, T, N, h1, h2, h3, h4, h5, h6⟩ := rf_cls hbn
  have hk : k < N := by rw [← h6]; exact Nat.le_of_ble_eq_true hk
  rw [h5 k] at hlk hfin
  have he := rf_ws_get (ad := ad) (aC := aC) hcell
  obtain ⟨hf1, hf2⟩ := rf_fit_ok ad hfit
  have hset : (rf_ws ad aC σ).set r0 (ad r0, .inr (ci, (fs.map (rf_mv ad)).set k (rf_mv ad v))) = rf_ws ad aC (σ.set r0 (.inr (ci, fs.set k v))) := by
    rw [← rf_ws_set]
    show _ = (rf_ws ad aC σ).set r0 (ad r0, .inr (ci, (fs.set k v).map (rf_mv ad)))
    rw [List.map_set]
  have kk : ∀ (H1 : Heap) (locs1 : List Loc), va_P dD vwCl ((rf_ws ad aC σ).set r0 (ad r0, .inr (ci, (fs.map (rf_mv ad)).set k (rf_mv ad v)))) H1 → va_D A ((rf_ws ad aC σ).set r0 (ad r0, .inr (ci, (fs.map (rf_mv ad)).set k (rf_mv ad v)))) → va_S A s.heap H1 locs1 → W p l e R s m args below meth c H1 locs1 cells slots Q (F0 m (pc + 3) ls (rr.map (rf_mv ad))) := by
    intro H1 locs1 g1 g2 g3
    rw [hset] at g1 g2
    exact hG H1 locs1 ls ⟨g1, g2, g3⟩ hl
  cases hff : (T k).2.2.2 with
  | false =>
    exact va_put hx hb hts h2 (rf_fty ci) h3 h4 hown hK hW.1 hW.2.1 hW.2.2 r0 he h1 k hk (hts _ (rf_lk_tb hlk rfl)) (fun _ h9 => h9) hff (h3 k hk) hf1 hf2 (by simpa using hlen) hd kk
  | true =>
    rw [hff] at hfin
    simp only [Bool.not_true, Bool.false_or, Bool.and_eq_true, decide_eq_true_eq] at hfin
    exact va_putF hx hb hts h2 (rf_fty ci) h3 h4 hown hK hW.1 hW.2.1 hW.2.2 r0 he h1 k hk (hts _ (rf_lk_tb hlk rfl)) (fun _ h9 => h9) hff (hnm.trans hfin.1) hfin.2 (h3 k hk) hf1 hf2 (by simpa using hlen) hd kk
theorem rf_s31 (C : rf_Cx p R s m args meth c own cc nL nm dD aC SA ad A) {a : Int} {b k x nxt : Nat} {sw : List (Int × Nat)} (hc : rf_chk ms own cc nm nL ret pc (31, a, b, k, x, nxt, sw) = true) (hs : rf_stp SA (31, a, b, k, x, nxt, sw) L st σ = some r) (hG : rf_G p l e R s m args below meth c cells slots Q nL dD ad aC A r) : rf_G p l e R s m args below meth c cells slots Q nL dD ad aC A (pc, L, st, σ) := by
  obtain ⟨hx, hb, hml, hown, hts, hK, hSt, hA, hnm, hNx, hfr, hlo⟩ := C
  intro H locs ls hW hl
  simp only [rf_stp] at hs
  cases hs
  have hg := hG H locs ls hW hl
  simp only [rf_chk] at hc
  match b, hc, hg with
  | 0, hc, hg =>
    have hc : (rf_dec cc pc (.getstatic a.toNat) 3 nxt && rf_lk x (.fieldLink own a.toNat "LeftByLast$Acts" "BODY" "[I")) = true := hc
    rw [Bool.and_eq_true] at hc
    obtain ⟨hd, rfl⟩ := rf_dec_ok hc.1
    exact va_gets hx hb hSt.2.1 hW.2.2 hown (hts _ (rf_lk_tb hc.2 rfl)) (fun _ h9 => h9) hd hg
  | 1, hc, hg =>
    have hc : (rf_dec cc pc (.getstatic a.toNat) 3 nxt && rf_lk x (.fieldLink own a.toNat "LeftByLast$Acts" "ABOVE" "[I")) = true := hc
    rw [Bool.and_eq_true] at hc
    obtain ⟨hd, rfl⟩ := rf_dec_ok hc.1
    exact va_gets hx hb hSt.2.2 hW.2.2 hown (hts _ (rf_lk_tb hc.2 rfl)) (fun _ h9 => h9) hd hg
  | n + 2, hc, hg => cases hc
theorem rf_s32 (C : rf_Cx p R s m args meth c own cc nL nm dD aC SA ad A) {a : Int} {b k x nxt : Nat} {sw : List (Int × Nat)} (hc : rf_chk ms own cc nm nL ret pc (32, a, b, k, x, nxt, sw) = true) (hs : rf_stp SA (32, a, b, k, x, nxt, sw) L st σ = some r) (hG : rf_G p l e R s m args below meth c cells slots Q nL dD ad aC A r) : rf_G p l e R s m args below meth c cells slots Q nL dD ad aC A (pc, L, st, σ) := by
  obtain ⟨hx, hb, hml, hown, hts, hK, hSt, hA, hnm, hNx, hfr, hlo⟩ := C
  intro H locs ls hW hl
  simp only [rf_stp] at hs
  split at hs
  case h_2 => cases hs
  case h_1 i r0 rr =>
  simp only [rf_chk] at hc
  obtain ⟨hd, rfl⟩ := rf_dec_ok hc
  rw [cond_eq_ite] at hs
  split at hs
  case isTrue h6 =>
    have h6 : 1000000 ≤ r0 := Nat.le_of_ble_eq_true h6
    split at hs
    case h_2 => cases hs
    case h_1 q hq =>
    rw [cond_eq_ite] at hs
    split at hs
    case isFalse => cases hs
    case isTrue hin =>
    cases hs
    have hT := hSt.1 _ _ hq
    rw [show 1000000 + (r0 - 1000000) = r0 from Nat.add_sub_cancel' h6] at hT
    exact va_ti hx hb hT hW.2.2 (rf_ixs_ok hin) rfl hd (hG H locs ls hW hl)
  case isFalse h6 =>
    split at hs
    case h_2 => cases hs
    case h_1 n f hcell =>
    rw [cond_eq_ite] at hs
    split at hs
    case isFalse => cases hs
    case isTrue hin =>
    cases hs
    exact va_iald hx hb hK hW.1 r0 0 (rf_ws_get (ad := ad) (aC := aC) hcell) rfl (rf_ixs_ok hin) hd (hG H locs ls hW hl)
theorem rf_s33 (C : rf_Cx p R s m args meth c own cc nL nm dD aC SA ad A) {a : Int} {b k x nxt : Nat} {sw : List (Int × Nat)} (hc : rf_chk ms own cc nm nL ret pc (33, a, b, k, x, nxt, sw) = true) (hs : rf_stp SA (33, a, b, k, x, nxt, sw) L st σ = some r) (hG : rf_G p l e R s m args below meth c cells slots Q nL dD ad aC A r) : rf_G p l e R s m args below meth c cells slots Q nL dD ad aC A (pc, L, st, σ) := by
  obtain ⟨hx, hb, hml, hown, hts, hK, hSt, hA, hnm, hNx, hfr, hlo⟩ := C
  intro H locs ls hW hl
  simp only [rf_stp] at hs
  split at hs
  case h_2 => cases hs
  case h_1 v i r0 rr =>
  simp only [rf_chk] at hc
  obtain ⟨hd, rfl⟩ := rf_dec_ok hc
  split at hs
  case h_2 => cases hs
  case h_1 n f hcell =>
  rw [cond_eq_ite] at hs
  split at hs
  case isFalse => cases hs
  case isTrue hin =>
  cases hs
  refine va_iast hx hb hK hW.1 hW.2.1 hW.2.2 r0 0 (rf_ws_get (ad := ad) (aC := aC) hcell) rfl (rf_ixs_ok hin) hd (fun H1 locs1 g1 g2 g3 => ?_)
  have hset := rf_ws_set ad aC σ r0 (.inl (0, n, .inl (upd f i.toNatClampNeg v)))
  exact hG H1 locs1 ls ⟨by rw [← hset]; exact g1, by rw [← hset]; exact g2, g3⟩ hl
theorem rf_s34 (C : rf_Cx p R s m args meth c own cc nL nm dD aC SA ad A) {a : Int} {b k x nxt : Nat} {sw : List (Int × Nat)} (hc : rf_chk ms own cc nm nL ret pc (34, a, b, k, x, nxt, sw) = true) (hs : rf_stp SA (34, a, b, k, x, nxt, sw) L st σ = some r) (hG : rf_G p l e R s m args below meth c cells slots Q nL dD ad aC A r) : rf_G p l e R s m args below meth c cells slots Q nL dD ad aC A (pc, L, st, σ) := by
  obtain ⟨hx, hb, hml, hown, hts, hK, hSt, hA, hnm, hNx, hfr, hlo⟩ := C
  intro H locs ls hW hl
  simp only [rf_stp] at hs
  split at hs
  case h_2 => cases hs
  case h_1 i r0 rr =>
  simp only [rf_chk] at hc
  obtain ⟨hd, rfl⟩ := rf_dec_ok hc
  split at hs
  case h_2 => cases hs
  case h_1 n f hcell =>
  rw [cond_eq_ite] at hs
  split at hs
  case isFalse => cases hs
  case isTrue hin =>
  cases hs
  exact va_lald hx hb hK hW.1 r0 1 (rf_ws_get (ad := ad) (aC := aC) hcell) rfl (rf_ixs_ok hin) hd (hG H locs ls hW hl)
theorem rf_s35 (C : rf_Cx p R s m args meth c own cc nL nm dD aC SA ad A) {a : Int} {b k x nxt : Nat} {sw : List (Int × Nat)} (hc : rf_chk ms own cc nm nL ret pc (35, a, b, k, x, nxt, sw) = true) (hs : rf_stp SA (35, a, b, k, x, nxt, sw) L st σ = some r) (hG : rf_G p l e R s m args below meth c cells slots Q nL dD ad aC A r) : rf_G p l e R s m args below meth c cells slots Q nL dD ad aC A (pc, L, st, σ) := by
  obtain ⟨hx, hb, hml, hown, hts, hK, hSt, hA, hnm, hNx, hfr, hlo⟩ := C
  intro H locs ls hW hl
  simp only [rf_stp] at hs
  split at hs
  case h_2 => cases hs
  case h_1 v i r0 rr =>
  simp only [rf_chk] at hc
  obtain ⟨hd, rfl⟩ := rf_dec_ok hc
  split at hs
  case h_2 => cases hs
  case h_1 n f hcell =>
  rw [cond_eq_ite] at hs
  split at hs
  case isFalse => cases hs
  case isTrue hin =>
  cases hs
  refine va_last hx hb hK hW.1 hW.2.1 hW.2.2 r0 1 (rf_ws_get (ad := ad) (aC := aC) hcell) rfl (rf_ixs_ok hin) hd (fun H1 locs1 g1 g2 g3 => ?_)
  have hset := rf_ws_set ad aC σ r0 (.inl (1, n, .inr (.inl (vp_updL f i.toNatClampNeg v))))
  exact hG H1 locs1 ls ⟨by rw [← hset]; exact g1, by rw [← hset]; exact g2, g3⟩ hl
theorem rf_s36 (C : rf_Cx p R s m args meth c own cc nL nm dD aC SA ad A) {a : Int} {b k x nxt : Nat} {sw : List (Int × Nat)} (hc : rf_chk ms own cc nm nL ret pc (36, a, b, k, x, nxt, sw) = true) (hs : rf_stp SA (36, a, b, k, x, nxt, sw) L st σ = some r) (hG : rf_G p l e R s m args below meth c cells slots Q nL dD ad aC A r) : rf_G p l e R s m args below meth c cells slots Q nL dD ad aC A (pc, L, st, σ) := by
  obtain ⟨hx, hb, hml, hown, hts, hK, hSt, hA, hnm, hNx, hfr, hlo⟩ := C
  intro H locs ls hW hl
  simp only [rf_stp] at hs
  split at hs
  case h_2 => cases hs
  case h_1 i r0 rr =>
  simp only [rf_chk] at hc
  obtain ⟨hd, rfl⟩ := rf_dec_ok hc
  split at hs
  case h_2 => cases hs
  case h_1 n f hcell =>
  rw [cond_eq_ite] at hs
  split at hs
  case isFalse => cases hs
  case isTrue hin =>
  split at hs
  case h_2 => cases hs
  case h_1 q hq =>
  cases hs
  have hg := hG H locs ls hW hl
  refine va_aldq hx hb hK hW.1 r0 2 (rf_ws_get (ad := ad) (aC := aC) hcell) rfl (rf_ixs_ok hin) hd ?_
  have e1 : va_rf ((f i.toNatClampNeg).map ad) = Value.ref (ad q) := by rw [hq]; rfl
  rw [e1]
  exact hg
theorem rf_s37 (C : rf_Cx p R s m args meth c own cc nL nm dD aC SA ad A) {a : Int} {b k x nxt : Nat} {sw : List (Int × Nat)} (hc : rf_chk ms own cc nm nL ret pc (37, a, b, k, x, nxt, sw) = true) (hs : rf_stp SA (37, a, b, k, x, nxt, sw) L st σ = some r) (hG : rf_G p l e R s m args below meth c cells slots Q nL dD ad aC A r) : rf_G p l e R s m args below meth c cells slots Q nL dD ad aC A (pc, L, st, σ) := by
  obtain ⟨hx, hb, hml, hown, hts, hK, hSt, hA, hnm, hNx, hfr, hlo⟩ := C
  intro H locs ls hW hl
  simp only [rf_stp] at hs
  split at hs
  case h_2 => cases hs
  case h_1 v i r0 rr =>
  simp only [rf_chk] at hc
  obtain ⟨hd, rfl⟩ := rf_dec_ok hc
  split at hs
  case h_2 => cases hs
  case h_1 n f fs hcell hcv =>
  rw [cond_eq_ite] at hs
  split at hs
  case isFalse => cases hs
  case isTrue hin =>
  cases hs
  refine va_astq (r := (RX5, TX5, 6)) hx hb hK hW.1 hW.2.1 hW.2.2 r0 2 v 5 (rf_ws_get (ad := ad) (aC := aC) hcell) rfl (rf_ws_get (ad := ad) (aC := aC) hcv) rfl (rf_ixs_ok hin) hd (fun H1 locs1 g1 g2 g3 => ?_)
  have hset := rf_ws_set ad aC σ r0 (.inl (2, n, .inr (.inr (.inr (.inr (va_up f i.toNatClampNeg (some v)))))))
  have e1 : rf_mo ad aC (.inl (2, n, .inr (.inr (.inr (.inr (va_up f i.toNatClampNeg (some v))))))) = .inl (aC 2, n, .inr (.inr (.inr (.inr (va_up (fun j => (f j).map ad) i.toNatClampNeg (some (ad v))))))) := by
    show (Sum.inl (aC 2, n, Sum.inr (Sum.inr (Sum.inr (Sum.inr fun j => (va_up f i.toNatClampNeg (some v) j).map ad)))) : va_E) = _
    congr 7
    funext j
    unfold va_up
    by_cases hj : j = i.toNatClampNeg
    · rw [if_pos hj, if_pos hj]; rfl
    · rw [if_neg hj, if_neg hj]
  rw [e1] at hset
  exact hG H1 locs1 ls ⟨by rw [← hset]; exact g1, by rw [← hset]; exact g2, g3⟩ hl
theorem rf_s38 (C : rf_Cx p R s m args meth c own cc nL nm dD aC SA ad A) {a : Int} {b k x nxt : Nat} {sw : List (Int × Nat)} (hc : rf_chk ms own cc nm nL ret pc (38, a, b, k, x, nxt, sw) = true) (hs : rf_stp SA (38, a, b, k, x, nxt, sw) L st σ = some r) (hG : rf_G p l e R s m args below meth c cells slots Q nL dD ad aC A r) : rf_G p l e R s m args below meth c cells slots Q nL dD ad aC A (pc, L, st, σ) := by
  obtain ⟨hx, hb, hml, hown, hts, hK, hSt, hA, hnm, hNx, hfr, hlo⟩ := C
  intro H locs ls hW hl
  simp only [rf_stp] at hs
  split at hs
  case h_2 => cases hs
  case h_1 r0 rr =>
  simp only [rf_chk] at hc
  obtain ⟨hd, rfl⟩ := rf_dec_ok hc
  rw [cond_eq_ite] at hs
  split at hs
  case isTrue h6 =>
    have h6 : 1000000 ≤ r0 := Nat.le_of_ble_eq_true h6
    split at hs
    case h_2 => cases hs
    case h_1 q hq =>
    cases hs
    have hT := hSt.1 _ _ hq
    rw [show 1000000 + (r0 - 1000000) = r0 from Nat.add_sub_cancel' h6] at hT
    exact va_tlen hx hb hT hW.2.2 rfl hd (hG H locs ls hW hl)
  case isFalse h6 =>
    split at hs
    case h_2 => cases hs
    case h_1 kk n f hcell =>
    rw [cond_eq_ite] at hs
    split at hs
    case isFalse => cases hs
    case isTrue hk3 =>
    cases hs
    have hk3 : kk < 3 := Nat.le_of_ble_eq_true hk3
    have hg := hG H locs ls hW hl
    have hwe := rf_ws_get (ad := ad) (aC := aC) hcell
    have hty : ∃ ty, (rf_tys aC)[kk]? = some (aC kk, ty) := by
      match kk, hk3 with
      | 0, _ => exact ⟨_, rfl⟩
      | 1, _ => exact ⟨_, rfl⟩
      | 2, _ => exact ⟨_, rfl⟩
    obtain ⟨ty, hty⟩ := hty
    have hmo : ∃ f', rf_mo ad aC (.inl (kk, n, f)) = .inl (aC kk, n, f') := by
      rcases f with f | f | f | f | f <;> exact ⟨_, rfl⟩
    obtain ⟨f', hmo⟩ := hmo
    rw [hmo] at hwe
    exact va_alen hx hb hK hW.1 r0 kk hwe hty rfl hd hg
theorem rf_s42 (C : rf_Cx p R s m args meth c own cc nL nm dD aC SA ad A) {a : Int} {b k x nxt : Nat} {sw : List (Int × Nat)} (hc : rf_chk ms own cc nm nL ret pc (42, a, b, k, x, nxt, sw) = true) (hs : rf_stp SA (42, a, b, k, x, nxt, sw) L st σ = some r) (hG : rf_G p l e R s m args below meth c cells slots Q nL dD ad aC A r) : rf_G p l e R s m args below meth c cells slots Q nL dD ad aC A (pc, L, st, σ) := by
  obtain ⟨hx, hb, hml, hown, hts, hK, hSt, hA, hnm, hNx, hfr, hlo⟩ := C
  intro H locs ls hW hl
  simp only [rf_stp] at hs
  split at hs
  case h_2 => cases hs
  case h_1 r0 rr =>
  rw [cond_eq_ite] at hs
  split at hs
  case isFalse => cases hs
  case isTrue h8 =>
  cases hs
  have h8 : rf_cat rr ≤ 8 := Nat.le_of_ble_eq_true h8
  simp only [rf_chk, Bool.and_eq_true] at hc
  obtain ⟨hd, rfl⟩ := rf_dec_ok hc.1
  have hg := hG H locs ls hW hl
  refine W.objInit hx hb hown (hts _ (rf_lk_tb hc.2 rfl)) (hts _ rf_oi1) (hts _ rf_oi2) rfl (by rw [hml]; exact hl.1) rfl hd hfr ?_ ?_
  · rw [rf_cat_map]
    show 2 * 0 + rf_cat rr + 12 ≤ R.locals
    omega
  · exact hg
theorem rf_s43 (C : rf_Cx p R s m args meth c own cc nL nm dD aC SA ad A) {a : Int} {b k x nxt : Nat} {sw : List (Int × Nat)} (hc : rf_chk ms own cc nm nL ret pc (43, a, b, k, x, nxt, sw) = true) (hs : rf_stp SA (43, a, b, k, x, nxt, sw) L st σ = some r) (hG : rf_G p l e R s m args below meth c cells slots Q nL dD ad aC A r) : rf_G p l e R s m args below meth c cells slots Q nL dD ad aC A (pc, L, st, σ) := by
  obtain ⟨hx, hb, hml, hown, hts, hK, hSt, hA, hnm, hNx, hfr, hlo⟩ := C
  intro H locs ls hW hl
  simp only [rf_stp] at hs
  split at hs
  case h_2 => cases hs
  case h_1 n dp r1 sp r0 rr =>
  rw [cond_eq_ite] at hs
  split at hs
  case isFalse => cases hs
  case isTrue h8 =>
  simp only [Bool.and_eq_true, decide_eq_true_eq] at h8
  obtain ⟨⟨⟨hn0, hd0⟩, hs0⟩, h8⟩ := h8
  have h8 : rf_cat rr ≤ 8 := Nat.le_of_ble_eq_true h8
  simp only [rf_chk, Bool.and_eq_true] at hc
  obtain ⟨hd, rfl⟩ := rf_dec_ok hc.1
  have hlk := hts _ (rf_lk_tb hc.2 rfl)
  have hml' : c.maxLocals = ls.size := by rw [hml]; exact hl.1.symm
  have hlo' : ((rr.map (rf_mv ad)).map fun v => v.category).sum + (nativeFrameWords "java/lang/System" "arraycopy" 5 + 11) ≤ R.locals := by
    rw [rf_cat_map]
    have : nativeFrameWords "java/lang/System" "arraycopy" 5 + 11 ≤ 50 := by decide
    omega
  split at hs
  case h_3 => cases hs
  case h_1 n0 f n1 g hc0 hc1 =>
    rw [cond_eq_ite] at hs
    split at hs
    case isFalse => cases hs
    case isTrue hle =>
    rw [Bool.and_eq_true] at hle
    cases hs
    refine va_copyi hx hb hml' hown hlk (hts _ rf_ac1) (hts _ rf_ac2) (hts _ rf_ac3) hK hW.1 hW.2.1 hW.2.2 r0 r1 0 0 (rf_ws_get (ad := ad) (aC := aC) hc0) (rf_ws_get (ad := ad) (aC := aC) hc1) rfl rfl rfl hs0 hd0 hn0 (Nat.le_of_ble_eq_true hle.1) (Nat.le_of_ble_eq_true hle.2) (fun _ _ => rfl) hfr hlo' hd (fun H1 locs1 g1 g2 g3 => ?_)
    have hset := rf_ws_set ad aC σ r1 (.inl (0, n1, .inl (va_cpy f g sp.toNatClampNeg dp.toNatClampNeg n.toNatClampNeg)))
    exact hG H1 locs1 ls ⟨by rw [← hset]; exact g1, by rw [← hset]; exact g2, g3⟩ hl
  case h_2 n0 f n1 g hc0 hc1 =>
    rw [cond_eq_ite] at hs
    split at hs
    case isFalse => cases hs
    case isTrue hle =>
    rw [Bool.and_eq_true] at hle
    cases hs
    refine va_copyl hx hb hml' hown hlk (hts _ rf_ac1) (hts _ rf_ac2) (hts _ rf_ac3) hK hW.1 hW.2.1 hW.2.2 r0 r1 1 1 (rf_ws_get (ad := ad) (aC := aC) hc0) (rf_ws_get (ad := ad) (aC := aC) hc1) rfl rfl rfl hs0 hd0 hn0 (Nat.le_of_ble_eq_true hle.1) (Nat.le_of_ble_eq_true hle.2) (fun _ _ => rfl) hfr hlo' hd (fun H1 locs1 g1 g2 g3 => ?_)
    have hset := rf_ws_set ad aC σ r1 (.inl (1, n1, .inr (.inl (va_cpy f g sp.toNatClampNeg dp.toNatClampNeg n.toNatClampNeg))))
    exact hG H1 locs1 ls ⟨by rw [← hset]; exact g1, by rw [← hset]; exact g2, g3⟩ hl
theorem rf_s44 (C : rf_Cx p R s m args meth c own cc nL nm dD aC SA ad A) {a : Int} {b k x nxt : Nat} {sw : List (Int × Nat)} (hcc : cells ≤ R.cells) (hss : slots ≤ R.slots) (hc : rf_chk ms own cc nm nL ret pc (44, a, b, k, x, nxt, sw) = true) (hs : rf_stp SA (44, a, b, k, x, nxt, sw) L st σ = some r) (hG : rf_G p l e R s m args below meth c cells slots Q nL dD ad aC A r) : rf_G p l e R s m args below meth c cells slots Q nL dD ad aC A (pc, L, st, σ) := by
  obtain ⟨hx, hb, hml, hown, hts, hK, hSt, hA, hnm, hNx, hfr, hlo⟩ := C
  intro H locs ls hW hl
  simp only [rf_stp] at hs
  split at hs
  case h_2 => cases hs
  case h_1 y z rr =>
  rw [cond_eq_ite] at hs
  split at hs
  case isFalse => cases hs
  case isTrue h8 =>
  have h8 : rf_cat rr ≤ 8 := Nat.le_of_ble_eq_true h8
  cases hs
  simp only [rf_chk, Bool.and_eq_true] at hc
  obtain ⟨hd, rfl⟩ := rf_dec_ok hc.1
  have hg := hG H locs ls hW hl
  exact va_mmax hx hb (by rw [hml]; exact hl.1.symm) hown (hts _ (rf_lk_tb hc.2 rfl)) (hts _ rf_ma1) (hts _ rf_ma2) (hts _ rf_ma3) hfr (by rw [rf_cat_map]; omega) hcc hss hd hg
theorem rf_s45 (C : rf_Cx p R s m args meth c own cc nL nm dD aC SA ad A) {a : Int} {b k x nxt : Nat} {sw : List (Int × Nat)} (hcc : cells ≤ R.cells) (hss : slots ≤ R.slots) (hc : rf_chk ms own cc nm nL ret pc (45, a, b, k, x, nxt, sw) = true) (hs : rf_stp SA (45, a, b, k, x, nxt, sw) L st σ = some r) (hG : rf_G p l e R s m args below meth c cells slots Q nL dD ad aC A r) : rf_G p l e R s m args below meth c cells slots Q nL dD ad aC A (pc, L, st, σ) := by
  obtain ⟨hx, hb, hml, hown, hts, hK, hSt, hA, hnm, hNx, hfr, hlo⟩ := C
  intro H locs ls hW hl
  simp only [rf_stp] at hs
  split at hs
  case h_2 => cases hs
  case h_1 y z rr =>
  rw [cond_eq_ite] at hs
  split at hs
  case isFalse => cases hs
  case isTrue h8 =>
  have h8 : rf_cat rr ≤ 8 := Nat.le_of_ble_eq_true h8
  cases hs
  simp only [rf_chk, Bool.and_eq_true] at hc
  obtain ⟨hd, rfl⟩ := rf_dec_ok hc.1
  have hg := hG H locs ls hW hl
  exact va_mmin hx hb (by rw [hml]; exact hl.1.symm) hown (hts _ (rf_lk_tb hc.2 rfl)) (hts _ rf_mi1) (hts _ rf_mi2) (hts _ rf_mi3) hfr (by rw [rf_cat_map]; omega) hcc hss hd hg
end
end
section
/-! making, calling, leaving; the walk of a whole method -/
def rf_Ag (n0 : Nat) (ad0 ad : Nat → Nat) (σ : rf_S) : Prop := n0 ≤ σ.length ∧ (∀ i : Nat, (i < n0 ∨ 1000000 ≤ i) → ad i = ad0 i) ∧ (σ.length = n0 → ad = ad0)
def rf_B (dD : va_G) (aC : Nat → ClassId) (SA : rf_A) (ad : Nat → Nat) (σ : rf_S) (sz : Nat) (A : Nat → Prop) (U : State) : Prop := U.heap.size = sz ∧ va_P dD vwCl (rf_ws ad aC σ) U.heap ∧ va_K dD vwCl (rf_tys aC) U ∧ va_D (fun _ => True) (rf_ws ad aC σ) ∧ rf_St SA ad A U U.heap ∧ rf_Nx U
def rf_Q (dD : va_G) (aC : Nat → ClassId) (n0 : Nat) (ad0 : Nat → Nat) (post : rf_P) (A : Nat → Prop) : Array Value → State → Outcome → State → Prop := fun _ st oc t => (∃ (rv : Option Value) (σ1 : rf_S) (ad1 : Nat → Nat), oc = .returned (rv.map (rf_mv ad1)) ∧ post rv σ1 ∧ rf_Ag n0 ad0 ad1 σ1 ∧ va_P dD vwCl (rf_ws ad1 aC σ1) t.heap ∧ va_D A (rf_ws ad1 aC σ1)) ∧ va_F A st t
theorem rf_mv_ag {n : Nat} {ad ad0 : Nat → Nat} (h : ∀ i : Nat, (i < n ∨ 1000000 ≤ i) → ad i = ad0 i) {v : Value} (hv : rf_wfv n v = true) : rf_mv ad v = rf_mv ad0 v := by
  cases v <;> try rfl
  simp only [rf_wfv, Bool.or_eq_true] at hv
  simp only [rf_mv]
  rw [h]
  exact hv.imp Nat.le_of_ble_eq_true Nat.le_of_ble_eq_true
theorem rf_map_ag {n : Nat} {ad ad0 : Nat → Nat} (h : ∀ i : Nat, (i < n ∨ 1000000 ≤ i) → ad i = ad0 i) {st : List Value} (hv : st.all (rf_wfv n) = true) : st.map (rf_mv ad) = st.map (rf_mv ad0) :=
  List.map_congr_left fun v hm => rf_mv_ag h (List.all_eq_true.mp hv v hm)
theorem rf_mL_ag {n : Nat} {ad ad0 : Nat → Nat} (h : ∀ i : Nat, (i < n ∨ 1000000 ≤ i) → ad i = ad0 i) {L : rf_L} (hv : L.all (fun q => rf_wfv n q.2) = true) : rf_mL ad L = rf_mL ad0 L :=
  List.map_congr_left fun q hm => by rw [rf_mv_ag h (List.all_eq_true.mp hv q hm)]
theorem rf_mo_ag {n : Nat} {ad ad0 : Nat → Nat} {aC : Nat → ClassId} (h : ∀ i : Nat, (i < n ∨ 1000000 ≤ i) → ad i = ad0 i) {o : va_E} (hv : rf_wfo n o) : rf_mo ad aC o = rf_mo ad0 aC o := by
  rcases o with ⟨k, z, f | f | f | f | f⟩ | ⟨ci, fs⟩
  · rfl
  · rfl
  · rfl
  · rfl
  · have hv : ∀ j i, f j = some i → i < n := hv
    show (Sum.inl (aC k, z, Sum.inr (Sum.inr (Sum.inr (Sum.inr fun j => (f j).map ad)))) : va_E) = Sum.inl (aC k, z, Sum.inr (Sum.inr (Sum.inr (Sum.inr fun j => (f j).map ad0))))
    congr 7
    funext j
    cases hj : f j with
    | none => rfl
    | some i => simp only [Option.map_some]; rw [h i (Or.inl (hv j i hj))]
  · have hv : fs.all (rf_wfv n) = true := hv
    show (Sum.inr (ci, fs.map (rf_mv ad)) : va_E) = Sum.inr (ci, fs.map (rf_mv ad0))
    rw [rf_map_ag h hv]
theorem rf_ws_push {ad ad0 : Nat → Nat} {aC : Nat → ClassId} {σ : rf_S} (h : ∀ i : Nat, (i < σ.length ∨ 1000000 ≤ i) → ad i = ad0 i) (hw : rf_wfs σ) (o : va_E) : rf_ws ad aC (σ ++ [o]) = rf_ws ad0 aC σ ++ [(ad σ.length, rf_mo ad aC o)] := by
  apply List.ext_getElem?
  intro j
  unfold rf_ws
  rw [List.getElem?_mapIdx]
  by_cases hj : j < σ.length
  · rw [List.getElem?_append_left hj, List.getElem?_append_left (by rw [List.length_mapIdx]; exact hj), List.getElem?_mapIdx]
    cases ho : σ[j]? with
    | none => rfl
    | some o' =>
      simp only [Option.map_some]
      rw [h j (Or.inl hj), rf_mo_ag h (hw o' (List.mem_of_getElem? ho))]
  · rw [List.getElem?_append_right (by omega), List.getElem?_append_right (by rw [List.length_mapIdx]; omega), List.length_mapIdx]
    cases hk : j - σ.length with
    | zero =>
      have : j = σ.length := by omega
      subst this
      rfl
    | succ k => simp
theorem rf_stp_len {SA : rf_A} {E : rf_E} {L : rf_L} {st : List Value} {σ : rf_S} {r : Nat × rf_L × List Value × rf_S} (h : rf_stp SA E L st σ = some r) : r.2.2.2.length = σ.length := by
  obtain ⟨op, a, b, c, x, nxt, sw⟩ := E
  unfold rf_stp at h
  simp only [cond_eq_ite] at h
  repeat' split at h
  all_goals first | (cases h; rfl) | (cases h; exact List.length_set) | cases h
theorem rf_inst {b : Nat} (hb : b < 11) : ∃ (C : String) (T : u_T) (N : Nat), vwCl[b]? = some (C, T, N) ∧ Jvm.Cond.instantiable C N ∈ rf_tb ∧ Jvm.Cond.initialized C ∈ rf_tb := by
  match b, hb with
  | 0, _ => exact ⟨RX0, TX0, 5, rfl, by decide +kernel, by decide +kernel⟩
  | 1, _ => exact ⟨RX1, TX1, 6, rfl, by decide +kernel, by decide +kernel⟩
  | 2, _ => exact ⟨RX2, TX2, 12, rfl, by decide +kernel, by decide +kernel⟩
  | 3, _ => exact ⟨RX3, TX3, 8, rfl, by decide +kernel, by decide +kernel⟩
  | 4, _ => exact ⟨RX4, TX4, 11, rfl, by decide +kernel, by decide +kernel⟩
  | 5, _ => exact ⟨RX5, TX5, 6, rfl, by decide +kernel, by decide +kernel⟩
  | 6, _ => exact ⟨RX6, TX6, 4, rfl, by decide +kernel, by decide +kernel⟩
  | 7, _ => exact ⟨RX7, TX7, 14, rfl, by decide +kernel, by decide +kernel⟩
  | 8, _ => exact ⟨RX8, TX8, 4, rfl, by decide +kernel, by decide +kernel⟩
  | 9, _ => exact ⟨RX9, TX9, 8, rfl, by decide +kernel, by decide +kernel⟩
  | 10, _ => exact ⟨RX10, TX10, 62, rfl, by decide +kernel, by decide +kernel⟩
theorem rf_ai : Jvm.Cond.arrayClass .int ∈ rf_tb := by decide +kernel
theorem rf_al : Jvm.Cond.arrayClass .long ∈ rf_tb := by decide +kernel
theorem rf_mv_df (ad : Nat → Nat) (ty : FieldType) : rf_mv ad (defaultValue ty) = defaultValue ty := by cases ty <;> rfl
/-- the address book with one more -/
def rf_nx (ad : Nat → Nat) (n q : Nat) : Nat → Nat := fun i => if i = n then q else ad i
theorem rf_nx_ag {ad : Nat → Nat} {n q : Nat} (hn : n < 1000000) : ∀ i : Nat, (i < n ∨ 1000000 ≤ i) → rf_nx ad n q i = ad i := by
  intro i hi
  unfold rf_nx
  rw [if_neg (by omega)]
theorem rf_nx_at (ad : Nat → Nat) (n q : Nat) : rf_nx ad n q n = q := if_pos rfl
section
variable {p : Program} {l : Launch} {e : Env} {R : Room} {s : State} {m : MethodId} {args : Array Value} {below : List Frame} {meth : Method} {c : Code} {cells slots : Nat} {Q : State → Prop} {own : String} {cc : ByteArray} {nL : Nat} {nm : String} {dD : va_G} {aC : Nat → ClassId} {SA : rf_A} {ad : Nat → Nat} {A : Nat → Prop} {ms : List rf_M} {ret : Option FieldType} {pc : Nat} {L : rf_L} {st : List Value} {σ : rf_S}
theorem rf_St_ag {ad' : Nat → Nat} {U : State} {H : Heap} (h : ∀ i : Nat, 1000000 ≤ i → ad' i = ad i) (hS : rf_St SA ad A U H) : rf_St SA ad' A U H := by
  obtain ⟨h1, h2, h3⟩ := hS
  refine ⟨fun j x hj => ?_, ?_, ?_⟩
  · rw [h _ (Nat.le_add_right _ _)]; exact h1 j x hj
  · rw [h _ (Nat.le_refl _)]; exact h2
  · rw [h _ (by omega)]; exact h3
theorem rf_Cx_ag {ad' : Nat → Nat} (h : ∀ i : Nat, 1000000 ≤ i → ad' i = ad i) (C : rf_Cx p R s m args meth c own cc nL nm dD aC SA ad A) : rf_Cx p R s m args meth c own cc nL nm dD aC SA ad' A := by
  obtain ⟨hx, hb, hml, hown, hts, hK, hSt, hrest⟩ := C
  exact ⟨hx, hb, hml, hown, hts, hK, rf_St_ag h hSt, hrest⟩
/-- an object is made: the goal behind it, for any address -/
theorem rf_sA (C : rf_Cx p R s m args meth c own cc nL nm dD aC SA ad A) {E : rf_E} {r : List Value} {o : va_E} {w : Nat} (hc : rf_chk ms own cc nm nL ret pc E = true) (hs : rf_alc E st = some (r, o, w)) (hn : σ.length < 1000000) (hwf : rf_wfs σ) (hwl : rf_wfl σ.length L r = true) (hcells : cells + 1 ≤ R.cells) (hslots : slots + w ≤ R.slots)
    (hG : ∀ ad' : Nat → Nat, (∀ i : Nat, (i < σ.length ∨ 1000000 ≤ i) → ad' i = ad i) → rf_G p l e R s m args below meth c (cells + 1) (slots + w) Q nL dD ad' aC A (E.2.2.2.2.2.1, L, .ref σ.length :: r, σ ++ [o])) : rf_G p l e R s m args below meth c cells slots Q nL dD ad aC A (pc, L, st, σ) := by
  obtain ⟨hx, hb, hml, hown, hts, hK, hSt, hA, hnm, hNx, hfr, hlo⟩ := C
  intro H locs ls hW hl
  obtain ⟨op, a, b, k, x, nxt, sw⟩ := E
  rw [rf_wfl, Bool.and_eq_true] at hwl
  have fin : ∀ (q : Nat) (H1 : Heap) (o' : va_E), rf_mo (rf_nx ad σ.length q) aC o = o' → va_P dD vwCl (rf_ws ad aC σ ++ [(q, o')]) H1 → va_D A (rf_ws ad aC σ ++ [(q, o')]) → va_S A s.heap H1 locs → W p l e R s m args below meth c H1 locs (cells + 1) (slots + w) Q (F0 m nxt ls (.ref q :: r.map (rf_mv ad))) := by
    intro q H1 o' ho g1 g2 g3
    have hag := rf_nx_ag (ad := ad) (q := q) hn
    have hg := hG (rf_nx ad σ.length q) hag H1 locs ls
    have e1 : rf_ws (rf_nx ad σ.length q) aC (σ ++ [o]) = rf_ws ad aC σ ++ [(q, o')] := by
      rw [rf_ws_push hag hwf, rf_nx_at, ho]
    have e2 : r.map (rf_mv (rf_nx ad σ.length q)) = r.map (rf_mv ad) := rf_map_ag hag hwl.2
    have e3 : rf_mL (rf_nx ad σ.length q) L = rf_mL ad L := rf_mL_ag hag hwl.1
    have hg := hg ⟨by rw [e1]; exact g1, by rw [e1]; exact g2, g3⟩ (by rw [e3]; exact hl)
    have e4 : (Value.ref σ.length :: r).map (rf_mv (rf_nx ad σ.length q)) = .ref q :: r.map (rf_mv ad) := by
      rw [List.map_cons, e2]
      simp only [rf_mv, rf_nx_at]
    rw [← e4]
    exact hg
  simp only [rf_alc] at hs
  split at hs
  case h_1 =>
    cases hs
    simp only [rf_chk, Bool.and_eq_true] at hc
    obtain ⟨⟨hd0, hbn⟩, hlk⟩ := hc
    obtain ⟨hd, rfl⟩ := rf_dec_ok hd0
    have hbn : b < 11 := Nat.le_of_ble_eq_true hbn
    obtain ⟨C0, T, N, h1, h2, h3, h4, h5, h6⟩ := rf_cls hbn
    obtain ⟨C1, T1, N1, g1, g2, g3⟩ := rf_inst hbn
    rw [h1] at g1
    cases g1
    rw [h1] at hlk
    dsimp only at hlk
    rw [h6] at hslots fin
    have hmap : ((List.range N).map (fun k => defaultValue (rf_fty b k))).map (rf_mv ad) = (List.range N).map (fun k => defaultValue (rf_fty b k)) := by
      rw [List.map_map]
      apply List.map_congr_left
      intro k _
      exact rf_mv_df ad _
    refine va_new hx hb hts h2 (rf_fty b) h3 hown (hts _ (rf_lk_tb hlk rfl)) (hts _ g2) (hts _ g3) hK hW.1 hW.2.1 hW.2.2 hA h1 (fs := (List.range N).map (fun k => defaultValue (rf_fty b k))) ?_ hcells hslots hd (fun q H1 p1 p2 p3 => ?_)
    · intro j hj
      unfold vp_V
      rw [List.getD_eq_getElem?_getD, List.getElem?_map, List.getElem?_range hj]
      rfl
    · refine fin q H1 _ ?_ p1 p2 p3
      show (Sum.inr (b, ((List.range N).map (fun k => defaultValue (rf_fty b k))).map (rf_mv _)) : va_E) = _
      rw [List.map_map]
      congr 2
      apply List.map_congr_left
      intro k _
      exact rf_mv_df _ _
  case h_2 =>
    split at hs
    case h_2 => cases hs
    case h_1 n rr =>
    rw [cond_eq_ite] at hs
    split at hs
    case isFalse => cases hs
    case isTrue hle =>
    rw [Bool.and_eq_true, decide_eq_true_eq] at hle
    obtain ⟨hn0, hle⟩ := hle
    have hle : n.toNatClampNeg ≤ 1000 := Nat.le_of_ble_eq_true hle
    have key : ∀ (kd : Nat) (ty : FieldType), (rf_tys aC)[kd]? = some (aC kd, ty) → (∀ C, ty ≠ .object C) → ∀ cA, va_K dD vwCl (rf_tys aC ++ [(cA, ty)]) s → cA = aC kd := by
      intro kd ty h1 hno cA hk2
      have q1 := (hK.2 kd _ h1).2
      have q2 := (hk2.2 3 (cA, ty) rfl).2
      unfold va_RA at q1 q2
      cases ty <;> first | exact absurd rfl (hno _) | exact Option.some.inj (q2.symm.trans q1)
    match b, hc, hs with
    | 0, hc, hs =>
      cases hs
      have hc : rf_dec cc pc (.newarray .int) 2 nxt = true := hc
      obtain ⟨hd, rfl⟩ := rf_dec_ok hc
      refine va_newa (atype := .int) (ty := .int) (a0 := (n.toNatClampNeg, .inl (fun _ => 0))) hx hb (hts _ rf_ai) rfl hK hW.1 hW.2.1 hW.2.2 hA (fun _ => rfl) hn0 rfl ?_ hcells hslots hd (fun q cA H1 k1 p1 p2 p3 => ?_)
      · have : componentBytes FieldType.int ≤ 8 := by decide
        exact Nat.le_trans (Nat.mul_le_mul hle this) (by decide)
      · have hcA := key 0 .int rfl (fun C q => by cases q) cA k1
        subst hcA
        exact fin q H1 _ rfl p1 p2 p3
    | b + 1, hc, hs =>
      cases hs
      have hc : rf_dec cc pc (.newarray .long) 2 nxt = true := hc
      obtain ⟨hd, rfl⟩ := rf_dec_ok hc
      refine va_newa (atype := .long) (ty := .long) (a0 := (n.toNatClampNeg, .inr (.inl (fun _ => 0)))) hx hb (hts _ rf_al) rfl hK hW.1 hW.2.1 hW.2.2 hA (fun _ => rfl) hn0 rfl ?_ hcells hslots hd (fun q cA H1 k1 p1 p2 p3 => ?_)
      · have : componentBytes FieldType.long ≤ 8 := by decide
        exact Nat.le_trans (Nat.mul_le_mul hle this) (by decide)
      · have hcA := key 1 .long rfl (fun C q => by cases q) cA k1
        subst hcA
        exact fin q H1 _ rfl p1 p2 p3
  case h_3 =>
    split at hs
    case h_2 => cases hs
    case h_1 n rr =>
    rw [cond_eq_ite] at hs
    split at hs
    case isFalse => cases hs
    case isTrue hle =>
    rw [Bool.and_eq_true, decide_eq_true_eq] at hle
    obtain ⟨hn0, hle⟩ := hle
    have hle : n.toNatClampNeg ≤ 1000 := Nat.le_of_ble_eq_true hle
    cases hs
    simp only [rf_chk, Bool.and_eq_true] at hc
    obtain ⟨hd, rfl⟩ := rf_dec_ok hc.1
    refine va_newq hx hb hown (hts _ (rf_lk_tb hc.2 rfl)) hNx.2 hK hW.1 hW.2.1 hW.2.2 hA hn0 rfl ?_ hcells hslots hd (fun q cA H1 k1 p1 p2 p3 => ?_)
    · exact Nat.le_trans (Nat.mul_le_mul hle (Nat.le_refl 4)) (by decide)
    · have q1 := (hK.2 2 _ rfl).2
      have q2 := (k1.2 3 (cA, .object "LeftByLast$Moment") rfl).2
      obtain ⟨_, _, -, -, -, q1⟩ := q1
      obtain ⟨_, _, -, -, -, q2⟩ := q2
      have hcA : cA = aC 2 := Option.some.inj (q2.symm.trans q1)
      subst hcA
      exact fin q H1 _ rfl p1 p2 p3
  case h_4 => cases hs
end
section
variable {p : Program} {l : Launch} {e : Env} {R : Room} {s : State} {m : MethodId} {args : Array Value} {below : List Frame} {meth : Method} {c : Code} {cells slots : Nat} {Q : State → Prop} {own : String} {cc : ByteArray} {nL : Nat} {nm : String} {dD : va_G} {aC : Nat → ClassId} {SA : rf_A} {ad : Nat → Nat} {A : Nat → Prop} {ms : List rf_M} {ret : Option FieldType} {pc : Nat} {L : rf_L} {st : List Value} {σ : rf_S}
/-- any instruction that neither calls, makes nor leaves -/
theorem rf_sS (C : rf_Cx p R s m args meth c own cc nL nm dD aC SA ad A) (hcc : cells ≤ R.cells) (hss : slots ≤ R.slots) {E : rf_E} {r : Nat × rf_L × List Value × rf_S} (hc : rf_chk ms own cc nm nL ret pc E = true) (hs : rf_stp SA E L st σ = some r) (hG : rf_G p l e R s m args below meth c cells slots Q nL dD ad aC A r) : rf_G p l e R s m args below meth c cells slots Q nL dD ad aC A (pc, L, st, σ) := by
  obtain ⟨op, a, b, k, x, nxt, sw⟩ := E
  match op, hc, hs with
  | 0, hc, hs => exact rf_s0 C hc hs hG
  | 1, hc, hs => exact rf_s1 C hc hs hG
  | 2, hc, hs => exact rf_s2 C hc hs hG
  | 3, hc, hs => exact rf_s3 C hc hs hG
  | 4, hc, hs => exact rf_s4 C hc hs hG
  | 5, hc, hs => exact rf_s5 C hc hs hG
  | 6, hc, hs => exact rf_s6 C hc hs hG
  | 7, hc, hs => exact absurd hc (by simp [rf_chk])
  | 8, hc, hs => exact rf_s8 C hc hs hG
  | 9, hc, hs => exact rf_s9 C hc hs hG
  | 10, hc, hs => exact rf_s10 C hc hs hG
  | 11, hc, hs => exact rf_s11 C hc hs hG
  | 12, hc, hs => exact rf_s12 C hc hs hG
  | 13, hc, hs => exact rf_s13 C hc hs hG
  | 14, hc, hs => exact rf_s14 C hc hs hG
  | 15, hc, hs => exact rf_s15 C hc hs hG
  | 16, hc, hs => exact rf_s16 C hc hs hG
  | 17, hc, hs => exact rf_s17 C hc hs hG
  | 18, hc, hs => exact rf_s18 C hc hs hG
  | 19, hc, hs => exact rf_s19 C hc hs hG
  | 20, hc, hs => exact rf_s20 C hc hs hG
  | 21, hc, hs => exact rf_s21 C hc hs hG
  | 22, hc, hs => exact rf_s22 C hc hs hG
  | 23, hc, hs => exact rf_s23 C hc hs hG
  | 24, hc, hs => exact rf_s24 C hc hs hG
  | 25, hc, hs => exact rf_s25 C hc hs hG
  | 26, hc, hs => exact rf_s26 C hc hs hG
  | 27, hc, hs => exact rf_s27 C hc hs hG
  | 28, hc, hs => exact rf_s28 C hc hs hG
  | 29, hc, hs => exact rf_s29 C hc hs hG
  | 30, hc, hs => exact rf_s30 C hc hs hG
  | 31, hc, hs => exact rf_s31 C hc hs hG
  | 32, hc, hs => exact rf_s32 C hc hs hG
  | 33, hc, hs => exact rf_s33 C hc hs hG
  | 34, hc, hs => exact rf_s34 C hc hs hG
  | 35, hc, hs => exact rf_s35 C hc hs hG
  | 36, hc, hs => exact rf_s36 C hc hs hG
  | 37, hc, hs => exact rf_s37 C hc hs hG
  | 38, hc, hs => exact rf_s38 C hc hs hG
  | 39, hc, hs => exact absurd hs (by simp [rf_stp])
  | 40, hc, hs => exact absurd hs (by simp [rf_stp])
  | 41, hc, hs => exact absurd hs (by simp [rf_stp])
  | 42, hc, hs => exact rf_s42 C hc hs hG
  | 43, hc, hs => exact rf_s43 C hc hs hG
  | 44, hc, hs => exact rf_s44 C hcc hss hc hs hG
  | 45, hc, hs => exact rf_s45 C hcc hss hc hs hG
  | n + 46, hc, hs => exact absurd hs (by simp [rf_stp])
/-- behind a call -/
theorem rf_callX {H H0 : Heap} {locs : List Loc} {ls : Array Slot} {st0 rest : List Value} {a : Array Value} {A0 A1 : Nat → Prop} {mc mk : Nat} {free : Addr → Prop} {n0 : Nat} {ad0 : Nat → Nat} {post : rf_P} (hr : va_Run p l e R s m args below meth c H locs cells slots mc mk (F0 m pc ls st0) rest (rf_Q dD aC n0 ad0 post A1 a) free) (hS : va_S A0 H0 H locs) (hA : ∀ q, q < H.size → A1 q → A0 q) (hf : ∀ q, free q → A0 q)
    (kk : ∀ (rv : Option Value) (σ1 : rf_S) (ad1 : Nat → Nat) (H1 : Heap) (locs1 : List Loc), post rv σ1 → rf_Ag n0 ad0 ad1 σ1 → va_P dD vwCl (rf_ws ad1 aC σ1) H1 → va_D A1 (rf_ws ad1 aC σ1) → va_S A0 H0 H1 locs1 → W p l e R s m args below meth c H1 locs1 (cells + mc) (slots + mk) Q (F0 m (pc + 3) ls ((rv.map (rf_mv ad1)).toList ++ rest))) : W p l e R s m args below meth c H locs cells slots Q (F0 m pc ls st0) := by
  intro T hT X
  obtain ⟨v, st₀, t, T', LL, h0, X', hL, e1, e2, ⟨⟨rv, σ1, ad1, hv, hp, hag, hb, hd⟩, hz, hk⟩, stp⟩ := hr T hT X
  cases hv
  rw [h0] at hz hk
  obtain ⟨t2, a1, b1⟩ := kk rv σ1 ad1 T'.heap (locs ++ LL) hp hag (by rw [e1]; exact hb) hd
    ⟨Nat.le_trans hS.1 (by rw [e1]; exact hz), fun q h1 h2 => by rw [e1, hk q (Nat.lt_of_lt_of_le h1 hS.1) (fun z => h2 (hA q (Nat.lt_of_lt_of_le h1 hS.1) z))]; exact hS.2.1 q h1 h2, fun q hq => by
      rcases List.mem_append.mp hq with h | h
      · exact hS.2.2 q h
      · exact hf _ (hL q h)⟩ T' rfl X'
  exact ⟨t2, stp t2 a1, b1⟩
end
end
section
/-! a call -/
def rf_CM (l : Launch) (dD : va_G) (aC : Nat → ClassId) (SA : rf_A) (ad : Nat → Nat) (σ : rf_S) (As : List Value) (mj : rf_M) (fr lo : Nat) (post : rf_P) : Prop :=
  ∀ sz : Nat, Met l mj.1.1 (Jvm.Cond.code mj.1.1 mj.1.2.1 mj.1.2.2.1 mj.1.2.2.2.1 :: rf_tb) { frames := fr, cells := mj.2.1.2.2.1, slots := mj.2.1.2.2.2.1, locals := lo } (va_Pc (As.map (rf_mv ad)) (rf_B dD aC SA ad σ sz (va_A (rf_ws ad aC σ) sz))) (rf_Q dD aC σ.length ad post (va_A (rf_ws ad aC σ) sz)) mj.2.1.2.2.1 mj.2.1.2.2.2.1 (va_A (rf_ws ad aC σ) sz)
theorem rf_gi {w0 : Jvm.Cond} (h : w0 ∈ rf_tb) : GoodIn rf_tb (w0 :: rf_tb) := fun w hw => by
  have h1 : w ∈ rf_tb := (List.mem_cons.mp hw).elim (fun e => e ▸ h) id
  exact ⟨h1, good_of_word (List.mem_filter.mp h1).2⟩
theorem rf_blind {dD : va_G} {aC : Nat → ClassId} {SA : rf_A} {ad : Nat → Nat} {σ : rf_S} {sz : Nat} {A : Nat → Prop} {av : List Value} : FrameBlind (va_Pc av (rf_B dD aC SA ad σ sz A)) := by
  rintro a U g mk ⟨h1, h2, h3, h4, h5, ⟨h6, h7, h8⟩, h9, h10⟩
  refine ⟨h1, h2, h3, va_K.moved (u := U) (U := U.calling g mk a) (Vm.Alike.refl U.vm) h4, h5, ⟨fun j x hj => ?_, ?_, ?_⟩, fun b i y h hm => ?_, ?_⟩
  · exact va_T.moved (u := U) (U := U.calling g mk a) (Vm.Alike.refl U.vm) (h6 j x hj)
  · exact va_Z.moved (u := U) (U := U.calling g mk a) (Vm.Alike.refl U.vm) h7
  · exact va_Z.moved (u := U) (U := U.calling g mk a) (Vm.Alike.refl U.vm) h8
  · exact va_Nw.same rfl (u := U) (U := U.calling g mk a) rfl (h9 b i y h hm)
  · exact va_AO.moved (u := U) (U := U.calling g mk a) (Vm.Alike.refl U.vm) h10
theorem rf_pre {dD : va_G} {aC : Nat → ClassId} {SA : rf_A} {ad : Nat → Nat} {σ : rf_S} {A : Nat → Prop} {s U : State} {H : Heap} {locs : List Loc} (hK : va_K dD vwCl (rf_tys aC) s) (hSt : rf_St SA ad A s s.heap) (hNx : rf_Nx s) (hW : rf_Wd dD ad aC A s σ H locs) (hF : ∀ q, va_A (rf_ws ad aC σ) H.size q → A q) (hU : U.heap = H) (hWm : s.WarmedH U.vm) : rf_B dD aC SA ad σ H.size (va_A (rf_ws ad aC σ) H.size) U := by
  obtain ⟨h6, h7, h8⟩ := hSt
  refine ⟨by rw [hU], by rw [hU]; exact hW.1, va_K.moved hWm.alike hK, hW.2.1.weaken (fun _ _ _ _ => trivial), ⟨fun j x hj => ?_, ?_, ?_⟩, fun b i y h hm => ?_, ?_⟩
  · rw [hU]
    exact ((va_T.moved hWm.alike (h6 j x hj)).kept hW.2.2.2.1).narrow hF
  · rw [hU]
    exact ((va_Z.moved hWm.alike h7).kept hW.2.2.2.1).narrow hF
  · rw [hU]
    exact ((va_Z.moved hWm.alike h8).kept hW.2.2.2.1).narrow hF
  · exact va_Nw.warmM hWm (hNx.1 b i y h hm)
  · exact va_AO.moved hWm.alike hNx.2
theorem rf_okc_ok {c : String} (h : rf_okc c = true) : c ≠ "java/lang/invoke/MethodHandle" ∧ c ≠ "java/lang/invoke/VarHandle" := by
  simp only [rf_okc, Bool.and_eq_true, decide_eq_true_eq] at h
  exact h
section
variable {p : Program} {l : Launch} {e : Env} {R : Room} {s : State} {m : MethodId} {args : Array Value} {below : List Frame} {meth : Method} {c : Code} {cells slots : Nat} {Q : State → Prop} {own : String} {cc : ByteArray} {nL : Nat} {nm : String} {dD : va_G} {aC : Nat → ClassId} {SA : rf_A} {ad : Nat → Nat} {A : Nat → Prop} {ms : List rf_M} {ret : Option FieldType} {pc : Nat} {L : rf_L} {st : List Value} {σ : rf_S}
theorem rf_sC (C : rf_Cx p R s m args meth c own cc nL nm dD aC SA ad A) {a : Int} {b k x nxt : Nat} {sw : List (Int × Nat)} {mj : rf_M} {fr lo : Nat} {post : rf_P} (hc : rf_chk ms own cc nm nL ret pc (46, a, b, k, x, nxt, sw) = true) (hmj : ms[b]? = some mj) (hw : rf_chkW mj = true) (hk : k ≤ st.length) (h8 : rf_cat (st.drop k) ≤ 8) (hrecv : rf_recv mj.2.1.1 mj.2.1.2.2.2.2.1 (st.take k).reverse σ = true) (hcells : cells + mj.2.1.2.2.1 ≤ R.cells) (hslots : slots + mj.2.1.2.2.2.1 ≤ R.slots) (hfr : fr + 1 ≤ R.frames) (hlo : lo + 64 ≤ R.locals) (hM : rf_CM l dD aC SA ad σ (st.take k).reverse mj fr lo post)
    (hG : ∀ (rv : Option Value) (σ1 : rf_S) (ad1 : Nat → Nat), post rv σ1 → rf_Ag σ.length ad ad1 σ1 → (σ1.length = σ.length ∨ rf_wfl σ.length L (st.drop k) = true) ∧ rf_G p l e R s m args below meth c (cells + mj.2.1.2.2.1) (slots + mj.2.1.2.2.2.1) Q nL dD ad1 aC A (nxt, L, rv.toList ++ st.drop k, σ1)) : rf_G p l e R s m args below meth c cells slots Q nL dD ad aC A (pc, L, st, σ) := by
  obtain ⟨hx, hb, hml, hown, hts, hK, hSt, hA, hnm, hNx, hfr1, hlo1⟩ := C
  intro H locs ls hW hl
  have hF : ∀ q, va_A (rf_ws ad aC σ) H.size q → A q := fun q h => h.elim (fun ⟨k, e, hk⟩ => hW.2.1.2 k (q, e) hk) (fun h => hA q (Nat.le_trans hW.2.2.1 h))
  simp only [rf_chk, hmj] at hc
  rw [Bool.and_eq_true] at hc
  obtain ⟨hc, hlk⟩ := hc
  have h8' : ((((st.drop k).map (rf_mv ad))).map fun v => v.category).sum ≤ 8 := by rw [rf_cat_map]; exact h8
  have htl : (st.take k).length = k := by rw [List.length_take]; omega
  unfold rf_chkW at hw
  split at hw
  case h_2 => cases hw
  case h_1 i0 i1 i2 i3 hidx =>
  simp only [Bool.and_eq_true, decide_eq_true_eq] at hw
  obtain ⟨⟨⟨⟨⟨⟨hcode, hini⟩, hok⟩, hpn⟩, hcls⟩, h40⟩, hkind⟩ := hw
  have hcode := rf_lk_tb hcode rfl
  have hini := hts _ (rf_lk_tb hini rfl)
  have hok := rf_okc_ok hok
  have h40 : mj.1.2.2.1 ≤ 40 := Nat.le_of_ble_eq_true h40
  have hR : fr + 1 ≤ R.frames ∧ 8 + (mj.1.2.2.1 + 11) + lo ≤ R.locals := ⟨hfr, by omega⟩
  have behind : ∀ (Aarr : Array Value), va_Run p l e R s m args below meth c H locs cells slots mj.2.1.2.2.1 mj.2.1.2.2.2.1 (F0 m pc ls (st.map (rf_mv ad))) ((st.drop k).map (rf_mv ad)) (rf_Q dD aC σ.length ad post (va_A (rf_ws ad aC σ) H.size) Aarr) (va_A (rf_ws ad aC σ) H.size) → nxt = pc + 3 → W p l e R s m args below meth c H locs cells slots Q (F0 m pc ls (st.map (rf_mv ad))) := by
    intro Aarr hrun hnx
    refine rf_callX hrun hW.2.2 (fun q _ h => hF q h) hF (fun rv σ1 ad1 H1 locs1 hp hag hP1 hD1 hS1 => ?_)
    obtain ⟨hlen, hg⟩ := hG rv σ1 ad1 hp hag
    have e1 : rf_mL ad1 L = rf_mL ad L ∧ (st.drop k).map (rf_mv ad1) = (st.drop k).map (rf_mv ad) := by
      rcases hlen with hlen | hlen
      · rw [hag.2.2 hlen]; exact ⟨rfl, rfl⟩
      · rw [rf_wfl, Bool.and_eq_true] at hlen
        exact ⟨rf_mL_ag hag.2.1 hlen.1, rf_map_ag hag.2.1 hlen.2⟩
    have hg := hg H1 locs1 ls ⟨hP1, hD1.weaken (fun _ q _ h => hF q.1 h), hS1⟩ (by rw [e1.1]; exact hl)
    have e2 : (rv.toList ++ st.drop k).map (rf_mv ad1) = (rv.map (rf_mv ad1)).toList ++ (st.drop k).map (rf_mv ad) := by
      rw [List.map_append, e1.2]
      cases rv <;> rfl
    subst hnx
    rw [← e2]
    exact hg
  have pre : ∀ U : State, U.heap = H → s.WarmedH U.vm → rf_B dD aC SA ad σ H.size (va_A (rf_ws ad aC σ) H.size) U := fun U hU hWm => rf_pre hK hSt hNx hW hF hU hWm
  have hstk : st.map (rf_mv ad) = (st.take k).map (rf_mv ad) ++ (st.drop k).map (rf_mv ad) := by rw [← List.map_append, List.take_append_drop]
  have hM := hM H.size
  match hkd : mj.2.1.1 with
  | 0 =>
    rw [hkd] at hc hkind
    simp only [Bool.and_eq_true, decide_eq_true_eq] at hc
    obtain ⟨hd, rfl⟩ := rf_dec_ok hc.1
    have hpl : (parseMethodDescriptor mj.1.1.desc).map (fun d => d.parameters.length) = some k := hc.2
    have hstat := hts _ (rf_lk_tb hkind rfl)
    have hstack : st.map (rf_mv ad) = (((st.take k).reverse).map (rf_mv ad)).reverse ++ (st.drop k).map (rf_mv ad) := by
      rw [hstk, List.map_reverse, List.reverse_reverse]
    have hlen : (((st.take k).reverse).map (rf_mv ad)).length = k := by rw [List.length_map, List.length_reverse, htl]
    cases sw with
    | nil =>
      have hlink := hts _ (rf_lk_tb hlk rfl)
      exact behind _ (va_runS ⟨hx, hb, hml, hown, hts⟩ hM ⟨callB_of k hts (rf_gi hcode) rfl rfl rfl hini hlink ⟨hok.1, hok.2, hpl⟩ hR, hstat⟩ ⟨rf_blind, fun U hU hWm => ⟨rfl, pre U hU hWm⟩⟩ rfl hlen hl.1 hstack (lv_room h8') hd ⟨hcells, hslots⟩) rfl
    | cons q0 qs =>
      have hlink := hNx.1 _ _ _ _ (rf_lk_ok hlk)
      exact behind _ (va_runSN ⟨hx, hb, hml, hown, hts⟩ hM ⟨va_cnB k hts (rf_gi hcode) rfl rfl rfl hlink hini ⟨hok.1, hok.2, hpl⟩ hR, hstat, trivial⟩ ⟨rf_blind, fun U hU hWm => ⟨rfl, pre U hU hWm⟩⟩ rfl hlen hl.1 hstack (lv_room h8') hd ⟨hcells, hslots⟩) rfl
  | 1 =>
    rw [hkd] at hc hkind hrecv
    simp only [Bool.and_eq_true, decide_eq_true_eq] at hc hkind
    obtain ⟨hd, rfl⟩ := rf_dec_ok hc.1.1
    have hk0 : 0 < k := Nat.le_of_ble_eq_true hc.2
    have hpl : (parseMethodDescriptor mj.1.1.desc).map (fun d => d.parameters.length) = some (k - 1) := hc.1.2
    have hinst := hts _ (rf_lk_tb hkind.1.1 rfl)
    have hsel := hts _ (rf_lk_tb hkind.1.2 rfl)
    unfold rf_recv at hrecv
    split at hrecv
    case h_1 h0 => cases h0
    case h_3 h0 h1 => exact absurd rfl h1
    case h_2 =>
    split at hrecv
    case h_2 => cases hrecv
    case h_1 r0 As hAs =>
    split at hrecv
    case h_2 => cases hrecv
    case h_1 cj fs hcell =>
    have hcj : cj = mj.2.1.2.2.2.2.1 := Nat.eq_of_beq_eq_true hrecv
    subst hcj
    have htk : st.take k = As.reverse ++ [.ref r0] := by rw [← List.reverse_reverse (st.take k), hAs, List.reverse_cons]
    have hlenA : As.length = k - 1 := by
      have := congrArg List.length htk
      rw [htl, List.length_append, List.length_reverse] at this
      simp only [List.length_cons, List.length_nil] at this
      omega
    have hstack : st.map (rf_mv ad) = (As.map (rf_mv ad)).reverse ++ .ref (ad r0) :: (st.drop k).map (rf_mv ad) := by
      rw [hstk, htk, List.map_append, List.map_reverse, List.append_assoc]
      rfl
    have hlen : (As.map (rf_mv ad)).length = k - 1 := by rw [List.length_map, hlenA]
    rw [hAs] at hM
    obtain ⟨q, hq, hqc⟩ : ∃ q, vwCl[mj.2.1.2.2.2.2.1]? = some q ∧ q.1 = mj.1.1.cls := by
      have h2 := hkind.2
      cases hv : vwCl[mj.2.1.2.2.2.2.1]? with
      | none => rw [hv] at h2; cases h2
      | some q => rw [hv] at h2; exact ⟨q, rfl, Option.some.inj h2⟩
    have hrc := va_recv hK hW.1 hq (rf_ws_get (ad := ad) (aC := aC) hcell)
    rw [hqc] at hrc
    cases sw with
    | nil =>
      have hlink := hts _ (rf_lk_tb hlk rfl)
      exact behind _ (va_runV (C := mj.1.1.cls) ⟨hx, hb, hml, hown, hts⟩ hM ⟨callB_of (k - 1) hts (rf_gi hcode) rfl rfl rfl hini hlink ⟨hok.1, hok.2, hpl⟩ hR, hinst, hsel⟩ ⟨rf_blind, hrc, fun U hU hWm => ⟨rfl, pre U hU hWm⟩⟩ rfl hlen hl.1 hstack (lv_room h8') hd ⟨hcells, hslots⟩) rfl
    | cons q0 qs =>
      have hlink := hNx.1 _ _ _ _ (rf_lk_ok hlk)
      exact behind _ (va_runVN (C := mj.1.1.cls) ⟨hx, hb, hml, hown, hts⟩ hM ⟨va_cnB (k - 1) hts (rf_gi hcode) rfl rfl rfl hlink hini ⟨hok.1, hok.2, hpl⟩ hR, hinst, hsel⟩ ⟨rf_blind, hrc, fun U hU hWm => ⟨rfl, pre U hU hWm⟩⟩ rfl hlen hl.1 hstack (lv_room h8') hd ⟨hcells, hslots⟩) rfl
  | z + 2 =>
    rw [hkd] at hc hkind hrecv
    simp only [Bool.and_eq_true, decide_eq_true_eq] at hc
    obtain ⟨⟨⟨⟨hd0, hpl0⟩, hk0⟩, hy1⟩, hret⟩ := hc
    obtain ⟨hd, rfl⟩ := rf_dec_ok hd0
    have hk0 : 0 < k := Nat.le_of_ble_eq_true hk0
    have hpl : (parseMethodDescriptor mj.1.1.desc).map (fun d => d.parameters.length) = some (k - 1) := hpl0
    have hinst := hts _ (rf_lk_tb hkind rfl)
    have hrecv : (match (st.take k).reverse with
      | .ref _ :: _ => true
      | _ => false) = true := hrecv
    split at hrecv
    case h_2 => cases hrecv
    case h_1 r0 As hAs =>
    have htk : st.take k = As.reverse ++ [.ref r0] := by rw [← List.reverse_reverse (st.take k), hAs, List.reverse_cons]
    have hlenA : As.length = k - 1 := by
      have := congrArg List.length htk
      rw [htl, List.length_append, List.length_reverse] at this
      simp only [List.length_cons, List.length_nil] at this
      omega
    have hstack : st.map (rf_mv ad) = (As.map (rf_mv ad)).reverse ++ .ref (ad r0) :: (st.drop k).map (rf_mv ad) := by
      rw [hstk, htk, List.map_append, List.map_reverse, List.append_assoc]
      rfl
    have hlen : (As.map (rf_mv ad)).length = k - 1 := by rw [List.length_map, hlenA]
    rw [hAs] at hM
    rw [hret] at hM hcode
    cases sw with
    | nil =>
      have hlink := hts _ (rf_lk_tb hlk rfl)
      exact behind _ (va_runI ⟨hx, hb, hml, hown, hts⟩ hM ⟨callB_of (k - 1) hts (rf_gi hcode) rfl rfl rfl hini hlink ⟨hok.1, hok.2, hpl⟩ hR, hy1, hinst⟩ ⟨rf_blind, fun U hU hWm => ⟨rfl, pre U hU hWm⟩⟩ rfl hlen hl.1 hstack (lv_room h8') hd ⟨hcells, hslots⟩) rfl
    | cons q0 qs =>
      have hlink := hNx.1 _ _ _ _ (rf_lk_ok hlk)
      exact behind _ (va_runIN ⟨hx, hb, hml, hown, hts⟩ hM ⟨va_cnB (k - 1) hts (rf_gi hcode) rfl rfl rfl hlink hini ⟨hok.1, hok.2, hpl⟩ hR, hy1, hinst⟩ ⟨rf_blind, fun U hU hWm => ⟨rfl, pre U hU hWm⟩⟩ rfl hlen hl.1 hstack (lv_room h8') hd ⟨hcells, hslots⟩) rfl
end
end
section
/-! the walk of a method, from any place: by the number of steps; then every method's contract, by the depth of calls -/
/-- how a method leaves -/
def rf_rv (op : Nat) (ret : Option FieldType) (rv : Option Value) : Prop := (op = 47 ∧ rv = none) ∨ (op = 48 ∧ ∃ z : Int32, rv = some (.int z) ∧ narrow (ret.getD .int) (.int z) = .int z) ∨ (op = 49 ∧ ∃ z : Int64, rv = some (.long z)) ∨ (op = 50 ∧ ∃ z : Nat, rv = some (.ref z))
theorem rf_chkT_at {ms : List rf_M} {mi : rf_M} {n pc : Nat} {E : rf_E} (h : rf_chkT ms mi n = true) (hb : ∀ pc E, mi.2.2 pc = some E → pc < n) (hE : mi.2.2 pc = some E) : rf_chk ms mi.1.2.2.2.2 mi.1.2.1 mi.1.1.name mi.1.2.2.1 mi.1.2.2.2.1 pc E = true := by
  have h1 := List.all_eq_true.mp h pc (List.mem_range.mpr (hb pc E hE))
  rw [hE] at h1
  exact h1
section
variable {p : Program} {l : Launch} {e : Env} {R : Room} {s : State} {m : MethodId} {args : Array Value} {below : List Frame} {meth : Method} {c : Code} {Q : State → Prop} {dD : va_G} {aC : Nat → ClassId} {SA : rf_A} {A : Nat → Prop} {ms : List rf_M} {mi : rf_M}
theorem rf_walk (hok : ∀ pc E, mi.2.2 pc = some E → rf_chk ms mi.1.2.2.2.2 mi.1.2.1 mi.1.1.name mi.1.2.2.1 mi.1.2.2.2.1 pc E = true) (hms : ∀ (b : Nat) (mj : rf_M), ms[b]? = some mj → rf_chkW mj = true) {K : Nat → List Value → rf_S → rf_P → Prop} {fr lo : Nat} (hRc : mi.2.1.2.2.1 ≤ R.cells) (hRs : mi.2.1.2.2.2.1 ≤ R.slots) (hfr : fr + 1 ≤ R.frames) (hlo : lo + 64 ≤ R.locals)
    (hcall : ∀ (b : Nat) (mj : rf_M) (As : List Value) (σ : rf_S) (post : rf_P) (ad : Nat → Nat), ms[b]? = some mj → K b As σ post → rf_CM l dD aC SA ad σ As mj fr lo post) {n0 : Nat} {ad0 : Nat → Nat} {post : rf_P}
    (hret : ∀ (rv : Option Value) (σ1 : rf_S) (ad1 : Nat → Nat) (H : Heap) (locs : List Loc) (ls : Array Slot) (pc : Nat) (E : rf_E), mi.2.2 pc = some E → rf_rv E.1 mi.1.2.2.2.1 rv → post rv σ1 → rf_Ag n0 ad0 ad1 σ1 → rf_Wd dD ad1 aC A s σ1 H locs → W p l e R s m args below meth c H locs mi.2.1.2.2.1 mi.2.1.2.2.2.1 Q (F0 m pc ls (rv.map (rf_mv ad1)).toList)) :
    ∀ (n pc : Nat) (L : rf_L) (st : List Value) (σ : rf_S) (u v : Nat) (ad : Nat → Nat), rf_Cx p R s m args meth c mi.1.2.2.2.2 mi.1.2.1 mi.1.2.2.1 mi.1.1.name dD aC SA ad A → rf_Ag n0 ad0 ad σ → u ≤ mi.2.1.2.2.1 → v ≤ mi.2.1.2.2.2.1 → rf_wp SA ms K mi n pc L st σ u v post → rf_G p l e R s m args below meth c u v Q mi.1.2.2.1 dD ad aC A (pc, L, st, σ) := by
  intro n
  induction n with
  | zero => intro pc L st σ u v ad _ _ _ _ h; exact h.elim
  | succ n ih =>
    intro pc L st σ u v ad C hag hu hv h
    unfold rf_wp at h
    split at h
    case h_1 => exact h.elim
    case h_2 E hE =>
    have hc := hok pc E hE
    split at h
    case isTrue h46 =>
      obtain ⟨op, a, b, k, x, nxt, sw⟩ := E
      dsimp only at h46
      subst h46
      dsimp only at h
      split at h
      case h_1 => exact h.elim
      case h_2 mj hmj =>
      obtain ⟨h1, h2, h3, h4, h5, h6⟩ := h
      refine rf_sC C hc hmj (hms b mj hmj) h1 h2 h3 (Nat.le_trans h4 hRc) (Nat.le_trans h5 hRs) hfr hlo (hcall b mj _ σ _ ad hmj h6) (fun rv σ1 ad1 hp hag1 => ⟨hp.1, ?_⟩)
      have hag' : rf_Ag n0 ad0 ad1 σ1 := ⟨Nat.le_trans hag.1 hag1.1, fun i hi => (hag1.2.1 i (hi.imp (fun h => Nat.lt_of_lt_of_le h hag.1) id)).trans (hag.2.1 i hi), fun hn => by
        have e1 : σ1.length = σ.length := Nat.le_antisymm (by rw [hn]; exact hag.1) hag1.1
        rw [hag1.2.2 e1]
        exact hag.2.2 (e1.symm.trans hn)⟩
      exact ih _ _ _ _ _ _ ad1 (rf_Cx_ag (fun i hi => hag1.2.1 i (Or.inr hi)) C) hag' h4 h5 hp.2
    case isFalse h46 =>
    split at h
    case isTrue hal =>
      split at h
      case h_1 => exact h.elim
      case h_2 r o w ho =>
      obtain ⟨h1, h2, h3, h4, h5, h6⟩ := h
      refine rf_sA C hc ho h1 h2 h3 (Nat.le_trans h4 hRc) (Nat.le_trans h5 hRs) (fun ad' had => ?_)
      have hag' : rf_Ag n0 ad0 ad' (σ ++ [o]) := ⟨by rw [List.length_append]; exact Nat.le_trans hag.1 (Nat.le_add_right _ _), fun i hi => (had i (hi.imp (fun h => Nat.lt_of_lt_of_le h hag.1) id)).trans (hag.2.1 i hi), fun hn => by
        rw [List.length_append, List.length_singleton] at hn
        have := hag.1
        omega⟩
      exact ih _ _ _ _ _ _ ad' (rf_Cx_ag (fun i hi => had i (Or.inr hi)) C) hag' h4 h5 h6
    case isFalse hal =>
    split at h
    case isTrue h47 =>
      obtain ⟨h1, h2, h3⟩ := h
      intro H locs ls hW hl
      refine W.widen h1 h2 ?_
      split at h3
      case h_1 e1 => exact hret none σ ad H locs ls pc E hE (Or.inl ⟨e1, rfl⟩) h3 hag hW
      case h_2 z e1 => exact hret (some (.int z)) σ ad H locs ls pc E hE (Or.inr (Or.inl ⟨e1, z, rfl, h3.1⟩)) h3.2 hag hW
      case h_3 z e1 => exact hret (some (.long z)) σ ad H locs ls pc E hE (Or.inr (Or.inr (Or.inl ⟨e1, z, rfl⟩))) h3 hag hW
      case h_4 z e1 => exact hret (some (.ref z)) σ ad H locs ls pc E hE (Or.inr (Or.inr (Or.inr ⟨e1, z, rfl⟩))) h3 hag hW
      case h_5 => exact h3.elim
    case isFalse h47 =>
      split at h
      case h_1 => exact h.elim
      case h_2 pc' L' st' σ' hs =>
      refine rf_sS C (Nat.le_trans hu hRc) (Nat.le_trans hv hRs) hc hs (ih _ _ _ _ _ _ ad C ?_ hu hv h)
      have hlen := rf_stp_len hs
      dsimp only at hlen
      exact ⟨by rw [hlen]; exact hag.1, hag.2.1, fun hn => hag.2.2 (hlen.symm.trans hn)⟩
end
theorem rf_args_map (ad : Nat → Nat) : ∀ (As : List Value) (i : Nat), lv_args i (As.map (rf_mv ad)) = rf_mL ad (lv_args i As)
  | [], _ => rfl
  | v :: As, i => by
    simp only [List.map_cons, lv_args, rf_mv_cat, rf_args_map ad As]
    rfl
theorem rf_sl_map (ad : Nat → Nat) (As : List Value) : (lg_sl (As.map (rf_mv ad))).length = (lg_sl As).length := by
  unfold lg_sl
  induction As with
  | nil => rfl
  | cons v As ih =>
    simp only [List.map_cons, List.flatMap_cons, List.length_append, rf_mv_cat, ih]
    split <;> rfl
/-- EVERY METHOD'S CONTRACT -/
theorem rf_met (l : Launch) {ms : List rf_M} {N : Nat} (hT : ∀ (b : Nat) (mj : rf_M), ms[b]? = some mj → ∀ pc E, mj.2.2 pc = some E → rf_chk ms mj.1.2.2.2.2 mj.1.2.1 mj.1.1.name mj.1.2.2.1 mj.1.2.2.2.1 pc E = true) (hms : ∀ (b : Nat) (mj : rf_M), ms[b]? = some mj → rf_chkW mj = true) (dD : va_G) (aC : Nat → ClassId) (SA : rf_A) :
    ∀ (d b : Nat) (mj : rf_M) (As : List Value) (σ : rf_S) (post : rf_P) (ad : Nat → Nat), ms[b]? = some mj → rf_run SA ms d b As σ post → rf_CM l dD aC SA ad σ As mj d (64 * d) post := by
  intro d
  induction d with
  | zero => intro b mj As σ post ad _ h; exact h.elim
  | succ d ih =>
    intro b mj As σ post ad hmj h sz
    obtain ⟨mi, hmi, hsl, n, hwp⟩ := h
    rw [hmj] at hmi
    cases hmi
    have hw := hms b mj hmj
    unfold rf_chkW at hw
    split at hw
    case h_2 => cases hw
    case h_1 i0 i1 i2 i3 hidx =>
    simp only [Bool.and_eq_true, decide_eq_true_eq] at hw
    obtain ⟨⟨⟨⟨⟨⟨hcode, hini⟩, hok⟩, hpn⟩, hcls⟩, h40⟩, hkind⟩ := hw
    refine Met.ofW (cc := mj.1.2.1) (maxL := mj.1.2.2.1) (ret := mj.1.2.2.2.1) hpn rfl ?_
    intro p e s m args below meth c s₁ B hml hv
    obtain ⟨rfl, hsz, hP, hK, hD0, hSt, hNx⟩ := hv
    have hx := B.exec
    have hb := B.bytes
    have hr := B.returns
    have hts := atoms_spec (ws := Jvm.Cond.code mj.1.1 mj.1.2.1 mj.1.2.2.1 mj.1.2.2.2.1 :: rf_tb) B.pre
    have hown : s.vm.findClass mj.1.1.cls = some m.cls := findClass_of_methodNamed B.named
    rw [hcls] at hown
    have hlocks := B.notSynchronized
    have hin : meth.name = mj.1.1.name := (name_of_methodNamed B.named B.method).1
    subst hsz
    have hD := hD0.self (sz := s.heap.size)
    have hA : ∀ q : Nat, s.heap.size ≤ q → va_A (rf_ws ad aC σ) s.heap.size q := fun q h => Or.inr h
    have hS : va_S (va_A (rf_ws ad aC σ) s.heap.size) s.heap s.heap [] := va_S.rf
    have hl := lv_entry (As.map (rf_mv ad)) (n := mj.1.2.2.1) (by rw [rf_sl_map]; exact hsl)
    rw [lg_entry_eq]
    rw [rf_args_map] at hl
    generalize (lg_sl (As.map (rf_mv ad)) ++ List.replicate (mj.1.2.2.1 - (lg_sl (As.map (rf_mv ad))).length) Slot.unset).toArray = ls at hl ⊢
    have C : rf_Cx p (headSpec (Jvm.Cond.code mj.1.1 mj.1.2.1 mj.1.2.2.1 mj.1.2.2.2.1 :: rf_tb) { frames := d + 1, cells := mj.2.1.2.2.1, slots := mj.2.1.2.2.2.1, locals := 64 * (d + 1) }).room s m (As.map (rf_mv ad)).toArray meth c mj.1.2.2.2.2 mj.1.2.1 mj.1.2.2.1 mj.1.1.name dD aC SA ad (va_A (rf_ws ad aC σ) s.heap.size) :=
      ⟨hx, hb, hml, hown, fun w h => hts w (List.mem_cons_of_mem _ h), hK, hSt, hA, hin, hNx, Nat.succ_le_succ (Nat.zero_le d), by show 64 ≤ 64 * (d + 1); omega⟩
    have hlo : 64 * d + 64 ≤ (headSpec (Jvm.Cond.code mj.1.1 mj.1.2.1 mj.1.2.2.1 mj.1.2.2.2.1 :: rf_tb) { frames := d + 1, cells := mj.2.1.2.2.1, slots := mj.2.1.2.2.2.1, locals := 64 * (d + 1) }).room.locals := by show 64 * d + 64 ≤ 64 * (d + 1); omega
    refine rf_walk (mi := mj) (ms := ms) (hT b mj hmj) hms (K := rf_run SA ms d) (fr := d) (lo := 64 * d) (Nat.le_refl _) (Nat.le_refl _) (Nat.le_refl _) hlo (fun b' mj' As' σ' post' ad' h1 h2 => ih b' mj' As' σ' post' ad' h1 h2) (n0 := σ.length) (ad0 := ad) (post := post) ?_ n 0 (lv_args 0 As) [] σ 0 0 ad C ⟨Nat.le_refl _, fun _ _ => rfl, fun _ => rfl⟩ (Nat.zero_le _) (Nat.zero_le _) hwp s.heap [] ls ⟨hP, hD, hS⟩ hl
    intro rv σ1 ad1 H locs ls' pc E hE hrv hp hag hW
    have hc := hT b mj hmj pc E hE
    obtain ⟨op, a0, b0, k0, x0, nxt, sw⟩ := E
    have hQ : ∀ (v : Option Value), v = rv.map (rf_mv ad1) → ∀ t : State, t.heap = H → s.WarmedH t.vm → rf_Q dD aC σ.length ad post (va_A (rf_ws ad aC σ) s.heap.size) (As.map (rf_mv ad)).toArray s (.returned v) t := by
      intro v hv t ht _
      exact ⟨⟨rv, σ1, ad1, by rw [hv], hp, hag, by rw [ht]; exact hW.1, hW.2.1⟩, hW.2.2.F ht⟩
    rcases hrv with ⟨h47, rfl⟩ | ⟨h48, z, rfl, hz⟩ | ⟨h49, z, rfl⟩ | ⟨h50, z, rfl⟩
    · dsimp only at h47
      subst h47
      simp only [rf_chk, Bool.and_eq_true, decide_eq_true_eq] at hc
      obtain ⟨hd, -⟩ := rf_dec_ok hc.1
      exact W.vret hx hb (hr.trans hc.2) (hQ none rfl) hW.2.2.2.2 hd
    · dsimp only at h48
      subst h48
      simp only [rf_chk, Bool.and_eq_true, decide_eq_true_eq] at hc
      obtain ⟨hd, -⟩ := rf_dec_ok hc.1
      rcases hc.2 with h | h
      · rw [h] at hz
        exact W.zret (ty := .int) hx hb (hr.trans h) hz (hQ (some (.int z)) rfl) hW.2.2.2.2 hd
      · rw [h] at hz
        exact W.zret (ty := .boolean) hx hb (hr.trans h) hz (hQ (some (.int z)) rfl) hW.2.2.2.2 hd
    · dsimp only at h49
      subst h49
      simp only [rf_chk, Bool.and_eq_true, decide_eq_true_eq] at hc
      obtain ⟨hd, -⟩ := rf_dec_ok hc.1
      exact W.lret hx hb (hr.trans hc.2) (hQ (some (.long z)) rfl) hW.2.2.2.2 hd
    · dsimp only at h50
      subst h50
      simp only [rf_chk, Bool.and_eq_true] at hc
      obtain ⟨hd, -⟩ := rf_dec_ok hc.1
      have hc2 := hc.2
      split at hc2
      case h_2 => cases hc2
      case h_1 C0 hC0 =>
      exact W.aret hx hb (hr.trans hC0) (Or.inl ⟨_, rfl⟩) (Or.inr ⟨_, rfl⟩) (hQ (some (.ref (ad1 z))) rfl) hW.2.2.2.2 hd
end
