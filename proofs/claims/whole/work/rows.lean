section
-- ===== PART A: goes FIRST, ahead of the names: the tables' words, and 'selects' of the private methods out of them =====
/-- a private method of a class that the tables say can be made, by its rows of tables_1 -/
def lw_okq (q : MethodName × Nat) : Prop := (q.1.cls ≠ "java/lang/invoke/MethodHandle" ∧ q.1.cls ≠ "java/lang/invoke/VarHandle") ∧ Cond.instantiable q.1.cls q.2 ∈ tables_1 ∧ Cond.privateMethod q.1 ∈ tables_1 ∧ Cond.instanceMethod q.1 ∈ tables_1
theorem lw_p0 : lw_okq (⟨"LongColumn", "finding", "(I)I"⟩, 11) := ⟨⟨by decide +kernel, by decide +kernel⟩, List.mem_of_getElem? (i := 16) (by decide +kernel), List.mem_of_getElem? (i := 268) (by decide +kernel), List.mem_of_getElem? (i := 269) (by decide +kernel)⟩
theorem lw_p1 : lw_okq (⟨"LongColumn$TextReader", "nextToken", "()V"⟩, 9) := ⟨⟨by decide +kernel, by decide +kernel⟩, List.mem_of_getElem? (i := 117) (by decide +kernel), List.mem_of_getElem? (i := 300) (by decide +kernel), List.mem_of_getElem? (i := 301) (by decide +kernel)⟩
theorem lw_p2 : lw_okq (⟨"LongColumn$TextReader", "readGroup", "()Z"⟩, 9) := ⟨⟨by decide +kernel, by decide +kernel⟩, List.mem_of_getElem? (i := 117) (by decide +kernel), List.mem_of_getElem? (i := 310) (by decide +kernel), List.mem_of_getElem? (i := 311) (by decide +kernel)⟩
theorem lw_p3 : lw_okq (⟨"LongColumn$TextReader", "kindHere", "()I"⟩, 9) := ⟨⟨by decide +kernel, by decide +kernel⟩, List.mem_of_getElem? (i := 117) (by decide +kernel), List.mem_of_getElem? (i := 314) (by decide +kernel), List.mem_of_getElem? (i := 315) (by decide +kernel)⟩
theorem lw_p4 : lw_okq (⟨"LongColumn$TextReader", "isWord", "(Ljava/lang/String;)Z"⟩, 9) := ⟨⟨by decide +kernel, by decide +kernel⟩, List.mem_of_getElem? (i := 117) (by decide +kernel), List.mem_of_getElem? (i := 328) (by decide +kernel), List.mem_of_getElem? (i := 329) (by decide +kernel)⟩
theorem lw_p5 : lw_okq (⟨"LongColumn$TextReader", "note", "(II)V"⟩, 9) := ⟨⟨by decide +kernel, by decide +kernel⟩, List.mem_of_getElem? (i := 117) (by decide +kernel), List.mem_of_getElem? (i := 380) (by decide +kernel), List.mem_of_getElem? (i := 381) (by decide +kernel)⟩
theorem lw_p6 : lw_okq (⟨"LongColumn$TextReader", "readNumber", "(III)Z"⟩, 9) := ⟨⟨by decide +kernel, by decide +kernel⟩, List.mem_of_getElem? (i := 117) (by decide +kernel), List.mem_of_getElem? (i := 384) (by decide +kernel), List.mem_of_getElem? (i := 385) (by decide +kernel)⟩
theorem lw_p7 : lw_okq (⟨"LongColumn$TextReader", "readOptions", "()Z"⟩, 9) := ⟨⟨by decide +kernel, by decide +kernel⟩, List.mem_of_getElem? (i := 117) (by decide +kernel), List.mem_of_getElem? (i := 389) (by decide +kernel), List.mem_of_getElem? (i := 390) (by decide +kernel)⟩
theorem lw_p8 : lw_okq (⟨"LongColumn$TextReader", "optionHere", "()I"⟩, 9) := ⟨⟨by decide +kernel, by decide +kernel⟩, List.mem_of_getElem? (i := 117) (by decide +kernel), List.mem_of_getElem? (i := 393) (by decide +kernel), List.mem_of_getElem? (i := 394) (by decide +kernel)⟩
theorem lw_p9 : lw_okq (⟨"LongColumn$Senses", "feel", "(I)V"⟩, 6) := ⟨⟨by decide +kernel, by decide +kernel⟩, List.mem_of_getElem? (i := 157) (by decide +kernel), List.mem_of_getElem? (i := 452) (by decide +kernel), List.mem_of_getElem? (i := 453) (by decide +kernel)⟩
theorem lw_p10 : lw_okq (⟨"LongColumn$Senses", "turnByEar", "(I[I)I"⟩, 6) := ⟨⟨by decide +kernel, by decide +kernel⟩, List.mem_of_getElem? (i := 157) (by decide +kernel), List.mem_of_getElem? (i := 463) (by decide +kernel), List.mem_of_getElem? (i := 464) (by decide +kernel)⟩
theorem lw_p11 : lw_okq (⟨"LongColumn$Senses", "turnByEye", "(I[I)I"⟩, 6) := ⟨⟨by decide +kernel, by decide +kernel⟩, List.mem_of_getElem? (i := 157) (by decide +kernel), List.mem_of_getElem? (i := 468) (by decide +kernel), List.mem_of_getElem? (i := 469) (by decide +kernel)⟩
theorem lw_p12 : lw_okq (⟨"LongColumn$Senses", "turnByFeet", "(I[I)I"⟩, 6) := ⟨⟨by decide +kernel, by decide +kernel⟩, List.mem_of_getElem? (i := 157) (by decide +kernel), List.mem_of_getElem? (i := 472) (by decide +kernel), List.mem_of_getElem? (i := 473) (by decide +kernel)⟩
theorem lw_p13 : lw_okq (⟨"LongColumn", "setOut", "()V"⟩, 11) := ⟨⟨by decide +kernel, by decide +kernel⟩, List.mem_of_getElem? (i := 16) (by decide +kernel), List.mem_of_getElem? (i := 516) (by decide +kernel), List.mem_of_getElem? (i := 517) (by decide +kernel)⟩
theorem lw_p14 : lw_okq (⟨"LongColumn", "whenAsNow", "(I)I"⟩, 11) := ⟨⟨by decide +kernel, by decide +kernel⟩, List.mem_of_getElem? (i := 16) (by decide +kernel), List.mem_of_getElem? (i := 570) (by decide +kernel), List.mem_of_getElem? (i := 571) (by decide +kernel)⟩
theorem lw_p15 : lw_okq (⟨"LongColumn", "wasAsNow", "(I)Z"⟩, 11) := ⟨⟨by decide +kernel, by decide +kernel⟩, List.mem_of_getElem? (i := 16) (by decide +kernel), List.mem_of_getElem? (i := 574) (by decide +kernel), List.mem_of_getElem? (i := 575) (by decide +kernel)⟩
def lw_privs_1 : List (MethodName × Nat) := [(⟨"LongColumn", "finding", "(I)I"⟩, 11), (⟨"LongColumn$TextReader", "nextToken", "()V"⟩, 9), (⟨"LongColumn$TextReader", "readGroup", "()Z"⟩, 9), (⟨"LongColumn$TextReader", "kindHere", "()I"⟩, 9), (⟨"LongColumn$TextReader", "isWord", "(Ljava/lang/String;)Z"⟩, 9), (⟨"LongColumn$TextReader", "note", "(II)V"⟩, 9), (⟨"LongColumn$TextReader", "readNumber", "(III)Z"⟩, 9), (⟨"LongColumn$TextReader", "readOptions", "()Z"⟩, 9), (⟨"LongColumn$TextReader", "optionHere", "()I"⟩, 9), (⟨"LongColumn$Senses", "feel", "(I)V"⟩, 6), (⟨"LongColumn$Senses", "turnByEar", "(I[I)I"⟩, 6), (⟨"LongColumn$Senses", "turnByEye", "(I[I)I"⟩, 6), (⟨"LongColumn$Senses", "turnByFeet", "(I[I)I"⟩, 6), (⟨"LongColumn", "setOut", "()V"⟩, 11), (⟨"LongColumn", "whenAsNow", "(I)I"⟩, 11), (⟨"LongColumn", "wasAsNow", "(I)Z"⟩, 11)]
theorem lw_r1 : ∀ q ∈ lw_privs_1, lw_okq q := List.forall_mem_cons.mpr ⟨lw_p0, List.forall_mem_cons.mpr ⟨lw_p1, List.forall_mem_cons.mpr ⟨lw_p2, List.forall_mem_cons.mpr ⟨lw_p3, List.forall_mem_cons.mpr ⟨lw_p4, List.forall_mem_cons.mpr ⟨lw_p5, List.forall_mem_cons.mpr ⟨lw_p6, List.forall_mem_cons.mpr ⟨lw_p7, List.forall_mem_cons.mpr ⟨lw_p8, List.forall_mem_cons.mpr ⟨lw_p9, List.forall_mem_cons.mpr ⟨lw_p10, List.forall_mem_cons.mpr ⟨lw_p11, List.forall_mem_cons.mpr ⟨lw_p12, List.forall_mem_cons.mpr ⟨lw_p13, List.forall_mem_cons.mpr ⟨lw_p14, List.forall_mem_cons.mpr ⟨lw_p15, fun _ h => absurd h List.not_mem_nil⟩⟩⟩⟩⟩⟩⟩⟩⟩⟩⟩⟩⟩⟩⟩⟩
theorem lw_p16 : lw_okq (⟨"LongColumn", "worstWithDrumsSo", "(I)I"⟩, 11) := ⟨⟨by decide +kernel, by decide +kernel⟩, List.mem_of_getElem? (i := 16) (by decide +kernel), List.mem_of_getElem? (i := 586) (by decide +kernel), List.mem_of_getElem? (i := 587) (by decide +kernel)⟩
theorem lw_p17 : lw_okq (⟨"LongColumn", "areTwoDrums", "(II)Z"⟩, 11) := ⟨⟨by decide +kernel, by decide +kernel⟩, List.mem_of_getElem? (i := 16) (by decide +kernel), List.mem_of_getElem? (i := 595) (by decide +kernel), List.mem_of_getElem? (i := 596) (by decide +kernel)⟩
theorem lw_p18 : lw_okq (⟨"LongColumn", "pacesUntilAlike", "(I)I"⟩, 11) := ⟨⟨by decide +kernel, by decide +kernel⟩, List.mem_of_getElem? (i := 16) (by decide +kernel), List.mem_of_getElem? (i := 620) (by decide +kernel), List.mem_of_getElem? (i := 621) (by decide +kernel)⟩
theorem lw_p19 : lw_okq (⟨"LongColumn", "ranksThatDiffer", "()I"⟩, 11) := ⟨⟨by decide +kernel, by decide +kernel⟩, List.mem_of_getElem? (i := 16) (by decide +kernel), List.mem_of_getElem? (i := 624) (by decide +kernel), List.mem_of_getElem? (i := 625) (by decide +kernel)⟩
theorem lw_p20 : lw_okq (⟨"LongColumn", "greatestDifference", "()I"⟩, 11) := ⟨⟨by decide +kernel, by decide +kernel⟩, List.mem_of_getElem? (i := 16) (by decide +kernel), List.mem_of_getElem? (i := 628) (by decide +kernel), List.mem_of_getElem? (i := 629) (by decide +kernel)⟩
theorem lw_p21 : lw_okq (⟨"LongColumn", "tellBeginnings", "(I)V"⟩, 11) := ⟨⟨by decide +kernel, by decide +kernel⟩, List.mem_of_getElem? (i := 16) (by decide +kernel), List.mem_of_getElem? (i := 637) (by decide +kernel), List.mem_of_getElem? (i := 638) (by decide +kernel)⟩
theorem lw_p22 : lw_okq (⟨"LongColumn", "togetherOn", "(III)I"⟩, 11) := ⟨⟨by decide +kernel, by decide +kernel⟩, List.mem_of_getElem? (i := 16) (by decide +kernel), List.mem_of_getElem? (i := 660) (by decide +kernel), List.mem_of_getElem? (i := 661) (by decide +kernel)⟩
theorem lw_p23 : lw_okq (⟨"LongColumn", "treadSoonBehind", "(IIII)I"⟩, 11) := ⟨⟨by decide +kernel, by decide +kernel⟩, List.mem_of_getElem? (i := 16) (by decide +kernel), List.mem_of_getElem? (i := 664) (by decide +kernel), List.mem_of_getElem? (i := 665) (by decide +kernel)⟩
theorem lw_p24 : lw_okq (⟨"LongColumnModel", "finds", "(I)I"⟩, 37) := ⟨⟨by decide +kernel, by decide +kernel⟩, List.mem_of_getElem? (i := 770) (by decide +kernel), List.mem_of_getElem? (i := 895) (by decide +kernel), List.mem_of_getElem? (i := 896) (by decide +kernel)⟩
theorem lw_p25 : lw_okq (⟨"LongColumnModel", "wrapped", "(J)I"⟩, 37) := ⟨⟨by decide +kernel, by decide +kernel⟩, List.mem_of_getElem? (i := 770) (by decide +kernel), List.mem_of_getElem? (i := 900) (by decide +kernel), List.mem_of_getElem? (i := 901) (by decide +kernel)⟩
theorem lw_p26 : lw_okq (⟨"LongColumnModel", "advance", "()V"⟩, 37) := ⟨⟨by decide +kernel, by decide +kernel⟩, List.mem_of_getElem? (i := 770) (by decide +kernel), List.mem_of_getElem? (i := 920) (by decide +kernel), List.mem_of_getElem? (i := 921) (by decide +kernel)⟩
theorem lw_p27 : lw_okq (⟨"LongColumnModel", "byteAt", "(I)I"⟩, 37) := ⟨⟨by decide +kernel, by decide +kernel⟩, List.mem_of_getElem? (i := 770) (by decide +kernel), List.mem_of_getElem? (i := 924) (by decide +kernel), List.mem_of_getElem? (i := 925) (by decide +kernel)⟩
theorem lw_p28 : lw_okq (⟨"LongColumnModel", "wantGroup", "()V"⟩, 37) := ⟨⟨by decide +kernel, by decide +kernel⟩, List.mem_of_getElem? (i := 770) (by decide +kernel), List.mem_of_getElem? (i := 937) (by decide +kernel), List.mem_of_getElem? (i := 938) (by decide +kernel)⟩
theorem lw_p29 : lw_okq (⟨"LongColumnModel", "kindHere", "()I"⟩, 37) := ⟨⟨by decide +kernel, by decide +kernel⟩, List.mem_of_getElem? (i := 770) (by decide +kernel), List.mem_of_getElem? (i := 941) (by decide +kernel), List.mem_of_getElem? (i := 942) (by decide +kernel)⟩
theorem lw_p30 : lw_okq (⟨"LongColumnModel", "isWord", "(J)Z"⟩, 37) := ⟨⟨by decide +kernel, by decide +kernel⟩, List.mem_of_getElem? (i := 770) (by decide +kernel), List.mem_of_getElem? (i := 946) (by decide +kernel), List.mem_of_getElem? (i := 947) (by decide +kernel)⟩
theorem lw_p31 : lw_okq (⟨"LongColumnModel", "wantNumber", "(II)I"⟩, 37) := ⟨⟨by decide +kernel, by decide +kernel⟩, List.mem_of_getElem? (i := 770) (by decide +kernel), List.mem_of_getElem? (i := 956) (by decide +kernel), List.mem_of_getElem? (i := 957) (by decide +kernel)⟩
def lw_privs_2 : List (MethodName × Nat) := [(⟨"LongColumn", "worstWithDrumsSo", "(I)I"⟩, 11), (⟨"LongColumn", "areTwoDrums", "(II)Z"⟩, 11), (⟨"LongColumn", "pacesUntilAlike", "(I)I"⟩, 11), (⟨"LongColumn", "ranksThatDiffer", "()I"⟩, 11), (⟨"LongColumn", "greatestDifference", "()I"⟩, 11), (⟨"LongColumn", "tellBeginnings", "(I)V"⟩, 11), (⟨"LongColumn", "togetherOn", "(III)I"⟩, 11), (⟨"LongColumn", "treadSoonBehind", "(IIII)I"⟩, 11), (⟨"LongColumnModel", "finds", "(I)I"⟩, 37), (⟨"LongColumnModel", "wrapped", "(J)I"⟩, 37), (⟨"LongColumnModel", "advance", "()V"⟩, 37), (⟨"LongColumnModel", "byteAt", "(I)I"⟩, 37), (⟨"LongColumnModel", "wantGroup", "()V"⟩, 37), (⟨"LongColumnModel", "kindHere", "()I"⟩, 37), (⟨"LongColumnModel", "isWord", "(J)Z"⟩, 37), (⟨"LongColumnModel", "wantNumber", "(II)I"⟩, 37)]
theorem lw_r2 : ∀ q ∈ lw_privs_2, lw_okq q := List.forall_mem_cons.mpr ⟨lw_p16, List.forall_mem_cons.mpr ⟨lw_p17, List.forall_mem_cons.mpr ⟨lw_p18, List.forall_mem_cons.mpr ⟨lw_p19, List.forall_mem_cons.mpr ⟨lw_p20, List.forall_mem_cons.mpr ⟨lw_p21, List.forall_mem_cons.mpr ⟨lw_p22, List.forall_mem_cons.mpr ⟨lw_p23, List.forall_mem_cons.mpr ⟨lw_p24, List.forall_mem_cons.mpr ⟨lw_p25, List.forall_mem_cons.mpr ⟨lw_p26, List.forall_mem_cons.mpr ⟨lw_p27, List.forall_mem_cons.mpr ⟨lw_p28, List.forall_mem_cons.mpr ⟨lw_p29, List.forall_mem_cons.mpr ⟨lw_p30, List.forall_mem_cons.mpr ⟨lw_p31, fun _ h => absurd h List.not_mem_nil⟩⟩⟩⟩⟩⟩⟩⟩⟩⟩⟩⟩⟩⟩⟩⟩
theorem lw_p32 : lw_okq (⟨"LongColumnModel", "moreHere", "()I"⟩, 37) := ⟨⟨by decide +kernel, by decide +kernel⟩, List.mem_of_getElem? (i := 770) (by decide +kernel), List.mem_of_getElem? (i := 961) (by decide +kernel), List.mem_of_getElem? (i := 962) (by decide +kernel)⟩
theorem lw_p33 : lw_okq (⟨"LongColumnModel", "its", "(II)I"⟩, 37) := ⟨⟨by decide +kernel, by decide +kernel⟩, List.mem_of_getElem? (i := 770) (by decide +kernel), List.mem_of_getElem? (i := 968) (by decide +kernel), List.mem_of_getElem? (i := 969) (by decide +kernel)⟩
theorem lw_p34 : lw_okq (⟨"LongColumnModel", "lagOf", "(II)I"⟩, 37) := ⟨⟨by decide +kernel, by decide +kernel⟩, List.mem_of_getElem? (i := 770) (by decide +kernel), List.mem_of_getElem? (i := 979) (by decide +kernel), List.mem_of_getElem? (i := 980) (by decide +kernel)⟩
theorem lw_p35 : lw_okq (⟨"LongColumnModel", "isRank", "(I)Z"⟩, 37) := ⟨⟨by decide +kernel, by decide +kernel⟩, List.mem_of_getElem? (i := 770) (by decide +kernel), List.mem_of_getElem? (i := 987) (by decide +kernel), List.mem_of_getElem? (i := 988) (by decide +kernel)⟩
theorem lw_p36 : lw_okq (⟨"LongColumnModel", "beginMarch", "()V"⟩, 37) := ⟨⟨by decide +kernel, by decide +kernel⟩, List.mem_of_getElem? (i := 770) (by decide +kernel), List.mem_of_getElem? (i := 991) (by decide +kernel), List.mem_of_getElem? (i := 992) (by decide +kernel)⟩
theorem lw_p37 : lw_okq (⟨"LongColumnModel", "drumFor", "(I)I"⟩, 37) := ⟨⟨by decide +kernel, by decide +kernel⟩, List.mem_of_getElem? (i := 770) (by decide +kernel), List.mem_of_getElem? (i := 995) (by decide +kernel), List.mem_of_getElem? (i := 996) (by decide +kernel)⟩
theorem lw_p38 : lw_okq (⟨"LongColumnModel", "turn", "(I)I"⟩, 37) := ⟨⟨by decide +kernel, by decide +kernel⟩, List.mem_of_getElem? (i := 770) (by decide +kernel), List.mem_of_getElem? (i := 1002) (by decide +kernel), List.mem_of_getElem? (i := 1003) (by decide +kernel)⟩
theorem lw_p39 : lw_okq (⟨"LongColumnModel", "byEar", "(I)I"⟩, 37) := ⟨⟨by decide +kernel, by decide +kernel⟩, List.mem_of_getElem? (i := 770) (by decide +kernel), List.mem_of_getElem? (i := 1006) (by decide +kernel), List.mem_of_getElem? (i := 1007) (by decide +kernel)⟩
theorem lw_p40 : lw_okq (⟨"LongColumnModel", "byEye", "(I)I"⟩, 37) := ⟨⟨by decide +kernel, by decide +kernel⟩, List.mem_of_getElem? (i := 770) (by decide +kernel), List.mem_of_getElem? (i := 1010) (by decide +kernel), List.mem_of_getElem? (i := 1011) (by decide +kernel)⟩
theorem lw_p41 : lw_okq (⟨"LongColumnModel", "isBent", "(I)Z"⟩, 37) := ⟨⟨by decide +kernel, by decide +kernel⟩, List.mem_of_getElem? (i := 770) (by decide +kernel), List.mem_of_getElem? (i := 1014) (by decide +kernel), List.mem_of_getElem? (i := 1015) (by decide +kernel)⟩
theorem lw_p42 : lw_okq (⟨"LongColumnModel", "byFeet", "(I)I"⟩, 37) := ⟨⟨by decide +kernel, by decide +kernel⟩, List.mem_of_getElem? (i := 770) (by decide +kernel), List.mem_of_getElem? (i := 1018) (by decide +kernel), List.mem_of_getElem? (i := 1019) (by decide +kernel)⟩
theorem lw_p43 : lw_okq (⟨"LongColumnModel", "isDrum", "(I)Z"⟩, 37) := ⟨⟨by decide +kernel, by decide +kernel⟩, List.mem_of_getElem? (i := 770) (by decide +kernel), List.mem_of_getElem? (i := 1034) (by decide +kernel), List.mem_of_getElem? (i := 1035) (by decide +kernel)⟩
theorem lw_p44 : lw_okq (⟨"LongColumnModel", "worstBehind", "(I)I"⟩, 37) := ⟨⟨by decide +kernel, by decide +kernel⟩, List.mem_of_getElem? (i := 770) (by decide +kernel), List.mem_of_getElem? (i := 1050) (by decide +kernel), List.mem_of_getElem? (i := 1051) (by decide +kernel)⟩
theorem lw_p45 : lw_okq (⟨"LongColumnModel", "goesOn", "(I)V"⟩, 37) := ⟨⟨by decide +kernel, by decide +kernel⟩, List.mem_of_getElem? (i := 770) (by decide +kernel), List.mem_of_getElem? (i := 1054) (by decide +kernel), List.mem_of_getElem? (i := 1055) (by decide +kernel)⟩
theorem lw_p46 : lw_okq (⟨"LongColumnModel", "goes", "()V"⟩, 37) := ⟨⟨by decide +kernel, by decide +kernel⟩, List.mem_of_getElem? (i := 770) (by decide +kernel), List.mem_of_getElem? (i := 1058) (by decide +kernel), List.mem_of_getElem? (i := 1059) (by decide +kernel)⟩
theorem lw_p47 : lw_okq (⟨"LongColumnModel", "worstNow", "()I"⟩, 37) := ⟨⟨by decide +kernel, by decide +kernel⟩, List.mem_of_getElem? (i := 770) (by decide +kernel), List.mem_of_getElem? (i := 1062) (by decide +kernel), List.mem_of_getElem? (i := 1063) (by decide +kernel)⟩
def lw_privs_3 : List (MethodName × Nat) := [(⟨"LongColumnModel", "moreHere", "()I"⟩, 37), (⟨"LongColumnModel", "its", "(II)I"⟩, 37), (⟨"LongColumnModel", "lagOf", "(II)I"⟩, 37), (⟨"LongColumnModel", "isRank", "(I)Z"⟩, 37), (⟨"LongColumnModel", "beginMarch", "()V"⟩, 37), (⟨"LongColumnModel", "drumFor", "(I)I"⟩, 37), (⟨"LongColumnModel", "turn", "(I)I"⟩, 37), (⟨"LongColumnModel", "byEar", "(I)I"⟩, 37), (⟨"LongColumnModel", "byEye", "(I)I"⟩, 37), (⟨"LongColumnModel", "isBent", "(I)Z"⟩, 37), (⟨"LongColumnModel", "byFeet", "(I)I"⟩, 37), (⟨"LongColumnModel", "isDrum", "(I)Z"⟩, 37), (⟨"LongColumnModel", "worstBehind", "(I)I"⟩, 37), (⟨"LongColumnModel", "goesOn", "(I)V"⟩, 37), (⟨"LongColumnModel", "goes", "()V"⟩, 37), (⟨"LongColumnModel", "worstNow", "()I"⟩, 37)]
theorem lw_r3 : ∀ q ∈ lw_privs_3, lw_okq q := List.forall_mem_cons.mpr ⟨lw_p32, List.forall_mem_cons.mpr ⟨lw_p33, List.forall_mem_cons.mpr ⟨lw_p34, List.forall_mem_cons.mpr ⟨lw_p35, List.forall_mem_cons.mpr ⟨lw_p36, List.forall_mem_cons.mpr ⟨lw_p37, List.forall_mem_cons.mpr ⟨lw_p38, List.forall_mem_cons.mpr ⟨lw_p39, List.forall_mem_cons.mpr ⟨lw_p40, List.forall_mem_cons.mpr ⟨lw_p41, List.forall_mem_cons.mpr ⟨lw_p42, List.forall_mem_cons.mpr ⟨lw_p43, List.forall_mem_cons.mpr ⟨lw_p44, List.forall_mem_cons.mpr ⟨lw_p45, List.forall_mem_cons.mpr ⟨lw_p46, List.forall_mem_cons.mpr ⟨lw_p47, fun _ h => absurd h List.not_mem_nil⟩⟩⟩⟩⟩⟩⟩⟩⟩⟩⟩⟩⟩⟩⟩⟩
theorem lw_p48 : lw_okq (⟨"LongColumnModel", "tellMarch", "(I)V"⟩, 37) := ⟨⟨by decide +kernel, by decide +kernel⟩, List.mem_of_getElem? (i := 770) (by decide +kernel), List.mem_of_getElem? (i := 1082) (by decide +kernel), List.mem_of_getElem? (i := 1083) (by decide +kernel)⟩
theorem lw_p49 : lw_okq (⟨"LongColumnModel", "isAlike", "(II)Z"⟩, 37) := ⟨⟨by decide +kernel, by decide +kernel⟩, List.mem_of_getElem? (i := 770) (by decide +kernel), List.mem_of_getElem? (i := 1086) (by decide +kernel), List.mem_of_getElem? (i := 1087) (by decide +kernel)⟩
theorem lw_p50 : lw_okq (⟨"LongColumnModel", "areTwo", "(II)Z"⟩, 37) := ⟨⟨by decide +kernel, by decide +kernel⟩, List.mem_of_getElem? (i := 770) (by decide +kernel), List.mem_of_getElem? (i := 1106) (by decide +kernel), List.mem_of_getElem? (i := 1107) (by decide +kernel)⟩
theorem lw_p51 : lw_okq (⟨"LongColumnModel", "isOpposite", "(II)Z"⟩, 37) := ⟨⟨by decide +kernel, by decide +kernel⟩, List.mem_of_getElem? (i := 770) (by decide +kernel), List.mem_of_getElem? (i := 1118) (by decide +kernel), List.mem_of_getElem? (i := 1119) (by decide +kernel)⟩
theorem lw_p52 : lw_okq (⟨"LongColumnModel", "findBegun", "(I)V"⟩, 37) := ⟨⟨by decide +kernel, by decide +kernel⟩, List.mem_of_getElem? (i := 770) (by decide +kernel), List.mem_of_getElem? (i := 1134) (by decide +kernel), List.mem_of_getElem? (i := 1135) (by decide +kernel)⟩
theorem lw_p53 : lw_okq (⟨"LongColumnModel", "together", "(III)I"⟩, 37) := ⟨⟨by decide +kernel, by decide +kernel⟩, List.mem_of_getElem? (i := 770) (by decide +kernel), List.mem_of_getElem? (i := 1149) (by decide +kernel), List.mem_of_getElem? (i := 1150) (by decide +kernel)⟩
theorem lw_p54 : lw_okq (⟨"LongColumnModel", "moveAll", "(Z)V"⟩, 37) := ⟨⟨by decide +kernel, by decide +kernel⟩, List.mem_of_getElem? (i := 770) (by decide +kernel), List.mem_of_getElem? (i := 1201) (by decide +kernel), List.mem_of_getElem? (i := 1202) (by decide +kernel)⟩
theorem lw_p55 : lw_okq (⟨"LongColumnModel", "move", "([IIZ)V"⟩, 37) := ⟨⟨by decide +kernel, by decide +kernel⟩, List.mem_of_getElem? (i := 770) (by decide +kernel), List.mem_of_getElem? (i := 1205) (by decide +kernel), List.mem_of_getElem? (i := 1206) (by decide +kernel)⟩
def lw_privs_4 : List (MethodName × Nat) := [(⟨"LongColumnModel", "tellMarch", "(I)V"⟩, 37), (⟨"LongColumnModel", "isAlike", "(II)Z"⟩, 37), (⟨"LongColumnModel", "areTwo", "(II)Z"⟩, 37), (⟨"LongColumnModel", "isOpposite", "(II)Z"⟩, 37), (⟨"LongColumnModel", "findBegun", "(I)V"⟩, 37), (⟨"LongColumnModel", "together", "(III)I"⟩, 37), (⟨"LongColumnModel", "moveAll", "(Z)V"⟩, 37), (⟨"LongColumnModel", "move", "([IIZ)V"⟩, 37)]
theorem lw_r4 : ∀ q ∈ lw_privs_4, lw_okq q := List.forall_mem_cons.mpr ⟨lw_p48, List.forall_mem_cons.mpr ⟨lw_p49, List.forall_mem_cons.mpr ⟨lw_p50, List.forall_mem_cons.mpr ⟨lw_p51, List.forall_mem_cons.mpr ⟨lw_p52, List.forall_mem_cons.mpr ⟨lw_p53, List.forall_mem_cons.mpr ⟨lw_p54, List.forall_mem_cons.mpr ⟨lw_p55, fun _ h => absurd h List.not_mem_nil⟩⟩⟩⟩⟩⟩⟩⟩
def lw_privs : List (MethodName × Nat) := lw_privs_1 ++ (lw_privs_2 ++ (lw_privs_3 ++ (lw_privs_4)))
def lw_tbl : List Cond := k2_sels lw_privs ++ tables_1
theorem lw_privs_ok : ∀ q ∈ lw_privs, lw_okq q := by
  show ∀ q ∈ lw_privs_1 ++ (lw_privs_2 ++ (lw_privs_3 ++ (lw_privs_4))), lw_okq q
  exact List.forall_mem_append.mpr ⟨lw_r1, List.forall_mem_append.mpr ⟨lw_r2, List.forall_mem_append.mpr ⟨lw_r3, lw_r4⟩⟩⟩
end
section
/-! THE PURE MACHINE: blocks of resolved instructions over whole numbers, a heap of numbered cells -/
abbrev dk_V : Type := Int ⊕ (Int ⊕ Nat)
abbrev dk_I (e : Int) : dk_V := Sum.inl e
abbrev dk_J (e : Int) : dk_V := Sum.inr (Sum.inl e)
abbrev dk_R (k : Nat) : dk_V := Sum.inr (Sum.inr k)
/-- a cell: a row (its sort, its length, its numbers), or an object (its kind, its fields) -/
abbrev dk_C : Type := (Nat × Nat × (Int → Int)) ⊕ (Nat × List dk_V)
abbrev dk_H : Type := Nat → dk_C
abbrev dk_L : Type := List (Option dk_V)
abbrev dk_Q : Type := Option dk_V → dk_H → Prop
/-- what a method does: its arguments, the heap, what must hold behind it -/
abbrev dk_S : Type := List dk_V → dk_H → dk_Q → Prop
abbrev dk_N : Type := Instr ⊕ (Nat × Nat × Nat)
def dk_nth {α : Type} : List α → Nat → Option α
  | [], _ => none
  | a :: _, 0 => some a
  | _ :: l, n + 1 => dk_nth l n
def dk_set {α : Type} : List α → Nat → α → List α
  | [], _, _ => []
  | _ :: l, 0, x => x :: l
  | a :: l, n + 1, x => a :: dk_set l n x
def dk_ld : dk_L → Nat → Option dk_V
  | [], _ => none
  | a :: _, 0 => a
  | _ :: l, n + 1 => dk_ld l n
/-- a store of one word: a long whose second half it takes is gone -/
def dk_st : dk_L → Nat → dk_V → dk_L
  | [], _, _ => []
  | _ :: l, 0, x => some x :: l
  | some (.inr (.inl _)) :: _ :: l, 1, x => none :: some x :: l
  | a :: l, n + 1, x => a :: dk_st l n x
/-- a store of two words -/
def dk_st2 : dk_L → Nat → dk_V → dk_L
  | [], _, _ => []
  | [_], _, _ => []
  | _ :: _ :: l, 0, x => some x :: none :: l
  | some (.inr (.inl _)) :: _ :: _ :: l, 1, x => none :: some x :: none :: l
  | a :: l, n + 1, x => a :: dk_st2 l n x
def dk_mask : List Bool → dk_L → dk_L
  | true :: m, a :: l => a :: dk_mask m l
  | false :: m, _ :: l => none :: dk_mask m l
  | _, _ => []
def dk_up {α : Type} (h : Nat → α) (k : Nat) (c : α) : Nat → α := fun j => if j = k then c else h j
def dk_ui (f : Int → Int) (k : Int) (c : Int) : Int → Int := fun j => if j = k then c else f j
def dk_in (e : Int) : Prop := -2147483648 ≤ e ∧ e ≤ 2147483647
def dk_in64 (e : Int) : Prop := -9223372036854775808 ≤ e ∧ e ≤ 9223372036854775807
def dk_and (x y : Int) : Int := (Int32.ofInt x &&& Int32.ofInt y).toInt
def dk_or (x y : Int) : Int := (Int32.ofInt x ||| Int32.ofInt y).toInt
def dk_xor (x y : Int) : Int := (Int32.ofInt x ^^^ Int32.ofInt y).toInt
def dk_cmp (x y : Int) : Int := if y < x then 1 else if x = y then 0 else -1
def dk_gf (c : dk_C) (ci k : Nat) : Option dk_V := match c with
  | .inr (cj, fs) => if cj = ci then dk_nth fs k else none
  | _ => none
def dk_pf (c : dk_C) (ci k : Nat) (v : dk_V) : Option dk_C := match c with
  | .inr (cj, fs) => if cj = ci ∧ k < fs.length then some (.inr (cj, dk_set fs k v)) else none
  | _ => none
def dk_ar (c : dk_C) (t : Nat) : Option (Nat × (Int → Int)) := match c with
  | .inl (u, n, f) => if u = t then some (n, f) else none
  | _ => none
/-- a row of ints that may be read: one of ours (sort 0), or one that nobody writes (sort 4) -/
def dk_rd (c : dk_C) : Option (Nat × (Int → Int)) := match c with
  | .inl (0, n, f) => some (n, f)
  | .inl (4, n, f) => some (n, f)
  | _ => none
def dk_cc : ClassFile.Cond → Int → Int → Prop
  | .eq, x, y => x = y
  | .ne, x, y => ¬ x = y
  | .lt, x, y => x < y
  | .ge, x, y => y ≤ x
  | .gt, x, y => y < x
  | .le, x, y => x ≤ y
/-- the stack's top as an int, a long, a reference -/
def dk_pi {α : Type} (S : List dk_V) (K : Int → List dk_V → Option α) : Option α := match S with
  | .inl x :: S => K x S
  | _ => none
def dk_pl {α : Type} (S : List dk_V) (K : Int → List dk_V → Option α) : Option α := match S with
  | .inr (.inl x) :: S => K x S
  | _ => none
def dk_pr {α : Type} (S : List dk_V) (K : Nat → List dk_V → Option α) : Option α := match S with
  | .inr (.inr x) :: S => K x S
  | _ => none
def dk_bd {α β : Type} (o : Option α) (K : α → Option β) : Option β := match o with
  | some a => K a
  | none => none
def dk_oi (o : Option dk_V) : Option Int := match o with
  | some (.inl e) => some e
  | _ => none
def dk_ol (o : Option dk_V) : Option Int := match o with
  | some (.inr (.inl e)) => some e
  | _ => none
def dk_or2 (o : Option dk_V) : Option Nat := match o with
  | some (.inr (.inr e)) => some e
  | _ => none
/-- one instruction that only goes on: what it asks, and the state behind it -/
def dk_1 (i : dk_N) (L : dk_L) (S : List dk_V) (h : dk_H) : Option (Prop × dk_L × List dk_V × dk_H) := match i with
  | .inl (.iconst c) => some (True, L, dk_I c :: S, h)
  | .inl (.goto_w c) => some (True, L, dk_J c :: S, h)
  | .inr (6, k, _) => some (True, L, dk_R k :: S, h)
  | .inl (.iload i) => dk_bd (dk_oi (dk_ld L i)) fun e => some (True, L, dk_I e :: S, h)
  | .inl (.lload i) => dk_bd (dk_ol (dk_ld L i)) fun e => some (True, L, dk_J e :: S, h)
  | .inl (.aload i) => dk_bd (dk_or2 (dk_ld L i)) fun e => some (True, L, dk_R e :: S, h)
  | .inl (.istore i) => dk_pi S fun e S => some (i < L.length, dk_st L i (dk_I e), S, h)
  | .inl (.astore i) => dk_pr S fun e S => some (i < L.length, dk_st L i (dk_R e), S, h)
  | .inl (.lstore i) => dk_pl S fun e S => some (i + 1 < L.length, dk_st2 L i (dk_J e), S, h)
  | .inl (.iinc i c) => dk_bd (dk_oi (dk_ld L i)) fun e => some (True, dk_st L i (dk_I (e + c)), S, h)
  | .inl .iadd => dk_pi S fun y S => dk_pi S fun x S => some (True, L, dk_I (x + y) :: S, h)
  | .inl .isub => dk_pi S fun y S => dk_pi S fun x S => some (True, L, dk_I (x - y) :: S, h)
  | .inl .imul => dk_pi S fun y S => dk_pi S fun x S => some (True, L, dk_I (x * y) :: S, h)
  | .inl .idiv => dk_pi S fun y S => dk_pi S fun x S => some (dk_in x ∧ dk_in y ∧ ¬ y = 0, L, dk_I (x.tdiv y) :: S, h)
  | .inl .irem => dk_pi S fun y S => dk_pi S fun x S => some (dk_in x ∧ dk_in y ∧ ¬ y = 0, L, dk_I (x.tmod y) :: S, h)
  | .inl .ineg => dk_pi S fun x S => some (True, L, dk_I (-x) :: S, h)
  | .inl .iand => dk_pi S fun y S => dk_pi S fun x S => some (True, L, dk_I (dk_and x y) :: S, h)
  | .inl .ior => dk_pi S fun y S => dk_pi S fun x S => some (True, L, dk_I (dk_or x y) :: S, h)
  | .inl .ixor => dk_pi S fun y S => dk_pi S fun x S => some (True, L, dk_I (dk_xor x y) :: S, h)
  | .inl .ishl => dk_pi S fun y S => dk_pi S fun x S => some (0 ≤ y ∧ y < 32, L, dk_I (x * 2 ^ y.toNat) :: S, h)
  | .inl .ishr => dk_pi S fun y S => dk_pi S fun x S => some (dk_in x ∧ 0 ≤ y ∧ y < 32, L, dk_I (x / 2 ^ y.toNat) :: S, h)
  | .inl .iushr => dk_pi S fun y S => dk_pi S fun x S => some (0 ≤ y ∧ y < 32, L, dk_I (x % 4294967296 / 2 ^ y.toNat) :: S, h)
  | .inl .i2l => dk_pi S fun x S => some (dk_in x, L, dk_J x :: S, h)
  | .inl .l2i => dk_pl S fun x S => some (True, L, dk_I x :: S, h)
  | .inl .i2b => dk_pi S fun x S => some (True, L, dk_I (x.bmod 256) :: S, h)
  | .inl .i2s => dk_pi S fun x S => some (True, L, dk_I (x.bmod 65536) :: S, h)
  | .inl .ladd => dk_pl S fun y S => dk_pl S fun x S => some (True, L, dk_J (x + y) :: S, h)
  | .inl .lsub => dk_pl S fun y S => dk_pl S fun x S => some (True, L, dk_J (x - y) :: S, h)
  | .inl .lmul => dk_pl S fun y S => dk_pl S fun x S => some (True, L, dk_J (x * y) :: S, h)
  | .inl .lrem => dk_pl S fun y S => dk_pl S fun x S => some (dk_in64 x ∧ dk_in64 y ∧ ¬ y = 0, L, dk_J (x.tmod y) :: S, h)
  | .inl .lcmp => dk_pl S fun y S => dk_pl S fun x S => some (dk_in64 x ∧ dk_in64 y, L, dk_I (dk_cmp x y) :: S, h)
  | .inl .dup => match S with
    | .inl x :: S => some (True, L, dk_I x :: dk_I x :: S, h)
    | .inr (.inr x) :: S => some (True, L, dk_R x :: dk_R x :: S, h)
    | _ => none
  | .inl .dup2 => dk_pi S fun x S => dk_pr S fun y S => some (True, L, dk_I x :: dk_R y :: dk_I x :: dk_R y :: S, h)
  | .inl .pop => dk_pi S fun _ S => some (True, L, S, h)
  | .inr (0, ci, k) => dk_pr S fun a S => dk_bd (dk_gf (h a) ci k) fun v => some (True, L, v :: S, h)
  | .inr (1, ci, k) => dk_pi S fun e S => dk_pr S fun a S => dk_bd (dk_pf (h a) ci k (dk_I e)) fun c => some (True, L, S, dk_up h a c)
  | .inr (2, ci, k) => dk_pi S fun e S => dk_pr S fun a S => dk_bd (dk_pf (h a) ci k (dk_I e)) fun c => some (e = 0 ∨ e = 1, L, S, dk_up h a c)
  | .inr (3, ci, k) => dk_pr S fun e S => dk_pr S fun a S => dk_bd (dk_pf (h a) ci k (dk_R e)) fun c => some (True, L, S, dk_up h a c)
  | .inr (4, ci, k) => dk_pl S fun e S => dk_pr S fun a S => dk_bd (dk_pf (h a) ci k (dk_J e)) fun c => some (True, L, S, dk_up h a c)
  | .inl .iaload => dk_pi S fun i S => dk_pr S fun a S => dk_bd (dk_rd (h a)) fun q => some (0 ≤ i ∧ i < q.1 ∧ i < 2147483648, L, dk_I (q.2 i) :: S, h)
  | .inl .baload => dk_pi S fun i S => dk_pr S fun a S => dk_bd (dk_ar (h a) 1) fun q => some (0 ≤ i ∧ i < q.1 ∧ i < 2147483648, L, dk_I (q.2 i) :: S, h)
  | .inl .aaload => dk_pi S fun i S => dk_pr S fun a S => dk_bd (dk_ar (h a) 2) fun q => some (0 ≤ i ∧ i < q.1 ∧ i < 2147483648, L, dk_R (q.2 i).toNat :: S, h)
  | .inl .iastore => dk_pi S fun x S => dk_pi S fun i S => dk_pr S fun a S => dk_bd (dk_ar (h a) 0) fun q => some (0 ≤ i ∧ i < q.1 ∧ i < 2147483648, L, S, dk_up h a (.inl (0, q.1, dk_ui q.2 i x)))
  | .inl .bastore => dk_pi S fun x S => dk_pi S fun i S => dk_pr S fun a S => dk_bd (dk_ar (h a) 1) fun q => some (0 ≤ i ∧ i < q.1 ∧ i < 2147483648 ∧ (x = 0 ∨ x = 1), L, S, dk_up h a (.inl (1, q.1, dk_ui q.2 i x)))
  | .inl .arraylength => dk_pr S fun a S => dk_bd (dk_rd (h a)) fun q => some (True, L, dk_I q.1 :: S, h)
  | _ => none
def dk_sz : List dk_V → Nat
  | [] => 0
  | .inr (.inl _) :: S => dk_sz S + 2
  | _ :: S => dk_sz S + 1
/-- the branches of a switch -/
def dk_sw (x : Int) (J : Nat → Prop) : List Int → Int → Prop
  | [], _ => True
  | t :: ts, v => (x = v → J t.toNat) ∧ dk_sw x J ts (v + 1)
def dk_r (G : List (Nat × dk_S)) (R : dk_Q) (J : Nat → dk_L → List dk_V → dk_H → Prop) : List dk_N → dk_L → List dk_V → dk_H → Prop
  | [], _, _, _ => False
  | .inr (5, j, _) :: is, L, S, h => match dk_nth G j with
    | some (n, T) => n ≤ S.length ∧ dk_sz (S.drop n) ≤ 8 ∧ T (S.take n).reverse h (fun r h2 => dk_r G R J is L (r.toList ++ S.drop n) h2)
    | none => False
  | .inr (7, t, _) :: _, L, S, h => J t L S h
  | .inl (.ifCond c t) :: is, L, S, h => match S with
    | .inl x :: S => dk_in x ∧ (dk_cc c x 0 → J t.toNat L S h) ∧ (¬ dk_cc c x 0 → dk_r G R J is L S h)
    | _ => False
  | .inl (.if_icmp c t) :: is, L, S, h => match S with
    | .inl y :: .inl x :: S => dk_in x ∧ dk_in y ∧ (dk_cc c x y → J t.toNat L S h) ∧ (¬ dk_cc c x y → dk_r G R J is L S h)
    | _ => False
  | .inl (.tableswitch d lo hi offs) :: _, L, S, h => match S with
    | .inl x :: S => dk_in x ∧ (x < lo ∨ hi < x → J d.toNat L S h) ∧ dk_sw x (fun b => J b L S h) offs.toList lo
    | _ => False
  | .inl .ireturn :: _, _, S, h => match S with
    | [.inl x] => R (some (dk_I x)) h
    | _ => False
  | .inl .lreturn :: _, _, S, h => match S with
    | [.inl x] => (x = 0 ∨ x = 1) ∧ R (some (dk_I x)) h
    | _ => False
  | .inl .areturn :: _, _, S, h => match S with
    | [.inr (.inr x)] => R (some (dk_R x)) h
    | _ => False
  | .inl .return_ :: _, _, S, h => match S with
    | [] => R none h
    | _ => False
  | i :: is, L, S, h => match dk_1 i L S h with
    | some (vc, L2, S2, h2) => vc ∧ dk_r G R J is L2 S2 h2
    | none => False
abbrev dk_T : Type := List (List Bool × List dk_N)
def dk_B (G : List (Nat × dk_S)) (tb : dk_T) (R : dk_Q) (P : Nat → dk_L → List dk_V → dk_H → Prop) (b : Nat) (L : dk_L) (S : List dk_V) (h : dk_H) : Prop := ∃ mk is, dk_nth tb b = some (mk, is) ∧ dk_r G R P is (dk_mask mk L) S h
def dk_WP (G : List (Nat × dk_S)) (tb : dk_T) (R : dk_Q) (b : Nat) (L : dk_L) (S : List dk_V) (h : dk_H) : Prop := ∀ P : Nat → dk_L → List dk_V → dk_H → Prop, (∀ b L S h, dk_B G tb R P b L S h → P b L S h) → P b L S h
/-- a method's meaning may be weakened behind it -/
def dk_mono (T : dk_S) : Prop := ∀ as h (Q Q2 : dk_Q), (∀ r h2, Q r h2 → Q2 r h2) → T as h Q → T as h Q2
def dk_monoG (G : List (Nat × dk_S)) : Prop := ∀ q ∈ G, dk_mono q.2
theorem dk_nth_mem {α : Type} : ∀ {l : List α} {n : Nat} {a : α}, dk_nth l n = some a → a ∈ l
  | [], _, _, h => by simp [dk_nth] at h
  | b :: l, 0, a, h => by simp only [dk_nth, Option.some.injEq] at h; rw [h]; exact List.mem_cons_self
  | b :: l, n + 1, a, h => List.mem_cons_of_mem _ (dk_nth_mem (l := l) (n := n) h)
theorem dk_sw_mono {x : Int} {J J2 : Nat → Prop} (hJ : ∀ b, J b → J2 b) : ∀ (ts : List Int) (v : Int), dk_sw x J ts v → dk_sw x J2 ts v
  | [], _, _ => trivial
  | _ :: ts, v, h => ⟨fun e => hJ _ (h.1 e), dk_sw_mono hJ ts (v + 1) h.2⟩
def dk_d (o : Option (Prop × dk_L × List dk_V × dk_H)) (K : dk_L → List dk_V → dk_H → Prop) : Prop := match o with
  | some (vc, L2, S2, h2) => vc ∧ K L2 S2 h2
  | none => False
theorem dk_d_mono {o : Option (Prop × dk_L × List dk_V × dk_H)} {K K2 : dk_L → List dk_V → dk_H → Prop} (hK : ∀ L S h, K L S h → K2 L S h) (q : dk_d o K) : dk_d o K2 := by
  cases o with
  | none => exact q.elim
  | some w => exact ⟨q.1, hK _ _ _ q.2⟩
/-- the instructions that only go on -/
def dk_isS : dk_N → Bool
  | .inr (t, _, _) => !(t == 5) && !(t == 7)
  | .inl (.ifCond _ _) => false
  | .inl (.if_icmp _ _) => false
  | .inl (.tableswitch _ _ _ _) => false
  | .inl .ireturn => false
  | .inl .lreturn => false
  | .inl .areturn => false
  | .inl .return_ => false
  | _ => true
theorem dk_r_s {G : List (Nat × dk_S)} {R : dk_Q} {J : Nat → dk_L → List dk_V → dk_H → Prop} {i : dk_N} (hi : dk_isS i = true) (is : List dk_N) (L : dk_L) (S : List dk_V) (h : dk_H) : dk_r G R J (i :: is) L S h = dk_d (dk_1 i L S h) (dk_r G R J is) := by
  rcases i with ins | ⟨t, j, k⟩
  · cases ins <;> first | rfl | cases hi
  · have h5 : ¬ t = 5 := by intro e; subst e; cases hi
    have h7 : ¬ t = 7 := by intro e; subst e; cases hi
    unfold dk_r
    split <;> simp_all
    rfl
theorem dk_r_mono {G : List (Nat × dk_S)} (hG : dk_monoG G) {R R2 : dk_Q} (hR : ∀ r h, R r h → R2 r h) {J J2 : Nat → dk_L → List dk_V → dk_H → Prop} (hJ : ∀ b L S h, J b L S h → J2 b L S h) : ∀ (is : List dk_N) (L : dk_L) (S : List dk_V) (h : dk_H), dk_r G R J is L S h → dk_r G R2 J2 is L S h := by
  intro is
  induction is with
  | nil => intro L S h q; exact q.elim
  | cons i is ih =>
    intro L S h q
    cases hi : dk_isS i with
    | true =>
      rw [dk_r_s hi] at q ⊢
      exact dk_d_mono ih q
    | false =>
      rcases i with ins | ⟨t, j, k⟩
      · cases ins
        all_goals (try (cases hi; done))
        all_goals (simp only [dk_r] at q ⊢)
        all_goals (split at q)
        all_goals (try (exact q.elim))
        all_goals (try (exact hR _ _ q))
        all_goals (try (exact ⟨q.1, hR _ _ q.2⟩))
        all_goals (try (exact ⟨q.1, fun c => hJ _ _ _ _ (q.2.1 c), fun c => ih _ _ _ (q.2.2 c)⟩))
        all_goals (try (exact ⟨q.1, q.2.1, fun c => hJ _ _ _ _ (q.2.2.1 c), fun c => ih _ _ _ (q.2.2.2 c)⟩))
        all_goals (try (exact ⟨q.1, fun c => hJ _ _ _ _ (q.2.1 c), dk_sw_mono (fun b => hJ b _ _ _) _ _ q.2.2⟩))
      · have h57 : t = 5 ∨ t = 7 := by
          simp only [dk_isS] at hi
          by_cases a : t = 5
          · exact Or.inl a
          · by_cases b : t = 7
            · exact Or.inr b
            · simp [a, b] at hi
        rcases h57 with rfl | rfl
        · simp only [dk_r] at q ⊢
          cases e : dk_nth G j with
          | none => rw [e] at q; exact q.elim
          | some w =>
            rw [e] at q
            exact ⟨q.1, q.2.1, hG w (dk_nth_mem e) _ _ _ _ (fun r h2 => ih _ _ _) q.2.2⟩
        · exact hJ _ _ _ _ q
theorem dk_WP_step {G : List (Nat × dk_S)} (hG : dk_monoG G) {tb : dk_T} {R : dk_Q} {b : Nat} {L : dk_L} {S : List dk_V} {h : dk_H} (q : dk_B G tb R (dk_WP G tb R) b L S h) : dk_WP G tb R b L S h := by
  intro P hP
  obtain ⟨mk, is, e, q⟩ := q
  exact hP b L S h ⟨mk, is, e, dk_r_mono hG (fun _ _ z => z) (fun b L S h z => z P hP) is _ S h q⟩
/-- a block, by its place -/
theorem dk_blk {G : List (Nat × dk_S)} (hG : dk_monoG G) {tb : dk_T} {R : dk_Q} {b : Nat} {L : dk_L} {S : List dk_V} {h : dk_H} {mk : List Bool} {is : List dk_N} (e : dk_nth tb b = some (mk, is)) (q : dk_r G R (dk_WP G tb R) is (dk_mask mk L) S h) : dk_WP G tb R b L S h := dk_WP_step hG ⟨mk, is, e, q⟩
theorem dk_WP_mono {G : List (Nat × dk_S)} (hG : dk_monoG G) {tb : dk_T} {R R2 : dk_Q} (hR : ∀ r h, R r h → R2 r h) {b : Nat} {L : dk_L} {S : List dk_V} {h : dk_H} (q : dk_WP G tb R b L S h) : dk_WP G tb R2 b L S h := by
  refine q (fun b L S h => dk_WP G tb R2 b L S h) ?_
  intro b L S h q2
  obtain ⟨mk1, is, e, w⟩ := q2
  exact dk_blk hG e (dk_r_mono hG hR (fun _ _ _ _ z => z) is _ S h w)
/-- the locals with which a method begins -/
def dk_lc : List dk_V → dk_L
  | [] => []
  | .inr (.inl e) :: l => some (dk_J e) :: none :: dk_lc l
  | v :: l => some v :: dk_lc l
def dk_args (n : Nat) (as : List dk_V) : dk_L := dk_lc as ++ List.replicate (n - (dk_lc as).length) none
/-- the meaning of a method: its calls, its blocks, how many locals it has -/
def dk_M (G : List (Nat × dk_S)) (tb : dk_T) (n : Nat) : dk_S := fun as h Q => (dk_lc as).length ≤ n ∧ dk_WP G tb Q 0 (dk_args n as) [] h
theorem dk_M_mono {G : List (Nat × dk_S)} (hG : dk_monoG G) (tb : dk_T) (n : Nat) : dk_mono (dk_M G tb n) := fun _ _ _ _ hQ q => ⟨q.1, dk_WP_mono hG hQ q.2⟩
/-- the first argument is an object of a kind -/
def dk_rc (ci : Nat) (as : List dk_V) (h : dk_H) : Prop := match as with
  | .inr (.inr b) :: _ => match h b with
    | .inr (cj, _) => cj = ci
    | _ => False
  | _ => False
def dk_MV (ci : Nat) (G : List (Nat × dk_S)) (tb : dk_T) (n : Nat) : dk_S := fun as h Q => dk_rc ci as h ∧ dk_M G tb n as h Q
theorem dk_MV_mono {G : List (Nat × dk_S)} (ci : Nat) (hG : dk_monoG G) (tb : dk_T) (n : Nat) : dk_mono (dk_MV ci G tb n) := fun as h Q Q2 hQ q => ⟨q.1, dk_M_mono hG tb n as h Q Q2 hQ q.2⟩
theorem dk_monoG_nil : dk_monoG [] := fun _ h => absurd h List.not_mem_nil
theorem dk_monoG_cons {n : Nat} {T : dk_S} {G : List (Nat × dk_S)} (h1 : dk_mono T) (h2 : dk_monoG G) : dk_monoG ((n, T) :: G) := fun q hq => by
  rcases List.mem_cons.mp hq with rfl | hq
  · exact h1
  · exact h2 q hq
end
section
/-! THE PURE MACHINE AND THE REAL ONE: values, cells, locals -/
def dk_cv (ad : Nat → Nat) : dk_V → Value
  | .inl e => .int (Int32.ofInt e)
  | .inr (.inl e) => .long (Int64.ofInt e)
  | .inr (.inr k) => .ref (ad k)
def dk_ce (ad : Nat → Nat) (dA : Nat → ClassId) : dk_C → va_E
  | .inl (2, n, f) => .inl (dA 2, n, .inr (.inr (.inr (.inr (fun j => some (ad (f j).toNat))))))
  | .inl (t, n, f) => .inl (dA t, n, .inl (fun j => Int32.ofInt (f j)))
  | .inr (ci, fs) => .inr (ci, fs.map (dk_cv ad))
def dk_ws (ad : Nat → Nat) (dA : Nat → ClassId) (N : Nat) (h : dk_H) : va_W := (List.range N).map (fun k => (ad k, dk_ce ad dA (h k)))
theorem dk_ws_at {ad : Nat → Nat} {dA : Nat → ClassId} {N : Nat} {h : dk_H} {k : Nat} (hk : k < N) : (dk_ws ad dA N h)[k]? = some (ad k, dk_ce ad dA (h k)) := by
  simp [dk_ws, hk]
theorem dk_ws_of {ad : Nat → Nat} {dA : Nat → ClassId} {N : Nat} {h : dk_H} {k : Nat} {q : Nat × va_E} (e : (dk_ws ad dA N h)[k]? = some q) : k < N ∧ q = (ad k, dk_ce ad dA (h k)) := by
  have hk : k < N := by
    have := (List.getElem?_eq_some_iff.mp e).1
    simpa [dk_ws] using this
  rw [dk_ws_at hk] at e
  exact ⟨hk, (Option.some.inj e).symm⟩
theorem dk_ws_set {ad : Nat → Nat} {dA : Nat → ClassId} {N : Nat} {h : dk_H} {k : Nat} (c : dk_C) : (dk_ws ad dA N h).set k (ad k, dk_ce ad dA c) = dk_ws ad dA N (dk_up h k c) := by
  apply List.ext_getElem?
  intro j
  by_cases hj : j < N
  · by_cases e : j = k
    · subst e
      rw [dk_ws_at hj, List.getElem?_set_self (by simpa [dk_ws] using hj)]
      simp [dk_up]
    · rw [dk_ws_at hj, List.getElem?_set_ne (fun z => e z.symm), dk_ws_at hj]
      simp [dk_up, e]
  · rw [List.getElem?_eq_none (by simpa [dk_ws] using hj), List.getElem?_eq_none (by simpa [dk_ws] using hj)]
theorem dk_toInt {e : Int} (h : dk_in e) : (Int32.ofInt e).toInt = e := Int32.toInt_ofInt_of_le (by have := h.1; omega) (by have := h.2; omega)
theorem dk_toInt64 {e : Int} (h : dk_in64 e) : (Int64.ofInt e).toInt = e := Int64.toInt_ofInt_of_le (by have := h.1; omega) (by have := h.2; omega)
theorem dk_ofInt_eq {x y : Int} (hx : dk_in x) (hy : dk_in y) : Int32.ofInt x = Int32.ofInt y ↔ x = y := by
  rw [← Int32.toInt_inj, dk_toInt hx, dk_toInt hy]
theorem dk_ofInt_le {x y : Int} (hx : dk_in x) (hy : dk_in y) : Int32.ofInt x ≤ Int32.ofInt y ↔ x ≤ y := by
  rw [Int32.le_iff_toInt_le, dk_toInt hx, dk_toInt hy]
theorem dk_ofInt_lt {x y : Int} (hx : dk_in x) (hy : dk_in y) : Int32.ofInt x < Int32.ofInt y ↔ x < y := by
  rw [Int32.lt_iff_toInt_lt, dk_toInt hx, dk_toInt hy]
theorem dk_clamp {i : Int} (h0 : 0 ≤ i) (h1 : i < 2147483648) : (Int32.ofInt i).toNatClampNeg = i.toNat := Int32.toNatClampNeg_ofInt_of_le (by omega) (by omega)
theorem dk_vin {i : Int} {n : Nat} (h0 : 0 ≤ i) (hn : i < n) (h1 : i < 2147483648) : vp_in (Int32.ofInt i) n := by
  rw [vp_in_iff, dk_toInt ⟨by omega, by omega⟩]
  omega
theorem dk_upd (f : Int → Int) {i : Int} (x : Int) (h0 : 0 ≤ i) (h1 : i < 2147483648) : upd (fun j : Nat => Int32.ofInt (f j)) (Int32.ofInt i).toNatClampNeg (Int32.ofInt x) = fun j : Nat => Int32.ofInt (dk_ui f i x j) := by
  funext j
  rw [dk_clamp h0 h1]
  unfold dk_ui upd
  by_cases e : j = i.toNat
  · rw [if_pos e, if_pos (by omega)]
  · rw [if_neg e, if_neg (by omega)]
def dk_ls (ad : Nat → Nat) (ls : Array Slot) (nL : Nat) (L : dk_L) : Prop := ls.size = nL ∧ L.length = nL ∧ lv_wf ls ∧ ∀ i v, dk_ld L i = some v → ls[i]? = some (.val (dk_cv ad v))
def dk_as (ad : Nat → Nat) (L : dk_L) : List (Nat × Value) := (List.range L.length).filterMap (fun i => (dk_ld L i).map (fun v => (i, dk_cv ad v)))
theorem dk_ld_lt : ∀ {L : dk_L} {i : Nat} {v : dk_V}, dk_ld L i = some v → i < L.length
  | [], _, _, h => by simp [dk_ld] at h
  | _ :: _, 0, _, _ => by simp
  | _ :: l, n + 1, v, h => by
    have := dk_ld_lt (L := l) (i := n) (v := v) h
    simp; omega
theorem dk_as_has {ad : Nat → Nat} {ls : Array Slot} {nL : Nat} {L : dk_L} (h : dk_ls ad ls nL L) : lv_has ls nL (dk_as ad L) := by
  refine ⟨h.1, h.2.2.1, fun q hq => ?_⟩
  obtain ⟨i, -, hi⟩ := List.mem_filterMap.mp hq
  cases e : dk_ld L i with
  | none => rw [e] at hi; cases hi
  | some v =>
    rw [e] at hi
    cases hi
    exact h.2.2.2 i v e
theorem dk_as_mem {ad : Nat → Nat} {L : dk_L} {i : Nat} {v : dk_V} (e : dk_ld L i = some v) : (i, dk_cv ad v) ∈ dk_as ad L :=
  List.mem_filterMap.mpr ⟨i, List.mem_range.mpr (dk_ld_lt e), by rw [e]; rfl⟩
theorem dk_st_len : ∀ (L : dk_L) (i : Nat) (x : dk_V), (dk_st L i x).length = L.length := by
  intro L i x
  fun_induction dk_st L i x <;> simp_all
theorem dk_st_ld : ∀ (L : dk_L) (i : Nat) (x : dk_V), i < L.length → ∀ (j : Nat) (v : dk_V), dk_ld (dk_st L i x) j = some v → (j = i ∧ v = x) ∨ (j ≠ i ∧ dk_ld L j = some v ∧ ¬ (j + 1 = i ∧ ∃ e, v = dk_J e)) := by
  intro L
  induction L with
  | nil => intro i x hi; simp at hi
  | cons a l ih =>
    intro i x hi j v h
    cases i with
    | zero =>
      cases j with
      | zero => simp only [dk_st, dk_ld, Option.some.injEq] at h; exact Or.inl ⟨rfl, h.symm⟩
      | succ j => exact Or.inr ⟨by omega, h, fun z => by omega⟩
    | succ n =>
      simp only [List.length_cons] at hi
      have go : dk_ld (a :: dk_st l n x) j = some v → ¬ (n = 0 ∧ ∃ e, a = some (dk_J e)) → (j = n + 1 ∧ v = x) ∨ (j ≠ n + 1 ∧ dk_ld (a :: l) j = some v ∧ ¬ (j + 1 = n + 1 ∧ ∃ e, v = dk_J e)) := by
        intro h hn
        cases j with
        | zero =>
          refine Or.inr ⟨by omega, h, fun z => hn ⟨by omega, ?_⟩⟩
          obtain ⟨e, rfl⟩ := z.2
          exact ⟨e, h⟩
        | succ j =>
          rcases ih n x (by omega) j v h with ⟨q1, q2⟩ | ⟨q1, q2, q3⟩
          · exact Or.inl ⟨by omega, q2⟩
          · exact Or.inr ⟨by omega, q2, fun z => q3 ⟨by omega, z.2⟩⟩
      by_cases c : n = 0 ∧ ∃ e, a = some (dk_J e)
      · obtain ⟨rfl, e, rfl⟩ := c
        cases l with
        | nil => simp at hi
        | cons b l =>
          match j, h with
          | 0, h => simp [dk_st, dk_ld] at h
          | 1, h => exact Or.inl ⟨rfl, (Option.some.inj (show some x = some v from h)).symm⟩
          | j + 2, h => exact Or.inr ⟨by omega, h, fun z => by omega⟩
      · refine go ?_ c
        have e1 : dk_st (a :: l) (n + 1) x = a :: dk_st l n x := by
          cases n with
          | succ n => cases a with
            | none => rfl
            | some w => rcases w with w | w | w <;> cases l <;> rfl
          | zero => cases a with
            | none => rfl
            | some w => rcases w with w | w | w
                        · rfl
                        · exact absurd ⟨rfl, w, rfl⟩ c
                        · rfl
        rw [e1] at h
        exact h
theorem dk_st2_len : ∀ (L : dk_L) (i : Nat) (x : dk_V), i + 1 < L.length → (dk_st2 L i x).length = L.length := by
  intro L
  induction L with
  | nil => intro i x hi; simp at hi
  | cons a l ih =>
    intro i x hi
    cases l with
    | nil => simp at hi
    | cons b l =>
      cases i with
      | zero => rfl
      | succ n =>
        have e2 := ih n x (by simp only [List.length_cons] at hi ⊢; omega)
        cases n with
        | succ n => cases a with
          | none => simp only [dk_st2, List.length_cons] at e2 ⊢; omega
          | some w => rcases w with w | w | w <;> cases l <;> simp only [dk_st2, List.length_cons] at e2 ⊢ <;> omega
        | zero => cases a with
          | none => simp only [dk_st2, List.length_cons] at e2 ⊢; omega
          | some w => rcases w with w | w | w <;> cases l <;> simp_all [dk_st2]
theorem dk_st2_ld : ∀ (L : dk_L) (i : Nat) (x : dk_V), i + 1 < L.length → ∀ (j : Nat) (v : dk_V), dk_ld (dk_st2 L i x) j = some v → (j = i ∧ v = x) ∨ (j ≠ i ∧ j ≠ i + 1 ∧ dk_ld L j = some v ∧ ¬ (j + 1 = i ∧ ∃ e, v = dk_J e)) := by
  intro L
  induction L with
  | nil => intro i x hi; simp at hi
  | cons a l ih =>
    intro i x hi j v h
    cases l with
    | nil => simp at hi
    | cons b l =>
    cases i with
    | zero =>
      match j, h with
      | 0, h => simp only [dk_st2, dk_ld, Option.some.injEq] at h; exact Or.inl ⟨rfl, h.symm⟩
      | 1, h => simp [dk_st2, dk_ld] at h
      | j + 2, h => exact Or.inr ⟨by omega, by omega, h, fun z => by omega⟩
    | succ n =>
      have hi2 : n + 1 < (b :: l).length := by simp only [List.length_cons] at hi ⊢; omega
      have go : dk_ld (a :: dk_st2 (b :: l) n x) j = some v → ¬ (n = 0 ∧ ∃ e, a = some (dk_J e)) → (j = n + 1 ∧ v = x) ∨ (j ≠ n + 1 ∧ j ≠ n + 1 + 1 ∧ dk_ld (a :: b :: l) j = some v ∧ ¬ (j + 1 = n + 1 ∧ ∃ e, v = dk_J e)) := by
        intro h hn
        cases j with
        | zero =>
          refine Or.inr ⟨by omega, by omega, h, fun z => hn ⟨by omega, ?_⟩⟩
          obtain ⟨e, rfl⟩ := z.2
          exact ⟨e, h⟩
        | succ j =>
          rcases ih n x hi2 j v h with ⟨q1, q2⟩ | ⟨q1, q2, q3, q4⟩
          · exact Or.inl ⟨by omega, q2⟩
          · exact Or.inr ⟨by omega, by omega, q3, fun z => q4 ⟨by omega, z.2⟩⟩
      by_cases c : n = 0 ∧ ∃ e, a = some (dk_J e)
      · obtain ⟨rfl, e, rfl⟩ := c
        cases l with
        | nil => simp at hi
        | cons d l =>
          match j, h with
          | 0, h => simp [dk_st2, dk_ld] at h
          | 1, h => exact Or.inl ⟨rfl, (Option.some.inj (show some x = some v from h)).symm⟩
          | 2, h => simp [dk_st2, dk_ld] at h
          | j + 3, h => exact Or.inr ⟨by omega, by omega, h, fun z => by omega⟩
      · refine go ?_ c
        have e1 : dk_st2 (a :: b :: l) (n + 1) x = a :: dk_st2 (b :: l) n x := by
          cases n with
          | succ n => cases a with
            | none => rfl
            | some w => rcases w with w | w | w <;> cases l <;> rfl
          | zero => cases a with
            | none => cases l <;> rfl
            | some w => rcases w with w | w | w
                        · cases l <;> rfl
                        · exact absurd ⟨rfl, w, rfl⟩ c
                        · cases l <;> rfl
        rw [e1] at h
        exact h
theorem dk_cv_cat (ad : Nat → Nat) (v : dk_V) : (dk_cv ad v).category = 2 ↔ ∃ e, v = dk_J e := by
  rcases v with e | e | e
  · simp [dk_cv, Value.category]
  · simp [dk_cv, Value.category]
  · simp [dk_cv, Value.category]
theorem dk_ls_st {ad : Nat → Nat} {ls ls2 : Array Slot} {nL i : Nat} {L : dk_L} {x : dk_V} (h : dk_ls ad ls nL L) (hi : i < L.length) (h2 : lv_has ls2 nL ((i, dk_cv ad x) :: (dk_as ad L).filter (fun q => !(q.1 == i) && !(q.1 + 1 == i && q.2.category == 2)))) : dk_ls ad ls2 nL (dk_st L i x) := by
  refine ⟨h2.1, by rw [dk_st_len]; exact h.2.1, h2.2.1, fun j v e => ?_⟩
  rcases dk_st_ld L i x hi j v e with ⟨rfl, rfl⟩ | ⟨q1, q2, q3⟩
  · exact h2.2.2 (_, _) List.mem_cons_self
  · refine h2.2.2 (j, dk_cv ad v) (List.mem_cons_of_mem _ (List.mem_filter.mpr ⟨dk_as_mem q2, ?_⟩))
    have q4 : ¬ (j + 1 = i ∧ (dk_cv ad v).category = 2) := fun z => q3 ⟨z.1, (dk_cv_cat ad v).mp z.2⟩
    simp only [Bool.and_eq_true, Bool.not_eq_true', beq_eq_false_iff_ne, ne_eq, Bool.and_eq_false_iff]
    refine ⟨q1, ?_⟩
    by_cases a : j + 1 = i
    · exact Or.inr (fun z => q4 ⟨a, z⟩)
    · exact Or.inl a
theorem dk_ls_st2 {ad : Nat → Nat} {ls ls2 : Array Slot} {nL i : Nat} {L : dk_L} {x : dk_V} (h : dk_ls ad ls nL L) (hi : i + 1 < L.length) (h2 : lv_has ls2 nL ((i, dk_cv ad x) :: (dk_as ad L).filter (fun q => !(q.1 == i) && (!(q.1 == i + 1) && !(q.1 + 1 == i && q.2.category == 2))))) : dk_ls ad ls2 nL (dk_st2 L i x) := by
  refine ⟨h2.1, by rw [dk_st2_len L i x hi]; exact h.2.1, h2.2.1, fun j v e => ?_⟩
  rcases dk_st2_ld L i x hi j v e with ⟨rfl, rfl⟩ | ⟨q1, q0, q2, q3⟩
  · exact h2.2.2 (_, _) List.mem_cons_self
  · refine h2.2.2 (j, dk_cv ad v) (List.mem_cons_of_mem _ (List.mem_filter.mpr ⟨dk_as_mem q2, ?_⟩))
    have q4 : ¬ (j + 1 = i ∧ (dk_cv ad v).category = 2) := fun z => q3 ⟨z.1, (dk_cv_cat ad v).mp z.2⟩
    simp only [Bool.and_eq_true, Bool.not_eq_true', beq_eq_false_iff_ne, ne_eq, Bool.and_eq_false_iff]
    refine ⟨q1, q0, ?_⟩
    by_cases a : j + 1 = i
    · exact Or.inr (fun z => q4 ⟨a, z⟩)
    · exact Or.inl a
theorem dk_mask_len : ∀ (m : List Bool) (L : dk_L), m.length = L.length → (dk_mask m L).length = L.length
  | [], [], _ => rfl
  | [], _ :: _, h => by simp at h
  | _ :: _, [], h => by simp at h
  | true :: m, a :: l, h => by simp only [dk_mask, List.length_cons] at h ⊢; rw [dk_mask_len m l (by omega)]
  | false :: m, a :: l, h => by simp only [dk_mask, List.length_cons] at h ⊢; rw [dk_mask_len m l (by omega)]
theorem dk_mask_ld : ∀ (m : List Bool) (L : dk_L) (i : Nat) (v : dk_V), dk_ld (dk_mask m L) i = some v → dk_ld L i = some v
  | [], _, i, v, h => by simp [dk_mask, dk_ld] at h
  | true :: _, [], i, v, h => by simp [dk_mask, dk_ld] at h
  | false :: _, [], i, v, h => by simp [dk_mask, dk_ld] at h
  | true :: m, a :: l, 0, v, h => h
  | true :: m, a :: l, i + 1, v, h => dk_mask_ld m l i v h
  | false :: m, a :: l, 0, v, h => by simp [dk_mask, dk_ld] at h
  | false :: m, a :: l, i + 1, v, h => dk_mask_ld m l i v h
theorem dk_ls_mask {ad : Nat → Nat} {ls : Array Slot} {nL : Nat} {L : dk_L} {m : List Bool} (hm : m.length = nL) (h : dk_ls ad ls nL L) : dk_ls ad ls nL (dk_mask m L) :=
  ⟨h.1, by rw [dk_mask_len m L (by rw [hm, h.2.1])]; exact h.2.1, h.2.2.1, fun i v e => h.2.2.2 i v (dk_mask_ld m L i v e)⟩
theorem dk_lc_args (ad : Nat → Nat) : ∀ (as : List dk_V) (b i : Nat) (v : dk_V), dk_ld (dk_lc as) i = some v → (b + i, dk_cv ad v) ∈ lv_args b (as.map (dk_cv ad))
  | [], b, i, v, h => by simp [dk_lc, dk_ld] at h
  | .inl e :: l, b, 0, v, h => by
    simp only [dk_lc, dk_ld, Option.some.injEq] at h
    rw [← h]
    exact List.mem_cons_self
  | .inl e :: l, b, i + 1, v, h => by
    have q := dk_lc_args ad l (b + 1) i v h
    rw [show b + (i + 1) = b + 1 + i by omega]
    exact List.mem_cons_of_mem _ q
  | .inr (.inr e) :: l, b, 0, v, h => by
    simp only [dk_lc, dk_ld, Option.some.injEq] at h
    rw [← h]
    exact List.mem_cons_self
  | .inr (.inr e) :: l, b, i + 1, v, h => by
    have q := dk_lc_args ad l (b + 1) i v h
    rw [show b + (i + 1) = b + 1 + i by omega]
    exact List.mem_cons_of_mem _ q
  | .inr (.inl e) :: l, b, 0, v, h => by
    simp only [dk_lc, dk_ld, Option.some.injEq] at h
    rw [← h]
    exact List.mem_cons_self
  | .inr (.inl e) :: l, b, 1, v, h => by simp [dk_lc, dk_ld] at h
  | .inr (.inl e) :: l, b, i + 2, v, h => by
    have q := dk_lc_args ad l (b + 2) i v h
    rw [show b + (i + 2) = b + 2 + i by omega]
    exact List.mem_cons_of_mem _ q
theorem dk_ld_app : ∀ (L : dk_L) (n i : Nat) (v : dk_V), dk_ld (L ++ List.replicate n none) i = some v → dk_ld L i = some v
  | [], 0, i, v, h => h
  | [], n + 1, 0, v, h => by simp [List.replicate, dk_ld] at h
  | [], n + 1, i + 1, v, h => by
    have : dk_ld ([] ++ List.replicate n none) i = some v := h
    have q := dk_ld_app [] n i v this
    simp [dk_ld] at q
  | a :: l, n, 0, v, h => h
  | a :: l, n, i + 1, v, h => dk_ld_app l n i v h
theorem dk_lc_len (ad : Nat → Nat) : ∀ (as : List dk_V), (dk_lc as).length = (lg_sl (as.map (dk_cv ad))).length
  | [] => rfl
  | .inl e :: l => by
    have := dk_lc_len ad l
    simp_all [dk_lc, lg_sl, dk_cv, Value.category]
  | .inr (.inr e) :: l => by
    have := dk_lc_len ad l
    simp_all [dk_lc, lg_sl, dk_cv, Value.category]
  | .inr (.inl e) :: l => by
    have := dk_lc_len ad l
    simp_all [dk_lc, lg_sl, dk_cv, Value.category]
theorem dk_entry (ad : Nat → Nat) (as : List dk_V) {n : Nat} (h : (dk_lc as).length ≤ n) : dk_ls ad ((lg_sl (as.map (dk_cv ad)) ++ List.replicate (n - (lg_sl (as.map (dk_cv ad))).length) Slot.unset).toArray) n (dk_args n as) := by
  obtain ⟨h1, h2, h3⟩ := lv_entry (as.map (dk_cv ad)) (n := n) (by rw [← dk_lc_len]; exact h)
  refine ⟨h1, by simp [dk_args]; omega, h2, fun i v e => ?_⟩
  have q := dk_lc_args ad as 0 i v (dk_ld_app _ _ _ _ e)
  rw [Nat.zero_add] at q
  exact h3 _ q
end
section
/-! NUMBERS: what the real instructions make of whole numbers -/
theorem dk_mm {x : Int} (h : dk_in x) : Int32.minValue.toInt ≤ x ∧ x ≤ Int32.maxValue.toInt := by
  have h1 := h.1
  have h2 := h.2
  exact ⟨by rw [Int32.toInt_minValue]; omega, by rw [Int32.toInt_maxValue]; omega⟩
theorem dk_mm64 {x : Int} (h : dk_in64 x) : Int64.minValue.toInt ≤ x ∧ x ≤ Int64.maxValue.toInt := by
  have h1 := h.1
  have h2 := h.2
  exact ⟨by rw [Int64.toInt_minValue]; omega, by rw [Int64.toInt_maxValue]; omega⟩
theorem dk_tdiv {x y : Int} (hx : dk_in x) (hy : dk_in y) : Int32.ofInt x / Int32.ofInt y = Int32.ofInt (x.tdiv y) := (Int32.ofInt_tdiv (dk_mm hx).1 (dk_mm hx).2 (dk_mm hy).1 (dk_mm hy).2).symm
theorem dk_tdiv64 {x y : Int} (hx : dk_in64 x) (hy : dk_in64 y) : Int64.ofInt x / Int64.ofInt y = Int64.ofInt (x.tdiv y) := (Int64.ofInt_tdiv (dk_mm64 hx).1 (dk_mm64 hx).2 (dk_mm64 hy).1 (dk_mm64 hy).2).symm
theorem dk_tmod {x y : Int} (hx : dk_in x) (hy : dk_in y) : Int32.ofInt x - Int32.ofInt x / Int32.ofInt y * Int32.ofInt y = Int32.ofInt (x.tmod y) := by
  rw [dk_tdiv hx hy, ← Int32.ofInt_mul, ← Int32.ofInt_sub]
  congr 1
  have := Int.tmod_def x y
  rw [this, Int.mul_comm]
theorem dk_tmod64 {x y : Int} (hx : dk_in64 x) (hy : dk_in64 y) : Int64.ofInt x - Int64.ofInt x / Int64.ofInt y * Int64.ofInt y = Int64.ofInt (x.tmod y) := by
  rw [dk_tdiv64 hx hy, ← Int64.ofInt_mul, ← Int64.ofInt_sub]
  congr 1
  have := Int.tmod_def x y
  rw [this, Int.mul_comm]
theorem dk_ne0 {y : Int} (hy : dk_in y) (h : ¬ y = 0) : ¬ Int32.ofInt y = 0 := by
  intro e
  have e2 : Int32.ofInt y = Int32.ofInt 0 := e
  exact h ((dk_ofInt_eq hy ⟨by omega, by omega⟩).mp e2)
theorem dk_ne064 {y : Int} (hy : dk_in64 y) (h : ¬ y = 0) : ¬ Int64.ofInt y = 0 := by
  intro e
  have e2 : (Int64.ofInt y).toInt = 0 := by rw [e]; rfl
  rw [dk_toInt64 hy] at e2
  exact h e2
theorem dk_tn (x : Int) : (Int32.ofInt x).toBitVec.toNat = (x % 4294967296).toNat := by
  rw [Int32.toBitVec_ofInt, BitVec.toNat_ofInt]
  rfl
theorem dk_bv {a b : Int32} (h : a.toBitVec.toNat = b.toBitVec.toNat) : a = b := Int32.toBitVec.inj (BitVec.eq_of_toNat_eq h)
theorem dk_lt32 {y : Int} (h0 : 0 ≤ y) (h1 : y < 32) : ∃ k : Fin 32, y = ((k : Nat) : Int) := ⟨⟨y.toNat, by omega⟩, by simp only; omega⟩
theorem dk_sh1 : ∀ k : Fin 32, (((Int32.ofInt ((k : Nat) : Int)) &&& 31).toBitVec.smod 32).toNat = k := by decide +kernel
theorem dk_sh2 : ∀ k : Fin 32, (((Int32.ofInt ((k : Nat) : Int)).toUInt32 &&& Int32.toUInt32 31).toBitVec % 32).toNat = k := by decide +kernel
theorem dk_shl (x : Int) {y : Int} (h0 : 0 ≤ y) (h1 : y < 32) : Int32.ofInt x <<< (Int32.ofInt y &&& 31) = Int32.ofInt (x * 2 ^ y.toNat) := by
  obtain ⟨k, rfl⟩ := dk_lt32 h0 h1
  apply dk_bv
  rw [pk_shl _ _ k (dk_sh1 k), dk_tn, dk_tn]
  have e1 : ((k : Nat) : Int).toNat = k := by omega
  rw [e1]
  have h2 : (0 : Int) ≤ x % 4294967296 := Int.emod_nonneg _ (by omega)
  have h3 : (0 : Int) ≤ x * 2 ^ (k : Nat) % 4294967296 := Int.emod_nonneg _ (by omega)
  apply Int.ofNat_inj.mp
  rw [Int.toNat_of_nonneg h3, show (2 ^ 32 : Nat) = 4294967296 from rfl, Int.natCast_emod, Int.natCast_mul, Int.natCast_pow, Int.toNat_of_nonneg h2]
  show x % 4294967296 * 2 ^ (k : Nat) % 4294967296 = x * 2 ^ (k : Nat) % 4294967296
  rw [Int.mul_emod, Int.emod_emod_of_dvd _ (Int.dvd_refl _), ← Int.mul_emod]
theorem dk_shr {x : Int} (hx : dk_in x) {y : Int} (h0 : 0 ≤ y) (h1 : y < 32) : Int32.ofInt x >>> (Int32.ofInt y &&& 31) = Int32.ofInt (x / 2 ^ y.toNat) := by
  obtain ⟨k, rfl⟩ := dk_lt32 h0 h1
  have e1 : ((k : Nat) : Int).toNat = k := by omega
  rw [e1]
  apply Int32.toInt_inj.mp
  rw [pk_shr _ _ k (dk_sh1 k), dk_toInt hx, Int.shiftRight_eq_div_pow]
  have p : (0 : Int) < 2 ^ (k : Nat) := Int.pow_pos (by omega)
  have h2 := hx.1
  have h3 := hx.2
  rw [dk_toInt]
  · push_cast; rfl
  · have p1 : (1 : Int) ≤ 2 ^ (k : Nat) := p
    constructor
    · rw [Int.le_ediv_iff_mul_le p]
      have : (2147483648 : Int) * 1 ≤ 2147483648 * 2 ^ (k : Nat) := Int.mul_le_mul_of_nonneg_left p1 (by omega)
      omega
    · apply Int.le_of_lt_add_one
      rw [Int.ediv_lt_iff_lt_mul p]
      have : (2147483648 : Int) * 1 ≤ 2147483648 * 2 ^ (k : Nat) := Int.mul_le_mul_of_nonneg_left p1 (by omega)
      omega
theorem dk_ushr (x : Int) {y : Int} (h0 : 0 ≤ y) (h1 : y < 32) : ((Int32.ofInt x).toUInt32 >>> ((Int32.ofInt y).toUInt32 &&& Int32.toUInt32 31)).toInt32 = Int32.ofInt (x % 4294967296 / 2 ^ y.toNat) := by
  obtain ⟨k, rfl⟩ := dk_lt32 h0 h1
  have e1 : ((k : Nat) : Int).toNat = k := by omega
  rw [e1]
  apply dk_bv
  rw [pk_ushr _ _ k (dk_sh2 k), dk_tn, dk_tn]
  have h2 : (0 : Int) ≤ x % 4294967296 := Int.emod_nonneg _ (by omega)
  have h4 : x % 4294967296 < 4294967296 := Int.emod_lt_of_pos _ (by omega)
  have p : (0 : Int) < 2 ^ (k : Nat) := Int.pow_pos (by omega)
  have h5 : 0 ≤ x % 4294967296 / 2 ^ (k : Nat) := Int.ediv_nonneg h2 (by omega)
  have h6 : x % 4294967296 / 2 ^ (k : Nat) ≤ x % 4294967296 := Int.ediv_le_self _ h2
  rw [Int.emod_eq_of_lt h5 (by omega)]
  apply Int.ofNat_inj.mp
  rw [Int.toNat_of_nonneg h5]
  push_cast
  rw [Int.toNat_of_nonneg h2]
theorem dk_bm8 (x : Int) : -128 ≤ x.bmod 256 ∧ x.bmod 256 < 128 := by
  have h1 := @Int.le_bmod x 256 (by omega)
  have h2 := @Int.bmod_lt x 256 (by omega)
  omega
theorem dk_bm16 (x : Int) : -32768 ≤ x.bmod 65536 ∧ x.bmod 65536 < 32768 := by
  have h1 := @Int.le_bmod x 65536 (by omega)
  have h2 := @Int.bmod_lt x 65536 (by omega)
  omega
theorem dk_i2b (x : Int) : (Int32.ofInt x).toInt8.toInt32 = Int32.ofInt (x.bmod 256) := by
  have := dk_bm8 x
  apply Int32.toInt_inj.mp
  rw [dk_toInt ⟨by omega, by omega⟩, Int8.toInt_toInt32, Int32.toInt8_ofInt, Int8.toInt_ofInt]
theorem dk_i2s (x : Int) : (Int32.ofInt x).toInt16.toInt32 = Int32.ofInt (x.bmod 65536) := by
  have := dk_bm16 x
  apply Int32.toInt_inj.mp
  rw [dk_toInt ⟨by omega, by omega⟩, Int16.toInt_toInt32, Int32.toInt16_ofInt, Int16.toInt_ofInt]
theorem dk_lcmp {x y : Int} (hx : dk_in64 x) (hy : dk_in64 y) : lg_cmp (Int64.ofInt x) (Int64.ofInt y) = Int32.ofInt (dk_cmp x y) := by
  unfold lg_cmp dk_cmp
  simp only [gt_iff_lt, Int64.lt_iff_toInt_lt, ← Int64.toInt_inj, dk_toInt64 hx, dk_toInt64 hy]
  split
  · rfl
  · split <;> rfl
theorem dk_andE (x y : Int) : Int32.ofInt (dk_and x y) = Int32.ofInt x &&& Int32.ofInt y := Int32.ofInt_toInt _
theorem dk_orE (x y : Int) : Int32.ofInt (dk_or x y) = Int32.ofInt x ||| Int32.ofInt y := Int32.ofInt_toInt _
theorem dk_xorE (x y : Int) : Int32.ofInt (dk_xor x y) = Int32.ofInt x ^^^ Int32.ofInt y := Int32.ofInt_toInt _
theorem dk_byteI {n : Int} (h : -128 ≤ n ∧ n ≤ 127) : (Int8.ofInt n).toInt32 = Int32.ofInt n := Int8.toInt32_ofInt (by rw [Int8.toInt_minValue]; omega) (by rw [Int8.toInt_maxValue]; omega)
theorem dk_shortI {n : Int} (h : -32768 ≤ n ∧ n ≤ 32767) : (Int16.ofInt n).toInt32 = Int32.ofInt n := Int16.toInt32_ofInt (by rw [Int16.toInt_minValue]; omega) (by rw [Int16.toInt_maxValue]; omega)
theorem dk_set_map {α β : Type} (f : α → β) : ∀ (l : List α) (k : Nat) (x : α), (dk_set l k x).map f = (l.map f).set k (f x)
  | [], _, _ => rfl
  | _ :: _, 0, _ => rfl
  | a :: l, k + 1, x => by simp only [dk_set, List.map_cons, List.set_cons_succ]; rw [dk_set_map f l k x]
theorem dk_nth_map {α β : Type} (f : α → β) : ∀ (l : List α) (k : Nat) (x : α), dk_nth l k = some x → (l.map f)[k]? = some (f x)
  | [], _, _, h => by simp [dk_nth] at h
  | a :: _, 0, x, h => by simp only [dk_nth, Option.some.injEq] at h; simp [h]
  | a :: l, k + 1, x, h => by simp only [List.map_cons, List.getElem?_cons_succ]; exact dk_nth_map f l k x h
end
section
/-! ONE INSTRUCTION OF THE PURE MACHINE IS ONE OF THE REAL ONE -/
theorem dk_pi_inv {α : Type} {S : List dk_V} {K : Int → List dk_V → Option α} {r : α} (h : dk_pi S K = some r) : ∃ x S2, S = dk_I x :: S2 ∧ K x S2 = some r := by
  match S, h with
  | .inl x :: S, h => exact ⟨x, S, rfl, h⟩
theorem dk_pl_inv {α : Type} {S : List dk_V} {K : Int → List dk_V → Option α} {r : α} (h : dk_pl S K = some r) : ∃ x S2, S = dk_J x :: S2 ∧ K x S2 = some r := by
  match S, h with
  | .inr (.inl x) :: S, h => exact ⟨x, S, rfl, h⟩
theorem dk_pr_inv {α : Type} {S : List dk_V} {K : Nat → List dk_V → Option α} {r : α} (h : dk_pr S K = some r) : ∃ x S2, S = dk_R x :: S2 ∧ K x S2 = some r := by
  match S, h with
  | .inr (.inr x) :: S, h => exact ⟨x, S, rfl, h⟩
theorem dk_bd_inv {α β : Type} {o : Option α} {K : α → Option β} {r : β} (h : dk_bd o K = some r) : ∃ a, o = some a ∧ K a = some r := by
  match o, h with
  | some a, h => exact ⟨a, rfl, h⟩
theorem dk_oi_inv {o : Option dk_V} {e : Int} (h : dk_oi o = some e) : o = some (dk_I e) := by
  match o, h with
  | some (.inl x), h => cases h; rfl
theorem dk_ol_inv {o : Option dk_V} {e : Int} (h : dk_ol o = some e) : o = some (dk_J e) := by
  match o, h with
  | some (.inr (.inl x)), h => cases h; rfl
theorem dk_or2_inv {o : Option dk_V} {e : Nat} (h : dk_or2 o = some e) : o = some (dk_R e) := by
  match o, h with
  | some (.inr (.inr x)), h => cases h; rfl
def dk_lk {α : Type} : List (Nat × α) → Nat → Option α
  | [], _ => none
  | (k, a) :: l, n => if k = n then some a else dk_lk l n
def dk_ix : List Nat → Nat → Nat → Option Nat
  | [], _, _ => none
  | k :: l, n, i => if k = n then some i else dk_ix l n (i + 1)
/-- a class' tables: fields, fields to write, ints, longs, static rows, texts -/
abbrev dk_Tc : Type := List (Nat × Nat × Nat) × List (Nat × Nat × Nat × Nat) × List (Nat × Int) × List (Nat × Int) × List (Nat × Nat) × List (Nat × Nat)
/-- a method's: its class', its calls (entry, sort, place), where its blocks begin, what it answers (0 int, 1 boolean, 2 nothing, 3 a reference) -/
abbrev dk_Tm : Type := dk_Tc × List (Nat × Nat × Nat) × List Nat × Nat
def dk_rt : Nat → Option Instr
  | 0 => some .ireturn
  | 1 => some .lreturn
  | _ => none
def dk_tg (T : dk_Tm) (pc : Nat) (off : Int) : Option Nat := if 0 ≤ (pc : Int) + off then dk_ix T.2.2.1 ((pc : Int) + off).toNat 0 else none
def dk_tgs (T : dk_Tm) (pc : Nat) : List Int → Option (List Int)
  | [] => some []
  | o :: os => dk_bd (dk_tg T pc o) fun b => dk_bd (dk_tgs T pc os) fun bs => some ((b : Int) :: bs)
/-- a real instruction, resolved -/
def dk_k (T : dk_Tm) (pc : Nat) : Instr → Option dk_N
  | .iconst n => some (.inl (.iconst n))
  | .bipush n => if -128 ≤ n ∧ n ≤ 127 then some (.inl (.iconst n)) else none
  | .sipush n => if -32768 ≤ n ∧ n ≤ 32767 then some (.inl (.iconst n)) else none
  | .ldc i => match dk_lk T.1.2.2.1 i with
    | some v => some (.inl (.iconst v))
    | none => dk_bd (dk_lk T.1.2.2.2.2.2 i) fun k => some (.inr (6, k, 1))
  | .ldc_w i => dk_bd (dk_lk T.1.2.2.1 i) fun v => some (.inl (.iconst v))
  | .ldc2_w i => dk_bd (dk_lk T.1.2.2.2.1 i) fun v => some (.inl (.goto_w v))
  | .lconst n => some (.inl (.goto_w n))
  | .iload i => some (.inl (.iload i))
  | .iload_n k => some (.inl (.iload k.val))
  | .lload i => some (.inl (.lload i))
  | .lload_n k => some (.inl (.lload k.val))
  | .aload i => some (.inl (.aload i))
  | .aload_n k => some (.inl (.aload k.val))
  | .istore i => some (.inl (.istore i))
  | .istore_n k => some (.inl (.istore k.val))
  | .lstore i => some (.inl (.lstore i))
  | .lstore_n k => some (.inl (.lstore k.val))
  | .astore i => some (.inl (.astore i))
  | .astore_n k => some (.inl (.astore k.val))
  | .iinc i c => some (.inl (.iinc i c))
  | .iadd => some (.inl .iadd)
  | .isub => some (.inl .isub)
  | .imul => some (.inl .imul)
  | .idiv => some (.inl .idiv)
  | .irem => some (.inl .irem)
  | .ineg => some (.inl .ineg)
  | .iand => some (.inl .iand)
  | .ior => some (.inl .ior)
  | .ixor => some (.inl .ixor)
  | .ishl => some (.inl .ishl)
  | .ishr => some (.inl .ishr)
  | .iushr => some (.inl .iushr)
  | .i2l => some (.inl .i2l)
  | .l2i => some (.inl .l2i)
  | .i2b => some (.inl .i2b)
  | .i2s => some (.inl .i2s)
  | .ladd => some (.inl .ladd)
  | .lsub => some (.inl .lsub)
  | .lmul => some (.inl .lmul)
  | .lrem => some (.inl .lrem)
  | .lcmp => some (.inl .lcmp)
  | .dup => some (.inl .dup)
  | .dup2 => some (.inl .dup2)
  | .pop => some (.inl .pop)
  | .iaload => some (.inl .iaload)
  | .baload => some (.inl .baload)
  | .aaload => some (.inl .aaload)
  | .iastore => some (.inl .iastore)
  | .bastore => some (.inl .bastore)
  | .arraylength => some (.inl .arraylength)
  | .getfield i => dk_bd (dk_lk T.1.1 i) fun q => some (.inr (0, q.1, q.2))
  | .putfield i => dk_bd (dk_lk T.1.2.1 i) fun q => if q.1 = 1 ∨ q.1 = 2 ∨ q.1 = 3 ∨ q.1 = 4 then some (.inr (q.1, q.2.1, q.2.2)) else none
  | .getstatic i => dk_bd (dk_lk T.1.2.2.2.2.1 i) fun k => some (.inr (6, k, 0))
  | .invokevirtual i => dk_bd (dk_lk T.2.1 i) fun q => if q.1 = 0 then some (.inr (5, q.2, 0)) else none
  | .invokestatic i => dk_bd (dk_lk T.2.1 i) fun q => if q.1 = 1 then some (.inr (5, q.2, 1)) else none
  | .goto off => dk_bd (dk_tg T pc off) fun b => some (.inr (7, b, 0))
  | .ifCond c off => dk_bd (dk_tg T pc off) fun b => some (.inl (.ifCond c b))
  | .if_icmp c off => dk_bd (dk_tg T pc off) fun b => some (.inl (.if_icmp c b))
  | .tableswitch d lo hi offs => if (offs.size : Int) = hi - lo + 1 then dk_bd (dk_tg T pc d) fun b => dk_bd (dk_tgs T pc offs.toList) fun bs => some (.inl (.tableswitch b lo hi bs.toArray)) else none
  | .ireturn => dk_bd (dk_rt T.2.2.2) fun r => some (.inl r)
  | .areturn => if T.2.2.2 = 3 then some (.inl .areturn) else none
  | .return_ => if T.2.2.2 = 2 then some (.inl .return_) else none
  | _ => none
theorem dk_rt_inv {n : Nat} {i : Instr} (h : dk_rt n = some i) : (n = 0 ∧ i = .ireturn) ∨ (n = 1 ∧ i = .lreturn) := by
  unfold dk_rt at h
  split at h
  · cases h; exact Or.inl ⟨rfl, rfl⟩
  · cases h; exact Or.inr ⟨rfl, rfl⟩
  · cases h
def dk_ty (dA : Nat → ClassId) : List (ClassId × FieldType) := [(dA 0, .int), (dA 1, .boolean), (dA 2, .object "LongColumn$Sheet")]
/-- what stays: the tables' knowledge of our sorts, the cells apart, the rows that nobody writes -/
def dk_Fx (ad : Nat → Nat) (dA : Nat → ClassId) (D : va_G) (N : Nat) (A : Nat → Prop) (cl : List vw_C) (ro : dk_H) (s : State) : Prop :=
  va_K D cl (dk_ty dA) s ∧ ((∀ i j, i < N → j < N → ad i = ad j → i = j) ∧ ∀ k, k < N → A (ad k)) ∧ ∀ k, N ≤ k → (∃ n f, ro k = .inl (4, n, f) ∧ va_T .int (ad k) n (fun j => .int (Int32.ofInt (f j))) A s s.heap) ∨ ∃ n f, ro k = .inl (5, n, f)
def dk_Wd (ad : Nat → Nat) (dA : Nat → ClassId) (D : va_G) (N : Nat) (cl : List vw_C) (ro : dk_H) (h : dk_H) (H : Heap) : Prop := va_P D cl (dk_ws ad dA N h) H ∧ (∀ k, N ≤ k → h k = ro k) ∧ ∀ k, k < N → ∀ t n f, h k = .inl (t, n, f) → t ≤ 2
theorem dk_D {ad : Nat → Nat} {dA : Nat → ClassId} {D : va_G} {N : Nat} {A : Nat → Prop} {cl : List vw_C} {ro : dk_H} {s : State} (hF : dk_Fx ad dA D N A cl ro s) (h : dk_H) : va_D A (dk_ws ad dA N h) := by
  obtain ⟨-, ⟨h1, h2⟩, -⟩ := hF
  refine ⟨fun i j a b ha hb e => ?_, fun k q hq => ?_⟩
  · obtain ⟨i1, rfl⟩ := dk_ws_of ha
    obtain ⟨j1, rfl⟩ := dk_ws_of hb
    exact h1 i j i1 j1 e
  · obtain ⟨k1, rfl⟩ := dk_ws_of hq
    exact h2 k k1
/-- what a class' tables say is so at the state -/
def dk_Tok (ad : Nat → Nat) (A : Nat → Prop) (cl : List vw_C) (own : String) (Ts : List Cond) (args : Array Value) (s : State) (T : dk_Tc) : Prop :=
  (∀ i ci k, dk_lk T.1 i = some (ci, k) → ∃ (C : String) (F : u_T) (n : Nat), cl[ci]? = some (C, F, n) ∧ k < n ∧ (∀ w ∈ u_ws C F n, w ∈ Ts) ∧ ((Cond.fieldLink own i (F k).1 (F k).2.1 (F k).2.2.1).before args s = true ∨ ∃ host, (Cond.fieldLinkNest own i (F k).1 (F k).2.1 (F k).2.2.1 host).before args s = true)) ∧
  (∀ i kd ci k, dk_lk T.2.1 i = some (kd, ci, k) → ∃ (C : String) (F : u_T) (n : Nat) (ty0 : Nat → FieldType) (ty : FieldType), cl[ci]? = some (C, F, n) ∧ k < n ∧ (∀ w ∈ u_ws C F n, w ∈ Ts) ∧ (Cond.fieldLink own i (F k).1 (F k).2.1 (F k).2.2.1).before args s = true ∧ (∀ k, k < n → parseFieldDescriptor (F k).2.2.1 = some (ty0 k)) ∧ (∀ a, a < n → ∀ b, b < n → a ≠ b → (F a).2.1 ≠ (F b).2.1) ∧ (F k).2.2.2 = false ∧ parseFieldDescriptor (F k).2.2.1 = some ty ∧
    (kd = 1 → ty = .int) ∧ (kd = 2 → ty = .boolean) ∧ (kd = 3 → ty = .array .int) ∧ (kd = 4 → ty = .long)) ∧
  (∀ i v, dk_lk T.2.2.1 i = some v → (Cond.constant own i (Int32.ofInt v)).before args s = true) ∧
  (∀ i v, dk_lk T.2.2.2.1 i = some v → (Cond.constantLong own i (Int64.ofInt v)).before args s = true) ∧
  (∀ i k, dk_lk T.2.2.2.2.1 i = some k → ∃ C n d, va_Z C n d (.ref (ad k)) A s s.heap ∧ (Cond.fieldLink own i C n d).before args s = true) ∧
  (∀ i k, dk_lk T.2.2.2.2.2 i = some k → ∃ tx, vk_R own i tx (ad k) s)
/-- how many bytes an instruction has -/
def dk_ln : Instr → Nat
  | .bipush _ | .ldc _ | .iload _ | .lload _ | .aload _ | .istore _ | .lstore _ | .astore _ => 2
  | .sipush _ | .ldc_w _ | .ldc2_w _ | .iinc _ _ | .getfield _ | .putfield _ | .getstatic _ | .invokevirtual _ | .invokestatic _ | .goto _ | .ifCond _ _ | .if_icmp _ _ => 3
  | _ => 1
theorem dk_ar_inv {c : dk_C} {t : Nat} {q : Nat × (Int → Int)} (h : dk_ar c t = some q) : c = .inl (t, q.1, q.2) := by
  unfold dk_ar at h
  split at h
  · split at h
    · cases h; simp_all
    · cases h
  · cases h
theorem dk_rd_inv {c : dk_C} {q : Nat × (Int → Int)} (h : dk_rd c = some q) : c = .inl (0, q.1, q.2) ∨ c = .inl (4, q.1, q.2) := by
  unfold dk_rd at h
  split at h
  · cases h; exact Or.inl rfl
  · cases h; exact Or.inr rfl
  · cases h
theorem dk_gf_inv {c : dk_C} {ci k : Nat} {v : dk_V} (h : dk_gf c ci k = some v) : ∃ fs, c = .inr (ci, fs) ∧ dk_nth fs k = some v := by
  unfold dk_gf at h
  split at h
  · split at h
    · rename_i e; subst e; exact ⟨_, rfl, h⟩
    · cases h
  · cases h
theorem dk_pf_inv {c c2 : dk_C} {ci k : Nat} {v : dk_V} (h : dk_pf c ci k v = some c2) : ∃ fs, c = .inr (ci, fs) ∧ k < fs.length ∧ c2 = .inr (ci, dk_set fs k v) := by
  unfold dk_pf at h
  split at h
  · split at h
    · rename_i e; obtain ⟨e1, e2⟩ := e; subst e1; cases h; exact ⟨_, rfl, e2, rfl⟩
    · cases h
  · cases h
section DKS
variable {p : Program} {l : Launch} {e : Env} {R : Room} {s : State} {m : MethodId} {args : Array Value} {below : List Frame} {meth : Method} {c : Code} {cells slots : Nat} {Q : State → Prop}
variable {ad : Nat → Nat} {dA : Nat → ClassId} {D : va_G} {N : Nat} {A : Nat → Prop} {cl : List vw_C} {ro : dk_H} {cc : ByteArray} {nL : Nat} {own : String} {Ts : List Cond} {T : dk_Tm}
theorem dk_lt {h : dk_H} {H : Heap} (hF : dk_Fx ad dA D N A cl ro s) (hW : dk_Wd ad dA D N cl ro h H) {a : Nat} (hn : ∀ t n f, h a = .inl (t, n, f) → ¬ t = 4 ∧ ¬ t = 5) : a < N := by
  apply Classical.byContradiction
  intro z
  have z : N ≤ a := by omega
  have e := hW.2.1 a z
  rcases hF.2.2 a z with ⟨n, f, e2, -⟩ | ⟨n, f, e2⟩
  · exact (hn 4 n f (e.trans e2)).1 rfl
  · exact (hn 5 n f (e.trans e2)).2 rfl
theorem dk_no4 {h : dk_H} {H : Heap} (hF : dk_Fx ad dA D N A cl ro s) (hW : dk_Wd ad dA D N cl ro h H) {a : Nat} (ha : a < N) {n : Nat} {f : Int → Int} (hq : h a = .inl (4, n, f)) : False := by
  have := hW.2.2 a ha 4 n f hq
  omega
theorem dk_Wd_up {h : dk_H} {H H2 : Heap} (hW : dk_Wd ad dA D N cl ro h H) {a : Nat} (ha : a < N) {c : dk_C} (hc : ∀ t n f, c = .inl (t, n, f) → t ≤ 2) (hP : va_P D cl (dk_ws ad dA N (dk_up h a c)) H2) : dk_Wd ad dA D N cl ro (dk_up h a c) H2 := by
  refine ⟨hP, fun k hk => ?_, fun k hk t n f z => ?_⟩
  · have : ¬ k = a := by omega
    simp only [dk_up, if_neg this]
    exact hW.2.1 k hk
  · by_cases ek : k = a
    · subst ek
      simp only [dk_up, if_true] at z
      exact hc t n f z
    · simp only [dk_up, if_neg ek] at z
      exact hW.2.2 k hk t n f z
set_option maxHeartbeats 4000000 in
theorem dk_s1 (hx : p.tables.exec = Jvm.exec) (hb : c.code = cc) (hown : s.vm.findClass own = some m.cls) (hts : ∀ w ∈ Ts, w.before args s = true)
    (hF : dk_Fx ad dA D N A cl ro s) (hT : dk_Tok ad A cl own Ts args s T.1) {pc len : Nat} {ins : Instr} {n : dk_N} (hdg : decode cc pc = .ok (ins, len)) (hlen : len = dk_ln ins) (hk : dk_k T pc ins = some n)
    {L L2 : dk_L} {S S2 : List dk_V} {h h2 : dk_H} {vc : Prop} (h1 : dk_1 n L S h = some (vc, L2, S2, h2)) (hvc : vc)
    {H : Heap} {locs : List Loc} {ls : Array Slot} (hW : dk_Wd ad dA D N cl ro h H) (hS : va_S A s.heap H locs) (hl : dk_ls ad ls nL L)
    (kk : ∀ (H2 : Heap) (locs2 : List Loc) (ls2 : Array Slot), dk_Wd ad dA D N cl ro h2 H2 → va_S A s.heap H2 locs2 → dk_ls ad ls2 nL L2 → W p l e R s m args below meth c H2 locs2 cells slots Q (F0 m (pc + len) ls2 (S2.map (dk_cv ad)))) :
    W p l e R s m args below meth c H locs cells slots Q (F0 m pc ls (S.map (dk_cv ad))) := by
  have hP := hW.1
  have hK := hF.1
  have hD := dk_D hF h
  subst hlen
  cases ins
  case iadd =>
    cases hk
    obtain ⟨y, S, rfl, h1⟩ := dk_pi_inv h1
    obtain ⟨x, S, rfl, h1⟩ := dk_pi_inv h1
    cases h1
    have k2 := kk H locs ls hW hS hl
    refine lv_iadd (x := Int32.ofInt x) (y := Int32.ofInt y) hx hb hdg ?_
    rw [← Int32.ofInt_add]
    exact k2
  case isub =>
    cases hk
    obtain ⟨y, S, rfl, h1⟩ := dk_pi_inv h1
    obtain ⟨x, S, rfl, h1⟩ := dk_pi_inv h1
    cases h1
    have k2 := kk H locs ls hW hS hl
    refine lv_isub (x := Int32.ofInt x) (y := Int32.ofInt y) hx hb hdg ?_
    rw [← Int32.ofInt_sub]
    exact k2
  case imul =>
    cases hk
    obtain ⟨y, S, rfl, h1⟩ := dk_pi_inv h1
    obtain ⟨x, S, rfl, h1⟩ := dk_pi_inv h1
    cases h1
    have k2 := kk H locs ls hW hS hl
    refine lv_imul (x := Int32.ofInt x) (y := Int32.ofInt y) hx hb hdg ?_
    rw [← Int32.ofInt_mul]
    exact k2
  case iand =>
    cases hk
    obtain ⟨y, S, rfl, h1⟩ := dk_pi_inv h1
    obtain ⟨x, S, rfl, h1⟩ := dk_pi_inv h1
    cases h1
    have k2 := kk H locs ls hW hS hl
    refine lv_iand (x := Int32.ofInt x) (y := Int32.ofInt y) hx hb hdg ?_
    rw [← dk_andE]
    exact k2
  case ior =>
    cases hk
    obtain ⟨y, S, rfl, h1⟩ := dk_pi_inv h1
    obtain ⟨x, S, rfl, h1⟩ := dk_pi_inv h1
    cases h1
    have k2 := kk H locs ls hW hS hl
    refine lv_ior (x := Int32.ofInt x) (y := Int32.ofInt y) hx hb hdg ?_
    rw [← dk_orE]
    exact k2
  case ixor =>
    cases hk
    obtain ⟨y, S, rfl, h1⟩ := dk_pi_inv h1
    obtain ⟨x, S, rfl, h1⟩ := dk_pi_inv h1
    cases h1
    have k2 := kk H locs ls hW hS hl
    refine lv_ixor (x := Int32.ofInt x) (y := Int32.ofInt y) hx hb hdg ?_
    rw [← dk_xorE]
    exact k2
  case idiv =>
    cases hk
    obtain ⟨y, S, rfl, h1⟩ := dk_pi_inv h1
    obtain ⟨x, S, rfl, h1⟩ := dk_pi_inv h1
    cases h1
    obtain ⟨v1, v2, v3⟩ := hvc
    have k2 := kk H locs ls hW hS hl
    refine lv_idiv (x := Int32.ofInt x) (y := Int32.ofInt y) hx hb hdg (dk_ne0 v2 v3) ?_
    rw [dk_tdiv v1 v2]
    exact k2
  case irem =>
    cases hk
    obtain ⟨y, S, rfl, h1⟩ := dk_pi_inv h1
    obtain ⟨x, S, rfl, h1⟩ := dk_pi_inv h1
    cases h1
    obtain ⟨v1, v2, v3⟩ := hvc
    have k2 := kk H locs ls hW hS hl
    refine lv_irem (x := Int32.ofInt x) (y := Int32.ofInt y) hx hb hdg (dk_ne0 v2 v3) ?_
    rw [dk_tmod v1 v2]
    exact k2
  case ladd =>
    cases hk
    obtain ⟨y, S, rfl, h1⟩ := dk_pl_inv h1
    obtain ⟨x, S, rfl, h1⟩ := dk_pl_inv h1
    cases h1
    have k2 := kk H locs ls hW hS hl
    refine lv_ladd (x := Int64.ofInt x) (y := Int64.ofInt y) hx hb hdg ?_
    rw [← Int64.ofInt_add]
    exact k2
  case lsub =>
    cases hk
    obtain ⟨y, S, rfl, h1⟩ := dk_pl_inv h1
    obtain ⟨x, S, rfl, h1⟩ := dk_pl_inv h1
    cases h1
    have k2 := kk H locs ls hW hS hl
    refine lv_lsub (x := Int64.ofInt x) (y := Int64.ofInt y) hx hb hdg ?_
    rw [← Int64.ofInt_sub]
    exact k2
  case lmul =>
    cases hk
    obtain ⟨y, S, rfl, h1⟩ := dk_pl_inv h1
    obtain ⟨x, S, rfl, h1⟩ := dk_pl_inv h1
    cases h1
    have k2 := kk H locs ls hW hS hl
    refine lv_lmul (x := Int64.ofInt x) (y := Int64.ofInt y) hx hb hdg ?_
    rw [← Int64.ofInt_mul]
    exact k2
  case lrem =>
    cases hk
    obtain ⟨y, S, rfl, h1⟩ := dk_pl_inv h1
    obtain ⟨x, S, rfl, h1⟩ := dk_pl_inv h1
    cases h1
    obtain ⟨v1, v2, v3⟩ := hvc
    have k2 := kk H locs ls hW hS hl
    refine lv_lrem (x := Int64.ofInt x) (y := Int64.ofInt y) hx hb hdg (dk_ne064 v2 v3) ?_
    rw [dk_tmod64 v1 v2]
    exact k2
  case lcmp =>
    cases hk
    obtain ⟨y, S, rfl, h1⟩ := dk_pl_inv h1
    obtain ⟨x, S, rfl, h1⟩ := dk_pl_inv h1
    cases h1
    obtain ⟨v1, v2⟩ := hvc
    have k2 := kk H locs ls hW hS hl
    refine W.lcmp (x := Int64.ofInt x) (y := Int64.ofInt y) hx hb hdg ?_
    rw [dk_lcmp v1 v2]
    exact k2
  case ineg =>
    cases hk
    obtain ⟨x, S, rfl, h1⟩ := dk_pi_inv h1
    cases h1
    have k2 := kk H locs ls hW hS hl
    refine lv_ineg (x := Int32.ofInt x) hx hb hdg ?_
    rw [← Int32.ofInt_neg]
    exact k2
  case ishl =>
    cases hk
    obtain ⟨y, S, rfl, h1⟩ := dk_pi_inv h1
    obtain ⟨x, S, rfl, h1⟩ := dk_pi_inv h1
    cases h1
    have k2 := kk H locs ls hW hS hl
    refine lv_ishl (x := Int32.ofInt x) (y := Int32.ofInt y) hx hb hdg ?_
    rw [dk_shl x hvc.1 hvc.2]
    exact k2
  case ishr =>
    cases hk
    obtain ⟨y, S, rfl, h1⟩ := dk_pi_inv h1
    obtain ⟨x, S, rfl, h1⟩ := dk_pi_inv h1
    cases h1
    have k2 := kk H locs ls hW hS hl
    refine lv_ishr (x := Int32.ofInt x) (y := Int32.ofInt y) hx hb hdg ?_
    rw [dk_shr hvc.1 hvc.2.1 hvc.2.2]
    exact k2
  case iushr =>
    cases hk
    obtain ⟨y, S, rfl, h1⟩ := dk_pi_inv h1
    obtain ⟨x, S, rfl, h1⟩ := dk_pi_inv h1
    cases h1
    have k2 := kk H locs ls hW hS hl
    exact lv_iushr (x := Int32.ofInt x) (y := Int32.ofInt y) hx hb hdg (dk_ushr x hvc.1 hvc.2) k2
  case i2l =>
    cases hk
    obtain ⟨x, S, rfl, h1⟩ := dk_pi_inv h1
    cases h1
    have k2 := kk H locs ls hW hS hl
    exact lv_i2l (x := Int32.ofInt x) hx hb hdg (Int32.toInt64_ofInt (dk_mm hvc).1 (dk_mm hvc).2) k2
  case l2i =>
    cases hk
    obtain ⟨x, S, rfl, h1⟩ := dk_pl_inv h1
    cases h1
    have k2 := kk H locs ls hW hS hl
    exact lv_l2i (x := Int64.ofInt x) hx hb hdg Int64.toInt32_ofInt k2
  case i2b =>
    cases hk
    obtain ⟨x, S, rfl, h1⟩ := dk_pi_inv h1
    cases h1
    have k2 := kk H locs ls hW hS hl
    exact lv_i2b (x := Int32.ofInt x) hx hb hdg (dk_i2b x) k2
  case i2s =>
    cases hk
    obtain ⟨x, S, rfl, h1⟩ := dk_pi_inv h1
    cases h1
    have k2 := kk H locs ls hW hS hl
    exact lv_i2s (x := Int32.ofInt x) hx hb hdg (dk_i2s x) k2
  case iconst v =>
    cases hk
    cases h1
    have k2 := kk H locs ls hW hS hl
    exact lv_iconst hx hb hdg rfl k2
  case lconst v =>
    cases hk
    cases h1
    have k2 := kk H locs ls hW hS hl
    refine lv_lconst hx hb hdg rfl ?_
    have e1 : Int64.ofNat (v : Nat) = Int64.ofInt (((v : Nat) : Int)) := Int64.ofInt_eq_ofNat.symm
    rw [e1]
    exact k2
  case bipush v =>
    simp only [dk_k] at hk
    split at hk
    · rename_i hv
      cases hk
      cases h1
      have k2 := kk H locs ls hW hS hl
      exact lv_bipush hx hb hdg (dk_byteI hv) k2
    · cases hk
  case sipush v =>
    simp only [dk_k] at hk
    split at hk
    · rename_i hv
      cases hk
      cases h1
      have k2 := kk H locs ls hW hS hl
      exact lv_sipush hx hb hdg (dk_shortI hv) k2
    · cases hk
  case ldc i =>
    simp only [dk_k] at hk
    split at hk
    · rename_i v hv
      cases hk
      cases h1
      have k2 := kk H locs ls hW hS hl
      exact lv_ldc hx hb hown (hT.2.2.1 _ _ hv) hdg k2
    · obtain ⟨k, hk1, hk⟩ := dk_bd_inv hk
      cases hk
      cases h1
      have k2 := kk H locs ls hW hS hl
      obtain ⟨tx, hZ⟩ := hT.2.2.2.2.2 _ _ hk1
      exact va_ldcS hx hb hown hZ hdg k2
  case ldc_w i =>
    obtain ⟨v, hv, hk⟩ := dk_bd_inv hk
    cases hk
    cases h1
    have k2 := kk H locs ls hW hS hl
    exact lv_ldcw hx hb hown (hT.2.2.1 _ _ hv) hdg k2
  case ldc2_w i =>
    obtain ⟨v, hv, hk⟩ := dk_bd_inv hk
    cases hk
    cases h1
    have k2 := kk H locs ls hW hS hl
    exact lv_ldc2 hx hb hown (hT.2.2.2.1 _ _ hv) hdg k2
  case iload i =>
    cases hk
    obtain ⟨v, hv, h1⟩ := dk_bd_inv h1
    cases h1
    have k2 := kk H locs ls hW hS hl
    exact lv_iload hx hb hdg (hl.2.2.2 _ _ (dk_oi_inv hv)) k2
  case iload_n i =>
    cases hk
    obtain ⟨v, hv, h1⟩ := dk_bd_inv h1
    cases h1
    have k2 := kk H locs ls hW hS hl
    exact lv_iload_n hx hb hdg rfl (hl.2.2.2 _ _ (dk_oi_inv hv)) k2
  case lload i =>
    cases hk
    obtain ⟨v, hv, h1⟩ := dk_bd_inv h1
    cases h1
    have k2 := kk H locs ls hW hS hl
    exact lv_lload hx hb hdg (hl.2.2.2 _ _ (dk_ol_inv hv)) k2
  case lload_n i =>
    cases hk
    obtain ⟨v, hv, h1⟩ := dk_bd_inv h1
    cases h1
    have k2 := kk H locs ls hW hS hl
    exact lv_lload_n hx hb hdg rfl (hl.2.2.2 _ _ (dk_ol_inv hv)) k2
  case aload i =>
    cases hk
    obtain ⟨v, hv, h1⟩ := dk_bd_inv h1
    cases h1
    have k2 := kk H locs ls hW hS hl
    exact lv_aload hx hb hdg (hl.2.2.2 _ _ (dk_or2_inv hv)) k2
  case aload_n i =>
    cases hk
    obtain ⟨v, hv, h1⟩ := dk_bd_inv h1
    cases h1
    have k2 := kk H locs ls hW hS hl
    exact lv_aload_n hx hb hdg rfl (hl.2.2.2 _ _ (dk_or2_inv hv)) k2
  case istore i =>
    cases hk
    obtain ⟨x, S, rfl, h1⟩ := dk_pi_inv h1
    cases h1
    exact lv_istore hx hb hdg (dk_as_has hl) (by rw [← hl.2.1]; exact hvc) rfl (fun ls2 h3 => kk H locs ls2 hW hS (dk_ls_st hl hvc h3))
  case istore_n i =>
    cases hk
    obtain ⟨x, S, rfl, h1⟩ := dk_pi_inv h1
    cases h1
    exact lv_istore_n hx hb hdg rfl (dk_as_has hl) (by rw [← hl.2.1]; exact hvc) rfl (fun ls2 h3 => kk H locs ls2 hW hS (dk_ls_st hl hvc h3))
  case astore i =>
    cases hk
    obtain ⟨x, S, rfl, h1⟩ := dk_pr_inv h1
    cases h1
    exact lv_astore hx hb hdg (dk_as_has hl) (by rw [← hl.2.1]; exact hvc) rfl (fun ls2 h3 => kk H locs ls2 hW hS (dk_ls_st hl hvc h3))
  case astore_n i =>
    cases hk
    obtain ⟨x, S, rfl, h1⟩ := dk_pr_inv h1
    cases h1
    exact lv_astore_n hx hb hdg rfl (dk_as_has hl) (by rw [← hl.2.1]; exact hvc) rfl (fun ls2 h3 => kk H locs ls2 hW hS (dk_ls_st hl hvc h3))
  case lstore i =>
    cases hk
    obtain ⟨x, S, rfl, h1⟩ := dk_pl_inv h1
    cases h1
    exact lv_lstore hx hb hdg (dk_as_has hl) (by rw [← hl.2.1]; exact hvc) rfl (fun ls2 h3 => kk H locs ls2 hW hS (dk_ls_st2 hl hvc h3))
  case lstore_n i =>
    cases hk
    obtain ⟨x, S, rfl, h1⟩ := dk_pl_inv h1
    cases h1
    exact lv_lstore_n hx hb hdg rfl (dk_as_has hl) (by rw [← hl.2.1]; exact hvc) rfl (fun ls2 h3 => kk H locs ls2 hW hS (dk_ls_st2 hl hvc h3))
  case iinc i v0 =>
    cases hk
    obtain ⟨v, hv, h1⟩ := dk_bd_inv h1
    cases h1
    have hv := dk_oi_inv hv
    have hi := dk_ld_lt hv
    obtain ⟨q, hq⟩ := List.getElem?_of_mem (dk_as_mem (ad := ad) hv)
    exact lv_iinc hx hb hdg (dk_as_has hl) hq (by rw [← Int32.ofInt_add]) (by rw [← hl.2.1]; exact hi) rfl (fun ls2 h3 => kk H locs ls2 hW hS (dk_ls_st hl hi h3))
  case dup =>
    cases hk
    match S, h1 with
    | .inl x :: S, h1 =>
      cases h1
      exact lv_dup (va := .int (Int32.ofInt x)) hx hb hdg rfl (kk H locs ls hW hS hl)
    | .inr (.inr x) :: S, h1 =>
      cases h1
      exact lv_dup (va := .ref (ad x)) hx hb hdg rfl (kk H locs ls hW hS hl)
  case dup2 =>
    cases hk
    obtain ⟨x, S, rfl, h1⟩ := dk_pi_inv h1
    obtain ⟨y, S, rfl, h1⟩ := dk_pr_inv h1
    cases h1
    exact lv_dup2_11 (va := .int (Int32.ofInt x)) (vb := .ref (ad y)) hx hb hdg rfl rfl (kk H locs ls hW hS hl)
  case pop =>
    cases hk
    obtain ⟨x, S, rfl, h1⟩ := dk_pi_inv h1
    cases h1
    exact lv_pop (va := .int (Int32.ofInt x)) hx hb hdg rfl (kk H locs ls hW hS hl)
  case iaload =>
    cases hk
    obtain ⟨i, S, rfl, h1⟩ := dk_pi_inv h1
    obtain ⟨a, S, rfl, h1⟩ := dk_pr_inv h1
    obtain ⟨q, hq, h1⟩ := dk_bd_inv h1
    cases h1
    obtain ⟨v1, v2, v3⟩ := hvc
    have k2 := kk H locs ls hW hS hl
    have e1 : Int32.ofInt (q.2 i) = Int32.ofInt (q.2 (((Int32.ofInt i).toNatClampNeg : Nat) : Int)) := by
      rw [dk_clamp v1 v3, Int.toNat_of_nonneg v1]
    rcases dk_rd_inv hq with hq | hq
    · have ha := dk_lt hF hW (a := a) (fun t n f z => by rw [hq] at z; cases z; exact ⟨by decide, by decide⟩)
      refine va_iald (f := fun j => Int32.ofInt (q.2 j)) hx hb hK hP a 0 (by rw [dk_ws_at ha, hq]; rfl) rfl (dk_vin v1 v2 v3) hdg ?_
      show W _ _ _ _ _ _ _ _ _ _ _ _ _ _ _ (F0 _ _ _ (Value.int (Int32.ofInt (q.2 (((Int32.ofInt i).toNatClampNeg : Nat) : Int))) :: _))
      rw [← e1]
      exact k2
    · have hN : N ≤ a := by
        apply Classical.byContradiction
        intro z
        exact dk_no4 hF hW (by omega) hq
      obtain ⟨n, f, e2, hTT⟩ | ⟨n, f, e2⟩ := hF.2.2 a hN
      · have e3 := (hW.2.1 a hN).symm.trans hq
        rw [e2] at e3
        cases e3
        refine va_ti hx hb hTT hS (dk_vin v1 v2 v3) rfl hdg ?_
        rw [← e1]
        exact k2
      · have e3 := (hW.2.1 a hN).symm.trans hq
        rw [e2] at e3
        cases e3
  case arraylength =>
    cases hk
    obtain ⟨a, S, rfl, h1⟩ := dk_pr_inv h1
    obtain ⟨q, hq, h1⟩ := dk_bd_inv h1
    cases h1
    have k2 := kk H locs ls hW hS hl
    have e1 : Int32.ofNat q.1 = Int32.ofInt (q.1 : Int) := Int32.ofInt_eq_ofNat.symm
    rcases dk_rd_inv hq with hq | hq
    · have ha := dk_lt hF hW (a := a) (fun t n f z => by rw [hq] at z; cases z; exact ⟨by decide, by decide⟩)
      exact va_alen (cA := dA 0) (x := (q.1, .inl (fun j => Int32.ofInt (q.2 j)))) (ty := .int) hx hb hK hP a 0 (by rw [dk_ws_at ha, hq]; rfl) rfl e1 hdg k2
    · have hN : N ≤ a := by
        apply Classical.byContradiction
        intro z
        exact dk_no4 hF hW (by omega) hq
      obtain ⟨n, f, e2, hTT⟩ | ⟨n, f, e2⟩ := hF.2.2 a hN
      · have e3 := (hW.2.1 a hN).symm.trans hq
        rw [e2] at e3
        cases e3
        exact va_tlen hx hb hTT hS e1 hdg k2
      · have e3 := (hW.2.1 a hN).symm.trans hq
        rw [e2] at e3
        cases e3
  case baload =>
    cases hk
    obtain ⟨i, S, rfl, h1⟩ := dk_pi_inv h1
    obtain ⟨a, S, rfl, h1⟩ := dk_pr_inv h1
    obtain ⟨q, hq, h1⟩ := dk_bd_inv h1
    cases h1
    obtain ⟨v1, v2, v3⟩ := hvc
    have k2 := kk H locs ls hW hS hl
    have hq := dk_ar_inv hq
    have e1 : Int32.ofInt (q.2 i) = Int32.ofInt (q.2 (((Int32.ofInt i).toNatClampNeg : Nat) : Int)) := by
      rw [dk_clamp v1 v3, Int.toNat_of_nonneg v1]
    have ha := dk_lt hF hW (a := a) (fun t n f z => by rw [hq] at z; cases z; exact ⟨by decide, by decide⟩)
    refine va_zald (f := fun j => Int32.ofInt (q.2 j)) hx hb hK hP a 1 (by rw [dk_ws_at ha, hq]; rfl) rfl (dk_vin v1 v2 v3) hdg ?_
    show W _ _ _ _ _ _ _ _ _ _ _ _ _ _ _ (F0 _ _ _ (Value.int (Int32.ofInt (q.2 (((Int32.ofInt i).toNatClampNeg : Nat) : Int))) :: _))
    rw [← e1]
    exact k2
  case aaload =>
    cases hk
    obtain ⟨i, S, rfl, h1⟩ := dk_pi_inv h1
    obtain ⟨a, S, rfl, h1⟩ := dk_pr_inv h1
    obtain ⟨q, hq, h1⟩ := dk_bd_inv h1
    cases h1
    obtain ⟨v1, v2, v3⟩ := hvc
    have k2 := kk H locs ls hW hS hl
    have hq := dk_ar_inv hq
    have ha := dk_lt hF hW (a := a) (fun t n f z => by rw [hq] at z; cases z; exact ⟨by decide, by decide⟩)
    refine va_aldq (f := fun j => some (ad (q.2 j).toNat)) hx hb hK hP a 2 (by rw [dk_ws_at ha, hq]; rfl) rfl (dk_vin v1 v2 v3) hdg ?_
    have e1 : va_rf ((fun j : Nat => some (ad (q.2 j).toNat)) (Int32.ofInt i).toNatClampNeg) = dk_cv ad (dk_R (q.2 i).toNat) := by
      show Value.ref (ad (q.2 (((Int32.ofInt i).toNatClampNeg : Nat) : Int)).toNat) = _
      rw [dk_clamp v1 v3, Int.toNat_of_nonneg v1]
      rfl
    rw [e1]
    exact k2
  case iastore =>
    cases hk
    obtain ⟨x, S, rfl, h1⟩ := dk_pi_inv h1
    obtain ⟨i, S, rfl, h1⟩ := dk_pi_inv h1
    obtain ⟨a, S, rfl, h1⟩ := dk_pr_inv h1
    obtain ⟨q, hq, h1⟩ := dk_bd_inv h1
    cases h1
    obtain ⟨v1, v2, v3⟩ := hvc
    have hq := dk_ar_inv hq
    have ha := dk_lt hF hW (a := a) (fun t n f z => by rw [hq] at z; cases z; exact ⟨by decide, by decide⟩)
    refine va_iast (f := fun j => Int32.ofInt (q.2 j)) (x := Int32.ofInt x) hx hb hK hP hD hS a 0 (by rw [dk_ws_at ha, hq]; rfl) rfl (dk_vin v1 v2 v3) hdg (fun H1 locs1 hP1 _ hS1 => ?_)
    rw [dk_upd q.2 x v1 v3] at hP1
    exact kk H1 locs1 ls (dk_Wd_up hW ha (fun t n f z => by cases z; omega) (by rw [← dk_ws_set]; exact hP1)) hS1 hl
  case bastore =>
    cases hk
    obtain ⟨x, S, rfl, h1⟩ := dk_pi_inv h1
    obtain ⟨i, S, rfl, h1⟩ := dk_pi_inv h1
    obtain ⟨a, S, rfl, h1⟩ := dk_pr_inv h1
    obtain ⟨q, hq, h1⟩ := dk_bd_inv h1
    cases h1
    obtain ⟨v1, v2, v3, v4⟩ := hvc
    have hq := dk_ar_inv hq
    have ha := dk_lt hF hW (a := a) (fun t n f z => by rw [hq] at z; cases z; exact ⟨by decide, by decide⟩)
    refine va_zast (f := fun j => Int32.ofInt (q.2 j)) (x := Int32.ofInt x) hx hb hK hP hD hS a 1 (by rw [dk_ws_at ha, hq]; rfl) rfl (dk_vin v1 v2 v3) hdg (fun H1 locs1 hP1 _ hS1 => ?_)
    rw [show vp_nar .boolean (Int32.ofInt x) = Int32.ofInt x by rcases v4 with rfl | rfl <;> decide +kernel, dk_upd q.2 x v1 v3] at hP1
    exact kk H1 locs1 ls (dk_Wd_up hW ha (fun t n f z => by cases z; omega) (by rw [← dk_ws_set]; exact hP1)) hS1 hl
  case getfield i =>
    obtain ⟨q, hq, hk⟩ := dk_bd_inv hk
    cases hk
    obtain ⟨a, S, rfl, h1⟩ := dk_pr_inv h1
    obtain ⟨v, hv, h1⟩ := dk_bd_inv h1
    cases h1
    have k2 := kk H locs ls hW hS hl
    obtain ⟨fs, hfs, hv⟩ := dk_gf_inv hv
    have ha := dk_lt hF hW (a := a) (fun t n f z => by rw [hfs] at z; cases z)
    obtain ⟨C, F, n, g1, g2, g3, g4⟩ := hT.1 i q.1 q.2 hq
    rcases g4 with g4 | ⟨host, g4⟩
    · exact va_get hx hb hts g3 hown hK hP a (fs := fs.map (dk_cv ad)) (by rw [dk_ws_at ha, hfs]; rfl) g1 q.2 g2 g4 (fun _ z => z) (dk_nth_map _ _ _ _ hv) hdg k2
    · exact va_getN hx hb hts g3 hown hK hP a (fs := fs.map (dk_cv ad)) (by rw [dk_ws_at ha, hfs]; rfl) g1 q.2 g2 g4 (fun _ z => z) (dk_nth_map _ _ _ _ hv) hdg k2
  case getstatic i =>
    obtain ⟨k, hq, hk⟩ := dk_bd_inv hk
    cases hk
    cases h1
    have k2 := kk H locs ls hW hS hl
    obtain ⟨C, n, d, g1, g2⟩ := hT.2.2.2.2.1 i k hq
    exact va_gets hx hb g1 hS hown g2 (fun _ z => z) hdg k2
  case putfield i =>
    obtain ⟨q, hq, hk⟩ := dk_bd_inv hk
    obtain ⟨kd, ci, k⟩ := q
    obtain ⟨C, F, n, ty0, ty, g1, g2, g3, g4, g5, g6, g7, g8, t1, t2, t3, t4⟩ := hT.2.1 i kd ci k hq
    dsimp only at hk
    split at hk
    next hkd =>
      cases hk
      rcases hkd with rfl | rfl | rfl | rfl
      · obtain ⟨x, S, rfl, h1⟩ := dk_pi_inv h1
        obtain ⟨a, S, rfl, h1⟩ := dk_pr_inv h1
        obtain ⟨c2, hc2, h1⟩ := dk_bd_inv h1
        cases h1
        obtain ⟨fs, hfs, hlt, rfl⟩ := dk_pf_inv hc2
        have ha := dk_lt hF hW (a := a) (fun t n f z => by rw [hfs] at z; cases z)
        have ety := t1 rfl
        subst ety
        refine va_put (v := .int (Int32.ofInt x)) hx hb hts g3 ty0 g5 g6 hown hK hP hD hS a (fs := fs.map (dk_cv ad)) (by rw [dk_ws_at ha, hfs]; rfl) g1 k g2 g4 (fun _ z => z) g7 g8 rfl rfl (by rw [List.length_map]; exact hlt) hdg (fun H1 locs1 hP1 _ hS1 => ?_)
        refine kk H1 locs1 ls (dk_Wd_up hW ha (fun t n f z => by cases z) ?_) hS1 hl
        rw [← dk_ws_set]
        have e1 : dk_ce ad dA (.inr (ci, dk_set fs k (dk_I x))) = .inr (ci, (fs.map (dk_cv ad)).set k (.int (Int32.ofInt x))) := by
          show Sum.inr (ci, (dk_set fs k _).map (dk_cv ad)) = _
          rw [dk_set_map]
          rfl
        rw [e1]
        exact hP1
      · obtain ⟨x, S, rfl, h1⟩ := dk_pi_inv h1
        obtain ⟨a, S, rfl, h1⟩ := dk_pr_inv h1
        obtain ⟨c2, hc2, h1⟩ := dk_bd_inv h1
        cases h1
        obtain ⟨fs, hfs, hlt, rfl⟩ := dk_pf_inv hc2
        have ha := dk_lt hF hW (a := a) (fun t n f z => by rw [hfs] at z; cases z)
        have ety := t2 rfl
        subst ety
        refine va_put (v := .int (Int32.ofInt x)) hx hb hts g3 ty0 g5 g6 hown hK hP hD hS a (fs := fs.map (dk_cv ad)) (by rw [dk_ws_at ha, hfs]; rfl) g1 k g2 g4 (fun _ z => z) g7 g8 (by rcases hvc with rfl | rfl <;> decide +kernel) (by rcases hvc with rfl | rfl <;> decide +kernel) (by rw [List.length_map]; exact hlt) hdg (fun H1 locs1 hP1 _ hS1 => ?_)
        refine kk H1 locs1 ls (dk_Wd_up hW ha (fun t n f z => by cases z) ?_) hS1 hl
        rw [← dk_ws_set]
        have e1 : dk_ce ad dA (.inr (ci, dk_set fs k (dk_I x))) = .inr (ci, (fs.map (dk_cv ad)).set k (.int (Int32.ofInt x))) := by
          show Sum.inr (ci, (dk_set fs k _).map (dk_cv ad)) = _
          rw [dk_set_map]
          rfl
        rw [e1]
        exact hP1
      · obtain ⟨x, S, rfl, h1⟩ := dk_pr_inv h1
        obtain ⟨a, S, rfl, h1⟩ := dk_pr_inv h1
        obtain ⟨c2, hc2, h1⟩ := dk_bd_inv h1
        cases h1
        obtain ⟨fs, hfs, hlt, rfl⟩ := dk_pf_inv hc2
        have ha := dk_lt hF hW (a := a) (fun t n f z => by rw [hfs] at z; cases z)
        have ety := t3 rfl
        subst ety
        refine va_put (v := .ref (ad x)) hx hb hts g3 ty0 g5 g6 hown hK hP hD hS a (fs := fs.map (dk_cv ad)) (by rw [dk_ws_at ha, hfs]; rfl) g1 k g2 g4 (fun _ z => z) g7 g8 rfl rfl (by rw [List.length_map]; exact hlt) hdg (fun H1 locs1 hP1 _ hS1 => ?_)
        refine kk H1 locs1 ls (dk_Wd_up hW ha (fun t n f z => by cases z) ?_) hS1 hl
        rw [← dk_ws_set]
        have e1 : dk_ce ad dA (.inr (ci, dk_set fs k (dk_R x))) = .inr (ci, (fs.map (dk_cv ad)).set k (.ref (ad x))) := by
          show Sum.inr (ci, (dk_set fs k _).map (dk_cv ad)) = _
          rw [dk_set_map]
          rfl
        rw [e1]
        exact hP1
      · obtain ⟨x, S, rfl, h1⟩ := dk_pl_inv h1
        obtain ⟨a, S, rfl, h1⟩ := dk_pr_inv h1
        obtain ⟨c2, hc2, h1⟩ := dk_bd_inv h1
        cases h1
        obtain ⟨fs, hfs, hlt, rfl⟩ := dk_pf_inv hc2
        have ha := dk_lt hF hW (a := a) (fun t n f z => by rw [hfs] at z; cases z)
        have ety := t4 rfl
        subst ety
        refine va_put (v := .long (Int64.ofInt x)) hx hb hts g3 ty0 g5 g6 hown hK hP hD hS a (fs := fs.map (dk_cv ad)) (by rw [dk_ws_at ha, hfs]; rfl) g1 k g2 g4 (fun _ z => z) g7 g8 rfl rfl (by rw [List.length_map]; exact hlt) hdg (fun H1 locs1 hP1 _ hS1 => ?_)
        refine kk H1 locs1 ls (dk_Wd_up hW ha (fun t n f z => by cases z) ?_) hS1 hl
        rw [← dk_ws_set]
        have e1 : dk_ce ad dA (.inr (ci, dk_set fs k (dk_J x))) = .inr (ci, (fs.map (dk_cv ad)).set k (.long (Int64.ofInt x))) := by
          show Sum.inr (ci, (dk_set fs k _).map (dk_cv ad)) = _
          rw [dk_set_map]
          rfl
        rw [e1]
        exact hP1
    next => cases hk
  case invokevirtual =>
    obtain ⟨q, hq, hk⟩ := dk_bd_inv hk
    split at hk
    · cases hk; cases h1
    · cases hk
  case invokestatic =>
    obtain ⟨q, hq, hk⟩ := dk_bd_inv hk
    split at hk
    · cases hk; cases h1
    · cases hk
  case goto =>
    obtain ⟨q, hq, hk⟩ := dk_bd_inv hk
    cases hk
    cases h1
  case ifCond =>
    obtain ⟨q, hq, hk⟩ := dk_bd_inv hk
    cases hk
    cases h1
  case if_icmp =>
    obtain ⟨q, hq, hk⟩ := dk_bd_inv hk
    cases hk
    cases h1
  case tableswitch =>
    simp only [dk_k] at hk
    split at hk
    · obtain ⟨q, hq, hk⟩ := dk_bd_inv hk
      obtain ⟨q2, hq2, hk⟩ := dk_bd_inv hk
      cases hk
      cases h1
    · cases hk
  case ireturn =>
    obtain ⟨q, hq, hk⟩ := dk_bd_inv hk
    cases hk
    rcases dk_rt_inv hq with ⟨-, rfl⟩ | ⟨-, rfl⟩ <;> cases h1
  case areturn =>
    simp only [dk_k] at hk
    split at hk
    · cases hk; cases h1
    · cases hk
  case return_ =>
    simp only [dk_k] at hk
    split at hk
    · cases hk; cases h1
    · cases hk
  all_goals (first | (cases hk; done) | (cases hk; cases h1; done))
end DKS
end
section
/-! BLOCKS: a walk of the pure machine is a walk of the real one -/
def dk_tm : dk_N → Bool
  | .inr (t, _, _) => t == 7
  | .inl (.tableswitch _ _ _ _) => true
  | .inl .ireturn => true
  | .inl .lreturn => true
  | .inl .areturn => true
  | .inl .return_ => true
  | _ => false
def dk_isT : dk_N → Bool
  | .inl (.tableswitch _ _ _ _) => true
  | _ => false
/-- going on into the next block -/
def dk_ft : dk_N → Option Nat
  | .inr (7, t, 1) => some t
  | _ => none
/-- the blocks are what the bytes say -/
def dk_ck (T : dk_Tm) (cc : ByteArray) : Nat → List dk_N → Bool
  | _, [] => false
  | pc, n :: is => match dk_ft n with
    | some t => decide (dk_ix T.2.2.1 pc 0 = some t)
    | none => match decode cc pc with
      | .ok (ins, len) => decide (dk_k T pc ins = some n) && (dk_isT n || decide (len = dk_ln ins)) && (dk_tm n || dk_ck T cc (pc + len) is)
      | _ => false
def dk_ckT (T : dk_Tm) (cc : ByteArray) (nL : Nat) : List Nat → dk_T → Bool
  | [], [] => true
  | pc :: pcs, (mk1, is) :: tb => decide (mk1.length = nL) && dk_ck T cc pc is && dk_ckT T cc nL pcs tb
  | _, _ => false
theorem dk_ckT_at {T : dk_Tm} {cc : ByteArray} {nL : Nat} : ∀ (pcs : List Nat) (tb : dk_T), dk_ckT T cc nL pcs tb = true → ∀ (b : Nat) (mk1 : List Bool) (is : List dk_N), dk_nth tb b = some (mk1, is) → ∃ pc, dk_nth pcs b = some pc ∧ mk1.length = nL ∧ dk_ck T cc pc is = true
  | [], [], _, b, mk1, is, h => by simp [dk_nth] at h
  | [], _ :: _, h, _, _, _, _ => by simp [dk_ckT] at h
  | _ :: _, [], h, _, _, _, _ => by simp [dk_ckT] at h
  | pc :: pcs, (mk2, is2) :: tb, h, b, mk1, is, hb => by
    simp only [dk_ckT, Bool.and_eq_true, decide_eq_true_eq] at h
    cases b with
    | zero =>
      simp only [dk_nth, Option.some.injEq] at hb
      cases hb
      exact ⟨pc, rfl, h.1.1, h.1.2⟩
    | succ b => exact dk_ckT_at pcs tb h.2 b mk1 is hb
theorem dk_ix_nth : ∀ (l : List Nat) (n i b : Nat), dk_ix l n i = some b → i ≤ b ∧ dk_nth l (b - i) = some n
  | [], n, i, b, h => by simp [dk_ix] at h
  | k :: l, n, i, b, h => by
    unfold dk_ix at h
    split at h
    · rename_i e
      cases h
      subst e
      exact ⟨Nat.le_refl _, by simp [dk_nth]⟩
    · obtain ⟨h1, h2⟩ := dk_ix_nth l n (i + 1) b h
      refine ⟨by omega, ?_⟩
      rw [show b - i = (b - (i + 1)) + 1 by omega]
      exact h2
theorem dk_tg_spec {T : dk_Tm} {pc b : Nat} {off : Int} (h : dk_tg T pc off = some b) : ∃ q : Nat, (pc : Int) + off = (q : Int) ∧ dk_nth T.2.2.1 b = some q := by
  unfold dk_tg at h
  split at h
  · rename_i h0
    obtain ⟨-, h2⟩ := dk_ix_nth _ _ _ _ h
    exact ⟨((pc : Int) + off).toNat, by omega, h2⟩
  · cases h
def dk_Go (p : Program) (l : Launch) (e : Env) (R : Room) (s : State) (m : MethodId) (args : Array Value) (below : List Frame) (meth : Method) (c : Code) (cells slots : Nat) (Q : State → Prop) (ad : Nat → Nat) (dA : Nat → ClassId) (D : va_G) (N : Nat) (A : Nat → Prop) (cl : List vw_C) (ro : dk_H) (nL : Nat) (pc : Nat) (L : dk_L) (S : List dk_V) (h : dk_H) : Prop :=
  ∀ (H : Heap) (locs : List Loc) (ls : Array Slot), dk_Wd ad dA D N cl ro h H → va_S A s.heap H locs → dk_ls ad ls nL L → W p l e R s m args below meth c H locs cells slots Q (F0 m pc ls (S.map (dk_cv ad)))
/-- a call that the real machine can do: by the number of its entry -/
def dk_Cok (p : Program) (l : Launch) (e : Env) (R : Room) (s : State) (m : MethodId) (args : Array Value) (below : List Frame) (meth : Method) (c : Code) (cells slots : Nat) (Q : State → Prop) (ad : Nat → Nat) (dA : Nat → ClassId) (D : va_G) (N : Nat) (A : Nat → Prop) (cl : List vw_C) (ro : dk_H) (nL : Nat) (cc : ByteArray) (kd i n : Nat) (Sm : dk_S) : Prop :=
  ∀ (pc : Nat) (ins : Instr) (L : dk_L) (S as : List dk_V) (h : dk_H), (kd = 0 ∧ ins = .invokevirtual i) ∨ (kd = 1 ∧ ins = .invokestatic i) → decode cc pc = .ok (ins, 3) → as.length = n → dk_sz S ≤ 8 →
    Sm as h (fun r h2 => dk_Go p l e R s m args below meth c cells slots Q ad dA D N A cl ro nL (pc + 3) L (r.toList ++ S) h2) → dk_Go p l e R s m args below meth c cells slots Q ad dA D N A cl ro nL pc L (as.reverse ++ S) h
def dk_isR (n : dk_N) : Prop := n = .inl .ireturn ∨ n = .inl .lreturn ∨ n = .inl .areturn ∨ n = .inl .return_
section DKB
variable {p : Program} {l : Launch} {e : Env} {R : Room} {s : State} {m : MethodId} {args : Array Value} {below : List Frame} {meth : Method} {c : Code} {cells slots : Nat} {Q : State → Prop}
variable {ad : Nat → Nat} {dA : Nat → ClassId} {D : va_G} {N : Nat} {A : Nat → Prop} {cl : List vw_C} {ro : dk_H} {cc : ByteArray} {nL : Nat} {own : String} {Ts : List Cond} {T : dk_Tm} {G : List (Nat × dk_S)} {Rq : dk_Q}
theorem dk_swI {x : Int} {J : Nat → Prop} : ∀ (ts : List Int) (v : Int), dk_sw x J ts v → v ≤ x → ∀ t, ts[(x - v).toNat]? = some t → J t.toNat
  | [], v, _, _, t, ht => by simp at ht
  | u :: ts, v, h, hv, t, ht => by
    by_cases e : x = v
    · subst e
      simp only [Int.sub_self, Int.toNat_zero, List.getElem?_cons_zero, Option.some.injEq] at ht
      rw [← ht]
      exact h.1 rfl
    · have e1 : (x - v).toNat = (x - (v + 1)).toNat + 1 := by omega
      rw [e1, List.getElem?_cons_succ] at ht
      exact dk_swI ts (v + 1) h.2 (by omega) t ht
theorem dk_tgs_at : ∀ (os bs : List Int) {pc : Nat}, dk_tgs T pc os = some bs → os.length = bs.length ∧ ∀ (j : Nat) (o : Int), os[j]? = some o → ∃ b : Nat, bs[j]? = some (b : Int) ∧ dk_tg T pc o = some b
  | [], bs, pc, h => by
    cases h
    exact ⟨rfl, fun j o h => by simp at h⟩
  | o :: os, bs, pc, h => by
    obtain ⟨b, hb, h⟩ := dk_bd_inv h
    obtain ⟨bs2, hbs, h⟩ := dk_bd_inv h
    cases h
    obtain ⟨h1, h2⟩ := dk_tgs_at os bs2 hbs
    refine ⟨by simp [h1], fun j o2 ho => ?_⟩
    cases j with
    | zero => simp only [List.getElem?_cons_zero, Option.some.injEq] at ho; subst ho; exact ⟨b, rfl, hb⟩
    | succ j => exact h2 j o2 ho
set_option maxHeartbeats 4000000 in
theorem dk_blockS (hx : p.tables.exec = Jvm.exec) (hb : c.code = cc) (hown : s.vm.findClass own = some m.cls) (hts : ∀ w ∈ Ts, w.before args s = true)
    (hF : dk_Fx ad dA D N A cl ro s) (hT : dk_Tok ad A cl own Ts args s T.1)
    (hM : dk_monoG G) (hC : ∀ i kd j, dk_lk T.2.1 i = some (kd, j) → ∃ n Sm, dk_nth G j = some (n, Sm) ∧ dk_Cok p l e R s m args below meth c cells slots Q ad dA D N A cl ro nL cc kd i n Sm)
    (hR : ∀ (pc : Nat) (ins : Instr) (n : dk_N) (is : List dk_N) (J : Nat → dk_L → List dk_V → dk_H → Prop) (L : dk_L) (S : List dk_V) (h : dk_H), decode cc pc = .ok (ins, 1) → dk_k T pc ins = some n → dk_isR n → dk_r G Rq J (n :: is) L S h → dk_Go p l e R s m args below meth c cells slots Q ad dA D N A cl ro nL pc L S h)
    {J : Nat → dk_L → List dk_V → dk_H → Prop} (hJ : ∀ b L S h, J b L S h → ∀ q, dk_nth T.2.2.1 b = some q → dk_Go p l e R s m args below meth c cells slots Q ad dA D N A cl ro nL q L S h) :
    ∀ (is : List dk_N) (pc : Nat) (L : dk_L) (S : List dk_V) (h : dk_H), dk_ck T cc pc is = true → dk_r G Rq J is L S h → dk_Go p l e R s m args below meth c cells slots Q ad dA D N A cl ro nL pc L S h := by
  intro is
  induction is with
  | nil => intro pc L S h hck; cases hck
  | cons n is ih =>
    intro pc L S h hck q
    unfold dk_ck at hck
    split at hck
    · rename_i t ht
      have hn : n = .inr (7, t, 1) := by
        unfold dk_ft at ht
        split at ht
        · cases ht; rfl
        · cases ht
      subst hn
      have hq : J t L S h := q
      obtain ⟨-, h2⟩ := dk_ix_nth _ _ _ _ (of_decide_eq_true hck)
      exact hJ t L S h hq pc h2
    · split at hck
      · rename_i hft ins len hdg
        simp only [Bool.and_eq_true, Bool.or_eq_true, decide_eq_true_eq] at hck
        obtain ⟨⟨hk, hlen⟩, hrest⟩ := hck
        cases hi : dk_isS n with
        | true =>
          rw [dk_r_s hi] at q
          have hnT : dk_isT n = false := by
            rcases n with i | i
            · cases i <;> first | rfl | cases hi
            · rfl
          have hnt : dk_tm n = false := by
            rcases n with i | ⟨t, j, k⟩
            · cases i <;> first | rfl | cases hi
            · simp only [dk_isS, Bool.and_eq_true, Bool.not_eq_true'] at hi
              exact hi.2
          have hlen := hlen.resolve_left (by rw [hnT]; simp)
          have hrest := hrest.resolve_left (by rw [hnt]; simp)
          cases h1 : dk_1 n L S h with
          | none => rw [h1] at q; exact q.elim
          | some w =>
            rw [h1] at q
            obtain ⟨vc, L2, S2, h2⟩ := w
            obtain ⟨hvc, q⟩ := q
            intro H locs ls hW hS hl
            exact dk_s1 hx hb hown hts hF hT hdg hlen hk h1 hvc hW hS hl (fun H2 locs2 ls2 hW2 hS2 hl2 => ih (pc + len) L2 S2 h2 hrest q H2 locs2 ls2 hW2 hS2 hl2)
        | false =>
          cases ins
          case invokevirtual i =>
            obtain ⟨q0, hj, hk⟩ := dk_bd_inv hk
            obtain ⟨kd, j⟩ := q0
            have hkd : kd = 0 := by
              split at hk
              · assumption
              · cases hk
            rw [if_pos hkd] at hk
            cases hk
            have hlen : len = 3 := hlen.resolve_left (by simp [dk_isT])
            have hrest := hrest.resolve_left (by simp [dk_tm])
            subst hlen
            obtain ⟨n, Sm, e1, hc⟩ := hC i kd j hj
            simp only [dk_r, e1] at q
            obtain ⟨q1, q2, q3⟩ := q
            have e2 : S = (S.take n).reverse.reverse ++ S.drop n := by rw [List.reverse_reverse, List.take_append_drop]
            rw [e2]
            exact hc pc _ L (S.drop n) (S.take n).reverse h (Or.inl ⟨hkd, rfl⟩) hdg (by rw [List.length_reverse, List.length_take]; omega) q2 (hM _ (dk_nth_mem e1) _ _ _ _ (fun r h2 z => ih (pc + 3) L _ h2 hrest z) q3)
          case invokestatic i =>
            obtain ⟨q0, hj, hk⟩ := dk_bd_inv hk
            obtain ⟨kd, j⟩ := q0
            have hkd : kd = 1 := by
              split at hk
              · assumption
              · cases hk
            rw [if_pos hkd] at hk
            cases hk
            have hlen : len = 3 := hlen.resolve_left (by simp [dk_isT])
            have hrest := hrest.resolve_left (by simp [dk_tm])
            subst hlen
            obtain ⟨n, Sm, e1, hc⟩ := hC i kd j hj
            simp only [dk_r, e1] at q
            obtain ⟨q1, q2, q3⟩ := q
            have e2 : S = (S.take n).reverse.reverse ++ S.drop n := by rw [List.reverse_reverse, List.take_append_drop]
            rw [e2]
            exact hc pc _ L (S.drop n) (S.take n).reverse h (Or.inr ⟨hkd, rfl⟩) hdg (by rw [List.length_reverse, List.length_take]; omega) q2 (hM _ (dk_nth_mem e1) _ _ _ _ (fun r h2 z => ih (pc + 3) L _ h2 hrest z) q3)
          case goto off =>
            obtain ⟨b, hb1, hk⟩ := dk_bd_inv hk
            cases hk
            have hlen : len = 3 := hlen.resolve_left (by simp [dk_isT])
            subst hlen
            obtain ⟨tq, e1, e2⟩ := dk_tg_spec hb1
            intro H locs ls hW hS hl
            exact lv_goto hx hb hdg e1 (hJ b L S h q tq e2 H locs ls hW hS hl)
          case ifCond cd off =>
            obtain ⟨b, hb1, hk⟩ := dk_bd_inv hk
            cases hk
            have hlen : len = 3 := hlen.resolve_left (by simp [dk_isT])
            replace hrest := hrest.resolve_left (by simp [dk_tm])
            subst hlen
            obtain ⟨tq, e1, e2⟩ := dk_tg_spec hb1
            simp only [dk_r] at q
            split at q
            · rename_i x S
              obtain ⟨v1, q2, q3⟩ := q
              have v0 : dk_in 0 := ⟨by omega, by omega⟩
              intro H locs ls hW hS hl
              cases cd
              · exact lv_if_eq hx hb hdg e1 (fun z => hJ b L S h (q2 ((dk_ofInt_eq v1 v0).mp z)) tq e2 H locs ls hW hS hl) (fun z => ih (pc + 3) L S h hrest (q3 (fun w => z ((dk_ofInt_eq v1 v0).mpr w))) H locs ls hW hS hl)
              · exact lv_if_ne hx hb hdg e1 (fun z => hJ b L S h (q2 (fun w => z ((dk_ofInt_eq v1 v0).mpr w))) tq e2 H locs ls hW hS hl) (fun z => ih (pc + 3) L S h hrest (q3 (fun w => w ((dk_ofInt_eq v1 v0).mp z))) H locs ls hW hS hl)
              · exact lv_if_lt hx hb hdg e1 (fun z => hJ b L S h (q2 ((dk_ofInt_lt v1 v0).mp z)) tq e2 H locs ls hW hS hl) (fun z => ih (pc + 3) L S h hrest (q3 (fun w => z ((dk_ofInt_lt v1 v0).mpr w))) H locs ls hW hS hl)
              · exact lv_if_ge hx hb hdg e1 (fun z => hJ b L S h (q2 ((dk_ofInt_le v0 v1).mp z)) tq e2 H locs ls hW hS hl) (fun z => ih (pc + 3) L S h hrest (q3 (fun w => z ((dk_ofInt_le v0 v1).mpr w))) H locs ls hW hS hl)
              · exact lv_if_gt hx hb hdg e1 (fun z => hJ b L S h (q2 ((dk_ofInt_lt v0 v1).mp z)) tq e2 H locs ls hW hS hl) (fun z => ih (pc + 3) L S h hrest (q3 (fun w => z ((dk_ofInt_lt v0 v1).mpr w))) H locs ls hW hS hl)
              · exact lv_if_le hx hb hdg e1 (fun z => hJ b L S h (q2 ((dk_ofInt_le v1 v0).mp z)) tq e2 H locs ls hW hS hl) (fun z => ih (pc + 3) L S h hrest (q3 (fun w => z ((dk_ofInt_le v1 v0).mpr w))) H locs ls hW hS hl)
            · exact q.elim
          case if_icmp cd off =>
            obtain ⟨b, hb1, hk⟩ := dk_bd_inv hk
            cases hk
            have hlen : len = 3 := hlen.resolve_left (by simp [dk_isT])
            replace hrest := hrest.resolve_left (by simp [dk_tm])
            subst hlen
            obtain ⟨tq, e1, e2⟩ := dk_tg_spec hb1
            simp only [dk_r] at q
            split at q
            · rename_i y x S
              obtain ⟨v1, v2, q2, q3⟩ := q
              intro H locs ls hW hS hl
              cases cd
              · exact lv_icmp_eq hx hb hdg e1 (fun z => hJ b L S h (q2 ((dk_ofInt_eq v1 v2).mp z)) tq e2 H locs ls hW hS hl) (fun z => ih (pc + 3) L S h hrest (q3 (fun w => z ((dk_ofInt_eq v1 v2).mpr w))) H locs ls hW hS hl)
              · exact lv_icmp_ne hx hb hdg e1 (fun z => hJ b L S h (q2 (fun w => z ((dk_ofInt_eq v1 v2).mpr w))) tq e2 H locs ls hW hS hl) (fun z => ih (pc + 3) L S h hrest (q3 (fun w => w ((dk_ofInt_eq v1 v2).mp z))) H locs ls hW hS hl)
              · exact lv_icmp_lt hx hb hdg e1 (fun z => hJ b L S h (q2 ((dk_ofInt_lt v1 v2).mp z)) tq e2 H locs ls hW hS hl) (fun z => ih (pc + 3) L S h hrest (q3 (fun w => z ((dk_ofInt_lt v1 v2).mpr w))) H locs ls hW hS hl)
              · exact lv_icmp_ge hx hb hdg e1 (fun z => hJ b L S h (q2 ((dk_ofInt_le v2 v1).mp z)) tq e2 H locs ls hW hS hl) (fun z => ih (pc + 3) L S h hrest (q3 (fun w => z ((dk_ofInt_le v2 v1).mpr w))) H locs ls hW hS hl)
              · exact lv_icmp_gt hx hb hdg e1 (fun z => hJ b L S h (q2 ((dk_ofInt_lt v2 v1).mp z)) tq e2 H locs ls hW hS hl) (fun z => ih (pc + 3) L S h hrest (q3 (fun w => z ((dk_ofInt_lt v2 v1).mpr w))) H locs ls hW hS hl)
              · exact lv_icmp_le hx hb hdg e1 (fun z => hJ b L S h (q2 ((dk_ofInt_le v1 v2).mp z)) tq e2 H locs ls hW hS hl) (fun z => ih (pc + 3) L S h hrest (q3 (fun w => z ((dk_ofInt_le v1 v2).mpr w))) H locs ls hW hS hl)
            · exact q.elim
          case tableswitch d lo hi1 offs =>
            simp only [dk_k] at hk
            split at hk
            · rename_i hsz
              obtain ⟨b, hb1, hk⟩ := dk_bd_inv hk
              obtain ⟨bs, hb2, hk⟩ := dk_bd_inv hk
              cases hk
              simp only [dk_r] at q
              split at q
              · rename_i x S
                obtain ⟨v1, q2, q3⟩ := q
                intro H locs ls hW hS hl
                have ex := dk_toInt v1
                by_cases ho : x < lo ∨ hi1 < x
                · obtain ⟨tq, e1, e2⟩ := dk_tg_spec hb1
                  exact lv_tableOut (x := Int32.ofInt x) hx hb hdg (by rw [ex]; exact ho) e1 (hJ b L S h (q2 ho) tq e2 H locs ls hW hS hl)
                · have n1 : lo ≤ x := by omega
                  have n2 : x ≤ hi1 := by omega
                  obtain ⟨g1, g2⟩ := dk_tgs_at offs.toList bs hb2
                  have hlt : (x - lo).toNat < offs.toList.length := by rw [Array.length_toList]; omega
                  obtain ⟨b2, e3, e4⟩ := g2 (x - lo).toNat (offs.toList[(x - lo).toNat]) (List.getElem?_eq_getElem hlt)
                  obtain ⟨tq, e1, e2⟩ := dk_tg_spec e4
                  have q4 := dk_swI _ lo q3 n1 (b2 : Int) e3
                  exact lv_tableIn (x := Int32.ofInt x) hx hb hdg (by rw [ex]; omega) (by rw [ex]; omega) (by rw [ex, ← Array.getElem?_toList]; exact List.getElem?_eq_getElem hlt) e1 (hJ b2 L S h q4 tq e2 H locs ls hW hS hl)
              · exact q.elim
            · cases hk
          case ireturn =>
            have hk2 := hk
            obtain ⟨r, hr, hk⟩ := dk_bd_inv hk
            cases hk
            rcases dk_rt_inv hr with ⟨-, rfl⟩ | ⟨-, rfl⟩
            · have hlen : len = 1 := hlen.resolve_left (by simp [dk_isT])
              subst hlen
              exact hR pc _ _ is J L S h hdg hk2 (Or.inl rfl) q
            · have hlen : len = 1 := hlen.resolve_left (by simp [dk_isT])
              subst hlen
              exact hR pc _ _ is J L S h hdg hk2 (Or.inr (Or.inl rfl)) q
          case areturn =>
            have hk2 := hk
            simp only [dk_k] at hk
            split at hk
            · cases hk
              have hlen : len = 1 := hlen.resolve_left (by simp [dk_isT])
              subst hlen
              exact hR pc _ _ is J L S h hdg hk2 (Or.inr (Or.inr (Or.inl rfl))) q
            · cases hk
          case return_ =>
            have hk2 := hk
            simp only [dk_k] at hk
            split at hk
            · cases hk
              have hlen : len = 1 := hlen.resolve_left (by simp [dk_isT])
              subst hlen
              exact hR pc _ _ is J L S h hdg hk2 (Or.inr (Or.inr (Or.inr rfl))) q
            · cases hk
          case bipush =>
            simp only [dk_k] at hk
            split at hk <;> cases hk
            cases hi
          case sipush =>
            simp only [dk_k] at hk
            split at hk <;> cases hk
            cases hi
          case ldc =>
            simp only [dk_k] at hk
            split at hk
            · cases hk; cases hi
            · obtain ⟨k, hk1, hk⟩ := dk_bd_inv hk
              cases hk
              cases hi
          case ldc_w =>
            obtain ⟨k, hk1, hk⟩ := dk_bd_inv hk
            cases hk
            cases hi
          case ldc2_w =>
            obtain ⟨k, hk1, hk⟩ := dk_bd_inv hk
            cases hk
            cases hi
          case getfield =>
            obtain ⟨k, hk1, hk⟩ := dk_bd_inv hk
            cases hk
            cases hi
          case getstatic =>
            obtain ⟨k, hk1, hk⟩ := dk_bd_inv hk
            cases hk
            cases hi
          case putfield =>
            obtain ⟨k, hk1, hk⟩ := dk_bd_inv hk
            split at hk
            · rename_i hd
              cases hk
              rcases hd with hd | hd | hd | hd <;> rw [hd] at hi <;> cases hi
            · cases hk
          all_goals (first | (cases hk; done) | (cases hk; cases hi; done))
      · cases hck
/-- from a block's start -/
theorem dk_sound (hx : p.tables.exec = Jvm.exec) (hb : c.code = cc) (hown : s.vm.findClass own = some m.cls) (hts : ∀ w ∈ Ts, w.before args s = true)
    (hF : dk_Fx ad dA D N A cl ro s) (hT : dk_Tok ad A cl own Ts args s T.1) (hM : dk_monoG G)
    (hC : ∀ i kd j, dk_lk T.2.1 i = some (kd, j) → ∃ n Sm, dk_nth G j = some (n, Sm) ∧ dk_Cok p l e R s m args below meth c cells slots Q ad dA D N A cl ro nL cc kd i n Sm)
    (hR : ∀ (pc : Nat) (ins : Instr) (n : dk_N) (is : List dk_N) (J : Nat → dk_L → List dk_V → dk_H → Prop) (L : dk_L) (S : List dk_V) (h : dk_H), decode cc pc = .ok (ins, 1) → dk_k T pc ins = some n → dk_isR n → dk_r G Rq J (n :: is) L S h → dk_Go p l e R s m args below meth c cells slots Q ad dA D N A cl ro nL pc L S h)
    {tb : dk_T} (hck : dk_ckT T cc nL T.2.2.1 tb = true) {b : Nat} {L : dk_L} {S : List dk_V} {h : dk_H} (q : dk_WP G tb Rq b L S h) {pc : Nat} (hpc : dk_nth T.2.2.1 b = some pc) :
    dk_Go p l e R s m args below meth c cells slots Q ad dA D N A cl ro nL pc L S h := by
  refine q (fun b L S h => ∀ pc, dk_nth T.2.2.1 b = some pc → dk_Go p l e R s m args below meth c cells slots Q ad dA D N A cl ro nL pc L S h) ?_ pc hpc
  intro b L S h w pc hpc
  obtain ⟨mk1, is, e1, w⟩ := w
  obtain ⟨pc2, g1, g2, g3⟩ := dk_ckT_at _ _ hck b mk1 is e1
  cases hpc.symm.trans g1
  intro H locs ls hW hS hl
  exact dk_blockS hx hb hown hts hF hT hM hC hR (fun b L S h z q hq => z q hq) is pc _ S h g3 w H locs ls hW hS (dk_ls_mask g2 hl)
end DKB
end
section
/-! CONTRACTS: a method of the pure machine as a contract of the real one; calls -/
/-- what stays over all calls: sorts, rows that nobody writes, statics, texts, nest words, what the texts hold -/
def dk_Dy (ad : Nat → Nat) (A : Nat → Prop) (zs : List (String × String × String × Nat)) (rs : List (String × Nat × String × Nat)) (nF : List (String × Nat × String × String × String × String)) (nM : List (String × Nat × MethodName × String)) (ln : List Nat) (by1 : List (List Int32)) (adV : Nat → Nat) (k0 : Nat) (zi : List (String × String × String × Int32)) (zr : List (String × String × String)) (U : State) : Prop :=
  (∀ q ∈ zs, va_Z q.1 q.2.1 q.2.2.1 (.ref (ad q.2.2.2)) A U U.heap) ∧ (∀ q ∈ rs, vk_R q.1 q.2.1 q.2.2.1 (ad q.2.2.2) U) ∧ (∀ q ∈ nF, va_Nw (.fieldLinkNest q.1 q.2.1 q.2.2.1 q.2.2.2.1 q.2.2.2.2.1 q.2.2.2.2.2) U) ∧ (∀ q ∈ nM, va_Nw (.methodLinkNest q.1 q.2.1 q.2.2.1 q.2.2.2) U) ∧ vk_S ln.length ln by1 (fun i => ad (k0 + i)) adV A U U.heap ∧ (∀ q ∈ zi, va_Z q.1 q.2.1 q.2.2.1 (.int q.2.2.2) A U U.heap) ∧ (∀ q ∈ zr, va_Zq q.1 q.2.1 q.2.2 A U U.heap)
section DYM
variable {ad : Nat → Nat} {A : Nat → Prop} {zs : List (String × String × String × Nat)} {rs : List (String × Nat × String × Nat)} {nF : List (String × Nat × String × String × String × String)} {nM : List (String × Nat × MethodName × String)} {ln : List Nat} {by1 : List (List Int32)} {adV : Nat → Nat} {k0 : Nat} {zi : List (String × String × String × Int32)} {zr : List (String × String × String)} {s U : State}
theorem dk_Dy_warm (hW : s.WarmedH U.vm) (hq : ∀ a : Nat, a < s.heap.size → ¬ A a → U.heap[a]? = s.heap[a]?) (h : dk_Dy ad A zs rs nF nM ln by1 adV k0 zi zr s) : dk_Dy ad A zs rs nF nM ln by1 adV k0 zi zr U := by
  obtain ⟨h1, h2, h3, h4, h5, h6, h7⟩ := h
  exact ⟨fun q m => ((h1 q m).moved hW.alike).kept hq, fun q m => (h2 q m).warm hW, fun q m => (h3 q m).warmF hW, fun q m => (h4 q m).warmM hW, (h5.moved hW.alike).kept hq, fun q m => ((h6 q m).moved hW.alike).kept hq, fun q m => ((h7 q m).moved hW.alike).kept hq⟩
theorem dk_Dy_same (hv : U.vm = s.vm) (hh : U.heap = s.heap) (h : dk_Dy ad A zs rs nF nM ln by1 adV k0 zi zr s) : dk_Dy ad A zs rs nF nM ln by1 adV k0 zi zr U := by
  obtain ⟨h1, h2, h3, h4, h5, h6, h7⟩ := h
  have ha : s.vm.Alike U.vm := by rw [hv]; exact Vm.Alike.refl _
  have hq : ∀ a : Nat, a < s.heap.size → ¬ A a → U.heap[a]? = s.heap[a]? := fun a _ _ => by rw [hh]
  exact ⟨fun q m => ((h1 q m).moved ha).kept hq, fun q m => (h2 q m).same hv, fun q m => (h3 q m).same rfl hv.symm, fun q m => (h4 q m).same rfl hv.symm, (h5.moved ha).kept hq, fun q m => ((h6 q m).moved ha).kept hq, fun q m => ((h7 q m).moved ha).kept hq⟩
end DYM
theorem dk_Fx_moved {ad : Nat → Nat} {dA : Nat → ClassId} {D : va_G} {N : Nat} {A : Nat → Prop} {cl : List vw_C} {ro : dk_H} {s U : State} (ha : s.vm.Alike U.vm) (hq : ∀ a : Nat, a < s.heap.size → ¬ A a → U.heap[a]? = s.heap[a]?) (h : dk_Fx ad dA D N A cl ro s) : dk_Fx ad dA D N A cl ro U := by
  obtain ⟨h1, h2, h3⟩ := h
  refine ⟨h1.moved ha, h2, fun k hk => ?_⟩
  rcases h3 k hk with ⟨n, f, e1, e2⟩ | h4
  · exact Or.inl ⟨n, f, e1, (e2.moved ha).kept hq⟩
  · exact Or.inr h4
end
section
/-! NAMES: the classes, their fields, the words -/
def dk_TB : List Cond := lw_tbl.filter goodWord
theorem dk_tb {w : Cond} (i : Nat) (h : lw_tbl[i]? = some w) (hg : goodWord w = true) : w ∈ dk_TB := List.mem_filter.mpr ⟨List.mem_of_getElem? h, hg⟩
theorem dk_TB_good {w : Cond} (h : w ∈ dk_TB) : goodWord w = true := (List.mem_filter.mp h).2
theorem dk_TB_in {w : Cond} (h : w ∈ dk_TB) : w ∈ lw_tbl := (List.mem_filter.mp h).1
def nn_R0 : String := "LongColumn$Column"
def nn_T0 : u_T := fun k => match k with
  | 0 => ("LongColumn$Column", "rules", "[I", true)
  | 1 => ("LongColumn$Column", "ranks", "I", false)
  | 2 => ("LongColumn$Column", "kind", "[I", true)
  | 3 => ("LongColumn$Column", "at", "[I", true)
  | 4 => ("LongColumn$Column", "part", "[I", true)
  | 5 => ("LongColumn$Column", "share", "[I", true)
  | 6 => ("LongColumn$Column", "drift", "[I", true)
  | 7 => ("LongColumn$Column", "out", "[I", true)
  | 8 => ("LongColumn$Column", "drums", "I", false)
  | 9 => ("LongColumn$Column", "drumAt", "[I", true)
  | 10 => ("LongColumn$Column", "drumLoud", "[I", true)
  | 11 => ("LongColumn$Column", "drumAhead", "[I", true)
  | 12 => ("LongColumn$Column", "bends", "I", false)
  | 13 => ("LongColumn$Column", "bendAt", "[I", true)
  | 14 => ("LongColumn$Column", "spots", "[I", true)
  | _ => ("LongColumn$Column", "z", "I", false)
def nn_y0 : Nat → FieldType := fun k => match k with
  | 0 => .array .int
  | 1 => .int
  | 2 => .array .int
  | 3 => .array .int
  | 4 => .array .int
  | 5 => .array .int
  | 6 => .array .int
  | 7 => .array .int
  | 8 => .int
  | 9 => .array .int
  | 10 => .array .int
  | 11 => .array .int
  | 12 => .int
  | 13 => .array .int
  | 14 => .array .int
  | _ => .int
theorem nn_n0 : ∀ a, a < 16 → ∀ b, b < 16 → a ≠ b → (nn_T0 a).2.1 ≠ (nn_T0 b).2.1 := by decide +kernel
theorem nn_ok0 : ∀ k, k < 16 → parseFieldDescriptor (nn_T0 k).2.2.1 = some (nn_y0 k) := by decide +kernel
theorem nn_w0 : ∀ w ∈ u_ws nn_R0 nn_T0 16, w ∈ dk_TB := by
  have h : ∀ w ∈ u_ws nn_R0 nn_T0 16, w ∈ lw_tbl ∧ goodWord w = true := by decide +kernel
  exact fun w hw => List.mem_filter.mpr (h w hw)
def nn_R1 : String := "LongColumn$Senses"
def nn_T1 : u_T := fun k => match k with
  | 0 => ("LongColumn$Senses", "column", "LLongColumn$Column;", true)
  | 1 => ("LongColumn$Senses", "pace", "I", false)
  | 2 => ("LongColumn$Senses", "beat", "[I", true)
  | 3 => ("LongColumn$Senses", "sees", "[Z", true)
  | 4 => ("LongColumn$Senses", "near", "[I", true)
  | _ => ("LongColumn$Senses", "felt", "[I", true)
def nn_y1 : Nat → FieldType := fun k => match k with
  | 0 => .object "LongColumn$Column"
  | 1 => .int
  | 2 => .array .int
  | 3 => .array .boolean
  | 4 => .array .int
  | _ => .array .int
theorem nn_n1 : ∀ a, a < 6 → ∀ b, b < 6 → a ≠ b → (nn_T1 a).2.1 ≠ (nn_T1 b).2.1 := by decide +kernel
theorem nn_ok1 : ∀ k, k < 6 → parseFieldDescriptor (nn_T1 k).2.2.1 = some (nn_y1 k) := by decide +kernel
theorem nn_w1 : ∀ w ∈ u_ws nn_R1 nn_T1 6, w ∈ dk_TB := by
  have h : ∀ w ∈ u_ws nn_R1 nn_T1 6, w ∈ lw_tbl ∧ goodWord w = true := by decide +kernel
  exact fun w hw => List.mem_filter.mpr (h w hw)
def nn_R2 : String := "LongColumn$Sheet"
def nn_T2 : u_T := fun k => match k with
  | 0 => ("LongColumn$Sheet", "bits", "I", false)
  | 1 => ("LongColumn$Sheet", "size", "I", false)
  | _ => ("LongColumn$Sheet", "numbers", "[I", true)
def nn_y2 : Nat → FieldType := fun k => match k with
  | 0 => .int
  | 1 => .int
  | _ => .array .int
theorem nn_n2 : ∀ a, a < 3 → ∀ b, b < 3 → a ≠ b → (nn_T2 a).2.1 ≠ (nn_T2 b).2.1 := by decide +kernel
theorem nn_ok2 : ∀ k, k < 3 → parseFieldDescriptor (nn_T2 k).2.2.1 = some (nn_y2 k) := by decide +kernel
theorem nn_w2 : ∀ w ∈ u_ws nn_R2 nn_T2 3, w ∈ dk_TB := by
  have h : ∀ w ∈ u_ws nn_R2 nn_T2 3, w ∈ lw_tbl ∧ goodWord w = true := by decide +kernel
  exact fun w hw => List.mem_filter.mpr (h w hw)
def nn_R3 : String := "LongColumn$TextReader"
def nn_T3 : u_T := fun k => match k with
  | 0 => ("LongColumn$TextReader", "tape", "[I", true)
  | 1 => ("LongColumn$TextReader", "length", "I", false)
  | 2 => ("LongColumn$TextReader", "groups", "I", false)
  | 3 => ("LongColumn$TextReader", "ranks", "I", false)
  | 4 => ("LongColumn$TextReader", "read", "[I", true)
  | 5 => ("LongColumn$TextReader", "token", "I", false)
  | 6 => ("LongColumn$TextReader", "start", "I", false)
  | 7 => ("LongColumn$TextReader", "end", "I", false)
  | _ => ("LongColumn$TextReader", "number", "I", false)
def nn_y3 : Nat → FieldType := fun k => match k with
  | 0 => .array .int
  | 1 => .int
  | 2 => .int
  | 3 => .int
  | 4 => .array .int
  | 5 => .int
  | 6 => .int
  | 7 => .int
  | _ => .int
theorem nn_n3 : ∀ a, a < 9 → ∀ b, b < 9 → a ≠ b → (nn_T3 a).2.1 ≠ (nn_T3 b).2.1 := by decide +kernel
theorem nn_ok3 : ∀ k, k < 9 → parseFieldDescriptor (nn_T3 k).2.2.1 = some (nn_y3 k) := by decide +kernel
theorem nn_w3 : ∀ w ∈ u_ws nn_R3 nn_T3 9, w ∈ dk_TB := by
  have h : ∀ w ∈ u_ws nn_R3 nn_T3 9, w ∈ lw_tbl ∧ goodWord w = true := by decide +kernel
  exact fun w hw => List.mem_filter.mpr (h w hw)
def nn_R4 : String := "LongColumn$Walk"
def nn_T4 : u_T := fun k => match k with
  | 0 => ("LongColumn$Walk", "column", "LLongColumn$Column;", true)
  | 1 => ("LongColumn$Walk", "senses", "LLongColumn$Senses;", true)
  | 2 => ("LongColumn$Walk", "outs", "[I", false)
  | _ => ("LongColumn$Walk", "next", "[I", false)
def nn_y4 : Nat → FieldType := fun k => match k with
  | 0 => .object "LongColumn$Column"
  | 1 => .object "LongColumn$Senses"
  | 2 => .array .int
  | _ => .array .int
theorem nn_n4 : ∀ a, a < 4 → ∀ b, b < 4 → a ≠ b → (nn_T4 a).2.1 ≠ (nn_T4 b).2.1 := by decide +kernel
theorem nn_ok4 : ∀ k, k < 4 → parseFieldDescriptor (nn_T4 k).2.2.1 = some (nn_y4 k) := by decide +kernel
theorem nn_w4 : ∀ w ∈ u_ws nn_R4 nn_T4 4, w ∈ dk_TB := by
  have h : ∀ w ∈ u_ws nn_R4 nn_T4 4, w ∈ lw_tbl ∧ goodWord w = true := by decide +kernel
  exact fun w hw => List.mem_filter.mpr (h w hw)
def nn_R5 : String := "LongColumn"
def nn_T5 : u_T := fun k => match k with
  | 0 => ("LongColumn", "now", "LLongColumn$Column;", true)
  | 1 => ("LongColumn", "kept", "LLongColumn$Column;", true)
  | 2 => ("LongColumn", "isKept", "Z", false)
  | 3 => ("LongColumn", "reader", "LLongColumn$TextReader;", true)
  | 4 => ("LongColumn", "sheets", "[LLongColumn$Sheet;", true)
  | 5 => ("LongColumn", "senses", "LLongColumn$Senses;", true)
  | 6 => ("LongColumn", "plain", "LLongColumn$Walk;", true)
  | 7 => ("LongColumn", "slipped", "LLongColumn$Walk;", true)
  | 8 => ("LongColumn", "past", "[I", true)
  | 9 => ("LongColumn", "beginnings", "[I", true)
  | _ => ("LongColumn", "findings", "[I", true)
def nn_y5 : Nat → FieldType := fun k => match k with
  | 0 => .object "LongColumn$Column"
  | 1 => .object "LongColumn$Column"
  | 2 => .boolean
  | 3 => .object "LongColumn$TextReader"
  | 4 => .array (.object "LongColumn$Sheet")
  | 5 => .object "LongColumn$Senses"
  | 6 => .object "LongColumn$Walk"
  | 7 => .object "LongColumn$Walk"
  | 8 => .array .int
  | 9 => .array .int
  | _ => .array .int
theorem nn_n5 : ∀ a, a < 11 → ∀ b, b < 11 → a ≠ b → (nn_T5 a).2.1 ≠ (nn_T5 b).2.1 := by decide +kernel
theorem nn_ok5 : ∀ k, k < 11 → parseFieldDescriptor (nn_T5 k).2.2.1 = some (nn_y5 k) := by decide +kernel
theorem nn_w5 : ∀ w ∈ u_ws nn_R5 nn_T5 11, w ∈ dk_TB := by
  have h : ∀ w ∈ u_ws nn_R5 nn_T5 11, w ∈ lw_tbl ∧ goodWord w = true := by decide +kernel
  exact fun w hw => List.mem_filter.mpr (h w hw)
def nn_R6 : String := "LongColumnModel"
def nn_T6 : u_T := fun k => match k with
  | 0 => ("LongColumnModel", "rules", "[I", true)
  | 1 => ("LongColumnModel", "least", "[I", true)
  | 2 => ("LongColumnModel", "most", "[I", true)
  | 3 => ("LongColumnModel", "ranks", "I", false)
  | 4 => ("LongColumnModel", "rank", "[I", true)
  | 5 => ("LongColumnModel", "out", "[I", true)
  | 6 => ("LongColumnModel", "drums", "I", false)
  | 7 => ("LongColumnModel", "drum", "[I", true)
  | 8 => ("LongColumnModel", "bends", "I", false)
  | 9 => ("LongColumnModel", "bend", "[I", true)
  | 10 => ("LongColumnModel", "z", "I", false)
  | 11 => ("LongColumnModel", "spots", "[I", true)
  | 12 => ("LongColumnModel", "findings", "[I", true)
  | 13 => ("LongColumnModel", "tape", "[I", true)
  | 14 => ("LongColumnModel", "tapeMany", "I", false)
  | 15 => ("LongColumnModel", "begins", "I", false)
  | 16 => ("LongColumnModel", "ends", "I", false)
  | 17 => ("LongColumnModel", "sort", "I", false)
  | 18 => ("LongColumnModel", "word", "J", false)
  | 19 => ("LongColumnModel", "value", "I", false)
  | 20 => ("LongColumnModel", "good", "Z", false)
  | 21 => ("LongColumnModel", "groups", "[I", true)
  | 22 => ("LongColumnModel", "groupMany", "I", false)
  | 23 => ("LongColumnModel", "row", "[I", true)
  | 24 => ("LongColumnModel", "next", "[I", true)
  | 25 => ("LongColumnModel", "told", "[I", true)
  | 26 => ("LongColumnModel", "even", "[I", true)
  | 27 => ("LongColumnModel", "begun", "[I", true)
  | 28 => ("LongColumnModel", "does", "[Z", true)
  | 29 => ("LongColumnModel", "bits", "[I", true)
  | 30 => ("LongColumnModel", "sizes", "[I", true)
  | 31 => ("LongColumnModel", "sheets", "[I", true)
  | 32 => ("LongColumnModel", "carried", "[I", true)
  | 33 => ("LongColumnModel", "isKept", "Z", false)
  | 34 => ("LongColumnModel", "kept", "[I", true)
  | 35 => ("LongColumnModel", "movedTo", "I", false)
  | _ => ("LongColumnModel", "single", "[I", true)
def nn_y6 : Nat → FieldType := fun k => match k with
  | 0 => .array .int
  | 1 => .array .int
  | 2 => .array .int
  | 3 => .int
  | 4 => .array .int
  | 5 => .array .int
  | 6 => .int
  | 7 => .array .int
  | 8 => .int
  | 9 => .array .int
  | 10 => .int
  | 11 => .array .int
  | 12 => .array .int
  | 13 => .array .int
  | 14 => .int
  | 15 => .int
  | 16 => .int
  | 17 => .int
  | 18 => .long
  | 19 => .int
  | 20 => .boolean
  | 21 => .array .int
  | 22 => .int
  | 23 => .array .int
  | 24 => .array .int
  | 25 => .array .int
  | 26 => .array .int
  | 27 => .array .int
  | 28 => .array .boolean
  | 29 => .array .int
  | 30 => .array .int
  | 31 => .array .int
  | 32 => .array .int
  | 33 => .boolean
  | 34 => .array .int
  | 35 => .int
  | _ => .array .int
theorem nn_n6 : ∀ a, a < 37 → ∀ b, b < 37 → a ≠ b → (nn_T6 a).2.1 ≠ (nn_T6 b).2.1 := by decide +kernel
theorem nn_ok6 : ∀ k, k < 37 → parseFieldDescriptor (nn_T6 k).2.2.1 = some (nn_y6 k) := by decide +kernel
theorem nn_w6 : ∀ w ∈ u_ws nn_R6 nn_T6 37, w ∈ dk_TB := by
  have h : ∀ w ∈ u_ws nn_R6 nn_T6 37, w ∈ lw_tbl ∧ goodWord w = true := by decide +kernel
  exact fun w hw => List.mem_filter.mpr (h w hw)
def dk_cl : List vw_C := [(nn_R0, nn_T0, 16), (nn_R1, nn_T1, 6), (nn_R2, nn_T2, 3), (nn_R3, nn_T3, 9), (nn_R4, nn_T4, 4), (nn_R5, nn_T5, 11), (nn_R6, nn_T6, 37)]
end
section
/-! CLASS TABLES: entries of the constant pools -/
def dk_zs : List (String × String × String × Nat) := [("LongColumn", "RULE_LEAST", "[I", 101), ("LongColumn", "RULE_MOST", "[I", 102), ("LongColumn", "UNDER", "[I", 103)]
def dk_rs : List (String × Nat × String × Nat) := [("LongColumn$TextReader", 85, "keep", 110), ("LongColumn$TextReader", 87, "ear", 111), ("LongColumn$TextReader", 89, "eye", 112), ("LongColumn$TextReader", 91, "mix", 113), ("LongColumn$TextReader", 93, "feet", 114), ("LongColumn$TextReader", 95, "told", 115), ("LongColumn$TextReader", 97, "free", 116), ("LongColumn$TextReader", 59, "every", 117), ("LongColumn$TextReader", 75, "part", 118), ("LongColumn$TextReader", 77, "share", 119), ("LongColumn$TextReader", 79, "drift", 120)]
def dk_nF : List (String × Nat × String × String × String × String) := [("LongColumn$Walk", 47, "LongColumn$Senses", "pace", "I", "LongColumn"), ("LongColumn", 187, "LongColumn$Walk", "outs", "[I", "LongColumn")]
def dk_nM : List (String × Nat × MethodName × String) := [("LongColumn$Column", 81, ⟨"LongColumn", "wrapped", "(II)I"⟩, "LongColumn"), ("LongColumn$Senses", 88, ⟨"LongColumn", "wrapped", "(II)I"⟩, "LongColumn"), ("LongColumn$Walk", 50, ⟨"LongColumn", "wrapped", "(II)I"⟩, "LongColumn")]
def dk_sl : List Nat := [4, 3, 3, 3, 4, 4, 4, 5, 4, 5, 5]
def dk_by : List (List Int32) := [[107, 101, 101, 112], [101, 97, 114], [101, 121, 101], [109, 105, 120], [102, 101, 101, 116], [116, 111, 108, 100], [102, 114, 101, 101], [101, 118, 101, 114, 121], [112, 97, 114, 116], [115, 104, 97, 114, 101], [100, 114, 105, 102, 116]]
def dk_zi : List (String × String × String × Int32) := [("java/lang/String", "COMPACT_STRINGS", "Z", 1)]
def dk_zr : List (String × String × String) := [("jdk/internal/util/Preconditions", "SIOOBE_FORMATTER", "Ljava/util/function/BiFunction;")]
abbrev dk_DD (ad : Nat → Nat) (A : Nat → Prop) (adV : Nat → Nat) (U : State) : Prop := dk_Dy ad A dk_zs dk_rs dk_nF dk_nM dk_sl dk_by adV 110 dk_zi dk_zr U
theorem dk_lk_mem {α : Type} : ∀ {l : List (Nat × α)} {i : Nat} {a : α}, dk_lk l i = some a → (i, a) ∈ l
  | [], i, a, h => by simp [dk_lk] at h
  | (k, b) :: l, i, a, h => by
    unfold dk_lk at h
    split at h
    · rename_i e; cases h; subst e; exact List.mem_cons_self
    · exact List.mem_cons_of_mem _ (dk_lk_mem h)
theorem dk_ac {α : Type} {P : α → Prop} {a : α} {l : List α} (h1 : P a) (h2 : ∀ x ∈ l, P x) : ∀ x ∈ a :: l, P x := List.forall_mem_cons.mpr ⟨h1, h2⟩
theorem dk_an {α : Type} {P : α → Prop} : ∀ x ∈ ([] : List α), P x := fun _ h => absurd h List.not_mem_nil
def tc_0_f : List (Nat × Nat × Nat) := [(18, 0, 0), (23, 0, 1), (27, 0, 2), (30, 0, 3), (33, 0, 4), (36, 0, 5), (39, 0, 6), (42, 0, 7), (45, 0, 8), (48, 0, 9), (51, 0, 10), (54, 0, 11), (57, 0, 12), (60, 0, 13), (63, 0, 14), (66, 0, 15)]
def tc_0_p : List (Nat × Nat × Nat × Nat) := [(23, 1, 0, 1), (45, 1, 0, 8), (57, 1, 0, 12), (66, 1, 0, 15)]
def tc_0_s : List (Nat × Nat) := []
def tc_0 : dk_Tc := (tc_0_f, tc_0_p, [(105, -2000000000), (112, 1103515245)], [], tc_0_s, [])
set_option maxRecDepth 20000 in
theorem tok_0 {ad : Nat → Nat} {A : Nat → Prop} {adV : Nat → Nat} {args : Array Value} {s : State} (hts : ∀ w ∈ dk_TB, w.before args s = true) (hd : dk_DD ad A adV s) : dk_Tok ad A dk_cl nn_R0 dk_TB args s tc_0 := by
  have h1 : ∀ q ∈ tc_0_f, ∃ (C : String) (F : u_T) (n : Nat), dk_cl[q.2.1]? = some (C, F, n) ∧ q.2.2 < n ∧ (∀ w ∈ u_ws C F n, w ∈ dk_TB) ∧ ((Cond.fieldLink nn_R0 q.1 (F q.2.2).1 (F q.2.2).2.1 (F q.2.2).2.2.1).before args s = true ∨ ∃ host, (Cond.fieldLinkNest nn_R0 q.1 (F q.2.2).1 (F q.2.2).2.1 (F q.2.2).2.2.1 host).before args s = true) :=
    dk_ac ⟨nn_R0, nn_T0, 16, rfl, by decide, nn_w0, Or.inl (hts _ (dk_tb 97 rfl rfl))⟩
    (dk_ac ⟨nn_R0, nn_T0, 16, rfl, by decide, nn_w0, Or.inl (hts _ (dk_tb 100 rfl rfl))⟩
    (dk_ac ⟨nn_R0, nn_T0, 16, rfl, by decide, nn_w0, Or.inl (hts _ (dk_tb 104 rfl rfl))⟩
    (dk_ac ⟨nn_R0, nn_T0, 16, rfl, by decide, nn_w0, Or.inl (hts _ (dk_tb 107 rfl rfl))⟩
    (dk_ac ⟨nn_R0, nn_T0, 16, rfl, by decide, nn_w0, Or.inl (hts _ (dk_tb 110 rfl rfl))⟩
    (dk_ac ⟨nn_R0, nn_T0, 16, rfl, by decide, nn_w0, Or.inl (hts _ (dk_tb 113 rfl rfl))⟩
    (dk_ac ⟨nn_R0, nn_T0, 16, rfl, by decide, nn_w0, Or.inl (hts _ (dk_tb 116 rfl rfl))⟩
    (dk_ac ⟨nn_R0, nn_T0, 16, rfl, by decide, nn_w0, Or.inl (hts _ (dk_tb 119 rfl rfl))⟩
    (dk_ac ⟨nn_R0, nn_T0, 16, rfl, by decide, nn_w0, Or.inl (hts _ (dk_tb 122 rfl rfl))⟩
    (dk_ac ⟨nn_R0, nn_T0, 16, rfl, by decide, nn_w0, Or.inl (hts _ (dk_tb 124 rfl rfl))⟩
    (dk_ac ⟨nn_R0, nn_T0, 16, rfl, by decide, nn_w0, Or.inl (hts _ (dk_tb 126 rfl rfl))⟩
    (dk_ac ⟨nn_R0, nn_T0, 16, rfl, by decide, nn_w0, Or.inl (hts _ (dk_tb 128 rfl rfl))⟩
    (dk_ac ⟨nn_R0, nn_T0, 16, rfl, by decide, nn_w0, Or.inl (hts _ (dk_tb 130 rfl rfl))⟩
    (dk_ac ⟨nn_R0, nn_T0, 16, rfl, by decide, nn_w0, Or.inl (hts _ (dk_tb 132 rfl rfl))⟩
    (dk_ac ⟨nn_R0, nn_T0, 16, rfl, by decide, nn_w0, Or.inl (hts _ (dk_tb 134 rfl rfl))⟩
    (dk_ac ⟨nn_R0, nn_T0, 16, rfl, by decide, nn_w0, Or.inl (hts _ (dk_tb 136 rfl rfl))⟩
    (dk_an))))))))))))))))
  have h2 : ∀ q ∈ tc_0_p, ∃ (C : String) (F : u_T) (n : Nat) (ty0 : Nat → FieldType) (ty : FieldType), dk_cl[q.2.2.1]? = some (C, F, n) ∧ q.2.2.2 < n ∧ (∀ w ∈ u_ws C F n, w ∈ dk_TB) ∧ (Cond.fieldLink nn_R0 q.1 (F q.2.2.2).1 (F q.2.2.2).2.1 (F q.2.2.2).2.2.1).before args s = true ∧ (∀ k, k < n → parseFieldDescriptor (F k).2.2.1 = some (ty0 k)) ∧ (∀ a, a < n → ∀ b, b < n → a ≠ b → (F a).2.1 ≠ (F b).2.1) ∧ (F q.2.2.2).2.2.2 = false ∧ parseFieldDescriptor (F q.2.2.2).2.2.1 = some ty ∧ (q.2.1 = 1 → ty = .int) ∧ (q.2.1 = 2 → ty = .boolean) ∧ (q.2.1 = 3 → ty = .array .int) ∧ (q.2.1 = 4 → ty = .long) :=
    dk_ac ⟨nn_R0, nn_T0, 16, nn_y0, .int, rfl, by decide, nn_w0, hts _ (dk_tb 100 rfl rfl), nn_ok0, nn_n0, rfl, by decide +kernel, fun _ => rfl, fun z => absurd z (by decide), fun z => absurd z (by decide), fun z => absurd z (by decide)⟩
    (dk_ac ⟨nn_R0, nn_T0, 16, nn_y0, .int, rfl, by decide, nn_w0, hts _ (dk_tb 122 rfl rfl), nn_ok0, nn_n0, rfl, by decide +kernel, fun _ => rfl, fun z => absurd z (by decide), fun z => absurd z (by decide), fun z => absurd z (by decide)⟩
    (dk_ac ⟨nn_R0, nn_T0, 16, nn_y0, .int, rfl, by decide, nn_w0, hts _ (dk_tb 130 rfl rfl), nn_ok0, nn_n0, rfl, by decide +kernel, fun _ => rfl, fun z => absurd z (by decide), fun z => absurd z (by decide), fun z => absurd z (by decide)⟩
    (dk_ac ⟨nn_R0, nn_T0, 16, nn_y0, .int, rfl, by decide, nn_w0, hts _ (dk_tb 136 rfl rfl), nn_ok0, nn_n0, rfl, by decide +kernel, fun _ => rfl, fun z => absurd z (by decide), fun z => absurd z (by decide), fun z => absurd z (by decide)⟩
    (dk_an))))
  have h3 : ∀ q ∈ ([(105, -2000000000), (112, 1103515245)] : List (Nat × Int)), (Cond.constant nn_R0 q.1 (Int32.ofInt q.2)).before args s = true :=
    dk_ac (hts _ (dk_tb 494 rfl rfl))
    (dk_ac (hts _ (dk_tb 742 rfl rfl))
    (dk_an))
  have h4 : ∀ q ∈ ([] : List (Nat × Int)), (Cond.constantLong nn_R0 q.1 (Int64.ofInt q.2)).before args s = true :=
    dk_an
  have h5 : ∀ q ∈ tc_0_s, ∃ C n d, va_Z C n d (.ref (ad q.2)) A s s.heap ∧ (Cond.fieldLink nn_R0 q.1 C n d).before args s = true :=
    dk_an
  have h6 : ∀ q ∈ ([] : List (Nat × Nat)), ∃ tx, vk_R nn_R0 q.1 tx (ad q.2) s :=
    dk_an
  exact ⟨fun i ci k h => h1 _ (dk_lk_mem h), fun i kd ci k h => h2 _ (dk_lk_mem h), fun i v h => h3 _ (dk_lk_mem h), fun i v h => h4 _ (dk_lk_mem h), fun i k h => h5 _ (dk_lk_mem h), fun i k h => h6 _ (dk_lk_mem h)⟩
def tc_1_f : List (Nat × Nat × Nat) := [(36, 0, 0), (44, 0, 1), (51, 0, 2), (62, 0, 3), (94, 0, 4), (82, 0, 5), (91, 0, 6), (32, 1, 0), (13, 1, 1), (19, 1, 2), (22, 1, 3), (26, 1, 4), (29, 1, 5)]
def tc_1_p : List (Nat × Nat × Nat × Nat) := [(44, 1, 0, 1), (13, 1, 1, 1)]
def tc_1_s : List (Nat × Nat) := []
def tc_1 : dk_Tc := (tc_1_f, tc_1_p, [(74, -2000000000)], [], tc_1_s, [])
set_option maxRecDepth 20000 in
theorem tok_1 {ad : Nat → Nat} {A : Nat → Prop} {adV : Nat → Nat} {args : Array Value} {s : State} (hts : ∀ w ∈ dk_TB, w.before args s = true) (hd : dk_DD ad A adV s) : dk_Tok ad A dk_cl nn_R1 dk_TB args s tc_1 := by
  have h1 : ∀ q ∈ tc_1_f, ∃ (C : String) (F : u_T) (n : Nat), dk_cl[q.2.1]? = some (C, F, n) ∧ q.2.2 < n ∧ (∀ w ∈ u_ws C F n, w ∈ dk_TB) ∧ ((Cond.fieldLink nn_R1 q.1 (F q.2.2).1 (F q.2.2).2.1 (F q.2.2).2.2.1).before args s = true ∨ ∃ host, (Cond.fieldLinkNest nn_R1 q.1 (F q.2.2).1 (F q.2.2).2.1 (F q.2.2).2.2.1 host).before args s = true) :=
    dk_ac ⟨nn_R0, nn_T0, 16, rfl, by decide, nn_w0, Or.inl (hts _ (dk_tb 98 rfl rfl))⟩
    (dk_ac ⟨nn_R0, nn_T0, 16, rfl, by decide, nn_w0, Or.inl (hts _ (dk_tb 101 rfl rfl))⟩
    (dk_ac ⟨nn_R0, nn_T0, 16, rfl, by decide, nn_w0, Or.inl (hts _ (dk_tb 105 rfl rfl))⟩
    (dk_ac ⟨nn_R0, nn_T0, 16, rfl, by decide, nn_w0, Or.inl (hts _ (dk_tb 108 rfl rfl))⟩
    (dk_ac ⟨nn_R0, nn_T0, 16, rfl, by decide, nn_w0, Or.inl (hts _ (dk_tb 111 rfl rfl))⟩
    (dk_ac ⟨nn_R0, nn_T0, 16, rfl, by decide, nn_w0, Or.inl (hts _ (dk_tb 114 rfl rfl))⟩
    (dk_ac ⟨nn_R0, nn_T0, 16, rfl, by decide, nn_w0, Or.inl (hts _ (dk_tb 117 rfl rfl))⟩
    (dk_ac ⟨nn_R1, nn_T1, 6, rfl, by decide, nn_w1, Or.inl (hts _ (dk_tb 219 rfl rfl))⟩
    (dk_ac ⟨nn_R1, nn_T1, 6, rfl, by decide, nn_w1, Or.inl (hts _ (dk_tb 220 rfl rfl))⟩
    (dk_ac ⟨nn_R1, nn_T1, 6, rfl, by decide, nn_w1, Or.inl (hts _ (dk_tb 222 rfl rfl))⟩
    (dk_ac ⟨nn_R1, nn_T1, 6, rfl, by decide, nn_w1, Or.inl (hts _ (dk_tb 223 rfl rfl))⟩
    (dk_ac ⟨nn_R1, nn_T1, 6, rfl, by decide, nn_w1, Or.inl (hts _ (dk_tb 224 rfl rfl))⟩
    (dk_ac ⟨nn_R1, nn_T1, 6, rfl, by decide, nn_w1, Or.inl (hts _ (dk_tb 225 rfl rfl))⟩
    (dk_an)))))))))))))
  have h2 : ∀ q ∈ tc_1_p, ∃ (C : String) (F : u_T) (n : Nat) (ty0 : Nat → FieldType) (ty : FieldType), dk_cl[q.2.2.1]? = some (C, F, n) ∧ q.2.2.2 < n ∧ (∀ w ∈ u_ws C F n, w ∈ dk_TB) ∧ (Cond.fieldLink nn_R1 q.1 (F q.2.2.2).1 (F q.2.2.2).2.1 (F q.2.2.2).2.2.1).before args s = true ∧ (∀ k, k < n → parseFieldDescriptor (F k).2.2.1 = some (ty0 k)) ∧ (∀ a, a < n → ∀ b, b < n → a ≠ b → (F a).2.1 ≠ (F b).2.1) ∧ (F q.2.2.2).2.2.2 = false ∧ parseFieldDescriptor (F q.2.2.2).2.2.1 = some ty ∧ (q.2.1 = 1 → ty = .int) ∧ (q.2.1 = 2 → ty = .boolean) ∧ (q.2.1 = 3 → ty = .array .int) ∧ (q.2.1 = 4 → ty = .long) :=
    dk_ac ⟨nn_R0, nn_T0, 16, nn_y0, .int, rfl, by decide, nn_w0, hts _ (dk_tb 101 rfl rfl), nn_ok0, nn_n0, rfl, by decide +kernel, fun _ => rfl, fun z => absurd z (by decide), fun z => absurd z (by decide), fun z => absurd z (by decide)⟩
    (dk_ac ⟨nn_R1, nn_T1, 6, nn_y1, .int, rfl, by decide, nn_w1, hts _ (dk_tb 220 rfl rfl), nn_ok1, nn_n1, rfl, by decide +kernel, fun _ => rfl, fun z => absurd z (by decide), fun z => absurd z (by decide), fun z => absurd z (by decide)⟩
    (dk_an))
  have h3 : ∀ q ∈ ([(74, -2000000000)] : List (Nat × Int)), (Cond.constant nn_R1 q.1 (Int32.ofInt q.2)).before args s = true :=
    dk_ac (hts _ (dk_tb 513 rfl rfl))
    (dk_an)
  have h4 : ∀ q ∈ ([] : List (Nat × Int)), (Cond.constantLong nn_R1 q.1 (Int64.ofInt q.2)).before args s = true :=
    dk_an
  have h5 : ∀ q ∈ tc_1_s, ∃ C n d, va_Z C n d (.ref (ad q.2)) A s s.heap ∧ (Cond.fieldLink nn_R1 q.1 C n d).before args s = true :=
    dk_an
  have h6 : ∀ q ∈ ([] : List (Nat × Nat)), ∃ tx, vk_R nn_R1 q.1 tx (ad q.2) s :=
    dk_an
  exact ⟨fun i ci k h => h1 _ (dk_lk_mem h), fun i kd ci k h => h2 _ (dk_lk_mem h), fun i v h => h3 _ (dk_lk_mem h), fun i v h => h4 _ (dk_lk_mem h), fun i k h => h5 _ (dk_lk_mem h), fun i k h => h6 _ (dk_lk_mem h)⟩
def tc_2_f : List (Nat × Nat × Nat) := [(9, 2, 0), (15, 2, 1), (18, 2, 2)]
def tc_2_p : List (Nat × Nat × Nat × Nat) := [(9, 1, 2, 0), (15, 1, 2, 1)]
def tc_2_s : List (Nat × Nat) := []
def tc_2 : dk_Tc := (tc_2_f, tc_2_p, [], [], tc_2_s, [])
set_option maxRecDepth 20000 in
theorem tok_2 {ad : Nat → Nat} {A : Nat → Prop} {adV : Nat → Nat} {args : Array Value} {s : State} (hts : ∀ w ∈ dk_TB, w.before args s = true) (hd : dk_DD ad A adV s) : dk_Tok ad A dk_cl nn_R2 dk_TB args s tc_2 := by
  have h1 : ∀ q ∈ tc_2_f, ∃ (C : String) (F : u_T) (n : Nat), dk_cl[q.2.1]? = some (C, F, n) ∧ q.2.2 < n ∧ (∀ w ∈ u_ws C F n, w ∈ dk_TB) ∧ ((Cond.fieldLink nn_R2 q.1 (F q.2.2).1 (F q.2.2).2.1 (F q.2.2).2.2.1).before args s = true ∨ ∃ host, (Cond.fieldLinkNest nn_R2 q.1 (F q.2.2).1 (F q.2.2).2.1 (F q.2.2).2.2.1 host).before args s = true) :=
    dk_ac ⟨nn_R2, nn_T2, 3, rfl, by decide, nn_w2, Or.inl (hts _ (dk_tb 265 rfl rfl))⟩
    (dk_ac ⟨nn_R2, nn_T2, 3, rfl, by decide, nn_w2, Or.inl (hts _ (dk_tb 267 rfl rfl))⟩
    (dk_ac ⟨nn_R2, nn_T2, 3, rfl, by decide, nn_w2, Or.inl (hts _ (dk_tb 269 rfl rfl))⟩
    (dk_an)))
  have h2 : ∀ q ∈ tc_2_p, ∃ (C : String) (F : u_T) (n : Nat) (ty0 : Nat → FieldType) (ty : FieldType), dk_cl[q.2.2.1]? = some (C, F, n) ∧ q.2.2.2 < n ∧ (∀ w ∈ u_ws C F n, w ∈ dk_TB) ∧ (Cond.fieldLink nn_R2 q.1 (F q.2.2.2).1 (F q.2.2.2).2.1 (F q.2.2.2).2.2.1).before args s = true ∧ (∀ k, k < n → parseFieldDescriptor (F k).2.2.1 = some (ty0 k)) ∧ (∀ a, a < n → ∀ b, b < n → a ≠ b → (F a).2.1 ≠ (F b).2.1) ∧ (F q.2.2.2).2.2.2 = false ∧ parseFieldDescriptor (F q.2.2.2).2.2.1 = some ty ∧ (q.2.1 = 1 → ty = .int) ∧ (q.2.1 = 2 → ty = .boolean) ∧ (q.2.1 = 3 → ty = .array .int) ∧ (q.2.1 = 4 → ty = .long) :=
    dk_ac ⟨nn_R2, nn_T2, 3, nn_y2, .int, rfl, by decide, nn_w2, hts _ (dk_tb 265 rfl rfl), nn_ok2, nn_n2, rfl, by decide +kernel, fun _ => rfl, fun z => absurd z (by decide), fun z => absurd z (by decide), fun z => absurd z (by decide)⟩
    (dk_ac ⟨nn_R2, nn_T2, 3, nn_y2, .int, rfl, by decide, nn_w2, hts _ (dk_tb 267 rfl rfl), nn_ok2, nn_n2, rfl, by decide +kernel, fun _ => rfl, fun z => absurd z (by decide), fun z => absurd z (by decide), fun z => absurd z (by decide)⟩
    (dk_an))
  have h3 : ∀ q ∈ ([] : List (Nat × Int)), (Cond.constant nn_R2 q.1 (Int32.ofInt q.2)).before args s = true :=
    dk_an
  have h4 : ∀ q ∈ ([] : List (Nat × Int)), (Cond.constantLong nn_R2 q.1 (Int64.ofInt q.2)).before args s = true :=
    dk_an
  have h5 : ∀ q ∈ tc_2_s, ∃ C n d, va_Z C n d (.ref (ad q.2)) A s s.heap ∧ (Cond.fieldLink nn_R2 q.1 C n d).before args s = true :=
    dk_an
  have h6 : ∀ q ∈ ([] : List (Nat × Nat)), ∃ tx, vk_R nn_R2 q.1 tx (ad q.2) s :=
    dk_an
  exact ⟨fun i ci k h => h1 _ (dk_lk_mem h), fun i kd ci k h => h2 _ (dk_lk_mem h), fun i v h => h3 _ (dk_lk_mem h), fun i v h => h4 _ (dk_lk_mem h), fun i k h => h5 _ (dk_lk_mem h), fun i k h => h6 _ (dk_lk_mem h)⟩
def tc_3_f : List (Nat × Nat × Nat) := [(9, 3, 0), (15, 3, 1), (19, 3, 2), (22, 3, 3), (25, 3, 4), (28, 3, 5), (31, 3, 6), (34, 3, 7), (37, 3, 8)]
def tc_3_p : List (Nat × Nat × Nat × Nat) := [(15, 1, 3, 1), (19, 1, 3, 2), (22, 1, 3, 3), (28, 1, 3, 5), (31, 1, 3, 6), (34, 1, 3, 7), (37, 1, 3, 8)]
def tc_3_s : List (Nat × Nat) := []
def tc_3 : dk_Tc := (tc_3_f, tc_3_p, [], [], tc_3_s, [(85, 110), (87, 111), (89, 112), (91, 113), (93, 114), (95, 115), (97, 116), (59, 117), (75, 118), (77, 119), (79, 120)])
set_option maxRecDepth 20000 in
theorem tok_3 {ad : Nat → Nat} {A : Nat → Prop} {adV : Nat → Nat} {args : Array Value} {s : State} (hts : ∀ w ∈ dk_TB, w.before args s = true) (hd : dk_DD ad A adV s) : dk_Tok ad A dk_cl nn_R3 dk_TB args s tc_3 := by
  have h1 : ∀ q ∈ tc_3_f, ∃ (C : String) (F : u_T) (n : Nat), dk_cl[q.2.1]? = some (C, F, n) ∧ q.2.2 < n ∧ (∀ w ∈ u_ws C F n, w ∈ dk_TB) ∧ ((Cond.fieldLink nn_R3 q.1 (F q.2.2).1 (F q.2.2).2.1 (F q.2.2).2.2.1).before args s = true ∨ ∃ host, (Cond.fieldLinkNest nn_R3 q.1 (F q.2.2).1 (F q.2.2).2.1 (F q.2.2).2.2.1 host).before args s = true) :=
    dk_ac ⟨nn_R3, nn_T3, 9, rfl, by decide, nn_w3, Or.inl (hts _ (dk_tb 178 rfl rfl))⟩
    (dk_ac ⟨nn_R3, nn_T3, 9, rfl, by decide, nn_w3, Or.inl (hts _ (dk_tb 180 rfl rfl))⟩
    (dk_ac ⟨nn_R3, nn_T3, 9, rfl, by decide, nn_w3, Or.inl (hts _ (dk_tb 182 rfl rfl))⟩
    (dk_ac ⟨nn_R3, nn_T3, 9, rfl, by decide, nn_w3, Or.inl (hts _ (dk_tb 184 rfl rfl))⟩
    (dk_ac ⟨nn_R3, nn_T3, 9, rfl, by decide, nn_w3, Or.inl (hts _ (dk_tb 186 rfl rfl))⟩
    (dk_ac ⟨nn_R3, nn_T3, 9, rfl, by decide, nn_w3, Or.inl (hts _ (dk_tb 187 rfl rfl))⟩
    (dk_ac ⟨nn_R3, nn_T3, 9, rfl, by decide, nn_w3, Or.inl (hts _ (dk_tb 188 rfl rfl))⟩
    (dk_ac ⟨nn_R3, nn_T3, 9, rfl, by decide, nn_w3, Or.inl (hts _ (dk_tb 189 rfl rfl))⟩
    (dk_ac ⟨nn_R3, nn_T3, 9, rfl, by decide, nn_w3, Or.inl (hts _ (dk_tb 190 rfl rfl))⟩
    (dk_an)))))))))
  have h2 : ∀ q ∈ tc_3_p, ∃ (C : String) (F : u_T) (n : Nat) (ty0 : Nat → FieldType) (ty : FieldType), dk_cl[q.2.2.1]? = some (C, F, n) ∧ q.2.2.2 < n ∧ (∀ w ∈ u_ws C F n, w ∈ dk_TB) ∧ (Cond.fieldLink nn_R3 q.1 (F q.2.2.2).1 (F q.2.2.2).2.1 (F q.2.2.2).2.2.1).before args s = true ∧ (∀ k, k < n → parseFieldDescriptor (F k).2.2.1 = some (ty0 k)) ∧ (∀ a, a < n → ∀ b, b < n → a ≠ b → (F a).2.1 ≠ (F b).2.1) ∧ (F q.2.2.2).2.2.2 = false ∧ parseFieldDescriptor (F q.2.2.2).2.2.1 = some ty ∧ (q.2.1 = 1 → ty = .int) ∧ (q.2.1 = 2 → ty = .boolean) ∧ (q.2.1 = 3 → ty = .array .int) ∧ (q.2.1 = 4 → ty = .long) :=
    dk_ac ⟨nn_R3, nn_T3, 9, nn_y3, .int, rfl, by decide, nn_w3, hts _ (dk_tb 180 rfl rfl), nn_ok3, nn_n3, rfl, by decide +kernel, fun _ => rfl, fun z => absurd z (by decide), fun z => absurd z (by decide), fun z => absurd z (by decide)⟩
    (dk_ac ⟨nn_R3, nn_T3, 9, nn_y3, .int, rfl, by decide, nn_w3, hts _ (dk_tb 182 rfl rfl), nn_ok3, nn_n3, rfl, by decide +kernel, fun _ => rfl, fun z => absurd z (by decide), fun z => absurd z (by decide), fun z => absurd z (by decide)⟩
    (dk_ac ⟨nn_R3, nn_T3, 9, nn_y3, .int, rfl, by decide, nn_w3, hts _ (dk_tb 184 rfl rfl), nn_ok3, nn_n3, rfl, by decide +kernel, fun _ => rfl, fun z => absurd z (by decide), fun z => absurd z (by decide), fun z => absurd z (by decide)⟩
    (dk_ac ⟨nn_R3, nn_T3, 9, nn_y3, .int, rfl, by decide, nn_w3, hts _ (dk_tb 187 rfl rfl), nn_ok3, nn_n3, rfl, by decide +kernel, fun _ => rfl, fun z => absurd z (by decide), fun z => absurd z (by decide), fun z => absurd z (by decide)⟩
    (dk_ac ⟨nn_R3, nn_T3, 9, nn_y3, .int, rfl, by decide, nn_w3, hts _ (dk_tb 188 rfl rfl), nn_ok3, nn_n3, rfl, by decide +kernel, fun _ => rfl, fun z => absurd z (by decide), fun z => absurd z (by decide), fun z => absurd z (by decide)⟩
    (dk_ac ⟨nn_R3, nn_T3, 9, nn_y3, .int, rfl, by decide, nn_w3, hts _ (dk_tb 189 rfl rfl), nn_ok3, nn_n3, rfl, by decide +kernel, fun _ => rfl, fun z => absurd z (by decide), fun z => absurd z (by decide), fun z => absurd z (by decide)⟩
    (dk_ac ⟨nn_R3, nn_T3, 9, nn_y3, .int, rfl, by decide, nn_w3, hts _ (dk_tb 190 rfl rfl), nn_ok3, nn_n3, rfl, by decide +kernel, fun _ => rfl, fun z => absurd z (by decide), fun z => absurd z (by decide), fun z => absurd z (by decide)⟩
    (dk_an)))))))
  have h3 : ∀ q ∈ ([] : List (Nat × Int)), (Cond.constant nn_R3 q.1 (Int32.ofInt q.2)).before args s = true :=
    dk_an
  have h4 : ∀ q ∈ ([] : List (Nat × Int)), (Cond.constantLong nn_R3 q.1 (Int64.ofInt q.2)).before args s = true :=
    dk_an
  have h5 : ∀ q ∈ tc_3_s, ∃ C n d, va_Z C n d (.ref (ad q.2)) A s s.heap ∧ (Cond.fieldLink nn_R3 q.1 C n d).before args s = true :=
    dk_an
  have h6 : ∀ q ∈ ([(85, 110), (87, 111), (89, 112), (91, 113), (93, 114), (95, 115), (97, 116), (59, 117), (75, 118), (77, 119), (79, 120)] : List (Nat × Nat)), ∃ tx, vk_R nn_R3 q.1 tx (ad q.2) s :=
    dk_ac ⟨"keep", hd.2.1 ("LongColumn$TextReader", 85, "keep", 110) (List.mem_of_getElem? (i := 0) rfl)⟩
    (dk_ac ⟨"ear", hd.2.1 ("LongColumn$TextReader", 87, "ear", 111) (List.mem_of_getElem? (i := 1) rfl)⟩
    (dk_ac ⟨"eye", hd.2.1 ("LongColumn$TextReader", 89, "eye", 112) (List.mem_of_getElem? (i := 2) rfl)⟩
    (dk_ac ⟨"mix", hd.2.1 ("LongColumn$TextReader", 91, "mix", 113) (List.mem_of_getElem? (i := 3) rfl)⟩
    (dk_ac ⟨"feet", hd.2.1 ("LongColumn$TextReader", 93, "feet", 114) (List.mem_of_getElem? (i := 4) rfl)⟩
    (dk_ac ⟨"told", hd.2.1 ("LongColumn$TextReader", 95, "told", 115) (List.mem_of_getElem? (i := 5) rfl)⟩
    (dk_ac ⟨"free", hd.2.1 ("LongColumn$TextReader", 97, "free", 116) (List.mem_of_getElem? (i := 6) rfl)⟩
    (dk_ac ⟨"every", hd.2.1 ("LongColumn$TextReader", 59, "every", 117) (List.mem_of_getElem? (i := 7) rfl)⟩
    (dk_ac ⟨"part", hd.2.1 ("LongColumn$TextReader", 75, "part", 118) (List.mem_of_getElem? (i := 8) rfl)⟩
    (dk_ac ⟨"share", hd.2.1 ("LongColumn$TextReader", 77, "share", 119) (List.mem_of_getElem? (i := 9) rfl)⟩
    (dk_ac ⟨"drift", hd.2.1 ("LongColumn$TextReader", 79, "drift", 120) (List.mem_of_getElem? (i := 10) rfl)⟩
    (dk_an)))))))))))
  exact ⟨fun i ci k h => h1 _ (dk_lk_mem h), fun i kd ci k h => h2 _ (dk_lk_mem h), fun i v h => h3 _ (dk_lk_mem h), fun i v h => h4 _ (dk_lk_mem h), fun i k h => h5 _ (dk_lk_mem h), fun i k h => h6 _ (dk_lk_mem h)⟩
def tc_4_f : List (Nat × Nat × Nat) := [(37, 0, 1), (26, 0, 7), (47, 1, 1), (18, 4, 0), (22, 4, 1), (9, 4, 2), (15, 4, 3)]
def tc_4_p : List (Nat × Nat × Nat × Nat) := [(37, 1, 0, 1), (9, 3, 4, 2), (15, 3, 4, 3)]
def tc_4_s : List (Nat × Nat) := []
def tc_4 : dk_Tc := (tc_4_f, tc_4_p, [], [], tc_4_s, [])
set_option maxRecDepth 20000 in
theorem tok_4 {ad : Nat → Nat} {A : Nat → Prop} {adV : Nat → Nat} {args : Array Value} {s : State} (hts : ∀ w ∈ dk_TB, w.before args s = true) (hd : dk_DD ad A adV s) : dk_Tok ad A dk_cl nn_R4 dk_TB args s tc_4 := by
  have h1 : ∀ q ∈ tc_4_f, ∃ (C : String) (F : u_T) (n : Nat), dk_cl[q.2.1]? = some (C, F, n) ∧ q.2.2 < n ∧ (∀ w ∈ u_ws C F n, w ∈ dk_TB) ∧ ((Cond.fieldLink nn_R4 q.1 (F q.2.2).1 (F q.2.2).2.1 (F q.2.2).2.2.1).before args s = true ∨ ∃ host, (Cond.fieldLinkNest nn_R4 q.1 (F q.2.2).1 (F q.2.2).2.1 (F q.2.2).2.2.1 host).before args s = true) :=
    dk_ac ⟨nn_R0, nn_T0, 16, rfl, by decide, nn_w0, Or.inl (hts _ (dk_tb 102 rfl rfl))⟩
    (dk_ac ⟨nn_R0, nn_T0, 16, rfl, by decide, nn_w0, Or.inl (hts _ (dk_tb 120 rfl rfl))⟩
    (dk_ac ⟨nn_R1, nn_T1, 6, rfl, by decide, nn_w1, Or.inr ⟨"LongColumn", (hd.2.2.1 ("LongColumn$Walk", 47, "LongColumn$Senses", "pace", "I", "LongColumn") (List.mem_of_getElem? (i := 0) rfl)).use rfl⟩⟩
    (dk_ac ⟨nn_R4, nn_T4, 4, rfl, by decide, nn_w4, Or.inl (hts _ (dk_tb 246 rfl rfl))⟩
    (dk_ac ⟨nn_R4, nn_T4, 4, rfl, by decide, nn_w4, Or.inl (hts _ (dk_tb 247 rfl rfl))⟩
    (dk_ac ⟨nn_R4, nn_T4, 4, rfl, by decide, nn_w4, Or.inl (hts _ (dk_tb 248 rfl rfl))⟩
    (dk_ac ⟨nn_R4, nn_T4, 4, rfl, by decide, nn_w4, Or.inl (hts _ (dk_tb 250 rfl rfl))⟩
    (dk_an)))))))
  have h2 : ∀ q ∈ tc_4_p, ∃ (C : String) (F : u_T) (n : Nat) (ty0 : Nat → FieldType) (ty : FieldType), dk_cl[q.2.2.1]? = some (C, F, n) ∧ q.2.2.2 < n ∧ (∀ w ∈ u_ws C F n, w ∈ dk_TB) ∧ (Cond.fieldLink nn_R4 q.1 (F q.2.2.2).1 (F q.2.2.2).2.1 (F q.2.2.2).2.2.1).before args s = true ∧ (∀ k, k < n → parseFieldDescriptor (F k).2.2.1 = some (ty0 k)) ∧ (∀ a, a < n → ∀ b, b < n → a ≠ b → (F a).2.1 ≠ (F b).2.1) ∧ (F q.2.2.2).2.2.2 = false ∧ parseFieldDescriptor (F q.2.2.2).2.2.1 = some ty ∧ (q.2.1 = 1 → ty = .int) ∧ (q.2.1 = 2 → ty = .boolean) ∧ (q.2.1 = 3 → ty = .array .int) ∧ (q.2.1 = 4 → ty = .long) :=
    dk_ac ⟨nn_R0, nn_T0, 16, nn_y0, .int, rfl, by decide, nn_w0, hts _ (dk_tb 102 rfl rfl), nn_ok0, nn_n0, rfl, by decide +kernel, fun _ => rfl, fun z => absurd z (by decide), fun z => absurd z (by decide), fun z => absurd z (by decide)⟩
    (dk_ac ⟨nn_R4, nn_T4, 4, nn_y4, .array .int, rfl, by decide, nn_w4, hts _ (dk_tb 248 rfl rfl), nn_ok4, nn_n4, rfl, by decide +kernel, fun z => absurd z (by decide), fun z => absurd z (by decide), fun _ => rfl, fun z => absurd z (by decide)⟩
    (dk_ac ⟨nn_R4, nn_T4, 4, nn_y4, .array .int, rfl, by decide, nn_w4, hts _ (dk_tb 250 rfl rfl), nn_ok4, nn_n4, rfl, by decide +kernel, fun z => absurd z (by decide), fun z => absurd z (by decide), fun _ => rfl, fun z => absurd z (by decide)⟩
    (dk_an)))
  have h3 : ∀ q ∈ ([] : List (Nat × Int)), (Cond.constant nn_R4 q.1 (Int32.ofInt q.2)).before args s = true :=
    dk_an
  have h4 : ∀ q ∈ ([] : List (Nat × Int)), (Cond.constantLong nn_R4 q.1 (Int64.ofInt q.2)).before args s = true :=
    dk_an
  have h5 : ∀ q ∈ tc_4_s, ∃ C n d, va_Z C n d (.ref (ad q.2)) A s s.heap ∧ (Cond.fieldLink nn_R4 q.1 C n d).before args s = true :=
    dk_an
  have h6 : ∀ q ∈ ([] : List (Nat × Nat)), ∃ tx, vk_R nn_R4 q.1 tx (ad q.2) s :=
    dk_an
  exact ⟨fun i ci k h => h1 _ (dk_lk_mem h), fun i kd ci k h => h2 _ (dk_lk_mem h), fun i v h => h3 _ (dk_lk_mem h), fun i v h => h4 _ (dk_lk_mem h), fun i k h => h5 _ (dk_lk_mem h), fun i k h => h6 _ (dk_lk_mem h)⟩
def tc_5_f : List (Nat × Nat × Nat) := [(82, 0, 0), (102, 0, 1), (118, 0, 2), (121, 0, 3), (124, 0, 4), (127, 0, 5), (130, 0, 6), (133, 0, 7), (156, 0, 8), (159, 0, 9), (162, 0, 10), (165, 0, 11), (171, 0, 12), (174, 0, 13), (263, 0, 14), (257, 0, 15), (92, 3, 0), (88, 3, 1), (103, 3, 2), (99, 3, 3), (187, 4, 2), (285, 2, 0), (276, 2, 1), (291, 2, 2), (10, 5, 0), (16, 5, 1), (19, 5, 2), (26, 5, 3), (32, 5, 4), (41, 5, 5), (50, 5, 6), (54, 5, 7), (57, 5, 8), (61, 5, 9), (64, 5, 10)]
def tc_5_p : List (Nat × Nat × Nat × Nat) := [(102, 1, 0, 1), (156, 1, 0, 8), (171, 1, 0, 12), (257, 1, 0, 15), (88, 1, 3, 1), (103, 1, 3, 2), (99, 1, 3, 3), (285, 1, 2, 0), (276, 1, 2, 1), (19, 2, 5, 2)]
def tc_5_s : List (Nat × Nat) := [(72, 101), (75, 102), (304, 103)]
def tc_5 : dk_Tc := (tc_5_f, tc_5_p, [(300, -1000001), (243, -2000000000)], [], tc_5_s, [])
set_option maxRecDepth 20000 in
theorem tok_5 {ad : Nat → Nat} {A : Nat → Prop} {adV : Nat → Nat} {args : Array Value} {s : State} (hts : ∀ w ∈ dk_TB, w.before args s = true) (hd : dk_DD ad A adV s) : dk_Tok ad A dk_cl nn_R5 dk_TB args s tc_5 := by
  have h1 : ∀ q ∈ tc_5_f, ∃ (C : String) (F : u_T) (n : Nat), dk_cl[q.2.1]? = some (C, F, n) ∧ q.2.2 < n ∧ (∀ w ∈ u_ws C F n, w ∈ dk_TB) ∧ ((Cond.fieldLink nn_R5 q.1 (F q.2.2).1 (F q.2.2).2.1 (F q.2.2).2.2.1).before args s = true ∨ ∃ host, (Cond.fieldLinkNest nn_R5 q.1 (F q.2.2).1 (F q.2.2).2.1 (F q.2.2).2.2.1 host).before args s = true) :=
    dk_ac ⟨nn_R0, nn_T0, 16, rfl, by decide, nn_w0, Or.inl (hts _ (dk_tb 99 rfl rfl))⟩
    (dk_ac ⟨nn_R0, nn_T0, 16, rfl, by decide, nn_w0, Or.inl (hts _ (dk_tb 103 rfl rfl))⟩
    (dk_ac ⟨nn_R0, nn_T0, 16, rfl, by decide, nn_w0, Or.inl (hts _ (dk_tb 106 rfl rfl))⟩
    (dk_ac ⟨nn_R0, nn_T0, 16, rfl, by decide, nn_w0, Or.inl (hts _ (dk_tb 109 rfl rfl))⟩
    (dk_ac ⟨nn_R0, nn_T0, 16, rfl, by decide, nn_w0, Or.inl (hts _ (dk_tb 112 rfl rfl))⟩
    (dk_ac ⟨nn_R0, nn_T0, 16, rfl, by decide, nn_w0, Or.inl (hts _ (dk_tb 115 rfl rfl))⟩
    (dk_ac ⟨nn_R0, nn_T0, 16, rfl, by decide, nn_w0, Or.inl (hts _ (dk_tb 118 rfl rfl))⟩
    (dk_ac ⟨nn_R0, nn_T0, 16, rfl, by decide, nn_w0, Or.inl (hts _ (dk_tb 121 rfl rfl))⟩
    (dk_ac ⟨nn_R0, nn_T0, 16, rfl, by decide, nn_w0, Or.inl (hts _ (dk_tb 123 rfl rfl))⟩
    (dk_ac ⟨nn_R0, nn_T0, 16, rfl, by decide, nn_w0, Or.inl (hts _ (dk_tb 125 rfl rfl))⟩
    (dk_ac ⟨nn_R0, nn_T0, 16, rfl, by decide, nn_w0, Or.inl (hts _ (dk_tb 127 rfl rfl))⟩
    (dk_ac ⟨nn_R0, nn_T0, 16, rfl, by decide, nn_w0, Or.inl (hts _ (dk_tb 129 rfl rfl))⟩
    (dk_ac ⟨nn_R0, nn_T0, 16, rfl, by decide, nn_w0, Or.inl (hts _ (dk_tb 131 rfl rfl))⟩
    (dk_ac ⟨nn_R0, nn_T0, 16, rfl, by decide, nn_w0, Or.inl (hts _ (dk_tb 133 rfl rfl))⟩
    (dk_ac ⟨nn_R0, nn_T0, 16, rfl, by decide, nn_w0, Or.inl (hts _ (dk_tb 135 rfl rfl))⟩
    (dk_ac ⟨nn_R0, nn_T0, 16, rfl, by decide, nn_w0, Or.inl (hts _ (dk_tb 137 rfl rfl))⟩
    (dk_ac ⟨nn_R3, nn_T3, 9, rfl, by decide, nn_w3, Or.inl (hts _ (dk_tb 179 rfl rfl))⟩
    (dk_ac ⟨nn_R3, nn_T3, 9, rfl, by decide, nn_w3, Or.inl (hts _ (dk_tb 181 rfl rfl))⟩
    (dk_ac ⟨nn_R3, nn_T3, 9, rfl, by decide, nn_w3, Or.inl (hts _ (dk_tb 183 rfl rfl))⟩
    (dk_ac ⟨nn_R3, nn_T3, 9, rfl, by decide, nn_w3, Or.inl (hts _ (dk_tb 185 rfl rfl))⟩
    (dk_ac ⟨nn_R4, nn_T4, 4, rfl, by decide, nn_w4, Or.inr ⟨"LongColumn", (hd.2.2.1 ("LongColumn", 187, "LongColumn$Walk", "outs", "[I", "LongColumn") (List.mem_of_getElem? (i := 1) rfl)).use rfl⟩⟩
    (dk_ac ⟨nn_R2, nn_T2, 3, rfl, by decide, nn_w2, Or.inl (hts _ (dk_tb 266 rfl rfl))⟩
    (dk_ac ⟨nn_R2, nn_T2, 3, rfl, by decide, nn_w2, Or.inl (hts _ (dk_tb 268 rfl rfl))⟩
    (dk_ac ⟨nn_R2, nn_T2, 3, rfl, by decide, nn_w2, Or.inl (hts _ (dk_tb 270 rfl rfl))⟩
    (dk_ac ⟨nn_R5, nn_T5, 11, rfl, by decide, nn_w5, Or.inl (hts _ (dk_tb 278 rfl rfl))⟩
    (dk_ac ⟨nn_R5, nn_T5, 11, rfl, by decide, nn_w5, Or.inl (hts _ (dk_tb 279 rfl rfl))⟩
    (dk_ac ⟨nn_R5, nn_T5, 11, rfl, by decide, nn_w5, Or.inl (hts _ (dk_tb 280 rfl rfl))⟩
    (dk_ac ⟨nn_R5, nn_T5, 11, rfl, by decide, nn_w5, Or.inl (hts _ (dk_tb 281 rfl rfl))⟩
    (dk_ac ⟨nn_R5, nn_T5, 11, rfl, by decide, nn_w5, Or.inl (hts _ (dk_tb 282 rfl rfl))⟩
    (dk_ac ⟨nn_R5, nn_T5, 11, rfl, by decide, nn_w5, Or.inl (hts _ (dk_tb 283 rfl rfl))⟩
    (dk_ac ⟨nn_R5, nn_T5, 11, rfl, by decide, nn_w5, Or.inl (hts _ (dk_tb 284 rfl rfl))⟩
    (dk_ac ⟨nn_R5, nn_T5, 11, rfl, by decide, nn_w5, Or.inl (hts _ (dk_tb 285 rfl rfl))⟩
    (dk_ac ⟨nn_R5, nn_T5, 11, rfl, by decide, nn_w5, Or.inl (hts _ (dk_tb 286 rfl rfl))⟩
    (dk_ac ⟨nn_R5, nn_T5, 11, rfl, by decide, nn_w5, Or.inl (hts _ (dk_tb 287 rfl rfl))⟩
    (dk_ac ⟨nn_R5, nn_T5, 11, rfl, by decide, nn_w5, Or.inl (hts _ (dk_tb 288 rfl rfl))⟩
    (dk_an)))))))))))))))))))))))))))))))))))
  have h2 : ∀ q ∈ tc_5_p, ∃ (C : String) (F : u_T) (n : Nat) (ty0 : Nat → FieldType) (ty : FieldType), dk_cl[q.2.2.1]? = some (C, F, n) ∧ q.2.2.2 < n ∧ (∀ w ∈ u_ws C F n, w ∈ dk_TB) ∧ (Cond.fieldLink nn_R5 q.1 (F q.2.2.2).1 (F q.2.2.2).2.1 (F q.2.2.2).2.2.1).before args s = true ∧ (∀ k, k < n → parseFieldDescriptor (F k).2.2.1 = some (ty0 k)) ∧ (∀ a, a < n → ∀ b, b < n → a ≠ b → (F a).2.1 ≠ (F b).2.1) ∧ (F q.2.2.2).2.2.2 = false ∧ parseFieldDescriptor (F q.2.2.2).2.2.1 = some ty ∧ (q.2.1 = 1 → ty = .int) ∧ (q.2.1 = 2 → ty = .boolean) ∧ (q.2.1 = 3 → ty = .array .int) ∧ (q.2.1 = 4 → ty = .long) :=
    dk_ac ⟨nn_R0, nn_T0, 16, nn_y0, .int, rfl, by decide, nn_w0, hts _ (dk_tb 103 rfl rfl), nn_ok0, nn_n0, rfl, by decide +kernel, fun _ => rfl, fun z => absurd z (by decide), fun z => absurd z (by decide), fun z => absurd z (by decide)⟩
    (dk_ac ⟨nn_R0, nn_T0, 16, nn_y0, .int, rfl, by decide, nn_w0, hts _ (dk_tb 123 rfl rfl), nn_ok0, nn_n0, rfl, by decide +kernel, fun _ => rfl, fun z => absurd z (by decide), fun z => absurd z (by decide), fun z => absurd z (by decide)⟩
    (dk_ac ⟨nn_R0, nn_T0, 16, nn_y0, .int, rfl, by decide, nn_w0, hts _ (dk_tb 131 rfl rfl), nn_ok0, nn_n0, rfl, by decide +kernel, fun _ => rfl, fun z => absurd z (by decide), fun z => absurd z (by decide), fun z => absurd z (by decide)⟩
    (dk_ac ⟨nn_R0, nn_T0, 16, nn_y0, .int, rfl, by decide, nn_w0, hts _ (dk_tb 137 rfl rfl), nn_ok0, nn_n0, rfl, by decide +kernel, fun _ => rfl, fun z => absurd z (by decide), fun z => absurd z (by decide), fun z => absurd z (by decide)⟩
    (dk_ac ⟨nn_R3, nn_T3, 9, nn_y3, .int, rfl, by decide, nn_w3, hts _ (dk_tb 181 rfl rfl), nn_ok3, nn_n3, rfl, by decide +kernel, fun _ => rfl, fun z => absurd z (by decide), fun z => absurd z (by decide), fun z => absurd z (by decide)⟩
    (dk_ac ⟨nn_R3, nn_T3, 9, nn_y3, .int, rfl, by decide, nn_w3, hts _ (dk_tb 183 rfl rfl), nn_ok3, nn_n3, rfl, by decide +kernel, fun _ => rfl, fun z => absurd z (by decide), fun z => absurd z (by decide), fun z => absurd z (by decide)⟩
    (dk_ac ⟨nn_R3, nn_T3, 9, nn_y3, .int, rfl, by decide, nn_w3, hts _ (dk_tb 185 rfl rfl), nn_ok3, nn_n3, rfl, by decide +kernel, fun _ => rfl, fun z => absurd z (by decide), fun z => absurd z (by decide), fun z => absurd z (by decide)⟩
    (dk_ac ⟨nn_R2, nn_T2, 3, nn_y2, .int, rfl, by decide, nn_w2, hts _ (dk_tb 266 rfl rfl), nn_ok2, nn_n2, rfl, by decide +kernel, fun _ => rfl, fun z => absurd z (by decide), fun z => absurd z (by decide), fun z => absurd z (by decide)⟩
    (dk_ac ⟨nn_R2, nn_T2, 3, nn_y2, .int, rfl, by decide, nn_w2, hts _ (dk_tb 268 rfl rfl), nn_ok2, nn_n2, rfl, by decide +kernel, fun _ => rfl, fun z => absurd z (by decide), fun z => absurd z (by decide), fun z => absurd z (by decide)⟩
    (dk_ac ⟨nn_R5, nn_T5, 11, nn_y5, .boolean, rfl, by decide, nn_w5, hts _ (dk_tb 280 rfl rfl), nn_ok5, nn_n5, rfl, by decide +kernel, fun z => absurd z (by decide), fun _ => rfl, fun z => absurd z (by decide), fun z => absurd z (by decide)⟩
    (dk_an))))))))))
  have h3 : ∀ q ∈ ([(300, -1000001), (243, -2000000000)] : List (Nat × Int)), (Cond.constant nn_R5 q.1 (Int32.ofInt q.2)).before args s = true :=
    dk_ac (hts _ (dk_tb 327 rfl rfl))
    (dk_ac (hts _ (dk_tb 702 rfl rfl))
    (dk_an))
  have h4 : ∀ q ∈ ([] : List (Nat × Int)), (Cond.constantLong nn_R5 q.1 (Int64.ofInt q.2)).before args s = true :=
    dk_an
  have h5 : ∀ q ∈ tc_5_s, ∃ C n d, va_Z C n d (.ref (ad q.2)) A s s.heap ∧ (Cond.fieldLink nn_R5 q.1 C n d).before args s = true :=
    dk_ac ⟨"LongColumn", "RULE_LEAST", "[I", hd.1 ("LongColumn", "RULE_LEAST", "[I", 101) (List.mem_of_getElem? (i := 0) rfl), hts _ (dk_tb 319 rfl rfl)⟩
    (dk_ac ⟨"LongColumn", "RULE_MOST", "[I", hd.1 ("LongColumn", "RULE_MOST", "[I", 102) (List.mem_of_getElem? (i := 1) rfl), hts _ (dk_tb 321 rfl rfl)⟩
    (dk_ac ⟨"LongColumn", "UNDER", "[I", hd.1 ("LongColumn", "UNDER", "[I", 103) (List.mem_of_getElem? (i := 2) rfl), hts _ (dk_tb 754 rfl rfl)⟩
    (dk_an)))
  have h6 : ∀ q ∈ ([] : List (Nat × Nat)), ∃ tx, vk_R nn_R5 q.1 tx (ad q.2) s :=
    dk_an
  exact ⟨fun i ci k h => h1 _ (dk_lk_mem h), fun i kd ci k h => h2 _ (dk_lk_mem h), fun i v h => h3 _ (dk_lk_mem h), fun i v h => h4 _ (dk_lk_mem h), fun i k h => h5 _ (dk_lk_mem h), fun i k h => h6 _ (dk_lk_mem h)⟩
def tc_6_f : List (Nat × Nat × Nat) := [(7, 6, 0), (13, 6, 1), (16, 6, 2), (85, 6, 3), (19, 6, 4), (22, 6, 5), (92, 6, 6), (25, 6, 7), (206, 6, 8), (28, 6, 9), (31, 6, 10), (35, 6, 11), (38, 6, 12), (41, 6, 13), (109, 6, 14), (115, 6, 15), (112, 6, 16), (128, 6, 17), (131, 6, 18), (135, 6, 19), (168, 6, 20), (44, 6, 21), (175, 6, 22), (47, 6, 23), (50, 6, 24), (53, 6, 25), (56, 6, 26), (59, 6, 27), (62, 6, 28), (66, 6, 29), (69, 6, 30), (72, 6, 31), (75, 6, 32), (287, 6, 33), (78, 6, 34), (276, 6, 35), (81, 6, 36)]
def tc_6_p : List (Nat × Nat × Nat × Nat) := [(85, 1, 6, 3), (92, 1, 6, 6), (206, 1, 6, 8), (31, 1, 6, 10), (109, 1, 6, 14), (115, 1, 6, 15), (112, 1, 6, 16), (128, 1, 6, 17), (131, 4, 6, 18), (135, 1, 6, 19), (168, 2, 6, 20), (175, 1, 6, 22), (287, 2, 6, 33), (276, 1, 6, 35)]
def tc_6_s : List (Nat × Nat) := []
def tc_6 : dk_Tc := (tc_6_f, tc_6_p, [(84, -1000001), (272, 1103515245)], [(95, 2), (138, 27), (140, 96), (142, -1), (144, 220309), (150, 3690), (152, 4325), (154, 9744), (156, 121898), (158, 404923), (160, 131360), (186, 3094387), (162, 316163), (164, 10256063), (166, 2486801)], tc_6_s, [])
set_option maxRecDepth 20000 in
theorem tok_6 {ad : Nat → Nat} {A : Nat → Prop} {adV : Nat → Nat} {args : Array Value} {s : State} (hts : ∀ w ∈ dk_TB, w.before args s = true) (hd : dk_DD ad A adV s) : dk_Tok ad A dk_cl nn_R6 dk_TB args s tc_6 := by
  have h1 : ∀ q ∈ tc_6_f, ∃ (C : String) (F : u_T) (n : Nat), dk_cl[q.2.1]? = some (C, F, n) ∧ q.2.2 < n ∧ (∀ w ∈ u_ws C F n, w ∈ dk_TB) ∧ ((Cond.fieldLink nn_R6 q.1 (F q.2.2).1 (F q.2.2).2.1 (F q.2.2).2.2.1).before args s = true ∨ ∃ host, (Cond.fieldLinkNest nn_R6 q.1 (F q.2.2).1 (F q.2.2).2.1 (F q.2.2).2.2.1 host).before args s = true) :=
    dk_ac ⟨nn_R6, nn_T6, 37, rfl, by decide, nn_w6, Or.inl (hts _ (dk_tb 831 rfl rfl))⟩
    (dk_ac ⟨nn_R6, nn_T6, 37, rfl, by decide, nn_w6, Or.inl (hts _ (dk_tb 832 rfl rfl))⟩
    (dk_ac ⟨nn_R6, nn_T6, 37, rfl, by decide, nn_w6, Or.inl (hts _ (dk_tb 833 rfl rfl))⟩
    (dk_ac ⟨nn_R6, nn_T6, 37, rfl, by decide, nn_w6, Or.inl (hts _ (dk_tb 834 rfl rfl))⟩
    (dk_ac ⟨nn_R6, nn_T6, 37, rfl, by decide, nn_w6, Or.inl (hts _ (dk_tb 835 rfl rfl))⟩
    (dk_ac ⟨nn_R6, nn_T6, 37, rfl, by decide, nn_w6, Or.inl (hts _ (dk_tb 836 rfl rfl))⟩
    (dk_ac ⟨nn_R6, nn_T6, 37, rfl, by decide, nn_w6, Or.inl (hts _ (dk_tb 837 rfl rfl))⟩
    (dk_ac ⟨nn_R6, nn_T6, 37, rfl, by decide, nn_w6, Or.inl (hts _ (dk_tb 838 rfl rfl))⟩
    (dk_ac ⟨nn_R6, nn_T6, 37, rfl, by decide, nn_w6, Or.inl (hts _ (dk_tb 839 rfl rfl))⟩
    (dk_ac ⟨nn_R6, nn_T6, 37, rfl, by decide, nn_w6, Or.inl (hts _ (dk_tb 840 rfl rfl))⟩
    (dk_ac ⟨nn_R6, nn_T6, 37, rfl, by decide, nn_w6, Or.inl (hts _ (dk_tb 841 rfl rfl))⟩
    (dk_ac ⟨nn_R6, nn_T6, 37, rfl, by decide, nn_w6, Or.inl (hts _ (dk_tb 842 rfl rfl))⟩
    (dk_ac ⟨nn_R6, nn_T6, 37, rfl, by decide, nn_w6, Or.inl (hts _ (dk_tb 843 rfl rfl))⟩
    (dk_ac ⟨nn_R6, nn_T6, 37, rfl, by decide, nn_w6, Or.inl (hts _ (dk_tb 844 rfl rfl))⟩
    (dk_ac ⟨nn_R6, nn_T6, 37, rfl, by decide, nn_w6, Or.inl (hts _ (dk_tb 845 rfl rfl))⟩
    (dk_ac ⟨nn_R6, nn_T6, 37, rfl, by decide, nn_w6, Or.inl (hts _ (dk_tb 846 rfl rfl))⟩
    (dk_ac ⟨nn_R6, nn_T6, 37, rfl, by decide, nn_w6, Or.inl (hts _ (dk_tb 847 rfl rfl))⟩
    (dk_ac ⟨nn_R6, nn_T6, 37, rfl, by decide, nn_w6, Or.inl (hts _ (dk_tb 848 rfl rfl))⟩
    (dk_ac ⟨nn_R6, nn_T6, 37, rfl, by decide, nn_w6, Or.inl (hts _ (dk_tb 849 rfl rfl))⟩
    (dk_ac ⟨nn_R6, nn_T6, 37, rfl, by decide, nn_w6, Or.inl (hts _ (dk_tb 850 rfl rfl))⟩
    (dk_ac ⟨nn_R6, nn_T6, 37, rfl, by decide, nn_w6, Or.inl (hts _ (dk_tb 851 rfl rfl))⟩
    (dk_ac ⟨nn_R6, nn_T6, 37, rfl, by decide, nn_w6, Or.inl (hts _ (dk_tb 852 rfl rfl))⟩
    (dk_ac ⟨nn_R6, nn_T6, 37, rfl, by decide, nn_w6, Or.inl (hts _ (dk_tb 853 rfl rfl))⟩
    (dk_ac ⟨nn_R6, nn_T6, 37, rfl, by decide, nn_w6, Or.inl (hts _ (dk_tb 854 rfl rfl))⟩
    (dk_ac ⟨nn_R6, nn_T6, 37, rfl, by decide, nn_w6, Or.inl (hts _ (dk_tb 855 rfl rfl))⟩
    (dk_ac ⟨nn_R6, nn_T6, 37, rfl, by decide, nn_w6, Or.inl (hts _ (dk_tb 856 rfl rfl))⟩
    (dk_ac ⟨nn_R6, nn_T6, 37, rfl, by decide, nn_w6, Or.inl (hts _ (dk_tb 857 rfl rfl))⟩
    (dk_ac ⟨nn_R6, nn_T6, 37, rfl, by decide, nn_w6, Or.inl (hts _ (dk_tb 858 rfl rfl))⟩
    (dk_ac ⟨nn_R6, nn_T6, 37, rfl, by decide, nn_w6, Or.inl (hts _ (dk_tb 859 rfl rfl))⟩
    (dk_ac ⟨nn_R6, nn_T6, 37, rfl, by decide, nn_w6, Or.inl (hts _ (dk_tb 860 rfl rfl))⟩
    (dk_ac ⟨nn_R6, nn_T6, 37, rfl, by decide, nn_w6, Or.inl (hts _ (dk_tb 861 rfl rfl))⟩
    (dk_ac ⟨nn_R6, nn_T6, 37, rfl, by decide, nn_w6, Or.inl (hts _ (dk_tb 862 rfl rfl))⟩
    (dk_ac ⟨nn_R6, nn_T6, 37, rfl, by decide, nn_w6, Or.inl (hts _ (dk_tb 863 rfl rfl))⟩
    (dk_ac ⟨nn_R6, nn_T6, 37, rfl, by decide, nn_w6, Or.inl (hts _ (dk_tb 864 rfl rfl))⟩
    (dk_ac ⟨nn_R6, nn_T6, 37, rfl, by decide, nn_w6, Or.inl (hts _ (dk_tb 865 rfl rfl))⟩
    (dk_ac ⟨nn_R6, nn_T6, 37, rfl, by decide, nn_w6, Or.inl (hts _ (dk_tb 866 rfl rfl))⟩
    (dk_ac ⟨nn_R6, nn_T6, 37, rfl, by decide, nn_w6, Or.inl (hts _ (dk_tb 867 rfl rfl))⟩
    (dk_an)))))))))))))))))))))))))))))))))))))
  have h2 : ∀ q ∈ tc_6_p, ∃ (C : String) (F : u_T) (n : Nat) (ty0 : Nat → FieldType) (ty : FieldType), dk_cl[q.2.2.1]? = some (C, F, n) ∧ q.2.2.2 < n ∧ (∀ w ∈ u_ws C F n, w ∈ dk_TB) ∧ (Cond.fieldLink nn_R6 q.1 (F q.2.2.2).1 (F q.2.2.2).2.1 (F q.2.2.2).2.2.1).before args s = true ∧ (∀ k, k < n → parseFieldDescriptor (F k).2.2.1 = some (ty0 k)) ∧ (∀ a, a < n → ∀ b, b < n → a ≠ b → (F a).2.1 ≠ (F b).2.1) ∧ (F q.2.2.2).2.2.2 = false ∧ parseFieldDescriptor (F q.2.2.2).2.2.1 = some ty ∧ (q.2.1 = 1 → ty = .int) ∧ (q.2.1 = 2 → ty = .boolean) ∧ (q.2.1 = 3 → ty = .array .int) ∧ (q.2.1 = 4 → ty = .long) :=
    dk_ac ⟨nn_R6, nn_T6, 37, nn_y6, .int, rfl, by decide, nn_w6, hts _ (dk_tb 834 rfl rfl), nn_ok6, nn_n6, rfl, by decide +kernel, fun _ => rfl, fun z => absurd z (by decide), fun z => absurd z (by decide), fun z => absurd z (by decide)⟩
    (dk_ac ⟨nn_R6, nn_T6, 37, nn_y6, .int, rfl, by decide, nn_w6, hts _ (dk_tb 837 rfl rfl), nn_ok6, nn_n6, rfl, by decide +kernel, fun _ => rfl, fun z => absurd z (by decide), fun z => absurd z (by decide), fun z => absurd z (by decide)⟩
    (dk_ac ⟨nn_R6, nn_T6, 37, nn_y6, .int, rfl, by decide, nn_w6, hts _ (dk_tb 839 rfl rfl), nn_ok6, nn_n6, rfl, by decide +kernel, fun _ => rfl, fun z => absurd z (by decide), fun z => absurd z (by decide), fun z => absurd z (by decide)⟩
    (dk_ac ⟨nn_R6, nn_T6, 37, nn_y6, .int, rfl, by decide, nn_w6, hts _ (dk_tb 841 rfl rfl), nn_ok6, nn_n6, rfl, by decide +kernel, fun _ => rfl, fun z => absurd z (by decide), fun z => absurd z (by decide), fun z => absurd z (by decide)⟩
    (dk_ac ⟨nn_R6, nn_T6, 37, nn_y6, .int, rfl, by decide, nn_w6, hts _ (dk_tb 845 rfl rfl), nn_ok6, nn_n6, rfl, by decide +kernel, fun _ => rfl, fun z => absurd z (by decide), fun z => absurd z (by decide), fun z => absurd z (by decide)⟩
    (dk_ac ⟨nn_R6, nn_T6, 37, nn_y6, .int, rfl, by decide, nn_w6, hts _ (dk_tb 846 rfl rfl), nn_ok6, nn_n6, rfl, by decide +kernel, fun _ => rfl, fun z => absurd z (by decide), fun z => absurd z (by decide), fun z => absurd z (by decide)⟩
    (dk_ac ⟨nn_R6, nn_T6, 37, nn_y6, .int, rfl, by decide, nn_w6, hts _ (dk_tb 847 rfl rfl), nn_ok6, nn_n6, rfl, by decide +kernel, fun _ => rfl, fun z => absurd z (by decide), fun z => absurd z (by decide), fun z => absurd z (by decide)⟩
    (dk_ac ⟨nn_R6, nn_T6, 37, nn_y6, .int, rfl, by decide, nn_w6, hts _ (dk_tb 848 rfl rfl), nn_ok6, nn_n6, rfl, by decide +kernel, fun _ => rfl, fun z => absurd z (by decide), fun z => absurd z (by decide), fun z => absurd z (by decide)⟩
    (dk_ac ⟨nn_R6, nn_T6, 37, nn_y6, .long, rfl, by decide, nn_w6, hts _ (dk_tb 849 rfl rfl), nn_ok6, nn_n6, rfl, by decide +kernel, fun z => absurd z (by decide), fun z => absurd z (by decide), fun z => absurd z (by decide), fun _ => rfl⟩
    (dk_ac ⟨nn_R6, nn_T6, 37, nn_y6, .int, rfl, by decide, nn_w6, hts _ (dk_tb 850 rfl rfl), nn_ok6, nn_n6, rfl, by decide +kernel, fun _ => rfl, fun z => absurd z (by decide), fun z => absurd z (by decide), fun z => absurd z (by decide)⟩
    (dk_ac ⟨nn_R6, nn_T6, 37, nn_y6, .boolean, rfl, by decide, nn_w6, hts _ (dk_tb 851 rfl rfl), nn_ok6, nn_n6, rfl, by decide +kernel, fun z => absurd z (by decide), fun _ => rfl, fun z => absurd z (by decide), fun z => absurd z (by decide)⟩
    (dk_ac ⟨nn_R6, nn_T6, 37, nn_y6, .int, rfl, by decide, nn_w6, hts _ (dk_tb 853 rfl rfl), nn_ok6, nn_n6, rfl, by decide +kernel, fun _ => rfl, fun z => absurd z (by decide), fun z => absurd z (by decide), fun z => absurd z (by decide)⟩
    (dk_ac ⟨nn_R6, nn_T6, 37, nn_y6, .boolean, rfl, by decide, nn_w6, hts _ (dk_tb 864 rfl rfl), nn_ok6, nn_n6, rfl, by decide +kernel, fun z => absurd z (by decide), fun _ => rfl, fun z => absurd z (by decide), fun z => absurd z (by decide)⟩
    (dk_ac ⟨nn_R6, nn_T6, 37, nn_y6, .int, rfl, by decide, nn_w6, hts _ (dk_tb 866 rfl rfl), nn_ok6, nn_n6, rfl, by decide +kernel, fun _ => rfl, fun z => absurd z (by decide), fun z => absurd z (by decide), fun z => absurd z (by decide)⟩
    (dk_an))))))))))))))
  have h3 : ∀ q ∈ ([(84, -1000001), (272, 1103515245)] : List (Nat × Int)), (Cond.constant nn_R6 q.1 (Int32.ofInt q.2)).before args s = true :=
    dk_ac (hts _ (dk_tb 954 rfl rfl))
    (dk_ac (hts _ (dk_tb 1220 rfl rfl))
    (dk_an))
  have h4 : ∀ q ∈ ([(95, 2), (138, 27), (140, 96), (142, -1), (144, 220309), (150, 3690), (152, 4325), (154, 9744), (156, 121898), (158, 404923), (160, 131360), (186, 3094387), (162, 316163), (164, 10256063), (166, 2486801)] : List (Nat × Int)), (Cond.constantLong nn_R6 q.1 (Int64.ofInt q.2)).before args s = true :=
    dk_ac (hts _ (dk_tb 962 rfl rfl))
    (dk_ac (hts _ (dk_tb 989 rfl rfl))
    (dk_ac (hts _ (dk_tb 990 rfl rfl))
    (dk_ac (hts _ (dk_tb 991 rfl rfl))
    (dk_ac (hts _ (dk_tb 1000 rfl rfl))
    (dk_ac (hts _ (dk_tb 1005 rfl rfl))
    (dk_ac (hts _ (dk_tb 1006 rfl rfl))
    (dk_ac (hts _ (dk_tb 1007 rfl rfl))
    (dk_ac (hts _ (dk_tb 1008 rfl rfl))
    (dk_ac (hts _ (dk_tb 1009 rfl rfl))
    (dk_ac (hts _ (dk_tb 1010 rfl rfl))
    (dk_ac (hts _ (dk_tb 1015 rfl rfl))
    (dk_ac (hts _ (dk_tb 1020 rfl rfl))
    (dk_ac (hts _ (dk_tb 1021 rfl rfl))
    (dk_ac (hts _ (dk_tb 1022 rfl rfl))
    (dk_an)))))))))))))))
  have h5 : ∀ q ∈ tc_6_s, ∃ C n d, va_Z C n d (.ref (ad q.2)) A s s.heap ∧ (Cond.fieldLink nn_R6 q.1 C n d).before args s = true :=
    dk_an
  have h6 : ∀ q ∈ ([] : List (Nat × Nat)), ∃ tx, vk_R nn_R6 q.1 tx (ad q.2) s :=
    dk_an
  exact ⟨fun i ci k h => h1 _ (dk_lk_mem h), fun i kd ci k h => h2 _ (dk_lk_mem h), fun i v h => h3 _ (dk_lk_mem h), fun i v h => h4 _ (dk_lk_mem h), fun i k h => h5 _ (dk_lk_mem h), fun i k h => h6 _ (dk_lk_mem h)⟩
def tc_n : dk_Tc := ([], [], [], [], [], [])
theorem tok_n {ad : Nat → Nat} {A : Nat → Prop} {args : Array Value} {s : State} (own : String) : dk_Tok ad A dk_cl own dk_TB args s tc_n := ⟨fun i ci k h => (by cases h), fun i kd ci k h => (by cases h), fun i v h => (by cases h), fun i v h => (by cases h), fun i k h => (by cases h), fun i k h => (by cases h)⟩
end
section
/-! CONTRACTS: a method of the pure machine as a contract of the real one; calls of it -/
def dk_Fa (ad : Nat → Nat) (dA : Nat → ClassId) (D : va_G) (A : Nat → Prop) (ro : dk_H) (adV : Nat → Nat) (U : State) : Prop := dk_Fx ad dA D 77 A dk_cl ro U ∧ dk_DD ad A adV U
def dk_Pc (ad : Nat → Nat) (dA : Nat → ClassId) (D : va_G) (A : Nat → Prop) (ro : dk_H) (adV : Nat → Nat) (as : List dk_V) (h : dk_H) : Array Value → State → Prop :=
  va_Pc (as.map (dk_cv ad)) (fun U => dk_Fa ad dA D A ro adV U ∧ dk_Wd ad dA D 77 dk_cl ro h U.heap)
def dk_Qc (ad : Nat → Nat) (dA : Nat → ClassId) (D : va_G) (A : Nat → Prop) (ro : dk_H) (Q : dk_Q) : Array Value → State → Outcome → State → Prop := fun _ st oc t =>
  (∃ (r : Option dk_V) (h2 : dk_H), oc = .returned (r.map (dk_cv ad)) ∧ Q r h2 ∧ dk_Wd ad dA D 77 dk_cl ro h2 t.heap) ∧ va_F A st t
/-- the words of a method -/
def dk_wd (y : MethodName) (cc : ByteArray) (maxL : Nat) (ret : Option FieldType) : List Cond := .code y cc maxL ret :: dk_TB
def dk_Met (y : MethodName) (cc : ByteArray) (maxL : Nat) (ret : Option FieldType) (rm : Room) (Sm : dk_S) : Prop :=
  ∀ (l : Launch) (ad : Nat → Nat) (dA : Nat → ClassId) (D : va_G) (A : Nat → Prop) (ro : dk_H) (adV : Nat → Nat) (as : List dk_V) (h : dk_H) (Q : dk_Q), Sm as h Q → Met l y (dk_wd y cc maxL ret) rm (dk_Pc ad dA D A ro adV as h) (dk_Qc ad dA D A ro Q) 0 0 A
theorem dk_Fa_warm {ad : Nat → Nat} {dA : Nat → ClassId} {D : va_G} {A : Nat → Prop} {ro : dk_H} {adV : Nat → Nat} {s U : State} (hW : s.WarmedH U.vm) (hq : ∀ a : Nat, a < s.heap.size → ¬ A a → U.heap[a]? = s.heap[a]?) (h : dk_Fa ad dA D A ro adV s) : dk_Fa ad dA D A ro adV U := ⟨dk_Fx_moved hW.alike hq h.1, dk_Dy_warm hW hq h.2⟩
theorem dk_Fa_same {ad : Nat → Nat} {dA : Nat → ClassId} {D : va_G} {A : Nat → Prop} {ro : dk_H} {adV : Nat → Nat} {s U : State} (hv : U.vm = s.vm) (hh : U.heap = s.heap) (h : dk_Fa ad dA D A ro adV s) : dk_Fa ad dA D A ro adV U :=
  ⟨dk_Fx_moved (by rw [hv]; exact Vm.Alike.refl _) (fun a _ _ => by rw [hh]) h.1, dk_Dy_same hv hh h.2⟩
theorem dk_blind {ad : Nat → Nat} {dA : Nat → ClassId} {D : va_G} {A : Nat → Prop} {ro : dk_H} {adV : Nat → Nat} {as : List dk_V} {h : dk_H} : FrameBlind (dk_Pc ad dA D A ro adV as h) := fun a U g mk1 q => ⟨q.1, dk_Fa_same rfl rfl q.2.1, q.2.2⟩
section DKM
variable {p : Program} {l : Launch} {e : Env} {R : Room} {s : State} {m : MethodId} {args : Array Value} {below : List Frame} {meth : Method} {c : Code} {cells slots : Nat} {Qf : State → Prop}
variable {ad : Nat → Nat} {dA : Nat → ClassId} {D : va_G} {A : Nat → Prop} {ro : dk_H} {adV : Nat → Nat} {cc : ByteArray} {nL : Nat} {own : String}
/-- behind a call -/
theorem dk_goR {H : Heap} {locs : List Loc} {pc : Nat} {ls : Array Slot} {st0 rest : List Value} {a : Array Value} {Q : dk_Q} (hr : va_Run p l e R s m args below meth c H locs cells slots 0 0 (F0 m pc ls st0) rest (dk_Qc ad dA D A ro Q a) A) (hS : va_S A s.heap H locs)
    (kk : ∀ (r : Option dk_V) (h2 : dk_H) (H1 : Heap) (locs1 : List Loc), Q r h2 → dk_Wd ad dA D 77 dk_cl ro h2 H1 → va_S A s.heap H1 locs1 → W p l e R s m args below meth c H1 locs1 cells slots Qf (F0 m (pc + 3) ls ((r.map (dk_cv ad)).toList ++ rest))) :
    W p l e R s m args below meth c H locs cells slots Qf (F0 m pc ls st0) := by
  intro T hT X
  obtain ⟨v, st₀, t, T', L, h0, X', hL, e1, e2, ⟨⟨r, h2, hv, hq, hw⟩, hz, hk⟩, st⟩ := hr T hT X
  cases hv
  rw [h0] at hz hk
  obtain ⟨t2, a1, b1⟩ := kk r h2 T'.heap (locs ++ L) hq (by rw [e1]; exact hw)
    ⟨Nat.le_trans hS.1 (by rw [e1]; exact hz), fun q h1 h2 => by rw [e1, hk q (Nat.lt_of_lt_of_le h1 hS.1) h2]; exact hS.2.1 q h1 h2, fun q hq => by
      rcases List.mem_append.mp hq with h | h
      · exact hS.2.2 q h
      · exact hL q h⟩ T' rfl X'
  exact ⟨t2, st t2 a1, b1⟩
theorem dk_sz_cat (ad : Nat → Nat) : ∀ S : List dk_V, ((S.map (dk_cv ad)).map fun v => v.category).sum = dk_sz S
  | [] => rfl
  | .inl x :: S => by have := dk_sz_cat ad S; simp_all [dk_sz, dk_cv, Value.category]; omega
  | .inr (.inl x) :: S => by have := dk_sz_cat ad S; simp_all [dk_sz, dk_cv, Value.category]; omega
  | .inr (.inr x) :: S => by have := dk_sz_cat ad S; simp_all [dk_sz, dk_cv, Value.category]; omega
theorem dk_goodTB {y : MethodName} {bytes : ByteArray} {maxL : Nat} {ret : Option FieldType} (hc : Cond.code y bytes maxL ret ∈ dk_TB) : GoodIn dk_TB (dk_wd y bytes maxL ret) := by
  intro w hw
  have h1 : w ∈ dk_TB := by
    rcases List.mem_cons.mp hw with rfl | h
    · exact hc
    · exact h
  exact ⟨h1, good_of_word (dk_TB_good h1)⟩
/-- a method of an object -/
theorem dk_callV {y : MethodName} {bytes : ByteArray} {maxL : Nat} {ret : Option FieldType} {rm : Room} {Sm : dk_S} {i ci k nf : Nat} {F : u_T} (hM : dk_Met y bytes maxL ret rm Sm) (hrc : ∀ as h Q, Sm as h Q → dk_rc ci as h) (hci : dk_cl[ci]? = some (y.cls, F, nf))
    (hw : ∀ w ∈ [Cond.methodLink own i y, Cond.instanceMethod y, Cond.selects y.cls y y, Cond.initialized y.cls, Cond.code y bytes maxL ret], w ∈ dk_TB) (hz : rm.cells = 0 ∧ rm.slots = 0)
    (hd : y.cls ≠ "java/lang/invoke/MethodHandle" ∧ y.cls ≠ "java/lang/invoke/VarHandle" ∧ (parseMethodDescriptor y.desc).map (fun d => d.parameters.length) = some k) (hR : rm.frames + 1 ≤ R.frames ∧ 8 + (maxL + 11) + rm.locals ≤ R.locals) (hcs : cells ≤ R.cells ∧ slots ≤ R.slots)
    (hx : p.tables.exec = Jvm.exec) (hb : c.code = cc) (hml : c.maxLocals = nL) (hown : s.vm.findClass own = some m.cls) (hts : ∀ w ∈ dk_TB, w.before args s = true) (hF : dk_Fa ad dA D A ro adV s) :
    dk_Cok p l e R s m args below meth c cells slots Qf ad dA D 77 A dk_cl ro nL cc 0 i (k + 1) Sm := by
  intro pc ins L S as h hins hdg hlen hsz hSem H locs ls hW hS hl
  have hins : ins = .invokevirtual i := by
    rcases hins with ⟨-, h1⟩ | ⟨h1, -⟩
    · exact h1
    · cases h1
  subst hins
  have hr := hrc _ _ _ hSem
  have hMet := hM l ad dA D A ro adV as h _ hSem
  match as, hr, hlen, hMet with
  | .inr (.inr b) :: As, hr, hlen, hMet =>
    simp only [dk_rc] at hr
    split at hr
    · rename_i cj fs hcell
      subst hr
      have ha := dk_lt hF.1 hW (a := b) (fun t n f z => by rw [hcell] at z; cases z)
      have hG : GoodIn dk_TB (wsV own i y.cls y (dk_wd y bytes maxL ret)) := by
        intro w hw2
        have h1 : w ∈ dk_TB := by
          rcases List.mem_append.mp hw2 with h3 | h3
          · exact hw w (by simp only [List.mem_cons, List.not_mem_nil, or_false] at h3 ⊢; rcases h3 with h3 | h3 | h3 | h3 <;> simp [h3])
          · exact (dk_goodTB (hw _ (by simp)) w h3).1
        exact ⟨h1, good_of_word (dk_TB_good h1)⟩
      have hq : ∀ (U : State), U.heap = H → ∀ a : Nat, a < s.heap.size → ¬ A a → U.heap[a]? = s.heap[a]? := fun U hU a h1 h2 => by rw [hU]; exact hS.2.1 a h1 h2
      refine dk_goR (rest := S.map (dk_cv ad)) (va_runV (As := As.map (dk_cv ad)) ⟨hx, hb, hml, hown, hts⟩ hMet (cwV k hts hG rfl hz.1 hz.2 ⟨rfl, hd⟩ hR) ⟨dk_blind, va_recv hF.1.1 hW.1 hci (by rw [dk_ws_at ha, hcell]; rfl), fun U hU hWm => ⟨rfl, dk_Fa_warm hWm (hq U hU) hF, by rw [hU]; exact hW⟩⟩ rfl (by simp only [List.length_cons] at hlen; rw [List.length_map]; omega) hl.1 ?_ (lv_room (by rw [dk_sz_cat]; exact hsz)) hdg hcs) hS (fun r h2 H1 locs1 hq2 hW2 hS2 => ?_)
      · simp [dk_cv]
      · have k2 := hq2 H1 locs1 ls hW2 hS2 hl
        rw [show ((r.map (dk_cv ad)).toList ++ S.map (dk_cv ad)) = (r.toList ++ S).map (dk_cv ad) by cases r <;> simp]
        exact k2
    · exact hr.elim
/-- a static method -/
theorem dk_callS {y : MethodName} {bytes : ByteArray} {maxL : Nat} {ret : Option FieldType} {rm : Room} {Sm : dk_S} {i k : Nat} (hM : dk_Met y bytes maxL ret rm Sm)
    (hw : ∀ w ∈ [Cond.methodLink own i y, Cond.static y, Cond.initialized y.cls, Cond.code y bytes maxL ret], w ∈ dk_TB) (hz : rm.cells = 0 ∧ rm.slots = 0)
    (hd : y.cls ≠ "java/lang/invoke/MethodHandle" ∧ y.cls ≠ "java/lang/invoke/VarHandle" ∧ (parseMethodDescriptor y.desc).map (fun d => d.parameters.length) = some k) (hR : rm.frames + 1 ≤ R.frames ∧ 8 + (maxL + 11) + rm.locals ≤ R.locals) (hcs : cells ≤ R.cells ∧ slots ≤ R.slots)
    (hx : p.tables.exec = Jvm.exec) (hb : c.code = cc) (hml : c.maxLocals = nL) (hown : s.vm.findClass own = some m.cls) (hts : ∀ w ∈ dk_TB, w.before args s = true) (hF : dk_Fa ad dA D A ro adV s) :
    dk_Cok p l e R s m args below meth c cells slots Qf ad dA D 77 A dk_cl ro nL cc 1 i k Sm := by
  intro pc ins L S as h hins hdg hlen hsz hSem H locs ls hW hS hl
  have hins : ins = .invokestatic i := by
    rcases hins with ⟨h1, -⟩ | ⟨-, h1⟩
    · cases h1
    · exact h1
  subst hins
  have hMet := hM l ad dA D A ro adV as h _ hSem
  have hG : GoodIn dk_TB (va_wsS own i y (dk_wd y bytes maxL ret)) := by
    intro w hw2
    have h1 : w ∈ dk_TB := by
      rcases List.mem_append.mp hw2 with h3 | h3
      · exact hw w (by simp only [List.mem_cons, List.not_mem_nil, or_false] at h3 ⊢; rcases h3 with h3 | h3 | h3 <;> simp [h3])
      · exact (dk_goodTB (hw _ (by simp)) w h3).1
    exact ⟨h1, good_of_word (dk_TB_good h1)⟩
  have hq : ∀ (U : State), U.heap = H → ∀ a : Nat, a < s.heap.size → ¬ A a → U.heap[a]? = s.heap[a]? := fun U hU a h1 h2 => by rw [hU]; exact hS.2.1 a h1 h2
  refine dk_goR (rest := S.map (dk_cv ad)) (va_runS (As := as.map (dk_cv ad)) ⟨hx, hb, hml, hown, hts⟩ hMet (va_cwS k hts hG rfl hz.1 hz.2 hd hR) ⟨dk_blind, fun U hU hWm => ⟨rfl, dk_Fa_warm hWm (hq U hU) hF, by rw [hU]; exact hW⟩⟩ rfl (by rw [List.length_map]; exact hlen) hl.1 ?_ (lv_room (by rw [dk_sz_cat]; exact hsz)) hdg hcs) hS (fun r h2 H1 locs1 hq2 hW2 hS2 => ?_)
  · simp
  · have k2 := hq2 H1 locs1 ls hW2 hS2 hl
    rw [show ((r.map (dk_cv ad)).toList ++ S.map (dk_cv ad)) = (r.toList ++ S).map (dk_cv ad) by cases r <;> simp]
    exact k2
/-- a static method of a nest mate -/
theorem dk_callN {y : MethodName} {bytes : ByteArray} {maxL : Nat} {ret : Option FieldType} {rm : Room} {Sm : dk_S} {i k : Nat} {host : String} (hM : dk_Met y bytes maxL ret rm Sm)
    (hn : (own, i, y, host) ∈ dk_nM) (hw : ∀ w ∈ [Cond.static y, Cond.initialized y.cls, Cond.code y bytes maxL ret], w ∈ dk_TB) (hz : rm.cells = 0 ∧ rm.slots = 0)
    (hd : y.cls ≠ "java/lang/invoke/MethodHandle" ∧ y.cls ≠ "java/lang/invoke/VarHandle" ∧ (parseMethodDescriptor y.desc).map (fun d => d.parameters.length) = some k) (hR : rm.frames + 1 ≤ R.frames ∧ 8 + (maxL + 11) + rm.locals ≤ R.locals) (hcs : cells ≤ R.cells ∧ slots ≤ R.slots)
    (hx : p.tables.exec = Jvm.exec) (hb : c.code = cc) (hml : c.maxLocals = nL) (hown : s.vm.findClass own = some m.cls) (hts : ∀ w ∈ dk_TB, w.before args s = true) (hF : dk_Fa ad dA D A ro adV s) :
    dk_Cok p l e R s m args below meth c cells slots Qf ad dA D 77 A dk_cl ro nL cc 1 i k Sm := by
  intro pc ins L S as h hins hdg hlen hsz hSem H locs ls hW hS hl
  have hins : ins = .invokestatic i := by
    rcases hins with ⟨h1, -⟩ | ⟨-, h1⟩
    · cases h1
    · exact h1
  subst hins
  have hMet := hM l ad dA D A ro adV as h _ hSem
  have hq : ∀ (U : State), U.heap = H → ∀ a : Nat, a < s.heap.size → ¬ A a → U.heap[a]? = s.heap[a]? := fun U hU a h1 h2 => by rw [hU]; exact hS.2.1 a h1 h2
  refine dk_goR (rest := S.map (dk_cv ad)) (va_runSN (As := as.map (dk_cv ad)) ⟨hx, hb, hml, hown, hts⟩ hMet ⟨va_cnB k hts (dk_goodTB (hw _ (by simp))) rfl hz.1 hz.2 (hF.2.2.2.2.1 _ hn) (hts _ (hw _ (by simp))) hd hR, hts _ (hw _ (by simp)), trivial⟩ ⟨dk_blind, fun U hU hWm => ⟨rfl, dk_Fa_warm hWm (hq U hU) hF, by rw [hU]; exact hW⟩⟩ rfl (by rw [List.length_map]; exact hlen) hl.1 ?_ (lv_room (by rw [dk_sz_cat]; exact hsz)) hdg hcs) hS (fun r h2 H1 locs1 hq2 hW2 hS2 => ?_)
  · simp
  · have k2 := hq2 H1 locs1 ls hW2 hS2 hl
    rw [show ((r.map (dk_cv ad)).toList ++ S.map (dk_cv ad)) = (r.toList ++ S).map (dk_cv ad) by cases r <;> simp]
    exact k2
end DKM
theorem dk_k_ret {T : dk_Tm} {pc : Nat} {ins r : Instr} (hr : r = .ireturn ∨ r = .lreturn ∨ r = .areturn ∨ r = .return_) (hk : dk_k T pc ins = some (.inl r)) : (ins = .ireturn ∧ dk_rt T.2.2.2 = some r) ∨ (ins = .areturn ∧ r = .areturn ∧ T.2.2.2 = 3) ∨ (ins = .return_ ∧ r = .return_ ∧ T.2.2.2 = 2) := by
  cases ins
  case ireturn =>
    obtain ⟨q, hq, hk⟩ := dk_bd_inv hk
    cases hk
    exact Or.inl ⟨rfl, hq⟩
  case areturn =>
    simp only [dk_k] at hk
    split at hk
    · cases hk; exact Or.inr (Or.inl ⟨rfl, rfl, by assumption⟩)
    · cases hk
  case return_ =>
    simp only [dk_k] at hk
    split at hk
    · cases hk; exact Or.inr (Or.inr ⟨rfl, rfl, by assumption⟩)
    · cases hk
  case bipush => simp only [dk_k] at hk; split at hk <;> rcases hr with rfl | rfl | rfl | rfl <;> cases hk
  case sipush => simp only [dk_k] at hk; split at hk <;> rcases hr with rfl | rfl | rfl | rfl <;> cases hk
  case ldc =>
    simp only [dk_k] at hk
    split at hk
    · rcases hr with rfl | rfl | rfl | rfl <;> cases hk
    · obtain ⟨q, hq, hk⟩ := dk_bd_inv hk
      cases hk
  case tableswitch =>
    simp only [dk_k] at hk
    split at hk
    · obtain ⟨q, hq, hk⟩ := dk_bd_inv hk
      obtain ⟨q2, hq2, hk⟩ := dk_bd_inv hk
      rcases hr with rfl | rfl | rfl | rfl <;> cases hk
    · cases hk
  case ldc_w => obtain ⟨q, hq, hk⟩ := dk_bd_inv hk; rcases hr with rfl | rfl | rfl | rfl <;> cases hk
  case ldc2_w => obtain ⟨q, hq, hk⟩ := dk_bd_inv hk; rcases hr with rfl | rfl | rfl | rfl <;> cases hk
  case ifCond => obtain ⟨q, hq, hk⟩ := dk_bd_inv hk; rcases hr with rfl | rfl | rfl | rfl <;> cases hk
  case if_icmp => obtain ⟨q, hq, hk⟩ := dk_bd_inv hk; rcases hr with rfl | rfl | rfl | rfl <;> cases hk
  case getfield => obtain ⟨q, hq, hk⟩ := dk_bd_inv hk; cases hk
  case getstatic => obtain ⟨q, hq, hk⟩ := dk_bd_inv hk; cases hk
  case goto => obtain ⟨q, hq, hk⟩ := dk_bd_inv hk; cases hk
  case putfield => obtain ⟨q, hq, hk⟩ := dk_bd_inv hk; split at hk <;> cases hk
  case invokevirtual => obtain ⟨q, hq, hk⟩ := dk_bd_inv hk; split at hk <;> cases hk
  case invokestatic => obtain ⟨q, hq, hk⟩ := dk_bd_inv hk; split at hk <;> cases hk
  all_goals (first | (cases hk; done) | (rcases hr with rfl | rfl | rfl | rfl <;> cases hk; done))
/-- what a method's answer is, by its sort -/
def dk_rk (n : Nat) (ret : Option FieldType) : Prop := (n = 0 → ret = some .int) ∧ (n = 1 → ret = some .boolean) ∧ (n = 2 → ret = none) ∧ (n = 3 → ∃ o, ret = some (.object o))
/-- a call, in every state of a walk of the caller -/
def dk_Call (own : String) (R : Room) (cc : ByteArray) (nL kd i n : Nat) (Sm : dk_S) : Prop :=
  ∀ {p : Program} {l : Launch} {e : Env} {s : State} {m : MethodId} {args : Array Value} {below : List Frame} {meth : Method} {c : Code} {Qf : State → Prop} {ad : Nat → Nat} {dA : Nat → ClassId} {D : va_G} {A : Nat → Prop} {ro : dk_H} {adV : Nat → Nat},
    p.tables.exec = Jvm.exec → c.code = cc → c.maxLocals = nL → s.vm.findClass own = some m.cls → (∀ w ∈ dk_TB, w.before args s = true) → dk_Fa ad dA D A ro adV s → dk_Cok p l e R s m args below meth c 0 0 Qf ad dA D 77 A dk_cl ro nL cc kd i n Sm
set_option maxHeartbeats 4000000 in
/-- THE CONTRACT of a method, out of its blocks -/
theorem dk_met {y : MethodName} {cc : ByteArray} {maxL : Nat} {ret : Option FieldType} {rm : Room} {T : dk_Tm} {tb : dk_T} {G : List (Nat × dk_S)} (hy : plainFor y = true) (hrk : dk_rk T.2.2.2 ret)
    (hT : ∀ (ad : Nat → Nat) (A : Nat → Prop) (adV : Nat → Nat) (args : Array Value) (s : State), (∀ w ∈ dk_TB, w.before args s = true) → dk_DD ad A adV s → dk_Tok ad A dk_cl y.cls dk_TB args s T.1)
    (hG : dk_monoG G) (hck : dk_ckT T cc maxL T.2.2.1 tb = true) (h0 : dk_nth T.2.2.1 0 = some 0)
    (hC : ∀ i kd j, dk_lk T.2.1 i = some (kd, j) → ∃ n Sm, dk_nth G j = some (n, Sm) ∧ dk_Call y.cls rm cc maxL kd i n Sm) : dk_Met y cc maxL ret rm (dk_M G tb maxL) := by
  intro l ad dA D A ro adV as h Q hSem
  refine va_MetF (cc := cc) (maxL := maxL) (ret := ret) hy rfl ?_
  intro p e s m args below meth c s₁ B hml hv
  obtain ⟨rfl, hF, hW⟩ := hv
  have hx := B.exec
  have hb := B.bytes
  have hr := B.returns
  have hts0 := atoms_spec (ws := dk_wd y cc maxL ret) B.pre
  have hts : ∀ w ∈ dk_TB, w.before (as.map (dk_cv ad)).toArray s = true := fun w hw => hts0 w (List.mem_cons_of_mem _ hw)
  have hown : s.vm.findClass y.cls = some m.cls := findClass_of_methodNamed B.named
  have hlocks := B.notSynchronized
  have hl := dk_entry ad as hSem.1
  rw [lg_entry_eq]
  have hS : va_S A s.heap s.heap [] := va_S.rf
  have key := dk_sound (l := l) (e := e) (R := (headSpec (dk_wd y cc maxL ret) rm).room) (below := below) (meth := meth) (cells := 0) (slots := 0) (Q := MQ below (dk_Qc ad dA D A ro Q) (as.map (dk_cv ad)).toArray s 0 0 A) hx hb hown hts hF.1 (hT ad A adV _ s hts hF.2) hG
    (fun i kd j hj => by
      obtain ⟨n, Sm, e1, hc⟩ := hC i kd j hj
      exact ⟨n, Sm, e1, hc hx hb hml hown hts hF⟩)
    (Rq := Q) (fun pc ins n is J L S h hdg hk hn hr2 => ?_) hck hSem.2 h0
  · exact key s.heap [] _ hW hS hl
  · intro H locs ls hW2 hS2 hl2
    have fin : ∀ (r : Option dk_V), Q r h → ∀ t : State, t.heap = H → s.WarmedH t.vm → dk_Qc ad dA D A ro Q (as.map (dk_cv ad)).toArray s (.returned (r.map (dk_cv ad))) t := fun r hq t ht _ => ⟨⟨r, h, rfl, hq, by rw [ht]; exact hW2⟩, hS2.F ht⟩
    rcases hn with rfl | rfl | rfl | rfl
    · rcases dk_k_ret (Or.inl rfl) hk with ⟨rfl, h1⟩ | ⟨-, h1, -⟩ | ⟨-, h1, -⟩
      · have hn : T.2.2.2 = 0 := by
          rcases dk_rt_inv h1 with ⟨h2, -⟩ | ⟨-, h2⟩
          · exact h2
          · cases h2
        have hr := hr.trans (hrk.1 hn)
        simp only [dk_r] at hr2
        split at hr2
        · rename_i x
          exact W.iret hx hb hr (fin (some (dk_I x)) hr2) hS2.2.2 hdg
        · exact hr2.elim
      · cases h1
      · cases h1
    · rcases dk_k_ret (Or.inr (Or.inl rfl)) hk with ⟨rfl, h1⟩ | ⟨-, h1, -⟩ | ⟨-, h1, -⟩
      · have hn : T.2.2.2 = 1 := by
          rcases dk_rt_inv h1 with ⟨-, h2⟩ | ⟨h2, -⟩
          · cases h2
          · exact h2
        have hr := hr.trans (hrk.2.1 hn)
        simp only [dk_r] at hr2
        split at hr2
        · rename_i x
          exact W.zret hx hb hr (by rcases hr2.1 with rfl | rfl <;> decide +kernel) (fin (some (dk_I x)) hr2.2) hS2.2.2 hdg
        · exact hr2.elim
      · cases h1
      · cases h1
    · rcases dk_k_ret (Or.inr (Or.inr (Or.inl rfl))) hk with ⟨-, h1⟩ | ⟨rfl, -, hn⟩ | ⟨-, h1, -⟩
      · rcases dk_rt_inv h1 with ⟨-, h2⟩ | ⟨-, h2⟩ <;> cases h2
      · obtain ⟨o, ho⟩ := hrk.2.2.2 hn
        have hr := hr.trans ho
        simp only [dk_r] at hr2
        split at hr2
        · rename_i x
          exact W.aret hx hb hr (Or.inl ⟨o, rfl⟩) (Or.inr ⟨_, rfl⟩) (fin (some (dk_R x)) hr2) hS2.2.2 hdg
        · exact hr2.elim
      · cases h1
    · rcases dk_k_ret (Or.inr (Or.inr (Or.inr rfl))) hk with ⟨-, h1⟩ | ⟨-, h1, -⟩ | ⟨rfl, -, hn⟩
      · rcases dk_rt_inv h1 with ⟨-, h2⟩ | ⟨-, h2⟩ <;> cases h2
      · cases h1
      · have hr := hr.trans (hrk.2.2.1 hn)
        simp only [dk_r] at hr2
        split at hr2
        · exact W.vret hx hb hr (fin none hr2) hS2.2.2 hdg
        · exact hr2.elim
theorem dk_metV {y : MethodName} {cc : ByteArray} {maxL : Nat} {ret : Option FieldType} {rm : Room} {tb : dk_T} {G : List (Nat × dk_S)} (ci : Nat) (h : dk_Met y cc maxL ret rm (dk_M G tb maxL)) : dk_Met y cc maxL ret rm (dk_MV ci G tb maxL) := fun l ad dA D A ro adV as hh Q q => h l ad dA D A ro adV as hh Q q.2
theorem dk_rcV {ci : Nat} {G : List (Nat × dk_S)} {tb : dk_T} {n : Nat} : ∀ as h Q, dk_MV ci G tb n as h Q → dk_rc ci as h := fun _ _ _ q => q.1
end
section
/-! WHAT THE JDK DOES: rows that are copied; texts -/
def s_ac : dk_S := fun as h Q => match as with
  | [.inr (.inr a), .inl sp, .inr (.inr b), .inl dp, .inl n] => match dk_ar (h a) 0, dk_ar (h b) 0 with
    | some (na, f), some (nb, g) => (0 ≤ sp ∧ 0 ≤ dp ∧ 0 ≤ n ∧ sp + n ≤ na ∧ dp + n ≤ nb ∧ sp + n < 2147483648 ∧ dp + n < 2147483648) ∧ Q none (dk_up h b (.inl (0, nb, fun j => if dp ≤ j ∧ j < dp + n then f (sp + (j - dp)) else g j)))
    | _, _ => False
  | _ => False
theorem o_ac : dk_mono s_ac := by
  intro as h Q Q2 hQ q
  unfold s_ac at q ⊢
  split at q
  · split at q
    · exact ⟨q.1, hQ _ _ q.2⟩
    · exact q.elim
  · exact q.elim
theorem dk_cpy (f g : Int → Int) {sp dp n : Int} (h1 : 0 ≤ sp) (h2 : 0 ≤ dp) (h3 : 0 ≤ n) (b1 : sp + n < 2147483648) (b2 : dp + n < 2147483648) : va_cpy (fun j : Nat => Int32.ofInt (f j)) (fun j : Nat => Int32.ofInt (g j)) (Int32.ofInt sp).toNatClampNeg (Int32.ofInt dp).toNatClampNeg (Int32.ofInt n).toNatClampNeg = fun j : Nat => Int32.ofInt ((fun j : Int => if dp ≤ j ∧ j < dp + n then f (sp + (j - dp)) else g j) j) := by
  funext j
  rw [dk_clamp h1 (by omega), dk_clamp h2 (by omega), dk_clamp h3 (by omega)]
  unfold va_cpy
  by_cases c : dp.toNat ≤ j ∧ j < dp.toNat + n.toNat
  · rw [if_pos c]
    have c2 : dp ≤ (j : Int) ∧ (j : Int) < dp + n := by omega
    simp only [if_pos c2]
    congr 2
    omega
  · rw [if_neg c]
    have c2 : ¬ (dp ≤ (j : Int) ∧ (j : Int) < dp + n) := by omega
    simp only [if_neg c2]
set_option maxRecDepth 20000 in
theorem call_ac {own : String} {R : Room} {cc : ByteArray} {nL i : Nat} (hl0 : Cond.methodLink own i arraycopyName ∈ dk_TB) (hfr : 1 ≤ R.frames) (hlo : 26 ≤ R.locals) : dk_Call own R cc nL 1 i 5 s_ac := by
  intro p l e s m args below meth c Qf ad dA D A ro adV hx hb hml hown hts hF
  intro pc ins L S as h hins hdg hlen hsz hSem H locs ls hW hS hl
  have hins : ins = .invokestatic i := by
    rcases hins with ⟨h1, -⟩ | ⟨-, h1⟩
    · cases h1
    · exact h1
  subst hins
  unfold s_ac at hSem
  split at hSem
  · rename_i a sp b dp n
    split at hSem
    · rename_i na f nb g ea eb
      obtain ⟨⟨v1, v2, v3, v4, v5, v6, v7⟩, kk⟩ := hSem
      have ea := dk_ar_inv ea
      have eb := dk_ar_inv eb
      have ha := dk_lt hF.1 hW (a := a) (fun t n f z => by rw [ea] at z; cases z; exact ⟨by decide, by decide⟩)
      have hb1 := dk_lt hF.1 hW (a := b) (fun t n f z => by rw [eb] at z; cases z; exact ⟨by decide, by decide⟩)
      have nn : ∀ {z : Int}, 0 ≤ z → z < 2147483648 → ¬ Int32.ofInt z < 0 := by
        intro z h1 h2 h3
        have h4 : Int32.ofInt z < Int32.ofInt 0 := h3
        rw [dk_ofInt_lt ⟨by omega, by omega⟩ ⟨by omega, by omega⟩] at h4
        omega
      refine va_copyi (ty := .int) (c0 := dA 0) (c1 := dA 0) (f := fun j => Int32.ofInt (f j)) (g := fun j => Int32.ofInt (g j)) (sp := Int32.ofInt sp) (dp := Int32.ofInt dp) (n := Int32.ofInt n) hx hb (by rw [hml]; exact hl.1.symm) hown (hts _ hl0) (hts _ (dk_tb 581 rfl rfl)) (hts _ (dk_tb 580 rfl rfl)) (hts _ (dk_tb 70 rfl rfl)) hF.1.1 hW.1 (dk_D hF.1 h) hS a b 0 0 (by rw [dk_ws_at ha, ea]; rfl) (by rw [dk_ws_at hb1, eb]; rfl) rfl rfl rfl (nn v1 (by omega)) (nn v2 (by omega)) (nn v3 (by omega)) (by rw [dk_clamp v1 (by omega), dk_clamp v3 (by omega)]; omega) (by rw [dk_clamp v2 (by omega), dk_clamp v3 (by omega)]; omega) (fun _ _ => rfl) hfr ?_ hdg (fun H1 locs1 hP1 _ hS1 => ?_)
      · have e1 : nativeFrameWords "java/lang/System" "arraycopy" 5 = 7 := by decide +kernel
        rw [e1, dk_sz_cat]
        have hsz2 : dk_sz ([].append S) ≤ 8 := hsz
        omega
      · rw [dk_cpy f g v1 v2 v3 v6 v7] at hP1
        exact kk H1 locs1 ls (dk_Wd_up hW hb1 (fun t n f z => by cases z; omega) (by rw [← dk_ws_set]; exact hP1)) hS1 hl
    · exact hSem.elim
  · exact hSem.elim
def s_sl : dk_S := fun as h Q => match as with
  | [.inr (.inr k)] => (110 ≤ k ∧ k < 121) ∧ Q (some (dk_I (dk_sl.getD (k - 110) 0 : Nat))) h
  | _ => False
def s_sc : dk_S := fun as h Q => match as with
  | [.inr (.inr k), .inl i] => (110 ≤ k ∧ k < 121 ∧ 0 ≤ i ∧ i < (dk_sl.getD (k - 110) 0 : Nat)) ∧ Q (some (dk_I (((dk_by.getD (k - 110) []).getD i.toNat 0).toInt))) h
  | _ => False
theorem o_sl : dk_mono s_sl := by
  intro as h Q Q2 hQ q
  unfold s_sl at q ⊢
  split at q
  · exact ⟨q.1, hQ _ _ q.2⟩
  · exact q.elim
theorem o_sc : dk_mono s_sc := by
  intro as h Q Q2 hQ q
  unfold s_sc at q ⊢
  split at q
  · exact ⟨q.1, hQ _ _ q.2⟩
  · exact q.elim
theorem call_sl {own : String} {R : Room} {cc : ByteArray} {nL i : Nat} (hl0 : Cond.methodLink own i ⟨"java/lang/String", "length", "()I"⟩ ∈ dk_TB) (hfr : 2 ≤ R.frames) (hlo : 80 ≤ R.locals) : dk_Call own R cc nL 0 i 1 s_sl := by
  sorry
theorem call_sc {own : String} {R : Room} {cc : ByteArray} {nL i : Nat} (hl0 : Cond.methodLink own i ⟨"java/lang/String", "charAt", "(I)C"⟩ ∈ dk_TB) (hfr : 5 ≤ R.frames) (hlo : 160 ≤ R.locals) : dk_Call own R cc nL 0 i 2 s_sc := by
  sorry
end
section
/-! THE METHODS: blocks, meanings -/
def y_9_fill : MethodName := ⟨"java/util/Arrays", "fill", "([II)V"⟩
def b_9_fill : dk_T := [
  ([true, true, false, false], [.inl (.iconst 0), .inl (.istore 2), .inl (.aload 0), .inl .arraylength, .inl (.istore 3), .inr (7, 1, 1)]),
  ([true, true, true, true], [.inl (.iload 2), .inl (.iload 3), .inl (.if_icmp .ge 2), .inl (.aload 0), .inl (.iload 2), .inl (.iload 1), .inl .iastore, .inl (.iinc 2 (1)), .inr (7, 1, 0)]),
  ([false, false, false, false], [.inl .return_])]
def g_9_fill : List (Nat × dk_S) := []
def s_9_fill : dk_S := dk_M g_9_fill b_9_fill 4
theorem h_9_fill : dk_monoG g_9_fill := dk_monoG_nil
theorem o_9_fill : dk_mono s_9_fill := dk_M_mono h_9_fill _ _
def t_9_fill : dk_Tm := (tc_n, [], [0, 5, 20], 2)
def y_5_isWithin : MethodName := ⟨nn_R5, "isWithin", "(III)Z"⟩
def b_5_isWithin : dk_T := [
  ([true, true, true], [.inl (.iload 0), .inl (.iload 1), .inl (.if_icmp .lt 1), .inl (.iload 0), .inl (.iload 2), .inl (.if_icmp .gt 1), .inl (.iconst 1), .inr (7, 2, 0)]),
  ([false, false, false], [.inl (.iconst 0), .inr (7, 2, 1)]),
  ([false, false, false], [.inl .lreturn])]
def g_5_isWithin : List (Nat × dk_S) := []
def s_5_isWithin : dk_S := dk_M g_5_isWithin b_5_isWithin 3
theorem h_5_isWithin : dk_monoG g_5_isWithin := dk_monoG_nil
theorem o_5_isWithin : dk_mono s_5_isWithin := dk_M_mono h_5_isWithin _ _
def t_5_isWithin : dk_Tm := (tc_5, [], [0, 14, 15], 1)
def y_5_finding : MethodName := ⟨nn_R5, "finding", "(I)I"⟩
def b_5_finding : dk_T := [
  ([true, true], [.inl (.aload 0), .inr (0, 5, 10), .inl (.iload 1), .inl .dup2, .inl .iaload, .inl (.iconst 1), .inl .iadd, .inl .iastore, .inl (.iconst (-1000001)), .inl (.iload 1), .inl .isub, .inl .ireturn])]
def g_5_finding : List (Nat × dk_S) := []
def s_5_finding : dk_S := dk_MV 5 g_5_finding b_5_finding 2
theorem h_5_finding : dk_monoG g_5_finding := dk_monoG_nil
theorem o_5_finding : dk_mono s_5_finding := dk_MV_mono _ h_5_finding _ _
def t_5_finding : dk_Tm := (tc_5, [], [0], 0)
def y_5_wrapped : MethodName := ⟨nn_R5, "wrapped", "(II)I"⟩
def b_5_wrapped : dk_T := [
  ([true, true, false], [.inl (.iload 0), .inl (.iload 1), .inl .irem, .inl (.istore 2), .inl (.iconst 2), .inl (.iload 2), .inl .imul, .inl (.iload 1), .inl (.if_icmp .le 1), .inl (.iload 2), .inl (.iload 1), .inl .isub, .inl .ireturn]),
  ([false, true, true], [.inl (.iconst 2), .inl (.iload 2), .inl .imul, .inl (.iload 1), .inl .ineg, .inl (.if_icmp .gt 2), .inl (.iload 2), .inl (.iload 1), .inl .iadd, .inr (7, 3, 0)]),
  ([false, false, true], [.inl (.iload 2), .inr (7, 3, 1)]),
  ([false, false, false], [.inl .ireturn])]
def g_5_wrapped : List (Nat × dk_S) := []
def s_5_wrapped : dk_S := dk_M g_5_wrapped b_5_wrapped 3
theorem h_5_wrapped : dk_monoG g_5_wrapped := dk_monoG_nil
theorem o_5_wrapped : dk_mono s_5_wrapped := dk_M_mono h_5_wrapped _ _
def t_5_wrapped : dk_Tm := (tc_5, [], [0, 15, 29, 30], 0)
def y_0_wrap : MethodName := ⟨nn_R0, "wrap", "(I)I"⟩
def b_0_wrap : dk_T := [
  ([true, true], [.inl (.iload 1), .inl (.aload 0), .inr (0, 0, 0), .inl (.iconst 0), .inl .iaload, .inr (5, 0, 1), .inl .ireturn])]
def g_0_wrap : List (Nat × dk_S) := [(2, s_5_wrapped)]
def s_0_wrap : dk_S := dk_MV 0 g_0_wrap b_0_wrap 2
theorem h_0_wrap : dk_monoG g_0_wrap := dk_monoG_cons o_5_wrapped (dk_monoG_nil)
theorem o_0_wrap : dk_mono s_0_wrap := dk_MV_mono _ h_0_wrap _ _
def t_0_wrap : dk_Tm := (tc_0, [(81, 1, 0)], [0], 0)
def y_0_wrapAnew : MethodName := ⟨nn_R0, "wrapAnew", "()V"⟩
def b_0_wrapAnew : dk_T := [
  ([true, false], [.inl (.iconst 0), .inl (.istore 1), .inr (7, 1, 1)]),
  ([true, true], [.inl (.iload 1), .inl (.aload 0), .inr (0, 0, 1), .inl (.if_icmp .ge 2), .inl (.aload 0), .inr (0, 0, 7), .inl (.iload 1), .inl (.aload 0), .inl (.aload 0), .inr (0, 0, 7), .inl (.iload 1), .inl .iaload, .inr (5, 0, 0), .inl .iastore, .inl (.iinc 1 (1)), .inr (7, 1, 0)]),
  ([false, false], [.inl .return_])]
def g_0_wrapAnew : List (Nat × dk_S) := [(2, s_0_wrap)]
def s_0_wrapAnew : dk_S := dk_MV 0 g_0_wrapAnew b_0_wrapAnew 2
theorem h_0_wrapAnew : dk_monoG g_0_wrapAnew := dk_monoG_cons o_0_wrap (dk_monoG_nil)
theorem o_0_wrapAnew : dk_mono s_0_wrapAnew := dk_MV_mono _ h_0_wrapAnew _ _
def t_0_wrapAnew : dk_Tm := (tc_0, [(85, 0, 0)], [0, 2, 32], 2)
def y_5_rule : MethodName := ⟨nn_R5, "rule", "(II)I"⟩
def b_5_rule : dk_T := [
  ([true, true, true, false], [.inl (.iload 1), .inl (.iconst 0), .inl (.iconst 6), .inr (5, 0, 1), .inl (.ifCond .eq 1), .inl (.iload 2), .inr (6, 101, 0), .inl (.iload 1), .inl .iaload, .inr (6, 102, 0), .inl (.iload 1), .inl .iaload, .inr (5, 0, 1), .inl (.ifCond .ne 2), .inr (7, 1, 1)]),
  ([true, false, false, false], [.inl (.aload 0), .inl (.iconst 0), .inr (5, 1, 0), .inl .ireturn]),
  ([true, true, true, false], [.inl (.aload 0), .inr (0, 5, 0), .inr (0, 0, 0), .inl (.iload 1), .inl .iaload, .inl (.istore 3), .inl (.aload 0), .inr (0, 5, 0), .inr (0, 0, 0), .inl (.iload 1), .inl (.iload 2), .inl .iastore, .inl (.iload 1), .inl (.ifCond .ne 3), .inl (.aload 0), .inr (0, 5, 0), .inr (5, 2, 0), .inr (7, 3, 1)]),
  ([false, false, false, true], [.inl (.iload 3), .inl .ireturn])]
def g_5_rule : List (Nat × dk_S) := [(3, s_5_isWithin), (2, s_5_finding), (1, s_0_wrapAnew)]
def s_5_rule : dk_S := dk_MV 5 g_5_rule b_5_rule 4
theorem h_5_rule : dk_monoG g_5_rule := dk_monoG_cons o_5_isWithin (dk_monoG_cons o_5_finding (dk_monoG_cons o_0_wrapAnew (dk_monoG_nil)))
theorem o_5_rule : dk_mono s_5_rule := dk_MV_mono _ h_5_rule _ _
def t_5_rule : dk_Tm := (tc_5, [(68, 1, 0), (78, 0, 1), (85, 0, 2)], [0, 27, 33, 64], 0)
def y_5_feed : MethodName := ⟨nn_R5, "feed", "(II)I"⟩
def b_5_feed : dk_T := [
  ([true, true, true, false], [.inl (.iload 2), .inl (.iconst 1), .inl (.iconst 4), .inr (5, 0, 1), .inl (.ifCond .ne 1), .inl (.aload 0), .inl (.iconst 0), .inr (5, 1, 0), .inl .ireturn]),
  ([true, true, true, false], [.inl (.aload 0), .inr (0, 5, 3), .inr (0, 3, 1), .inl (.iconst 120), .inl (.iload 2), .inl .isub, .inl (.if_icmp .le 2), .inl (.aload 0), .inl (.iconst 1), .inr (5, 1, 0), .inl .ireturn]),
  ([true, true, true, false], [.inl (.iload 2), .inl (.iconst 1), .inl .isub, .inl (.istore 3), .inr (7, 3, 1)]),
  ([true, true, false, true], [.inl (.iload 3), .inl (.ifCond .lt 4), .inl (.aload 0), .inr (0, 5, 3), .inr (0, 3, 0), .inl (.aload 0), .inr (0, 5, 3), .inr (0, 3, 1), .inl (.iload 1), .inl (.iconst 8), .inl (.iload 3), .inl .imul, .inl .iushr, .inl (.iconst 255), .inl .iand, .inl .iastore, .inl (.aload 0), .inr (0, 5, 3), .inl .dup, .inr (0, 3, 1), .inl (.iconst 1), .inl .iadd, .inr (1, 3, 1), .inl (.iinc 3 (-1)), .inr (7, 3, 0)]),
  ([true, false, false, false], [.inl (.aload 0), .inr (0, 5, 3), .inr (0, 3, 1), .inl .ireturn])]
def g_5_feed : List (Nat × dk_S) := [(3, s_5_isWithin), (2, s_5_finding)]
def s_5_feed : dk_S := dk_MV 5 g_5_feed b_5_feed 4
theorem h_5_feed : dk_monoG g_5_feed := dk_monoG_cons o_5_isWithin (dk_monoG_cons o_5_finding (dk_monoG_nil))
theorem o_5_feed : dk_mono s_5_feed := dk_MV_mono _ h_5_feed _ _
def t_5_feed : dk_Tm := (tc_5, [(68, 1, 0), (78, 0, 1)], [0, 15, 35, 39, 87], 0)
def y_5_wipe : MethodName := ⟨nn_R5, "wipe", "()I"⟩
def b_5_wipe : dk_T := [
  ([true, false], [.inl (.aload 0), .inr (0, 5, 3), .inr (0, 3, 1), .inl (.istore 1), .inl (.aload 0), .inr (0, 5, 3), .inl (.iconst 0), .inr (1, 3, 1), .inl (.iload 1), .inl .ireturn])]
def g_5_wipe : List (Nat × dk_S) := []
def s_5_wipe : dk_S := dk_MV 5 g_5_wipe b_5_wipe 2
theorem h_5_wipe : dk_monoG g_5_wipe := dk_monoG_nil
theorem o_5_wipe : dk_mono s_5_wipe := dk_MV_mono _ h_5_wipe _ _
def t_5_wipe : dk_Tm := (tc_5, [], [0], 0)
def y_3_tokenOf : MethodName := ⟨nn_R3, "tokenOf", "(I)I"⟩
def b_3_tokenOf : dk_T := [
  ([true], [.inl (.iload 0), .inl (.iconst 97), .inl (.if_icmp .lt 1), .inl (.iload 0), .inl (.iconst 122), .inl (.if_icmp .gt 1), .inl (.iconst 1), .inl .ireturn]),
  ([true], [.inl (.iload 0), .inl (.iconst 48), .inl (.if_icmp .lt 2), .inl (.iload 0), .inl (.iconst 57), .inl (.if_icmp .gt 2), .inl (.iconst 2), .inl .ireturn]),
  ([true], [.inl (.iload 0), .inl (.iconst 59), .inl (.if_icmp .ne 3), .inl (.iconst 3), .inl .ireturn]),
  ([true], [.inl (.iload 0), .inl (.iconst 32), .inl (.if_icmp .ne 4), .inl (.iconst 4), .inr (7, 5, 0)]),
  ([false], [.inl (.iconst 5), .inr (7, 5, 1)]),
  ([false], [.inl .ireturn])]
def g_3_tokenOf : List (Nat × dk_S) := []
def s_3_tokenOf : dk_S := dk_M g_3_tokenOf b_3_tokenOf 1
theorem h_3_tokenOf : dk_monoG g_3_tokenOf := dk_monoG_nil
theorem o_3_tokenOf : dk_mono s_3_tokenOf := dk_M_mono h_3_tokenOf _ _
def t_3_tokenOf : dk_Tm := (tc_3, [], [0, 14, 28, 36, 46, 47], 0)
def y_8_min : MethodName := ⟨"java/lang/Math", "min", "(II)I"⟩
def b_8_min : dk_T := [
  ([true, true], [.inl (.iload 0), .inl (.iload 1), .inl (.if_icmp .gt 1), .inl (.iload 0), .inr (7, 2, 0)]),
  ([false, true], [.inl (.iload 1), .inr (7, 2, 1)]),
  ([false, false], [.inl .ireturn])]
def g_8_min : List (Nat × dk_S) := []
def s_8_min : dk_S := dk_M g_8_min b_8_min 2
theorem h_8_min : dk_monoG g_8_min := dk_monoG_nil
theorem o_8_min : dk_mono s_8_min := dk_M_mono h_8_min _ _
def t_8_min : dk_Tm := (tc_n, [], [0, 9, 10], 0)
def y_3_nextToken : MethodName := ⟨nn_R3, "nextToken", "()V"⟩
def b_3_nextToken : dk_T := [
  ([true], [.inl (.aload 0), .inl (.aload 0), .inr (0, 3, 7), .inr (1, 3, 6), .inr (7, 1, 1)]),
  ([true], [.inl (.aload 0), .inr (0, 3, 6), .inl (.aload 0), .inr (0, 3, 1), .inl (.if_icmp .ge 2), .inl (.aload 0), .inr (0, 3, 0), .inl (.aload 0), .inr (0, 3, 6), .inl .iaload, .inr (5, 0, 1), .inl (.iconst 4), .inl (.if_icmp .ne 2), .inl (.aload 0), .inl .dup, .inr (0, 3, 6), .inl (.iconst 1), .inl .iadd, .inr (1, 3, 6), .inr (7, 1, 0)]),
  ([true], [.inl (.aload 0), .inl (.aload 0), .inr (0, 3, 6), .inr (1, 3, 7), .inl (.aload 0), .inl (.iconst 0), .inr (1, 3, 8), .inl (.aload 0), .inl (.aload 0), .inr (0, 3, 6), .inl (.aload 0), .inr (0, 3, 1), .inl (.if_icmp .ge 3), .inl (.aload 0), .inr (0, 3, 0), .inl (.aload 0), .inr (0, 3, 6), .inl .iaload, .inr (5, 0, 1), .inr (7, 4, 0)]),
  ([true], [.inl (.iconst 0), .inr (7, 4, 1)]),
  ([true], [.inr (1, 3, 5), .inl (.aload 0), .inr (0, 3, 5), .inl (.iconst 3), .inl (.if_icmp .eq 5), .inl (.aload 0), .inr (0, 3, 5), .inl (.iconst 5), .inl (.if_icmp .ne 6), .inr (7, 5, 1)]),
  ([true], [.inl (.aload 0), .inl .dup, .inr (0, 3, 7), .inl (.iconst 1), .inl .iadd, .inr (1, 3, 7), .inl .return_]),
  ([true], [.inl (.aload 0), .inr (0, 3, 7), .inl (.aload 0), .inr (0, 3, 1), .inl (.if_icmp .ge 8), .inl (.aload 0), .inr (0, 3, 0), .inl (.aload 0), .inr (0, 3, 7), .inl .iaload, .inr (5, 0, 1), .inl (.aload 0), .inr (0, 3, 5), .inl (.if_icmp .ne 8), .inl (.aload 0), .inr (0, 3, 5), .inl (.iconst 2), .inl (.if_icmp .ne 7), .inl (.aload 0), .inl (.aload 0), .inr (0, 3, 8), .inl (.iconst 10), .inl .imul, .inl (.aload 0), .inr (0, 3, 0), .inl (.aload 0), .inr (0, 3, 7), .inl .iaload, .inl .iadd, .inl (.iconst 48), .inl .isub, .inl (.iconst 10000), .inr (5, 1, 1), .inr (1, 3, 8), .inr (7, 7, 1)]),
  ([true], [.inl (.aload 0), .inl .dup, .inr (0, 3, 7), .inl (.iconst 1), .inl .iadd, .inr (1, 3, 7), .inr (7, 6, 0)]),
  ([false], [.inl .return_])]
def g_3_nextToken : List (Nat × dk_S) := [(1, s_3_tokenOf), (2, s_8_min)]
def s_3_nextToken : dk_S := dk_MV 3 g_3_nextToken b_3_nextToken 1
theorem h_3_nextToken : dk_monoG g_3_nextToken := dk_monoG_cons o_3_tokenOf (dk_monoG_cons o_8_min (dk_monoG_nil))
theorem o_3_nextToken : dk_mono s_3_nextToken := dk_MV_mono _ h_3_nextToken _ _
def t_3_nextToken : dk_Tm := (tc_3, [(107, 1, 0), (111, 1, 1)], [0, 8, 48, 88, 89, 108, 119, 187, 200], 2)
def y_3_wordOf : MethodName := ⟨nn_R3, "wordOf", "(I)Ljava/lang/String;"⟩
def b_3_wordOf : dk_T := [
  ([true], [.inl (.iload 0), .inl (.tableswitch 7 0 5 #[1, 2, 3, 4, 5, 6])]),
  ([false], [.inr (6, 110, 1), .inl .areturn]),
  ([false], [.inr (6, 111, 1), .inl .areturn]),
  ([false], [.inr (6, 112, 1), .inl .areturn]),
  ([false], [.inr (6, 113, 1), .inl .areturn]),
  ([false], [.inr (6, 114, 1), .inl .areturn]),
  ([false], [.inr (6, 115, 1), .inl .areturn]),
  ([false], [.inr (6, 116, 1), .inl .areturn])]
def g_3_wordOf : List (Nat × dk_S) := []
def s_3_wordOf : dk_S := dk_M g_3_wordOf b_3_wordOf 1
theorem h_3_wordOf : dk_monoG g_3_wordOf := dk_monoG_nil
theorem o_3_wordOf : dk_mono s_3_wordOf := dk_M_mono h_3_wordOf _ _
def t_3_wordOf : dk_Tm := (tc_3, [], [0, 40, 43, 46, 49, 52, 55, 58], 3)
def y_3_isWord : MethodName := ⟨nn_R3, "isWord", "(Ljava/lang/String;)Z"⟩
def b_3_isWord : dk_T := [
  ([true, true, false], [.inl (.aload 0), .inr (0, 3, 5), .inl (.iconst 1), .inl (.if_icmp .ne 1), .inl (.aload 0), .inr (0, 3, 7), .inl (.aload 0), .inr (0, 3, 6), .inl .isub, .inl (.aload 1), .inr (5, 0, 0), .inl (.if_icmp .eq 2), .inr (7, 1, 1)]),
  ([false, false, false], [.inl (.iconst 0), .inl .lreturn]),
  ([true, true, false], [.inl (.iconst 0), .inl (.istore 2), .inr (7, 3, 1)]),
  ([true, true, true], [.inl (.iload 2), .inl (.aload 1), .inr (5, 0, 0), .inl (.if_icmp .ge 5), .inl (.aload 0), .inr (0, 3, 0), .inl (.aload 0), .inr (0, 3, 6), .inl (.iload 2), .inl .iadd, .inl .iaload, .inl (.aload 1), .inl (.iload 2), .inr (5, 1, 0), .inl (.if_icmp .eq 4), .inl (.iconst 0), .inl .lreturn]),
  ([true, true, true], [.inl (.iinc 2 (1)), .inr (7, 3, 0)]),
  ([false, false, false], [.inl (.iconst 1), .inl .lreturn])]
def g_3_isWord : List (Nat × dk_S) := [(1, s_sl), (2, s_sc)]
def s_3_isWord : dk_S := dk_MV 3 g_3_isWord b_3_isWord 3
theorem h_3_isWord : dk_monoG g_3_isWord := dk_monoG_cons o_sl (dk_monoG_cons o_sc (dk_monoG_nil))
theorem o_3_isWord : dk_mono s_3_isWord := dk_MV_mono _ h_3_isWord _ _
def t_3_isWord : dk_Tm := (tc_3, [(99, 0, 0), (103, 0, 1)], [0, 24, 26, 28, 57, 63], 1)
def y_3_kindHere : MethodName := ⟨nn_R3, "kindHere", "()I"⟩
def b_3_kindHere : dk_T := [
  ([true, false], [.inl (.iconst 0), .inl (.istore 1), .inr (7, 1, 1)]),
  ([true, true], [.inl (.iload 1), .inl (.iconst 7), .inl (.if_icmp .ge 3), .inl (.aload 0), .inl (.iload 1), .inr (5, 0, 1), .inr (5, 1, 0), .inl (.ifCond .eq 2), .inl (.iload 1), .inl .ireturn]),
  ([true, true], [.inl (.iinc 1 (1)), .inr (7, 1, 0)]),
  ([false, false], [.inl (.iconst (-1)), .inl .ireturn])]
def g_3_kindHere : List (Nat × dk_S) := [(1, s_3_wordOf), (2, s_3_isWord)]
def s_3_kindHere : dk_S := dk_MV 3 g_3_kindHere b_3_kindHere 2
theorem h_3_kindHere : dk_monoG g_3_kindHere := dk_monoG_cons o_3_wordOf (dk_monoG_cons o_3_isWord (dk_monoG_nil))
theorem o_3_kindHere : dk_mono s_3_kindHere := dk_MV_mono _ h_3_kindHere _ _
def t_3_kindHere : dk_Tm := (tc_3, [(81, 1, 0), (61, 0, 1)], [0, 2, 21, 27], 0)
def y_3_note : MethodName := ⟨nn_R3, "note", "(II)V"⟩
def b_3_note : dk_T := [
  ([true, true, true], [.inl (.aload 0), .inr (0, 3, 4), .inl (.aload 0), .inr (0, 3, 2), .inl (.iconst 6), .inl .imul, .inl (.iload 1), .inl .iadd, .inl (.iload 2), .inl .iastore, .inl .return_])]
def g_3_note : List (Nat × dk_S) := []
def s_3_note : dk_S := dk_MV 3 g_3_note b_3_note 3
theorem h_3_note : dk_monoG g_3_note := dk_monoG_nil
theorem o_3_note : dk_mono s_3_note := dk_MV_mono _ h_3_note _ _
def t_3_note : dk_Tm := (tc_3, [], [0], 2)
def y_3_readNumber : MethodName := ⟨nn_R3, "readNumber", "(III)Z"⟩
def b_3_readNumber : dk_T := [
  ([true, true, true, true], [.inl (.aload 0), .inr (0, 3, 5), .inl (.iconst 2), .inl (.if_icmp .ne 1), .inl (.aload 0), .inr (0, 3, 8), .inl (.iload 2), .inl (.if_icmp .lt 1), .inl (.aload 0), .inr (0, 3, 8), .inl (.iload 3), .inl (.if_icmp .le 2), .inr (7, 1, 1)]),
  ([false, false, false, false], [.inl (.iconst 0), .inl .lreturn]),
  ([true, true, false, false], [.inl (.aload 0), .inl (.iload 1), .inl (.aload 0), .inr (0, 3, 8), .inr (5, 0, 0), .inl (.aload 0), .inr (5, 1, 0), .inl (.iconst 1), .inl .lreturn])]
def g_3_readNumber : List (Nat × dk_S) := [(3, s_3_note), (1, s_3_nextToken)]
def s_3_readNumber : dk_S := dk_MV 3 g_3_readNumber b_3_readNumber 4
theorem h_3_readNumber : dk_monoG g_3_readNumber := dk_monoG_cons o_3_note (dk_monoG_cons o_3_nextToken (dk_monoG_nil))
theorem o_3_readNumber : dk_mono s_3_readNumber := dk_MV_mono _ h_3_readNumber _ _
def t_3_readNumber : dk_Tm := (tc_3, [(51, 0, 0), (40, 0, 1)], [0, 24, 26], 1)
def y_3_optionHere : MethodName := ⟨nn_R3, "optionHere", "()I"⟩
def b_3_optionHere : dk_T := [
  ([true], [.inl (.aload 0), .inr (6, 118, 1), .inr (5, 0, 0), .inl (.ifCond .eq 1), .inl (.iconst 2), .inl .ireturn]),
  ([true], [.inl (.aload 0), .inr (6, 119, 1), .inr (5, 0, 0), .inl (.ifCond .eq 2), .inl (.iconst 3), .inl .ireturn]),
  ([true], [.inl (.aload 0), .inr (6, 120, 1), .inr (5, 0, 0), .inl (.ifCond .eq 3), .inl (.iconst 4), .inr (7, 4, 0)]),
  ([false], [.inl (.iconst (-1)), .inr (7, 4, 1)]),
  ([false], [.inl .ireturn])]
def g_3_optionHere : List (Nat × dk_S) := [(2, s_3_isWord)]
def s_3_optionHere : dk_S := dk_MV 3 g_3_optionHere b_3_optionHere 1
theorem h_3_optionHere : dk_monoG g_3_optionHere := dk_monoG_cons o_3_isWord (dk_monoG_nil)
theorem o_3_optionHere : dk_mono s_3_optionHere := dk_MV_mono _ h_3_optionHere _ _
def t_3_optionHere : dk_Tm := (tc_3, [(61, 0, 0)], [0, 11, 22, 35, 36], 0)
def y_3_readOptions : MethodName := ⟨nn_R3, "readOptions", "()Z"⟩
def b_3_readOptions : dk_T := [
  ([true, false, false], [.inl (.aload 0), .inl (.iconst 2), .inl (.iconst 50), .inr (5, 0, 0), .inl (.aload 0), .inl (.iconst 3), .inl (.iconst 50), .inr (5, 0, 0), .inl (.aload 0), .inl (.iconst 4), .inl (.iconst 0), .inr (5, 0, 0), .inl (.iconst 0), .inl (.istore 1), .inr (7, 1, 1)]),
  ([true, true, false], [.inl (.iload 1), .inl (.iconst 120), .inl (.if_icmp .ge 6), .inl (.aload 0), .inr (5, 1, 0), .inl (.istore 2), .inl (.iload 2), .inl (.iconst (-1)), .inl (.if_icmp .ne 2), .inl (.iconst 1), .inl .lreturn]),
  ([true, true, true], [.inl (.aload 0), .inr (5, 2, 0), .inl (.aload 0), .inl (.iload 2), .inl (.iconst 0), .inl (.iload 2), .inl (.iconst 4), .inl (.if_icmp .ne 3), .inl (.iconst 99), .inr (7, 4, 0)]),
  ([true, true, false], [.inl (.iconst 100), .inr (7, 4, 1)]),
  ([true, true, false], [.inr (5, 3, 0), .inl (.ifCond .ne 5), .inl (.iconst 0), .inl .lreturn]),
  ([true, true, false], [.inl (.iinc 1 (1)), .inr (7, 1, 0)]),
  ([false, false, false], [.inl (.iconst 1), .inl .lreturn])]
def g_3_readOptions : List (Nat × dk_S) := [(3, s_3_note), (1, s_3_optionHere), (1, s_3_nextToken), (4, s_3_readNumber)]
def s_3_readOptions : dk_S := dk_MV 3 g_3_readOptions b_3_readOptions 3
theorem h_3_readOptions : dk_monoG g_3_readOptions := dk_monoG_cons o_3_note (dk_monoG_cons o_3_optionHere (dk_monoG_cons o_3_nextToken (dk_monoG_cons o_3_readNumber (dk_monoG_nil))))
theorem o_3_readOptions : dk_mono s_3_readOptions := dk_MV_mono _ h_3_readOptions _ _
def t_3_readOptions : dk_Tm := (tc_3, [(51, 0, 0), (72, 0, 1), (40, 0, 2), (55, 0, 3)], [0, 22, 40, 57, 59, 67, 73], 1)
def y_3_of : MethodName := ⟨nn_R3, "of", "(II)I"⟩
def b_3_of : dk_T := [
  ([true, true, true], [.inl (.aload 0), .inr (0, 3, 4), .inl (.iload 1), .inl (.iconst 6), .inl .imul, .inl (.iload 2), .inl .iadd, .inl .iaload, .inl .ireturn])]
def g_3_of : List (Nat × dk_S) := []
def s_3_of : dk_S := dk_MV 3 g_3_of b_3_of 3
theorem h_3_of : dk_monoG g_3_of := dk_monoG_nil
theorem o_3_of : dk_mono s_3_of := dk_MV_mono _ h_3_of _ _
def t_3_of : dk_Tm := (tc_3, [], [0], 0)
def y_3_readGroup : MethodName := ⟨nn_R3, "readGroup", "()Z"⟩
def b_3_readGroup : dk_T := [
  ([true, false], [.inl (.aload 0), .inr (0, 3, 2), .inl (.iconst 11), .inl (.if_icmp .lt 1), .inl (.iconst 0), .inl .lreturn]),
  ([true, false], [.inl (.aload 0), .inr (5, 0, 0), .inl (.istore 1), .inl (.iload 1), .inl (.iconst (-1)), .inl (.if_icmp .ne 2), .inl (.iconst 0), .inl .lreturn]),
  ([true, true], [.inl (.aload 0), .inl (.iconst 0), .inl (.iload 1), .inr (5, 1, 0), .inl (.aload 0), .inr (5, 2, 0), .inl (.aload 0), .inl (.iconst 1), .inl (.iconst 1), .inl (.iconst 24), .inr (5, 3, 0), .inl (.ifCond .eq 3), .inl (.aload 0), .inr (6, 117, 1), .inr (5, 4, 0), .inl (.ifCond .ne 4), .inr (7, 3, 1)]),
  ([false, false], [.inl (.iconst 0), .inl .lreturn]),
  ([true, false], [.inl (.aload 0), .inr (5, 2, 0), .inl (.aload 0), .inl (.iconst 5), .inl (.iconst 1), .inl (.iconst 200), .inr (5, 3, 0), .inl (.ifCond .eq 5), .inl (.aload 0), .inr (5, 5, 0), .inl (.ifCond .ne 6), .inr (7, 5, 1)]),
  ([false, false], [.inl (.iconst 0), .inl .lreturn]),
  ([true, false], [.inl (.aload 0), .inl .dup, .inr (0, 3, 3), .inl (.aload 0), .inl (.aload 0), .inr (0, 3, 2), .inl (.iconst 1), .inr (5, 6, 0), .inl .iadd, .inr (1, 3, 3), .inl (.aload 0), .inl .dup, .inr (0, 3, 2), .inl (.iconst 1), .inl .iadd, .inr (1, 3, 2), .inl (.iconst 1), .inl .lreturn])]
def g_3_readGroup : List (Nat × dk_S) := [(1, s_3_kindHere), (3, s_3_note), (1, s_3_nextToken), (4, s_3_readNumber), (2, s_3_isWord), (1, s_3_readOptions), (3, s_3_of)]
def s_3_readGroup : dk_S := dk_MV 3 g_3_readGroup b_3_readGroup 2
theorem h_3_readGroup : dk_monoG g_3_readGroup := dk_monoG_cons o_3_kindHere (dk_monoG_cons o_3_note (dk_monoG_cons o_3_nextToken (dk_monoG_cons o_3_readNumber (dk_monoG_cons o_3_isWord (dk_monoG_cons o_3_readOptions (dk_monoG_cons o_3_of (dk_monoG_nil)))))))
theorem o_3_readGroup : dk_mono s_3_readGroup := dk_MV_mono _ h_3_readGroup _ _
def t_3_readGroup : dk_Tm := (tc_3, [(47, 0, 0), (51, 0, 1), (40, 0, 2), (55, 0, 3), (61, 0, 4), (65, 0, 5), (68, 0, 6)], [0, 11, 23, 53, 55, 78, 80], 1)
def y_3_readText : MethodName := ⟨nn_R3, "readText", "()I"⟩
def b_3_readText : dk_T := [
  ([true, false], [.inl (.aload 0), .inl (.iconst 0), .inr (1, 3, 2), .inl (.aload 0), .inl (.iconst 0), .inr (1, 3, 3), .inl (.aload 0), .inl (.iconst 0), .inr (1, 3, 7), .inl (.aload 0), .inr (5, 0, 0), .inl (.iconst 0), .inl (.istore 1), .inr (7, 1, 1)]),
  ([true, true], [.inl (.iload 1), .inl (.iconst 11), .inl (.if_icmp .ge 5), .inl (.aload 0), .inr (5, 1, 0), .inl (.ifCond .ne 2), .inl (.aload 0), .inr (0, 3, 6), .inl .ireturn]),
  ([true, true], [.inl (.aload 0), .inr (0, 3, 5), .inl (.ifCond .ne 3), .inl (.iconst (-1)), .inl .ireturn]),
  ([true, true], [.inl (.aload 0), .inr (0, 3, 5), .inl (.iconst 3), .inl (.if_icmp .eq 4), .inl (.aload 0), .inr (0, 3, 6), .inl .ireturn]),
  ([true, true], [.inl (.aload 0), .inr (5, 0, 0), .inl (.iinc 1 (1)), .inr (7, 1, 0)]),
  ([true, false], [.inl (.aload 0), .inr (0, 3, 6), .inl .ireturn])]
def g_3_readText : List (Nat × dk_S) := [(1, s_3_nextToken), (1, s_3_readGroup)]
def s_3_readText : dk_S := dk_MV 3 g_3_readText b_3_readText 2
theorem h_3_readText : dk_monoG g_3_readText := dk_monoG_cons o_3_nextToken (dk_monoG_cons o_3_readGroup (dk_monoG_nil))
theorem o_3_readText : dk_mono s_3_readText := dk_MV_mono _ h_3_readText _ _
def t_3_readText : dk_Tm := (tc_3, [(40, 0, 0), (43, 0, 1)], [0, 21, 39, 48, 61, 71], 0)
def y_0_fallIn : MethodName := ⟨nn_R0, "fallIn", "(LLongColumn$TextReader;I)V"⟩
def b_0_fallIn : dk_T := [
  ([true, true, true, false], [.inl (.aload 0), .inr (0, 0, 1), .inl (.iconst 24), .inl (.if_icmp .lt 1), .inl .return_]),
  ([true, true, true, false], [.inl (.aload 0), .inr (0, 0, 1), .inl (.istore 3), .inl (.aload 0), .inr (0, 0, 2), .inl (.iload 3), .inl (.aload 1), .inl (.iload 2), .inl (.iconst 0), .inr (5, 0, 0), .inl .iastore, .inl (.aload 0), .inr (0, 0, 3), .inl (.iload 3), .inl (.iload 3), .inl (.ifCond .ne 2), .inl (.iconst 0), .inr (7, 3, 0)]),
  ([true, true, true, true], [.inl (.aload 0), .inr (0, 0, 3), .inl (.iload 3), .inl (.iconst 1), .inl .isub, .inl .iaload, .inl (.aload 1), .inl (.iload 2), .inl (.iconst 5), .inr (5, 0, 0), .inl .iadd, .inr (7, 3, 1)]),
  ([true, true, true, true], [.inl .iastore, .inl (.aload 0), .inr (0, 0, 4), .inl (.iload 3), .inl (.aload 1), .inl (.iload 2), .inl (.iconst 2), .inr (5, 0, 0), .inl .iastore, .inl (.aload 0), .inr (0, 0, 5), .inl (.iload 3), .inl (.aload 1), .inl (.iload 2), .inl (.iconst 3), .inr (5, 0, 0), .inl .iastore, .inl (.aload 0), .inr (0, 0, 6), .inl (.iload 3), .inl (.aload 1), .inl (.iload 2), .inl (.iconst 4), .inr (5, 0, 0), .inl .iastore, .inl (.aload 0), .inr (0, 0, 7), .inl (.iload 3), .inl (.iconst 0), .inl .iastore, .inl (.aload 0), .inl .dup, .inr (0, 0, 1), .inl (.iconst 1), .inl .iadd, .inr (1, 0, 1), .inl .return_])]
def g_0_fallIn : List (Nat × dk_S) := [(3, s_3_of)]
def s_0_fallIn : dk_S := dk_MV 0 g_0_fallIn b_0_fallIn 4
theorem h_0_fallIn : dk_monoG g_0_fallIn := dk_monoG_cons o_3_of (dk_monoG_nil)
theorem o_0_fallIn : dk_mono s_0_fallIn := dk_MV_mono _ h_0_fallIn _ _
def t_0_fallIn : dk_Tm := (tc_0, [(89, 0, 0)], [0, 10, 40, 55], 2)
def y_5_column : MethodName := ⟨nn_R5, "column", "()I"⟩
def b_5_column : dk_T := [
  ([true, false, false, false], [.inl (.aload 0), .inr (0, 5, 3), .inr (5, 0, 0), .inl (.istore 1), .inl (.aload 0), .inr (0, 5, 3), .inl (.iconst 0), .inr (1, 3, 1), .inl (.iload 1), .inl (.iconst (-1)), .inl (.if_icmp .eq 1), .inl (.iconst (-1)), .inl (.iload 1), .inl .isub, .inl .ireturn]),
  ([true, false, false, false], [.inl (.aload 0), .inr (0, 5, 3), .inr (0, 3, 3), .inl (.iconst 24), .inl (.aload 0), .inr (0, 5, 0), .inr (0, 0, 1), .inl .isub, .inl (.if_icmp .le 2), .inl (.aload 0), .inl (.iconst 1), .inr (5, 1, 0), .inl .ireturn]),
  ([true, false, false, false], [.inl (.iconst 0), .inl (.istore 2), .inr (7, 3, 1)]),
  ([true, false, true, false], [.inl (.iload 2), .inl (.aload 0), .inr (0, 5, 3), .inr (0, 3, 2), .inl (.if_icmp .ge 6), .inl (.iconst 0), .inl (.istore 3), .inr (7, 4, 1)]),
  ([true, false, true, true], [.inl (.iload 3), .inl (.aload 0), .inr (0, 5, 3), .inl (.iload 2), .inl (.iconst 1), .inr (5, 2, 0), .inl (.if_icmp .ge 5), .inl (.aload 0), .inr (0, 5, 0), .inl (.aload 0), .inr (0, 5, 3), .inl (.iload 2), .inr (5, 3, 0), .inl (.iinc 3 (1)), .inr (7, 4, 0)]),
  ([true, false, true, false], [.inl (.iinc 2 (1)), .inr (7, 3, 0)]),
  ([true, false, false, false], [.inl (.aload 0), .inr (0, 5, 0), .inr (0, 0, 1), .inl .ireturn])]
def g_5_column : List (Nat × dk_S) := [(1, s_3_readText), (2, s_5_finding), (3, s_3_of), (3, s_0_fallIn)]
def s_5_column : dk_S := dk_MV 5 g_5_column b_5_column 4
theorem h_5_column : dk_monoG g_5_column := dk_monoG_cons o_3_readText (dk_monoG_cons o_5_finding (dk_monoG_cons o_3_of (dk_monoG_cons o_0_fallIn (dk_monoG_nil))))
theorem o_5_column : dk_mono s_5_column := dk_MV_mono _ h_5_column _ _
def t_5_column : dk_Tm := (tc_5, [(95, 0, 0), (78, 0, 1), (106, 0, 2), (110, 0, 3)], [0, 25, 51, 53, 66, 97, 103], 0)
def y_0_hasRank : MethodName := ⟨nn_R0, "hasRank", "(I)Z"⟩
def b_0_hasRank : dk_T := [
  ([true, true], [.inl (.iload 1), .inl (.ifCond .lt 1), .inl (.iload 1), .inl (.aload 0), .inr (0, 0, 1), .inl (.if_icmp .ge 1), .inl (.iconst 1), .inr (7, 2, 0)]),
  ([false, false], [.inl (.iconst 0), .inr (7, 2, 1)]),
  ([false, false], [.inl .lreturn])]
def g_0_hasRank : List (Nat × dk_S) := []
def s_0_hasRank : dk_S := dk_MV 0 g_0_hasRank b_0_hasRank 2
theorem h_0_hasRank : dk_monoG g_0_hasRank := dk_monoG_nil
theorem o_0_hasRank : dk_mono s_0_hasRank := dk_MV_mono _ h_0_hasRank _ _
def t_0_hasRank : dk_Tm := (tc_0, [], [0, 16, 17], 1)
def y_8_abs : MethodName := ⟨"java/lang/Math", "abs", "(I)I"⟩
def b_8_abs : dk_T := [
  ([true], [.inl (.iload 0), .inl (.ifCond .ge 1), .inl (.iload 0), .inl .ineg, .inr (7, 2, 0)]),
  ([true], [.inl (.iload 0), .inr (7, 2, 1)]),
  ([false], [.inl .ireturn])]
def g_8_abs : List (Nat × dk_S) := []
def s_8_abs : dk_S := dk_M g_8_abs b_8_abs 1
theorem h_8_abs : dk_monoG g_8_abs := dk_monoG_nil
theorem o_8_abs : dk_mono s_8_abs := dk_M_mono h_8_abs _ _
def t_8_abs : dk_Tm := (tc_n, [], [0, 9, 10], 0)
def y_0_drumFor : MethodName := ⟨nn_R0, "drumFor", "(I)I"⟩
def b_0_drumFor : dk_T := [
  ([true, true, false, false, false, false], [.inl (.iconst (-1)), .inl (.istore 2), .inl (.iconst 0), .inl (.istore 3), .inl (.iconst 0), .inl (.istore 4), .inr (7, 1, 1)]),
  ([true, true, true, true, true, false], [.inl (.iload 4), .inl (.aload 0), .inr (0, 0, 8), .inl (.if_icmp .ge 3), .inl (.aload 0), .inr (0, 0, 10), .inl (.iload 4), .inl .iaload, .inl (.aload 0), .inr (0, 0, 9), .inl (.iload 4), .inl .iaload, .inl (.aload 0), .inr (0, 0, 3), .inl (.iload 1), .inl .iaload, .inl .isub, .inr (5, 0, 1), .inl (.iconst 50), .inl .idiv, .inl .isub, .inl (.istore 5), .inl (.iload 5), .inl (.iload 3), .inl (.if_icmp .le 2), .inl (.iload 5), .inl (.istore 3), .inl (.iload 4), .inl (.istore 2), .inr (7, 2, 1)]),
  ([true, true, true, true, true, false], [.inl (.iinc 4 (1)), .inr (7, 1, 0)]),
  ([false, false, true, false, false, false], [.inl (.iload 2), .inl .ireturn])]
def g_0_drumFor : List (Nat × dk_S) := [(1, s_8_abs)]
def s_0_drumFor : dk_S := dk_MV 0 g_0_drumFor b_0_drumFor 6
theorem h_0_drumFor : dk_monoG g_0_drumFor := dk_monoG_cons o_8_abs (dk_monoG_nil)
theorem o_0_drumFor : dk_mono s_0_drumFor := dk_MV_mono _ h_0_drumFor _ _
def t_0_drumFor : dk_Tm := (tc_0, [(94, 1, 0)], [0, 7, 58, 64], 0)
def y_0_lagBetween : MethodName := ⟨nn_R0, "lagBetween", "(II)I"⟩
def b_0_lagBetween : dk_T := [
  ([true, true, true], [.inl (.iload 2), .inl (.iload 1), .inl (.if_icmp .le 1), .inl (.iload 2), .inl (.iload 1), .inl .isub, .inl (.iconst 1000), .inl .imul, .inl (.aload 0), .inr (0, 0, 0), .inl (.iconst 1), .inl .iaload, .inl (.aload 0), .inr (0, 0, 0), .inl (.iconst 2), .inl .iaload, .inl .iadd, .inl .idiv, .inl .ireturn]),
  ([true, true, true], [.inl (.iload 1), .inl (.iload 2), .inl .isub, .inl (.iconst 1000), .inl .imul, .inl (.aload 0), .inr (0, 0, 0), .inl (.iconst 1), .inl .iaload, .inl (.aload 0), .inr (0, 0, 0), .inl (.iconst 2), .inl .iaload, .inl .isub, .inl .idiv, .inl .ireturn])]
def g_0_lagBetween : List (Nat × dk_S) := []
def s_0_lagBetween : dk_S := dk_MV 0 g_0_lagBetween b_0_lagBetween 3
theorem h_0_lagBetween : dk_monoG g_0_lagBetween := dk_monoG_nil
theorem o_0_lagBetween : dk_mono s_0_lagBetween := dk_MV_mono _ h_0_lagBetween _ _
def t_0_lagBetween : dk_Tm := (tc_0, [], [0, 27], 0)
def y_0_lagFromDrum : MethodName := ⟨nn_R0, "lagFromDrum", "(II)I"⟩
def b_0_lagFromDrum : dk_T := [
  ([true, true, true], [.inl (.aload 0), .inl (.aload 0), .inr (0, 0, 9), .inl (.iload 1), .inl .iaload, .inl (.aload 0), .inr (0, 0, 3), .inl (.iload 2), .inl .iaload, .inr (5, 0, 0), .inl .ireturn])]
def g_0_lagFromDrum : List (Nat × dk_S) := [(3, s_0_lagBetween)]
def s_0_lagFromDrum : dk_S := dk_MV 0 g_0_lagFromDrum b_0_lagFromDrum 3
theorem h_0_lagFromDrum : dk_monoG g_0_lagFromDrum := dk_monoG_cons o_0_lagBetween (dk_monoG_nil)
theorem o_0_lagFromDrum : dk_mono s_0_lagFromDrum := dk_MV_mono _ h_0_lagFromDrum _ _
def t_0_lagFromDrum : dk_Tm := (tc_0, [(99, 0, 0)], [0], 0)
def y_0_beatFor : MethodName := ⟨nn_R0, "beatFor", "(I)I"⟩
def b_0_beatFor : dk_T := [
  ([true, true, false], [.inl (.aload 0), .inl (.iload 1), .inr (5, 0, 0), .inl (.istore 2), .inl (.iload 2), .inl (.iconst (-1)), .inl (.if_icmp .ne 1), .inl (.iconst (-2000000000)), .inr (7, 2, 0)]),
  ([true, true, true], [.inl (.aload 0), .inl (.iload 2), .inl (.iload 1), .inr (5, 1, 0), .inl (.aload 0), .inr (0, 0, 11), .inl (.iload 2), .inl .iaload, .inl .isub, .inr (7, 2, 1)]),
  ([false, false, false], [.inl .ireturn])]
def g_0_beatFor : List (Nat × dk_S) := [(2, s_0_drumFor), (3, s_0_lagFromDrum)]
def s_0_beatFor : dk_S := dk_MV 0 g_0_beatFor b_0_beatFor 3
theorem h_0_beatFor : dk_monoG g_0_beatFor := dk_monoG_cons o_0_drumFor (dk_monoG_cons o_0_lagFromDrum (dk_monoG_nil))
theorem o_0_beatFor : dk_mono s_0_beatFor := dk_MV_mono _ h_0_beatFor _ _
def t_0_beatFor : dk_Tm := (tc_0, [(102, 0, 0), (106, 0, 1)], [0, 16, 29], 0)
def y_1_listen : MethodName := ⟨nn_R1, "listen", "()V"⟩
def b_1_listen : dk_T := [
  ([true, false], [.inl (.iconst 0), .inl (.istore 1), .inr (7, 1, 1)]),
  ([true, true], [.inl (.iload 1), .inl (.aload 0), .inr (0, 1, 0), .inr (0, 0, 1), .inl (.if_icmp .ge 2), .inl (.aload 0), .inr (0, 1, 2), .inl (.iload 1), .inl (.aload 0), .inr (0, 1, 0), .inl (.iload 1), .inr (5, 0, 0), .inl .iastore, .inl (.iinc 1 (1)), .inr (7, 1, 0)]),
  ([false, false], [.inl .return_])]
def g_1_listen : List (Nat × dk_S) := [(2, s_0_beatFor)]
def s_1_listen : dk_S := dk_MV 1 g_1_listen b_1_listen 2
theorem h_1_listen : dk_monoG g_1_listen := dk_monoG_cons o_0_beatFor (dk_monoG_nil)
theorem o_1_listen : dk_mono s_1_listen := dk_MV_mono _ h_1_listen _ _
def t_1_listen : dk_Tm := (tc_1, [(58, 0, 0)], [0, 2, 33], 2)
def y_0_isBehindBend : MethodName := ⟨nn_R0, "isBehindBend", "(I)Z"⟩
def b_0_isBehindBend : dk_T := [
  ([true, true, false], [.inl (.iconst 0), .inl (.istore 2), .inr (7, 1, 1)]),
  ([true, true, true], [.inl (.iload 1), .inl (.ifCond .le 3), .inl (.iload 2), .inl (.aload 0), .inr (0, 0, 12), .inl (.if_icmp .ge 3), .inl (.aload 0), .inr (0, 0, 13), .inl (.iload 2), .inl .iaload, .inl (.aload 0), .inr (0, 0, 3), .inl (.iload 1), .inl (.iconst 1), .inl .isub, .inl .iaload, .inl (.if_icmp .lt 2), .inl (.aload 0), .inr (0, 0, 13), .inl (.iload 2), .inl .iaload, .inl (.aload 0), .inr (0, 0, 3), .inl (.iload 1), .inl .iaload, .inl (.if_icmp .ge 2), .inl (.iconst 1), .inl .lreturn]),
  ([true, true, true], [.inl (.iinc 2 (1)), .inr (7, 1, 0)]),
  ([false, false, false], [.inl (.iconst 0), .inl .lreturn])]
def g_0_isBehindBend : List (Nat × dk_S) := []
def s_0_isBehindBend : dk_S := dk_MV 0 g_0_isBehindBend b_0_isBehindBend 3
theorem h_0_isBehindBend : dk_monoG g_0_isBehindBend := dk_monoG_nil
theorem o_0_isBehindBend : dk_mono s_0_isBehindBend := dk_MV_mono _ h_0_isBehindBend _ _
def t_0_isBehindBend : dk_Tm := (tc_0, [], [0, 2, 48, 54], 1)
def y_1_feel : MethodName := ⟨nn_R1, "feel", "(I)V"⟩
def b_1_feel : dk_T := [
  ([true, true, false, false, false], [.inl (.aload 0), .inr (0, 1, 4), .inl (.iload 1), .inl (.iconst 0), .inl .iastore, .inl (.aload 0), .inr (0, 1, 0), .inr (0, 0, 3), .inl (.iload 1), .inl .iaload, .inl (.istore 2), .inl (.iconst 0), .inl (.istore 3), .inr (7, 1, 1)]),
  ([true, true, true, true, false], [.inl (.iload 3), .inl (.aload 0), .inr (0, 1, 0), .inr (0, 0, 1), .inl (.if_icmp .ge 4), .inl (.aload 0), .inr (0, 1, 0), .inr (0, 0, 3), .inl (.iload 3), .inl .iaload, .inl (.istore 4), .inl (.iload 3), .inl (.iload 1), .inl (.if_icmp .eq 2), .inl (.iload 4), .inl (.iload 2), .inl .isub, .inr (5, 0, 1), .inl (.aload 0), .inr (0, 1, 0), .inr (0, 0, 0), .inl (.iconst 3), .inl .iaload, .inl (.if_icmp .gt 2), .inl (.aload 0), .inr (0, 1, 5), .inl (.iload 1), .inl (.iconst 24), .inl .imul, .inl (.iload 3), .inl .iadd, .inl (.aload 0), .inr (0, 1, 0), .inl (.iload 4), .inl (.iload 2), .inr (5, 1, 0), .inl .iastore, .inl (.aload 0), .inr (0, 1, 4), .inl (.iload 1), .inl .dup2, .inl .iaload, .inl (.iconst 1), .inl .iadd, .inl .iastore, .inr (7, 3, 0)]),
  ([true, true, true, true, false], [.inl (.aload 0), .inr (0, 1, 5), .inl (.iload 1), .inl (.iconst 24), .inl .imul, .inl (.iload 3), .inl .iadd, .inl (.iconst (-2000000000)), .inl .iastore, .inr (7, 3, 1)]),
  ([true, true, true, true, false], [.inl (.iinc 3 (1)), .inr (7, 1, 0)]),
  ([false, false, false, false, false], [.inl .return_])]
def g_1_feel : List (Nat × dk_S) := [(1, s_8_abs), (3, s_0_lagBetween)]
def s_1_feel : dk_S := dk_MV 1 g_1_feel b_1_feel 5
theorem h_1_feel : dk_monoG g_1_feel := dk_monoG_cons o_8_abs (dk_monoG_cons o_0_lagBetween (dk_monoG_nil))
theorem o_1_feel : dk_mono s_1_feel := dk_MV_mono _ h_1_feel _ _
def t_1_feel : dk_Tm := (tc_1, [(65, 1, 0), (70, 0, 1)], [0, 19, 99, 112, 118], 2)
def y_1_prepare : MethodName := ⟨nn_R1, "prepare", "()V"⟩
def b_1_prepare : dk_T := [
  ([true, false], [.inl (.aload 0), .inl (.aload 0), .inr (0, 1, 0), .inr (0, 0, 0), .inl (.iconst 0), .inl .iaload, .inr (1, 1, 1), .inl (.aload 0), .inr (5, 0, 0), .inl (.iconst 0), .inl (.istore 1), .inr (7, 1, 1)]),
  ([true, true], [.inl (.iload 1), .inl (.aload 0), .inr (0, 1, 0), .inr (0, 0, 1), .inl (.if_icmp .ge 5), .inl (.aload 0), .inr (0, 1, 3), .inl (.iload 1), .inl (.iload 1), .inl (.ifCond .le 2), .inl (.aload 0), .inr (0, 1, 0), .inl (.iload 1), .inr (5, 1, 0), .inl (.ifCond .ne 2), .inl (.iconst 1), .inr (7, 3, 0)]),
  ([true, true], [.inl (.iconst 0), .inr (7, 3, 1)]),
  ([true, true], [.inl .bastore, .inl (.aload 0), .inr (0, 1, 0), .inr (0, 0, 2), .inl (.iload 1), .inl .iaload, .inl (.iconst 4), .inl (.if_icmp .ne 4), .inl (.aload 0), .inl (.iload 1), .inr (5, 2, 0), .inr (7, 4, 1)]),
  ([true, true], [.inl (.iinc 1 (1)), .inr (7, 1, 0)]),
  ([false, false], [.inl .return_])]
def g_1_prepare : List (Nat × dk_S) := [(1, s_1_listen), (2, s_0_isBehindBend), (2, s_1_feel)]
def s_1_prepare : dk_S := dk_MV 1 g_1_prepare b_1_prepare 2
theorem h_1_prepare : dk_monoG g_1_prepare := dk_monoG_cons o_1_listen (dk_monoG_cons o_0_isBehindBend (dk_monoG_cons o_1_feel (dk_monoG_nil)))
theorem o_1_prepare : dk_mono s_1_prepare := dk_MV_mono _ h_1_prepare _ _
def t_1_prepare : dk_Tm := (tc_1, [(41, 0, 0), (47, 0, 1), (54, 0, 2)], [0, 19, 54, 55, 74, 80], 2)
def y_1_turnByEar : MethodName := ⟨nn_R1, "turnByEar", "(I[I)I"⟩
def b_1_turnByEar : dk_T := [
  ([true, true, true], [.inl (.aload 0), .inr (0, 1, 2), .inl (.iload 1), .inl .iaload, .inl (.iconst (-2000000000)), .inl (.if_icmp .ne 1), .inl (.iconst 0), .inl .ireturn]),
  ([true, true, true], [.inl (.aload 0), .inr (0, 1, 2), .inl (.iload 1), .inl .iaload, .inl (.aload 2), .inl (.iload 1), .inl .iaload, .inl .isub, .inl (.aload 0), .inr (0, 1, 1), .inr (5, 0, 1), .inl (.aload 0), .inr (0, 1, 0), .inr (0, 0, 4), .inl (.iload 1), .inl .iaload, .inl .imul, .inl (.iconst 100), .inl .idiv, .inl .ireturn])]
def g_1_turnByEar : List (Nat × dk_S) := [(2, s_5_wrapped)]
def s_1_turnByEar : dk_S := dk_MV 1 g_1_turnByEar b_1_turnByEar 3
theorem h_1_turnByEar : dk_monoG g_1_turnByEar := dk_monoG_cons o_5_wrapped (dk_monoG_nil)
theorem o_1_turnByEar : dk_mono s_1_turnByEar := dk_MV_mono _ h_1_turnByEar _ _
def t_1_turnByEar : dk_Tm := (tc_1, [(88, 1, 0)], [0, 13], 0)
def y_1_turnByEye : MethodName := ⟨nn_R1, "turnByEye", "(I[I)I"⟩
def b_1_turnByEye : dk_T := [
  ([true, true, true], [.inl (.iload 1), .inl (.iconst 1), .inl (.if_icmp .lt 1), .inl (.aload 0), .inr (0, 1, 3), .inl (.iload 1), .inl .baload, .inl (.ifCond .ne 2), .inr (7, 1, 1)]),
  ([false, false, false], [.inl (.iconst 0), .inl .ireturn]),
  ([true, true, true], [.inl (.aload 2), .inl (.iload 1), .inl (.iconst 1), .inl .isub, .inl .iaload, .inl (.aload 2), .inl (.iload 1), .inl .iaload, .inl .isub, .inl (.aload 0), .inr (0, 1, 1), .inr (5, 0, 1), .inl (.aload 0), .inr (0, 1, 0), .inr (0, 0, 4), .inl (.iload 1), .inl .iaload, .inl .imul, .inl (.iconst 100), .inl .idiv, .inl .ireturn])]
def g_1_turnByEye : List (Nat × dk_S) := [(2, s_5_wrapped)]
def s_1_turnByEye : dk_S := dk_MV 1 g_1_turnByEye b_1_turnByEye 3
theorem h_1_turnByEye : dk_monoG g_1_turnByEye := dk_monoG_cons o_5_wrapped (dk_monoG_nil)
theorem o_1_turnByEye : dk_mono s_1_turnByEye := dk_MV_mono _ h_1_turnByEye _ _
def t_1_turnByEye : dk_Tm := (tc_1, [(88, 1, 0)], [0, 14, 16], 0)
def y_1_turnByFeet : MethodName := ⟨nn_R1, "turnByFeet", "(I[I)I"⟩
def b_1_turnByFeet : dk_T := [
  ([true, true, true, false, false, false], [.inl (.iconst 0), .inl (.istore 3), .inl (.iconst 0), .inl (.istore 4), .inr (7, 1, 1)]),
  ([true, true, true, true, true, false], [.inl (.iload 4), .inl (.aload 0), .inr (0, 1, 0), .inr (0, 0, 1), .inl (.if_icmp .ge 3), .inl (.aload 0), .inr (0, 1, 5), .inl (.iload 1), .inl (.iconst 24), .inl .imul, .inl (.iload 4), .inl .iadd, .inl .iaload, .inl (.istore 5), .inl (.iload 5), .inl (.iconst (-2000000000)), .inl (.if_icmp .eq 2), .inl (.iload 3), .inl (.aload 2), .inl (.iload 4), .inl .iaload, .inl (.iload 5), .inl .iadd, .inl (.aload 2), .inl (.iload 1), .inl .iaload, .inl .isub, .inl (.aload 0), .inr (0, 1, 1), .inr (5, 0, 1), .inl .iadd, .inl (.istore 3), .inr (7, 2, 1)]),
  ([true, true, true, true, true, false], [.inl (.iinc 4 (1)), .inr (7, 1, 0)]),
  ([true, true, false, true, false, false], [.inl (.aload 0), .inr (0, 1, 4), .inl (.iload 1), .inl .iaload, .inl (.ifCond .le 4), .inl (.iload 3), .inl (.aload 0), .inr (0, 1, 4), .inl (.iload 1), .inl .iaload, .inl .idiv, .inl (.aload 0), .inr (0, 1, 0), .inr (0, 0, 4), .inl (.iload 1), .inl .iaload, .inl .imul, .inl (.iconst 100), .inl .idiv, .inr (7, 5, 0)]),
  ([false, false, false, false, false, false], [.inl (.iconst 0), .inr (7, 5, 1)]),
  ([false, false, false, false, false, false], [.inl .ireturn])]
def g_1_turnByFeet : List (Nat × dk_S) := [(2, s_5_wrapped)]
def s_1_turnByFeet : dk_S := dk_MV 1 g_1_turnByFeet b_1_turnByFeet 6
theorem h_1_turnByFeet : dk_monoG g_1_turnByFeet := dk_monoG_cons o_5_wrapped (dk_monoG_nil)
theorem o_1_turnByFeet : dk_mono s_1_turnByFeet := dk_MV_mono _ h_1_turnByFeet _ _
def t_1_turnByFeet : dk_Tm := (tc_1, [(88, 1, 0)], [0, 5, 59, 65, 98, 99], 0)
def y_1_turnOf : MethodName := ⟨nn_R1, "turnOf", "(I[I)I"⟩
def b_1_turnOf : dk_T := [
  ([true, true, true, false, false], [.inl (.aload 0), .inr (0, 1, 0), .inr (0, 0, 2), .inl (.iload 1), .inl .iaload, .inl (.tableswitch 9 1 6 #[1, 2, 3, 4, 7, 8])]),
  ([true, true, true, false, false], [.inl (.aload 0), .inl (.iload 1), .inl (.aload 2), .inr (5, 0, 0), .inl .ireturn]),
  ([true, true, true, false, false], [.inl (.aload 0), .inl (.iload 1), .inl (.aload 2), .inr (5, 1, 0), .inl .ireturn]),
  ([true, true, true, false, false], [.inl (.aload 0), .inl (.iload 1), .inl (.aload 2), .inr (5, 1, 0), .inl (.aload 0), .inr (0, 1, 0), .inr (0, 0, 5), .inl (.iload 1), .inl .iaload, .inl .imul, .inl (.istore 3), .inl (.aload 0), .inl (.iload 1), .inl (.aload 2), .inr (5, 0, 0), .inl (.iconst 100), .inl (.aload 0), .inr (0, 1, 0), .inr (0, 0, 5), .inl (.iload 1), .inl .iaload, .inl .isub, .inl .imul, .inl (.istore 4), .inl (.iload 3), .inl (.iload 4), .inl .iadd, .inl (.iconst 100), .inl .idiv, .inl .ireturn]),
  ([true, true, true, false, false], [.inl (.aload 0), .inr (0, 1, 4), .inl (.iload 1), .inl .iaload, .inl (.ifCond .le 5), .inl (.aload 0), .inl (.iload 1), .inl (.aload 2), .inr (5, 2, 0), .inr (7, 6, 0)]),
  ([true, true, true, false, false], [.inl (.aload 0), .inl (.iload 1), .inl (.aload 2), .inr (5, 0, 0), .inr (7, 6, 1)]),
  ([false, false, false, false, false], [.inl .ireturn]),
  ([true, true, true, false, false], [.inl (.aload 0), .inr (0, 1, 0), .inr (0, 0, 0), .inl (.iconst 4), .inl .iaload, .inl (.aload 2), .inl (.iload 1), .inl .iaload, .inl .isub, .inl (.aload 0), .inr (0, 1, 1), .inr (5, 3, 1), .inl .ireturn]),
  ([true, true, false, false, false], [.inl (.aload 0), .inr (0, 1, 0), .inr (0, 0, 6), .inl (.iload 1), .inl .iaload, .inl .ireturn]),
  ([false, false, false, false, false], [.inl (.iconst 0), .inl .ireturn])]
def g_1_turnOf : List (Nat × dk_S) := [(3, s_1_turnByEar), (3, s_1_turnByEye), (3, s_1_turnByFeet), (2, s_5_wrapped)]
def s_1_turnOf : dk_S := dk_MV 1 g_1_turnOf b_1_turnOf 5
theorem h_1_turnOf : dk_monoG g_1_turnOf := dk_monoG_cons o_1_turnByEar (dk_monoG_cons o_1_turnByEye (dk_monoG_cons o_1_turnByFeet (dk_monoG_cons o_5_wrapped (dk_monoG_nil))))
theorem o_1_turnOf : dk_mono s_1_turnOf := dk_MV_mono _ h_1_turnOf _ _
def t_1_turnOf : dk_Tm := (tc_1, [(75, 0, 0), (79, 0, 1), (85, 0, 2), (88, 1, 3)], [0, 48, 55, 62, 108, 126, 132, 133, 154, 164], 0)
def y_5_rankOf : MethodName := ⟨nn_R5, "rankOf", "(II)I"⟩
def b_5_rankOf : dk_T := [
  ([true, true, true], [.inl (.aload 0), .inr (0, 5, 0), .inl (.iload 1), .inr (5, 0, 0), .inl (.ifCond .eq 1), .inl (.iload 2), .inl (.iconst 0), .inl (.iconst 7), .inr (5, 1, 1), .inl (.ifCond .ne 2), .inr (7, 1, 1)]),
  ([true, false, false], [.inl (.aload 0), .inl (.iconst 0), .inr (5, 2, 0), .inl .ireturn]),
  ([true, true, true], [.inl (.iload 2), .inl (.tableswitch 10 0 6 #[3, 4, 5, 6, 7, 8, 9])]),
  ([true, true, false], [.inl (.aload 0), .inr (0, 5, 0), .inr (0, 0, 2), .inl (.iload 1), .inl .iaload, .inl .ireturn]),
  ([true, true, false], [.inl (.aload 0), .inr (0, 5, 0), .inr (0, 0, 3), .inl (.iload 1), .inl .iaload, .inl .ireturn]),
  ([true, true, false], [.inl (.aload 0), .inr (0, 5, 0), .inr (0, 0, 4), .inl (.iload 1), .inl .iaload, .inl .ireturn]),
  ([true, true, false], [.inl (.aload 0), .inr (0, 5, 0), .inr (0, 0, 5), .inl (.iload 1), .inl .iaload, .inl .ireturn]),
  ([true, true, false], [.inl (.aload 0), .inr (0, 5, 0), .inr (0, 0, 6), .inl (.iload 1), .inl .iaload, .inl .ireturn]),
  ([true, true, false], [.inl (.aload 0), .inr (0, 5, 0), .inr (0, 0, 7), .inl (.iload 1), .inl .iaload, .inl .ireturn]),
  ([true, true, false], [.inl (.aload 0), .inr (0, 5, 0), .inl (.iload 1), .inr (5, 3, 0), .inl .ireturn]),
  ([true, true, false], [.inl (.aload 0), .inr (0, 5, 5), .inr (5, 4, 0), .inl (.aload 0), .inr (0, 5, 5), .inl (.iload 1), .inl (.aload 0), .inr (0, 5, 0), .inr (0, 0, 7), .inr (5, 5, 0), .inl .ireturn])]
def g_5_rankOf : List (Nat × dk_S) := [(2, s_0_hasRank), (3, s_5_isWithin), (2, s_5_finding), (2, s_0_drumFor), (1, s_1_prepare), (3, s_1_turnOf)]
def s_5_rankOf : dk_S := dk_MV 5 g_5_rankOf b_5_rankOf 3
theorem h_5_rankOf : dk_monoG g_5_rankOf := dk_monoG_cons o_0_hasRank (dk_monoG_cons o_5_isWithin (dk_monoG_cons o_5_finding (dk_monoG_cons o_0_drumFor (dk_monoG_cons o_1_prepare (dk_monoG_cons o_1_turnOf (dk_monoG_nil))))))
theorem o_5_rankOf : dk_mono s_5_rankOf := dk_MV_mono _ h_5_rankOf _ _
def t_5_rankOf : dk_Tm := (tc_5, [(114, 0, 0), (68, 1, 1), (78, 0, 2), (136, 0, 3), (139, 0, 4), (142, 0, 5)], [0, 21, 27, 72, 82, 92, 102, 112, 122, 132, 141], 0)
def y_5_exchange : MethodName := ⟨nn_R5, "exchange", "([III)I"⟩
def b_5_exchange : dk_T := [
  ([true, true, true, false], [.inl (.aload 0), .inl (.iload 1), .inl .iaload, .inl (.istore 3), .inl (.aload 0), .inl (.iload 1), .inl (.iload 2), .inl .iastore, .inl (.iload 3), .inl .ireturn])]
def g_5_exchange : List (Nat × dk_S) := []
def s_5_exchange : dk_S := dk_M g_5_exchange b_5_exchange 4
theorem h_5_exchange : dk_monoG g_5_exchange := dk_monoG_nil
theorem o_5_exchange : dk_mono s_5_exchange := dk_M_mono h_5_exchange _ _
def t_5_exchange : dk_Tm := (tc_5, [], [0], 0)
def y_5_change : MethodName := ⟨nn_R5, "change", "(III)I"⟩
def b_5_change : dk_T := [
  ([true, true, true, true], [.inl (.aload 0), .inr (0, 5, 0), .inl (.iload 1), .inr (5, 0, 0), .inl (.ifCond .ne 1), .inl (.aload 0), .inl (.iconst 0), .inr (5, 1, 0), .inl .ireturn]),
  ([true, true, true, true], [.inl (.iload 2), .inl (.tableswitch 12 2 5 #[2, 5, 8, 11])]),
  ([true, true, false, true], [.inl (.iload 3), .inl (.iconst 0), .inl (.iconst 100), .inr (5, 2, 1), .inl (.ifCond .eq 3), .inl (.aload 0), .inr (0, 5, 0), .inr (0, 0, 4), .inl (.iload 1), .inl (.iload 3), .inr (5, 3, 1), .inr (7, 4, 0)]),
  ([true, false, false, false], [.inl (.aload 0), .inl (.iconst 0), .inr (5, 1, 0), .inr (7, 4, 1)]),
  ([false, false, false, false], [.inl .ireturn]),
  ([true, true, false, true], [.inl (.iload 3), .inl (.iconst 0), .inl (.iconst 100), .inr (5, 2, 1), .inl (.ifCond .eq 6), .inl (.aload 0), .inr (0, 5, 0), .inr (0, 0, 5), .inl (.iload 1), .inl (.iload 3), .inr (5, 3, 1), .inr (7, 7, 0)]),
  ([true, false, false, false], [.inl (.aload 0), .inl (.iconst 0), .inr (5, 1, 0), .inr (7, 7, 1)]),
  ([false, false, false, false], [.inl .ireturn]),
  ([true, true, false, true], [.inl (.iload 3), .inl (.iconst (-99)), .inl (.iconst 99), .inr (5, 2, 1), .inl (.ifCond .eq 9), .inl (.aload 0), .inr (0, 5, 0), .inr (0, 0, 6), .inl (.iload 1), .inl (.iload 3), .inr (5, 3, 1), .inr (7, 10, 0)]),
  ([true, false, false, false], [.inl (.aload 0), .inl (.iconst 0), .inr (5, 1, 0), .inr (7, 10, 1)]),
  ([false, false, false, false], [.inl .ireturn]),
  ([true, true, false, true], [.inl (.aload 0), .inr (0, 5, 0), .inr (0, 0, 7), .inl (.iload 1), .inl (.aload 0), .inr (0, 5, 0), .inl (.iload 3), .inr (5, 4, 0), .inr (5, 3, 1), .inl .ireturn]),
  ([true, false, false, false], [.inl (.aload 0), .inl (.iconst 0), .inr (5, 1, 0), .inl .ireturn])]
def g_5_change : List (Nat × dk_S) := [(2, s_0_hasRank), (2, s_5_finding), (3, s_5_isWithin), (3, s_5_exchange), (2, s_0_wrap)]
def s_5_change : dk_S := dk_MV 5 g_5_change b_5_change 4
theorem h_5_change : dk_monoG g_5_change := dk_monoG_cons o_0_hasRank (dk_monoG_cons o_5_finding (dk_monoG_cons o_5_isWithin (dk_monoG_cons o_5_exchange (dk_monoG_cons o_0_wrap (dk_monoG_nil)))))
theorem o_5_change : dk_mono s_5_change := dk_MV_mono _ h_5_change _ _
def t_5_change : dk_Tm := (tc_5, [(114, 0, 0), (78, 0, 1), (68, 1, 2), (146, 1, 3), (150, 0, 4)], [0, 17, 48, 73, 78, 79, 104, 109, 110, 136, 141, 142, 162], 0)
def y_5_isPlace : MethodName := ⟨nn_R5, "isPlace", "(I)Z"⟩
def b_5_isPlace : dk_T := [
  ([true], [.inl (.iload 0), .inl (.iconst 0), .inl (.iconst 4999), .inr (5, 0, 1), .inl .lreturn])]
def g_5_isPlace : List (Nat × dk_S) := [(3, s_5_isWithin)]
def s_5_isPlace : dk_S := dk_M g_5_isPlace b_5_isPlace 1
theorem h_5_isPlace : dk_monoG g_5_isPlace := dk_monoG_cons o_5_isWithin (dk_monoG_nil)
theorem o_5_isPlace : dk_mono s_5_isPlace := dk_M_mono h_5_isPlace _ _
def t_5_isPlace : dk_Tm := (tc_5, [(68, 1, 0)], [0], 1)
def y_5_drum : MethodName := ⟨nn_R5, "drum", "(III)I"⟩
def b_5_drum : dk_T := [
  ([true, true, true, true, false], [.inl (.iload 1), .inr (5, 0, 1), .inl (.ifCond .eq 1), .inl (.iload 2), .inl (.iconst 1), .inl (.iconst 99), .inr (5, 1, 1), .inl (.ifCond .eq 1), .inl (.iload 3), .inl (.iconst (-999)), .inl (.iconst 999), .inr (5, 1, 1), .inl (.ifCond .ne 2), .inr (7, 1, 1)]),
  ([true, false, false, false, false], [.inl (.aload 0), .inl (.iconst 0), .inr (5, 2, 0), .inl .ireturn]),
  ([true, true, true, true, false], [.inl (.aload 0), .inr (0, 5, 0), .inr (0, 0, 8), .inl (.iconst 6), .inl (.if_icmp .lt 3), .inl (.aload 0), .inl (.iconst 1), .inr (5, 2, 0), .inl .ireturn]),
  ([true, true, true, true, false], [.inl (.aload 0), .inr (0, 5, 0), .inr (0, 0, 8), .inl (.istore 4), .inl (.aload 0), .inr (0, 5, 0), .inr (0, 0, 9), .inl (.iload 4), .inl (.iload 1), .inl .iastore, .inl (.aload 0), .inr (0, 5, 0), .inr (0, 0, 10), .inl (.iload 4), .inl (.iload 2), .inl .iastore, .inl (.aload 0), .inr (0, 5, 0), .inr (0, 0, 11), .inl (.iload 4), .inl (.iload 3), .inl .iastore, .inl (.aload 0), .inr (0, 5, 0), .inl .dup, .inr (0, 0, 8), .inl (.iconst 1), .inl .iadd, .inr (1, 0, 8), .inl (.iload 4), .inl .ireturn])]
def g_5_drum : List (Nat × dk_S) := [(1, s_5_isPlace), (3, s_5_isWithin), (2, s_5_finding)]
def s_5_drum : dk_S := dk_MV 5 g_5_drum b_5_drum 5
theorem h_5_drum : dk_monoG g_5_drum := dk_monoG_cons o_5_isPlace (dk_monoG_cons o_5_isWithin (dk_monoG_cons o_5_finding (dk_monoG_nil)))
theorem o_5_drum : dk_mono s_5_drum := dk_MV_mono _ h_5_drum _ _
def t_5_drum : dk_Tm := (tc_5, [(153, 1, 0), (68, 1, 1), (78, 0, 2)], [0, 30, 36, 54], 0)
def y_0_hasDrum : MethodName := ⟨nn_R0, "hasDrum", "(I)Z"⟩
def b_0_hasDrum : dk_T := [
  ([true, true], [.inl (.iload 1), .inl (.ifCond .lt 1), .inl (.iload 1), .inl (.aload 0), .inr (0, 0, 8), .inl (.if_icmp .ge 1), .inl (.iconst 1), .inr (7, 2, 0)]),
  ([false, false], [.inl (.iconst 0), .inr (7, 2, 1)]),
  ([false, false], [.inl .lreturn])]
def g_0_hasDrum : List (Nat × dk_S) := []
def s_0_hasDrum : dk_S := dk_MV 0 g_0_hasDrum b_0_hasDrum 2
theorem h_0_hasDrum : dk_monoG g_0_hasDrum := dk_monoG_nil
theorem o_0_hasDrum : dk_mono s_0_hasDrum := dk_MV_mono _ h_0_hasDrum _ _
def t_0_hasDrum : dk_Tm := (tc_0, [], [0, 16, 17], 1)
def y_5_drumOf : MethodName := ⟨nn_R5, "drumOf", "(II)I"⟩
def b_5_drumOf : dk_T := [
  ([true, true, true], [.inl (.aload 0), .inr (0, 5, 0), .inl (.iload 1), .inr (5, 0, 0), .inl (.ifCond .eq 1), .inl (.iload 2), .inl (.iconst 0), .inl (.iconst 2), .inr (5, 1, 1), .inl (.ifCond .ne 2), .inr (7, 1, 1)]),
  ([true, false, false], [.inl (.aload 0), .inl (.iconst 0), .inr (5, 2, 0), .inl .ireturn]),
  ([true, true, true], [.inl (.iload 2), .inl (.ifCond .ne 3), .inl (.aload 0), .inr (0, 5, 0), .inr (0, 0, 9), .inl (.iload 1), .inl .iaload, .inl .ireturn]),
  ([true, true, true], [.inl (.iload 2), .inl (.iconst 1), .inl (.if_icmp .ne 4), .inl (.aload 0), .inr (0, 5, 0), .inr (0, 0, 10), .inl (.iload 1), .inl .iaload, .inr (7, 5, 0)]),
  ([true, true, false], [.inl (.aload 0), .inr (0, 5, 0), .inr (0, 0, 11), .inl (.iload 1), .inl .iaload, .inr (7, 5, 1)]),
  ([false, false, false], [.inl .ireturn])]
def g_5_drumOf : List (Nat × dk_S) := [(2, s_0_hasDrum), (3, s_5_isWithin), (2, s_5_finding)]
def s_5_drumOf : dk_S := dk_MV 5 g_5_drumOf b_5_drumOf 3
theorem h_5_drumOf : dk_monoG g_5_drumOf := dk_monoG_cons o_0_hasDrum (dk_monoG_cons o_5_isWithin (dk_monoG_cons o_5_finding (dk_monoG_nil)))
theorem o_5_drumOf : dk_mono s_5_drumOf := dk_MV_mono _ h_5_drumOf _ _
def t_5_drumOf : dk_Tm := (tc_5, [(168, 0, 0), (68, 1, 1), (78, 0, 2)], [0, 20, 26, 40, 57, 66], 0)
def y_5_carry : MethodName := ⟨nn_R5, "carry", "(II)I"⟩
def b_5_carry : dk_T := [
  ([true, true, true], [.inl (.aload 0), .inr (0, 5, 0), .inl (.iload 1), .inr (5, 0, 0), .inl (.ifCond .eq 1), .inl (.iload 2), .inr (5, 1, 1), .inl (.ifCond .ne 2), .inr (7, 1, 1)]),
  ([true, false, false], [.inl (.aload 0), .inl (.iconst 0), .inr (5, 2, 0), .inl .ireturn]),
  ([true, true, true], [.inl (.aload 0), .inr (0, 5, 0), .inr (0, 0, 9), .inl (.iload 1), .inl (.iload 2), .inr (5, 3, 1), .inl .ireturn])]
def g_5_carry : List (Nat × dk_S) := [(2, s_0_hasDrum), (1, s_5_isPlace), (2, s_5_finding), (3, s_5_exchange)]
def s_5_carry : dk_S := dk_MV 5 g_5_carry b_5_carry 3
theorem h_5_carry : dk_monoG g_5_carry := dk_monoG_cons o_0_hasDrum (dk_monoG_cons o_5_isPlace (dk_monoG_cons o_5_finding (dk_monoG_cons o_5_exchange (dk_monoG_nil))))
theorem o_5_carry : dk_mono s_5_carry := dk_MV_mono _ h_5_carry _ _
def t_5_carry : dk_Tm := (tc_5, [(168, 0, 0), (153, 1, 1), (78, 0, 2), (146, 1, 3)], [0, 18, 24], 0)
def y_5_bend : MethodName := ⟨nn_R5, "bend", "(I)I"⟩
def b_5_bend : dk_T := [
  ([true, true], [.inl (.iload 1), .inr (5, 0, 1), .inl (.ifCond .ne 1), .inl (.aload 0), .inl (.iconst 0), .inr (5, 1, 0), .inl .ireturn]),
  ([true, true], [.inl (.aload 0), .inr (0, 5, 0), .inr (0, 0, 12), .inl (.iconst 6), .inl (.if_icmp .lt 2), .inl (.aload 0), .inl (.iconst 1), .inr (5, 1, 0), .inl .ireturn]),
  ([true, true], [.inl (.aload 0), .inr (0, 5, 0), .inr (0, 0, 13), .inl (.aload 0), .inr (0, 5, 0), .inr (0, 0, 12), .inl (.iload 1), .inl .iastore, .inl (.aload 0), .inr (0, 5, 0), .inl .dup, .inr (0, 0, 12), .inl (.iconst 1), .inl .iadd, .inr (1, 0, 12), .inl (.aload 0), .inr (0, 5, 0), .inr (0, 0, 12), .inl .ireturn])]
def g_5_bend : List (Nat × dk_S) := [(1, s_5_isPlace), (2, s_5_finding)]
def s_5_bend : dk_S := dk_MV 5 g_5_bend b_5_bend 2
theorem h_5_bend : dk_monoG g_5_bend := dk_monoG_cons o_5_isPlace (dk_monoG_cons o_5_finding (dk_monoG_nil))
theorem o_5_bend : dk_mono s_5_bend := dk_MV_mono _ h_5_bend _ _
def t_5_bend : dk_Tm := (tc_5, [(153, 1, 0), (78, 0, 1)], [0, 13, 31], 0)
def y_5_lag : MethodName := ⟨nn_R5, "lag", "(II)I"⟩
def b_5_lag : dk_T := [
  ([true, true, true], [.inl (.iload 1), .inr (5, 0, 1), .inl (.ifCond .eq 1), .inl (.iload 2), .inr (5, 0, 1), .inl (.ifCond .ne 2), .inr (7, 1, 1)]),
  ([true, false, false], [.inl (.aload 0), .inl (.iconst 0), .inr (5, 1, 0), .inl .ireturn]),
  ([true, true, true], [.inl (.aload 0), .inr (0, 5, 0), .inl (.iload 1), .inl (.iload 2), .inr (5, 2, 0), .inl .ireturn])]
def g_5_lag : List (Nat × dk_S) := [(1, s_5_isPlace), (2, s_5_finding), (3, s_0_lagBetween)]
def s_5_lag : dk_S := dk_MV 5 g_5_lag b_5_lag 3
theorem h_5_lag : dk_monoG g_5_lag := dk_monoG_cons o_5_isPlace (dk_monoG_cons o_5_finding (dk_monoG_cons o_0_lagBetween (dk_monoG_nil)))
theorem o_5_lag : dk_mono s_5_lag := dk_MV_mono _ h_5_lag _ _
def t_5_lag : dk_Tm := (tc_5, [(153, 1, 0), (78, 0, 1), (177, 0, 2)], [0, 14, 20], 0)
def y_4_start : MethodName := ⟨nn_R4, "start", "()V"⟩
def b_4_start : dk_T := [
  ([true], [.inl (.aload 0), .inr (0, 4, 0), .inr (0, 0, 7), .inl (.iconst 0), .inl (.aload 0), .inr (0, 4, 2), .inl (.iconst 0), .inl (.iconst 24), .inr (5, 0, 1), .inl .return_])]
def g_4_start : List (Nat × dk_S) := [(5, s_ac)]
def s_4_start : dk_S := dk_MV 4 g_4_start b_4_start 1
theorem h_4_start : dk_monoG g_4_start := dk_monoG_cons o_ac (dk_monoG_nil)
theorem o_4_start : dk_mono s_4_start := dk_MV_mono _ h_4_start _ _
def t_4_start : dk_Tm := (tc_4, [(31, 1, 0)], [0], 2)
def y_5_setOut : MethodName := ⟨nn_R5, "setOut", "()V"⟩
def b_5_setOut : dk_T := [
  ([true], [.inl (.aload 0), .inr (0, 5, 5), .inr (5, 0, 0), .inl (.aload 0), .inr (0, 5, 6), .inr (5, 1, 0), .inl .return_])]
def g_5_setOut : List (Nat × dk_S) := [(1, s_1_prepare), (1, s_4_start)]
def s_5_setOut : dk_S := dk_MV 5 g_5_setOut b_5_setOut 1
theorem h_5_setOut : dk_monoG g_5_setOut := dk_monoG_cons o_1_prepare (dk_monoG_cons o_4_start (dk_monoG_nil))
theorem o_5_setOut : dk_mono s_5_setOut := dk_MV_mono _ h_5_setOut _ _
def t_5_setOut : dk_Tm := (tc_5, [(139, 0, 0), (228, 0, 1)], [0], 2)
def y_4_step : MethodName := ⟨nn_R4, "step", "()Z"⟩
def b_4_step : dk_T := [
  ([true, false, false], [.inl (.iconst 0), .inl (.istore 1), .inl (.iconst 0), .inl (.istore 2), .inr (7, 1, 1)]),
  ([true, true, true], [.inl (.iload 2), .inl (.aload 0), .inr (0, 4, 0), .inr (0, 0, 1), .inl (.if_icmp .ge 4), .inl (.aload 0), .inr (0, 4, 3), .inl (.iload 2), .inl (.aload 0), .inr (0, 4, 2), .inl (.iload 2), .inl .iaload, .inl (.aload 0), .inr (0, 4, 1), .inl (.iload 2), .inl (.aload 0), .inr (0, 4, 2), .inr (5, 0, 0), .inl .iadd, .inl (.aload 0), .inr (0, 4, 1), .inr (0, 1, 1), .inr (5, 1, 1), .inl .iastore, .inl (.iload 1), .inl (.aload 0), .inr (0, 4, 3), .inl (.iload 2), .inl .iaload, .inl (.aload 0), .inr (0, 4, 2), .inl (.iload 2), .inl .iaload, .inl (.if_icmp .eq 2), .inl (.iconst 1), .inr (7, 3, 0)]),
  ([true, false, true], [.inl (.iconst 0), .inr (7, 3, 1)]),
  ([true, false, true], [.inl .ior, .inl (.istore 1), .inl (.iinc 2 (1)), .inr (7, 1, 0)]),
  ([true, true, false], [.inl (.aload 0), .inr (0, 4, 2), .inl (.astore 2), .inl (.aload 0), .inl (.aload 0), .inr (0, 4, 3), .inr (3, 4, 2), .inl (.aload 0), .inl (.aload 2), .inr (3, 4, 3), .inl (.iload 1), .inl .lreturn])]
def g_4_step : List (Nat × dk_S) := [(3, s_1_turnOf), (2, s_5_wrapped)]
def s_4_step : dk_S := dk_MV 4 g_4_step b_4_step 3
theorem h_4_step : dk_monoG g_4_step := dk_monoG_cons o_1_turnOf (dk_monoG_cons o_5_wrapped (dk_monoG_nil))
theorem o_4_step : dk_mono s_4_step := dk_MV_mono _ h_4_step _ _
def t_4_step : dk_Tm := (tc_4, [(41, 0, 0), (50, 1, 1)], [0, 4, 70, 71, 79], 1)
def y_4_walk : MethodName := ⟨nn_R4, "walk", "(I)V"⟩
def b_4_walk : dk_T := [
  ([true, true, false, false], [.inl (.iconst 1), .inl (.istore 2), .inl (.iconst 0), .inl (.istore 3), .inr (7, 1, 1)]),
  ([true, true, true, true], [.inl (.iload 3), .inl (.iload 1), .inl (.if_icmp .ge 2), .inl (.iload 2), .inl (.ifCond .eq 2), .inl (.aload 0), .inr (5, 0, 0), .inl (.istore 2), .inl (.iinc 3 (1)), .inr (7, 1, 0)]),
  ([false, false, false, false], [.inl .return_])]
def g_4_walk : List (Nat × dk_S) := [(1, s_4_step)]
def s_4_walk : dk_S := dk_MV 4 g_4_walk b_4_walk 4
theorem h_4_walk : dk_monoG g_4_walk := dk_monoG_cons o_4_step (dk_monoG_nil)
theorem o_4_walk : dk_mono s_4_walk := dk_MV_mono _ h_4_walk _ _
def t_4_walk : dk_Tm := (tc_4, [(54, 0, 0)], [0, 4, 24], 2)
def y_8_max : MethodName := ⟨"java/lang/Math", "max", "(II)I"⟩
def b_8_max : dk_T := [
  ([true, true], [.inl (.iload 0), .inl (.iload 1), .inl (.if_icmp .lt 1), .inl (.iload 0), .inr (7, 2, 0)]),
  ([false, true], [.inl (.iload 1), .inr (7, 2, 1)]),
  ([false, false], [.inl .ireturn])]
def g_8_max : List (Nat × dk_S) := []
def s_8_max : dk_S := dk_M g_8_max b_8_max 2
theorem h_8_max : dk_monoG g_8_max := dk_monoG_nil
theorem o_8_max : dk_mono s_8_max := dk_M_mono h_8_max _ _
def t_8_max : dk_Tm := (tc_n, [], [0, 9, 10], 0)
def y_0_worstOf : MethodName := ⟨nn_R0, "worstOf", "([I)I"⟩
def b_0_worstOf : dk_T := [
  ([true, true, false, false], [.inl (.iconst 0), .inl (.istore 2), .inl (.iconst 0), .inl (.istore 3), .inr (7, 1, 1)]),
  ([true, true, true, true], [.inl (.iload 3), .inl (.aload 0), .inr (0, 0, 1), .inl (.if_icmp .ge 2), .inl (.iload 2), .inl (.aload 1), .inl (.iload 3), .inl .iaload, .inr (5, 0, 1), .inr (5, 1, 1), .inl (.istore 2), .inl (.iinc 3 (1)), .inr (7, 1, 0)]),
  ([false, false, true, false], [.inl (.iload 2), .inl .ireturn])]
def g_0_worstOf : List (Nat × dk_S) := [(1, s_8_abs), (2, s_8_max)]
def s_0_worstOf : dk_S := dk_MV 0 g_0_worstOf b_0_worstOf 4
theorem h_0_worstOf : dk_monoG g_0_worstOf := dk_monoG_cons o_8_abs (dk_monoG_cons o_8_max (dk_monoG_nil))
theorem o_0_worstOf : dk_mono s_0_worstOf := dk_MV_mono _ h_0_worstOf _ _
def t_0_worstOf : dk_Tm := (tc_0, [(94, 1, 0), (109, 1, 1)], [0, 4, 29], 0)
def y_5_tread : MethodName := ⟨nn_R5, "tread", "(I)I"⟩
def b_5_tread : dk_T := [
  ([true, true], [.inl (.iload 1), .inl (.iconst 1), .inl (.iconst 99), .inr (5, 0, 1), .inl (.ifCond .ne 1), .inl (.aload 0), .inl (.iconst 0), .inr (5, 1, 0), .inl .ireturn]),
  ([true, true], [.inl (.aload 0), .inr (0, 5, 0), .inr (0, 0, 1), .inl (.ifCond .ne 2), .inl (.aload 0), .inl (.iconst 3), .inr (5, 1, 0), .inl .ireturn]),
  ([true, true], [.inl (.aload 0), .inr (5, 2, 0), .inl (.aload 0), .inr (0, 5, 6), .inl (.iload 1), .inr (5, 3, 0), .inl (.aload 0), .inr (0, 5, 6), .inr (0, 4, 2), .inl (.iconst 0), .inl (.aload 0), .inr (0, 5, 0), .inr (0, 0, 7), .inl (.iconst 0), .inl (.iconst 24), .inr (5, 4, 1), .inl (.aload 0), .inr (0, 5, 0), .inl (.aload 0), .inr (0, 5, 0), .inr (0, 0, 7), .inr (5, 5, 0), .inl .ireturn])]
def g_5_tread : List (Nat × dk_S) := [(3, s_5_isWithin), (2, s_5_finding), (1, s_5_setOut), (2, s_4_walk), (5, s_ac), (2, s_0_worstOf)]
def s_5_tread : dk_S := dk_MV 5 g_5_tread b_5_tread 2
theorem h_5_tread : dk_monoG g_5_tread := dk_monoG_cons o_5_isWithin (dk_monoG_cons o_5_finding (dk_monoG_cons o_5_setOut (dk_monoG_cons o_4_walk (dk_monoG_cons o_ac (dk_monoG_cons o_0_worstOf (dk_monoG_nil))))))
theorem o_5_tread : dk_mono s_5_tread := dk_MV_mono _ h_5_tread _ _
def t_5_tread : dk_Tm := (tc_5, [(68, 1, 0), (78, 0, 1), (180, 0, 2), (183, 0, 3), (190, 1, 4), (196, 0, 5)], [0, 16, 32], 0)
def y_5_isMarch : MethodName := ⟨nn_R5, "isMarch", "(I)Z"⟩
def b_5_isMarch : dk_T := [
  ([true], [.inl (.iload 0), .inl (.iconst 0), .inl (.iconst 200), .inr (5, 0, 1), .inl .lreturn])]
def g_5_isMarch : List (Nat × dk_S) := [(3, s_5_isWithin)]
def s_5_isMarch : dk_S := dk_M g_5_isMarch b_5_isMarch 1
theorem h_5_isMarch : dk_monoG g_5_isMarch := dk_monoG_cons o_5_isWithin (dk_monoG_nil)
theorem o_5_isMarch : dk_mono s_5_isMarch := dk_M_mono h_5_isMarch _ _
def t_5_isMarch : dk_Tm := (tc_5, [(68, 1, 0)], [0], 1)
def y_5_march : MethodName := ⟨nn_R5, "march", "(II)I"⟩
def b_5_march : dk_T := [
  ([true, true, true], [.inl (.aload 0), .inr (0, 5, 0), .inl (.iload 1), .inr (5, 0, 0), .inl (.ifCond .eq 1), .inl (.iload 2), .inr (5, 1, 1), .inl (.ifCond .ne 2), .inr (7, 1, 1)]),
  ([true, false, false], [.inl (.aload 0), .inl (.iconst 0), .inr (5, 2, 0), .inl .ireturn]),
  ([true, true, true], [.inl (.aload 0), .inr (5, 3, 0), .inl (.aload 0), .inr (0, 5, 6), .inl (.iload 2), .inr (5, 4, 0), .inl (.aload 0), .inr (0, 5, 6), .inr (0, 4, 2), .inl (.iload 1), .inl .iaload, .inl .ireturn])]
def g_5_march : List (Nat × dk_S) := [(2, s_0_hasRank), (1, s_5_isMarch), (2, s_5_finding), (1, s_5_setOut), (2, s_4_walk)]
def s_5_march : dk_S := dk_MV 5 g_5_march b_5_march 3
theorem h_5_march : dk_monoG g_5_march := dk_monoG_cons o_0_hasRank (dk_monoG_cons o_5_isMarch (dk_monoG_cons o_5_finding (dk_monoG_cons o_5_setOut (dk_monoG_cons o_4_walk (dk_monoG_nil)))))
theorem o_5_march : dk_mono s_5_march := dk_MV_mono _ h_5_march _ _
def t_5_march : dk_Tm := (tc_5, [(114, 0, 0), (200, 1, 1), (78, 0, 2), (180, 0, 3), (183, 0, 4)], [0, 18, 24], 0)
def y_5_worst : MethodName := ⟨nn_R5, "worst", "(I)I"⟩
def b_5_worst : dk_T := [
  ([true, true], [.inl (.iload 1), .inr (5, 0, 1), .inl (.ifCond .ne 1), .inl (.aload 0), .inl (.iconst 0), .inr (5, 1, 0), .inl .ireturn]),
  ([true, true], [.inl (.aload 0), .inr (0, 5, 0), .inr (0, 0, 1), .inl (.ifCond .ne 2), .inl (.aload 0), .inl (.iconst 3), .inr (5, 1, 0), .inl .ireturn]),
  ([true, true], [.inl (.aload 0), .inr (5, 2, 0), .inl (.aload 0), .inr (0, 5, 6), .inl (.iload 1), .inr (5, 3, 0), .inl (.aload 0), .inr (0, 5, 0), .inl (.aload 0), .inr (0, 5, 6), .inr (0, 4, 2), .inr (5, 4, 0), .inl .ireturn])]
def g_5_worst : List (Nat × dk_S) := [(1, s_5_isMarch), (2, s_5_finding), (1, s_5_setOut), (2, s_4_walk), (2, s_0_worstOf)]
def s_5_worst : dk_S := dk_MV 5 g_5_worst b_5_worst 2
theorem h_5_worst : dk_monoG g_5_worst := dk_monoG_cons o_5_isMarch (dk_monoG_cons o_5_finding (dk_monoG_cons o_5_setOut (dk_monoG_cons o_4_walk (dk_monoG_cons o_0_worstOf (dk_monoG_nil)))))
theorem o_5_worst : dk_mono s_5_worst := dk_MV_mono _ h_5_worst _ _
def t_5_worst : dk_Tm := (tc_5, [(200, 1, 0), (78, 0, 1), (180, 0, 2), (183, 0, 3), (196, 0, 4)], [0, 13, 29], 0)
def y_5_right : MethodName := ⟨nn_R5, "right", "(II)I"⟩
def b_5_right : dk_T := [
  ([true, true, true, false, false], [.inl (.iload 1), .inl (.iconst 0), .inl (.iconst 999), .inr (5, 0, 1), .inl (.ifCond .eq 1), .inl (.iload 2), .inr (5, 1, 1), .inl (.ifCond .ne 2), .inr (7, 1, 1)]),
  ([true, false, false, false, false], [.inl (.aload 0), .inl (.iconst 0), .inr (5, 2, 0), .inl .ireturn]),
  ([true, true, true, false, false], [.inl (.aload 0), .inr (5, 3, 0), .inl (.aload 0), .inr (0, 5, 6), .inl (.iload 2), .inr (5, 4, 0), .inl (.iconst 0), .inl (.istore 3), .inl (.iconst 0), .inl (.istore 4), .inr (7, 3, 1)]),
  ([true, true, false, true, true], [.inl (.iload 4), .inl (.aload 0), .inr (0, 5, 0), .inr (0, 0, 1), .inl (.if_icmp .ge 5), .inl (.aload 0), .inr (0, 5, 6), .inr (0, 4, 2), .inl (.iload 4), .inl .iaload, .inr (5, 5, 1), .inl (.iload 1), .inl (.if_icmp .gt 4), .inl (.iload 3), .inl (.iconst 1), .inl (.iload 4), .inl .ishl, .inl .ior, .inl (.istore 3), .inr (7, 4, 1)]),
  ([true, true, false, true, true], [.inl (.iinc 4 (1)), .inr (7, 3, 0)]),
  ([false, false, false, true, false], [.inl (.iload 3), .inl .ireturn])]
def g_5_right : List (Nat × dk_S) := [(3, s_5_isWithin), (1, s_5_isMarch), (2, s_5_finding), (1, s_5_setOut), (2, s_4_walk), (1, s_8_abs)]
def s_5_right : dk_S := dk_MV 5 g_5_right b_5_right 5
theorem h_5_right : dk_monoG g_5_right := dk_monoG_cons o_5_isWithin (dk_monoG_cons o_5_isMarch (dk_monoG_cons o_5_finding (dk_monoG_cons o_5_setOut (dk_monoG_cons o_4_walk (dk_monoG_cons o_8_abs (dk_monoG_nil))))))
theorem o_5_right : dk_mono s_5_right := dk_MV_mono _ h_5_right _ _
def t_5_right : dk_Tm := (tc_5, [(68, 1, 0), (200, 1, 1), (78, 0, 2), (180, 0, 3), (183, 0, 4), (203, 1, 5)], [0, 18, 24, 41, 77, 83], 0)
def y_5_settles : MethodName := ⟨nn_R5, "settles", "()I"⟩
def b_5_settles : dk_T := [
  ([true, false], [.inl (.aload 0), .inr (5, 0, 0), .inl (.iconst 0), .inl (.istore 1), .inr (7, 1, 1)]),
  ([true, true], [.inl (.iload 1), .inl (.iconst 200), .inl (.if_icmp .gt 3), .inl (.aload 0), .inr (0, 5, 6), .inr (5, 1, 0), .inl (.ifCond .ne 2), .inl (.iload 1), .inl .ireturn]),
  ([true, true], [.inl (.iinc 1 (1)), .inr (7, 1, 0)]),
  ([true, false], [.inl (.aload 0), .inl (.iconst 3), .inr (5, 2, 0), .inl .ireturn])]
def g_5_settles : List (Nat × dk_S) := [(1, s_5_setOut), (1, s_4_step), (2, s_5_finding)]
def s_5_settles : dk_S := dk_MV 5 g_5_settles b_5_settles 2
theorem h_5_settles : dk_monoG g_5_settles := dk_monoG_cons o_5_setOut (dk_monoG_cons o_4_step (dk_monoG_cons o_5_finding (dk_monoG_nil)))
theorem o_5_settles : dk_mono s_5_settles := dk_MV_mono _ h_5_settles _ _
def t_5_settles : dk_Tm := (tc_5, [(180, 0, 0), (208, 0, 1), (78, 0, 2)], [0, 6, 25, 31], 0)
def y_5_wasAsNow : MethodName := ⟨nn_R5, "wasAsNow", "(I)Z"⟩
def b_5_wasAsNow : dk_T := [
  ([true, true, false], [.inl (.iconst 0), .inl (.istore 2), .inr (7, 1, 1)]),
  ([true, true, true], [.inl (.iload 2), .inl (.aload 0), .inr (0, 5, 0), .inr (0, 0, 1), .inl (.if_icmp .ge 3), .inl (.aload 0), .inr (0, 5, 8), .inl (.iload 1), .inl (.iconst 24), .inl .imul, .inl (.iload 2), .inl .iadd, .inl .iaload, .inl (.aload 0), .inr (0, 5, 6), .inr (0, 4, 2), .inl (.iload 2), .inl .iaload, .inl (.if_icmp .eq 2), .inl (.iconst 0), .inl .lreturn]),
  ([true, true, true], [.inl (.iinc 2 (1)), .inr (7, 1, 0)]),
  ([false, false, false], [.inl (.iconst 1), .inl .lreturn])]
def g_5_wasAsNow : List (Nat × dk_S) := []
def s_5_wasAsNow : dk_S := dk_MV 5 g_5_wasAsNow b_5_wasAsNow 3
theorem h_5_wasAsNow : dk_monoG g_5_wasAsNow := dk_monoG_nil
theorem o_5_wasAsNow : dk_mono s_5_wasAsNow := dk_MV_mono _ h_5_wasAsNow _ _
def t_5_wasAsNow : dk_Tm := (tc_5, [], [0, 2, 38, 44], 1)
def y_5_whenAsNow : MethodName := ⟨nn_R5, "whenAsNow", "(I)I"⟩
def b_5_whenAsNow : dk_T := [
  ([true, true, false], [.inl (.iconst 0), .inl (.istore 2), .inr (7, 1, 1)]),
  ([true, true, true], [.inl (.iload 2), .inl (.iload 1), .inl (.if_icmp .ge 3), .inl (.aload 0), .inl (.iload 2), .inr (5, 0, 0), .inl (.ifCond .eq 2), .inl (.iload 2), .inl .ireturn]),
  ([true, true, true], [.inl (.iinc 2 (1)), .inr (7, 1, 0)]),
  ([false, false, false], [.inl (.iconst (-1)), .inl .ireturn])]
def g_5_whenAsNow : List (Nat × dk_S) := [(2, s_5_wasAsNow)]
def s_5_whenAsNow : dk_S := dk_MV 5 g_5_whenAsNow b_5_whenAsNow 3
theorem h_5_whenAsNow : dk_monoG g_5_whenAsNow := dk_monoG_cons o_5_wasAsNow (dk_monoG_nil)
theorem o_5_whenAsNow : dk_mono s_5_whenAsNow := dk_MV_mono _ h_5_whenAsNow _ _
def t_5_whenAsNow : dk_Tm := (tc_5, [(310, 0, 0)], [0, 2, 17, 23], 0)
def y_5_round : MethodName := ⟨nn_R5, "round", "(I)I"⟩
def b_5_round : dk_T := [
  ([true, true, false, false], [.inl (.iload 1), .inl (.iconst 0), .inl (.iconst 1), .inr (5, 0, 1), .inl (.ifCond .ne 1), .inl (.aload 0), .inl (.iconst 0), .inr (5, 1, 0), .inl .ireturn]),
  ([true, true, false, false], [.inl (.aload 0), .inr (5, 2, 0), .inl (.iconst 0), .inl (.istore 2), .inr (7, 2, 1)]),
  ([true, true, true, false], [.inl (.iload 2), .inl (.iconst 200), .inl (.if_icmp .gt 6), .inl (.aload 0), .inl (.iload 2), .inr (5, 3, 0), .inl (.istore 3), .inl (.iload 3), .inl (.ifCond .lt 5), .inl (.iload 1), .inl (.ifCond .ne 3), .inl (.iload 3), .inr (7, 4, 0)]),
  ([false, false, true, true], [.inl (.iload 2), .inl (.iload 3), .inl .isub, .inr (7, 4, 1)]),
  ([false, false, false, false], [.inl .ireturn]),
  ([true, true, true, false], [.inl (.aload 0), .inr (0, 5, 6), .inr (0, 4, 2), .inl (.iconst 0), .inl (.aload 0), .inr (0, 5, 8), .inl (.iload 2), .inl (.iconst 24), .inl .imul, .inl (.iconst 24), .inr (5, 4, 1), .inl (.aload 0), .inr (0, 5, 6), .inr (5, 5, 0), .inl .pop, .inl (.iinc 2 (1)), .inr (7, 2, 0)]),
  ([true, false, false, false], [.inl (.aload 0), .inl (.iconst 3), .inr (5, 1, 0), .inl .ireturn])]
def g_5_round : List (Nat × dk_S) := [(3, s_5_isWithin), (2, s_5_finding), (1, s_5_setOut), (2, s_5_whenAsNow), (5, s_ac), (1, s_4_step)]
def s_5_round : dk_S := dk_MV 5 g_5_round b_5_round 4
theorem h_5_round : dk_monoG g_5_round := dk_monoG_cons o_5_isWithin (dk_monoG_cons o_5_finding (dk_monoG_cons o_5_setOut (dk_monoG_cons o_5_whenAsNow (dk_monoG_cons o_ac (dk_monoG_cons o_4_step (dk_monoG_nil))))))
theorem o_5_round : dk_mono s_5_round := dk_MV_mono _ h_5_round _ _
def t_5_round : dk_Tm := (tc_5, [(68, 1, 0), (78, 0, 1), (180, 0, 2), (212, 0, 3), (190, 1, 4), (208, 0, 5)], [0, 15, 21, 46, 49, 50, 85], 0)
def y_5_better : MethodName := ⟨nn_R5, "better", "(I)I"⟩
def b_5_better : dk_T := [
  ([true, true, false, false, false, false], [.inl (.iload 1), .inl (.iconst 1), .inl (.iconst 200), .inr (5, 0, 1), .inl (.ifCond .ne 1), .inl (.aload 0), .inl (.iconst 0), .inr (5, 1, 0), .inl .ireturn]),
  ([true, true, false, false, false, false], [.inl (.aload 0), .inr (5, 2, 0), .inl (.iconst 0), .inl (.istore 2), .inl (.aload 0), .inr (0, 5, 0), .inl (.aload 0), .inr (0, 5, 6), .inr (0, 4, 2), .inr (5, 3, 0), .inl (.istore 3), .inl (.iconst 0), .inl (.istore 4), .inr (7, 2, 1)]),
  ([true, true, true, true, true, false], [.inl (.iload 4), .inl (.iload 1), .inl (.if_icmp .ge 4), .inl (.aload 0), .inr (0, 5, 6), .inr (5, 4, 0), .inl .pop, .inl (.aload 0), .inr (0, 5, 0), .inl (.aload 0), .inr (0, 5, 6), .inr (0, 4, 2), .inr (5, 3, 0), .inl (.istore 5), .inl (.iload 5), .inl (.iload 3), .inl (.if_icmp .ge 3), .inl (.iinc 2 (1)), .inr (7, 3, 1)]),
  ([true, true, true, false, true, true], [.inl (.iload 5), .inl (.istore 3), .inl (.iinc 4 (1)), .inr (7, 2, 0)]),
  ([false, false, true, false, false, false], [.inl (.iload 2), .inl .ireturn])]
def g_5_better : List (Nat × dk_S) := [(3, s_5_isWithin), (2, s_5_finding), (1, s_5_setOut), (2, s_0_worstOf), (1, s_4_step)]
def s_5_better : dk_S := dk_MV 5 g_5_better b_5_better 6
theorem h_5_better : dk_monoG g_5_better := dk_monoG_cons o_5_isWithin (dk_monoG_cons o_5_finding (dk_monoG_cons o_5_setOut (dk_monoG_cons o_0_worstOf (dk_monoG_cons o_4_step (dk_monoG_nil)))))
theorem o_5_better : dk_mono s_5_better := dk_MV_mono _ h_5_better _ _
def t_5_better : dk_Tm := (tc_5, [(68, 1, 0), (78, 0, 1), (180, 0, 2), (196, 0, 3), (208, 0, 4)], [0, 17, 41, 80, 89], 0)
def y_5_worstWithDrumsSo : MethodName := ⟨nn_R5, "worstWithDrumsSo", "(I)I"⟩
def b_5_worstWithDrumsSo : dk_T := [
  ([true, true], [.inl (.aload 0), .inr (0, 5, 5), .inr (5, 0, 0), .inl (.aload 0), .inr (0, 5, 6), .inr (5, 1, 0), .inl (.aload 0), .inr (0, 5, 6), .inl (.iload 1), .inr (5, 2, 0), .inl (.aload 0), .inr (0, 5, 0), .inl (.aload 0), .inr (0, 5, 6), .inr (0, 4, 2), .inr (5, 3, 0), .inl .ireturn])]
def g_5_worstWithDrumsSo : List (Nat × dk_S) := [(1, s_1_listen), (1, s_4_start), (2, s_4_walk), (2, s_0_worstOf)]
def s_5_worstWithDrumsSo : dk_S := dk_MV 5 g_5_worstWithDrumsSo b_5_worstWithDrumsSo 2
theorem h_5_worstWithDrumsSo : dk_monoG g_5_worstWithDrumsSo := dk_monoG_cons o_1_listen (dk_monoG_cons o_4_start (dk_monoG_cons o_4_walk (dk_monoG_cons o_0_worstOf (dk_monoG_nil))))
theorem o_5_worstWithDrumsSo : dk_mono s_5_worstWithDrumsSo := dk_MV_mono _ h_5_worstWithDrumsSo _ _
def t_5_worstWithDrumsSo : dk_Tm := (tc_5, [(307, 0, 0), (228, 0, 1), (183, 0, 2), (196, 0, 3)], [0], 0)
def y_5_place : MethodName := ⟨nn_R5, "place", "(II)I"⟩
def b_5_place : dk_T := [
  ([true, true, true, false, false, false, false, false], [.inl (.aload 0), .inr (0, 5, 0), .inl (.iload 1), .inr (5, 0, 0), .inl (.ifCond .eq 1), .inl (.iload 2), .inl (.iconst 0), .inl (.iconst 50), .inr (5, 1, 1), .inl (.ifCond .ne 2), .inr (7, 1, 1)]),
  ([true, false, false, false, false, false, false, false], [.inl (.aload 0), .inl (.iconst 0), .inr (5, 2, 0), .inl .ireturn]),
  ([true, true, true, false, false, false, false, false], [.inl (.aload 0), .inr (0, 5, 0), .inr (0, 0, 1), .inl (.ifCond .ne 3), .inl (.aload 0), .inl (.iconst 3), .inr (5, 2, 0), .inl .ireturn]),
  ([true, true, true, false, false, false, false, false], [.inl (.aload 0), .inr (0, 5, 0), .inr (0, 0, 9), .inl (.iload 1), .inl .iaload, .inl (.istore 3), .inl (.aload 0), .inr (0, 5, 5), .inr (5, 3, 0), .inl (.iconst 0), .inl (.istore 4), .inr (6, 102, 0), .inl (.iconst 0), .inl .iaload, .inl (.istore 5), .inl (.iconst 0), .inl (.istore 6), .inr (7, 4, 1)]),
  ([true, true, true, true, true, true, true, false], [.inl (.iload 6), .inl (.aload 0), .inr (0, 5, 0), .inr (0, 0, 1), .inl (.if_icmp .ge 6), .inl (.aload 0), .inr (0, 5, 0), .inr (0, 0, 9), .inl (.iload 1), .inl (.aload 0), .inr (0, 5, 0), .inr (0, 0, 3), .inl (.iload 6), .inl .iaload, .inl .iastore, .inl (.aload 0), .inl (.iload 2), .inr (5, 4, 0), .inl (.istore 7), .inl (.iload 7), .inl (.iload 5), .inl (.if_icmp .ge 5), .inl (.iload 7), .inl (.istore 5), .inl (.iload 6), .inl (.istore 4), .inr (7, 5, 1)]),
  ([true, true, true, true, true, true, true, false], [.inl (.iinc 6 (1)), .inr (7, 4, 0)]),
  ([true, true, false, true, true, false, false, false], [.inl (.aload 0), .inr (0, 5, 0), .inr (0, 0, 9), .inl (.iload 1), .inl (.iload 3), .inl .iastore, .inl (.iload 4), .inl .ireturn])]
def g_5_place : List (Nat × dk_S) := [(2, s_0_hasDrum), (3, s_5_isWithin), (2, s_5_finding), (1, s_1_prepare), (2, s_5_worstWithDrumsSo)]
def s_5_place : dk_S := dk_MV 5 g_5_place b_5_place 8
theorem h_5_place : dk_monoG g_5_place := dk_monoG_cons o_0_hasDrum (dk_monoG_cons o_5_isWithin (dk_monoG_cons o_5_finding (dk_monoG_cons o_1_prepare (dk_monoG_cons o_5_worstWithDrumsSo (dk_monoG_nil)))))
theorem o_5_place : dk_mono s_5_place := dk_MV_mono _ h_5_place _ _
def t_5_place : dk_Tm := (tc_5, [(168, 0, 0), (68, 1, 1), (78, 0, 2), (139, 0, 3), (215, 0, 4)], [0, 21, 27, 43, 73, 126, 132], 0)
def y_5_areTwoDrums : MethodName := ⟨nn_R5, "areTwoDrums", "(II)Z"⟩
def b_5_areTwoDrums : dk_T := [
  ([true, true, true], [.inl (.aload 0), .inr (0, 5, 0), .inl (.iload 1), .inr (5, 0, 0), .inl (.ifCond .eq 1), .inl (.aload 0), .inr (0, 5, 0), .inl (.iload 2), .inr (5, 0, 0), .inl (.ifCond .eq 1), .inl (.iload 1), .inl (.iload 2), .inl (.if_icmp .eq 1), .inl (.iconst 1), .inr (7, 2, 0)]),
  ([false, false, false], [.inl (.iconst 0), .inr (7, 2, 1)]),
  ([false, false, false], [.inl .lreturn])]
def g_5_areTwoDrums : List (Nat × dk_S) := [(2, s_0_hasDrum)]
def s_5_areTwoDrums : dk_S := dk_MV 5 g_5_areTwoDrums b_5_areTwoDrums 3
theorem h_5_areTwoDrums : dk_monoG g_5_areTwoDrums := dk_monoG_cons o_0_hasDrum (dk_monoG_nil)
theorem o_5_areTwoDrums : dk_mono s_5_areTwoDrums := dk_MV_mono _ h_5_areTwoDrums _ _
def t_5_areTwoDrums : dk_Tm := (tc_5, [(168, 0, 0)], [0, 31, 32], 1)
def y_5_both : MethodName := ⟨nn_R5, "both", "(III)I"⟩
def b_5_both : dk_T := [
  ([true, true, true, true, false, false, false, false, false, false, false], [.inl (.aload 0), .inl (.iload 1), .inl (.iload 2), .inr (5, 0, 0), .inl (.ifCond .eq 1), .inl (.iload 3), .inl (.iconst 0), .inl (.iconst 9), .inr (5, 1, 1), .inl (.ifCond .ne 2), .inr (7, 1, 1)]),
  ([true, false, false, false, false, false, false, false, false, false, false], [.inl (.aload 0), .inl (.iconst 0), .inr (5, 2, 0), .inl .ireturn]),
  ([true, true, true, true, false, false, false, false, false, false, false], [.inl (.aload 0), .inr (0, 5, 0), .inr (0, 0, 1), .inl (.ifCond .ne 3), .inl (.aload 0), .inl (.iconst 3), .inr (5, 2, 0), .inl .ireturn]),
  ([true, true, true, true, false, false, false, false, false, false, false], [.inl (.aload 0), .inr (0, 5, 0), .inr (0, 0, 9), .inl (.iload 1), .inl .iaload, .inl (.istore 4), .inl (.aload 0), .inr (0, 5, 0), .inr (0, 0, 9), .inl (.iload 2), .inl .iaload, .inl (.istore 5), .inl (.aload 0), .inr (0, 5, 5), .inr (5, 3, 0), .inl (.iconst 0), .inl (.istore 6), .inr (6, 102, 0), .inl (.iconst 0), .inl .iaload, .inl (.istore 7), .inl (.iconst 0), .inl (.istore 8), .inr (7, 4, 1)]),
  ([true, true, true, true, true, true, true, true, true, false, false], [.inl (.iload 8), .inl (.aload 0), .inr (0, 5, 0), .inr (0, 0, 1), .inl (.if_icmp .ge 8), .inl (.aload 0), .inr (0, 5, 0), .inr (0, 0, 9), .inl (.iload 1), .inl (.aload 0), .inr (0, 5, 0), .inr (0, 0, 3), .inl (.iload 8), .inl .iaload, .inl .iastore, .inl (.iconst 0), .inl (.istore 9), .inr (7, 5, 1)]),
  ([true, true, true, true, true, true, true, true, true, true, false], [.inl (.iload 9), .inl (.aload 0), .inr (0, 5, 0), .inr (0, 0, 1), .inl (.if_icmp .ge 7), .inl (.aload 0), .inr (0, 5, 0), .inr (0, 0, 9), .inl (.iload 2), .inl (.aload 0), .inr (0, 5, 0), .inr (0, 0, 3), .inl (.iload 9), .inl .iaload, .inl .iastore, .inl (.aload 0), .inl (.iload 3), .inr (5, 4, 0), .inl (.istore 10), .inl (.iload 10), .inl (.iload 7), .inl (.if_icmp .ge 6), .inl (.iload 10), .inl (.istore 7), .inl (.iconst 100), .inl (.iload 8), .inl .imul, .inl (.iload 9), .inl .iadd, .inl (.istore 6), .inr (7, 6, 1)]),
  ([true, true, true, true, true, true, true, true, true, true, false], [.inl (.iinc 9 (1)), .inr (7, 5, 0)]),
  ([true, true, true, true, true, true, true, true, true, false, false], [.inl (.iinc 8 (1)), .inr (7, 4, 0)]),
  ([true, true, true, false, true, true, true, false, false, false, false], [.inl (.aload 0), .inr (0, 5, 0), .inr (0, 0, 9), .inl (.iload 1), .inl (.iload 4), .inl .iastore, .inl (.aload 0), .inr (0, 5, 0), .inr (0, 0, 9), .inl (.iload 2), .inl (.iload 5), .inl .iastore, .inl (.iload 6), .inl .ireturn])]
def g_5_both : List (Nat × dk_S) := [(3, s_5_areTwoDrums), (3, s_5_isWithin), (2, s_5_finding), (1, s_1_prepare), (2, s_5_worstWithDrumsSo)]
def s_5_both : dk_S := dk_MV 5 g_5_both b_5_both 11
theorem h_5_both : dk_monoG g_5_both := dk_monoG_cons o_5_areTwoDrums (dk_monoG_cons o_5_isWithin (dk_monoG_cons o_5_finding (dk_monoG_cons o_1_prepare (dk_monoG_cons o_5_worstWithDrumsSo (dk_monoG_nil)))))
theorem o_5_both : dk_mono s_5_both := dk_MV_mono _ h_5_both _ _
def t_5_both : dk_Tm := (tc_5, [(218, 0, 0), (68, 1, 1), (78, 0, 2), (139, 0, 3), (215, 0, 4)], [0, 19, 25, 41, 83, 117, 176, 182, 188], 0)
def y_5_two : MethodName := ⟨nn_R5, "two", "(IIII)I"⟩
def b_5_two : dk_T := [
  ([true, true, true, true, true, false, false, false, false, false], [.inl (.aload 0), .inl (.iload 1), .inl (.iload 2), .inr (5, 0, 0), .inl (.ifCond .eq 1), .inl (.iload 3), .inl (.iconst 1), .inl (.iconst 99), .inr (5, 1, 1), .inl (.ifCond .eq 1), .inl (.iload 4), .inl (.iconst 0), .inl (.iconst 1), .inr (5, 1, 1), .inl (.ifCond .ne 2), .inr (7, 1, 1)]),
  ([true, false, false, false, false, false, false, false, false, false], [.inl (.aload 0), .inl (.iconst 0), .inr (5, 2, 0), .inl .ireturn]),
  ([true, true, true, true, true, false, false, false, false, false], [.inl (.aload 0), .inr (0, 5, 0), .inl (.aload 0), .inr (0, 5, 0), .inr (0, 0, 9), .inl (.iload 2), .inl .iaload, .inl (.aload 0), .inr (0, 5, 0), .inr (0, 0, 9), .inl (.iload 1), .inl .iaload, .inr (5, 3, 0), .inl (.istore 5), .inl (.aload 0), .inr (0, 5, 0), .inl (.aload 0), .inr (0, 5, 0), .inr (0, 0, 9), .inl (.iload 1), .inl .iaload, .inl (.aload 0), .inr (0, 5, 0), .inr (0, 0, 9), .inl (.iload 2), .inl .iaload, .inr (5, 3, 0), .inl (.istore 6), .inl (.aload 0), .inr (0, 5, 0), .inr (0, 0, 11), .inl (.iload 1), .inl .iaload, .inl (.istore 7), .inl (.aload 0), .inr (0, 5, 0), .inr (0, 0, 11), .inl (.iload 2), .inl .iaload, .inl (.istore 8), .inl (.iconst 0), .inl (.istore 9), .inr (7, 3, 1)]),
  ([true, false, false, true, true, true, true, true, true, true], [.inl (.iload 9), .inl (.iload 3), .inl (.if_icmp .ge 4), .inl (.iload 7), .inl (.aload 0), .inr (0, 5, 0), .inl (.iload 7), .inl (.iload 5), .inl .iadd, .inl (.iload 8), .inl .isub, .inr (5, 4, 0), .inl (.iconst 2), .inl .idiv, .inl .isub, .inl (.istore 7), .inl (.iload 8), .inl (.aload 0), .inr (0, 5, 0), .inl (.iload 8), .inl (.iload 6), .inl .iadd, .inl (.iload 7), .inl .isub, .inr (5, 4, 0), .inl (.iconst 2), .inl .idiv, .inl .isub, .inl (.istore 8), .inl (.iinc 9 (1)), .inr (7, 3, 0)]),
  ([false, false, false, false, true, false, false, true, true, false], [.inl (.iload 4), .inl (.ifCond .ne 5), .inl (.iload 7), .inr (7, 6, 0)]),
  ([false, false, false, false, false, false, false, false, true, false], [.inl (.iload 8), .inr (7, 6, 1)]),
  ([false, false, false, false, false, false, false, false, false, false], [.inl .ireturn])]
def g_5_two : List (Nat × dk_S) := [(3, s_5_areTwoDrums), (3, s_5_isWithin), (2, s_5_finding), (3, s_0_lagBetween), (2, s_0_wrap)]
def s_5_two : dk_S := dk_MV 5 g_5_two b_5_two 10
theorem h_5_two : dk_monoG g_5_two := dk_monoG_cons o_5_areTwoDrums (dk_monoG_cons o_5_isWithin (dk_monoG_cons o_5_finding (dk_monoG_cons o_0_lagBetween (dk_monoG_cons o_0_wrap (dk_monoG_nil)))))
theorem o_5_two : dk_mono s_5_two := dk_MV_mono _ h_5_two _ _
def t_5_two : dk_Tm := (tc_5, [(218, 0, 0), (68, 1, 1), (78, 0, 2), (177, 0, 3), (150, 0, 4)], [0, 29, 35, 114, 170, 180, 182], 0)
def y_5_isOpposite : MethodName := ⟨nn_R5, "isOpposite", "(II)Z"⟩
def b_5_isOpposite : dk_T := [
  ([true, true], [.inl (.iload 0), .inl (.iload 1), .inr (5, 0, 1), .inr (5, 1, 1), .inl (.iconst 4), .inl .imul, .inl (.iload 1), .inl (.if_icmp .lt 1), .inl (.iconst 1), .inr (7, 2, 0)]),
  ([false, false], [.inl (.iconst 0), .inr (7, 2, 1)]),
  ([false, false], [.inl .lreturn])]
def g_5_isOpposite : List (Nat × dk_S) := [(2, s_5_wrapped), (1, s_8_abs)]
def s_5_isOpposite : dk_S := dk_M g_5_isOpposite b_5_isOpposite 2
theorem h_5_isOpposite : dk_monoG g_5_isOpposite := dk_monoG_cons o_5_wrapped (dk_monoG_cons o_8_abs (dk_monoG_nil))
theorem o_5_isOpposite : dk_mono s_5_isOpposite := dk_M_mono h_5_isOpposite _ _
def t_5_isOpposite : dk_Tm := (tc_5, [(301, 1, 0), (203, 1, 1)], [0, 18, 19], 1)
def y_5_opposite : MethodName := ⟨nn_R5, "opposite", "(I)I"⟩
def b_5_opposite : dk_T := [
  ([true, true, false], [.inl (.aload 0), .inr (0, 5, 0), .inl (.iload 1), .inr (5, 0, 0), .inl (.ifCond .ne 1), .inl (.aload 0), .inl (.iconst 0), .inr (5, 1, 0), .inl .ireturn]),
  ([true, true, false], [.inl (.aload 0), .inr (0, 5, 0), .inl (.iload 1), .inr (5, 2, 0), .inl (.istore 2), .inl (.iload 2), .inl (.iconst (-1)), .inl (.if_icmp .ne 2), .inl (.aload 0), .inl (.iconst 3), .inr (5, 1, 0), .inl .ireturn]),
  ([true, true, true], [.inl (.aload 0), .inr (0, 5, 0), .inl (.iload 2), .inl (.iload 1), .inr (5, 3, 0), .inl (.aload 0), .inr (0, 5, 0), .inr (0, 0, 0), .inl (.iconst 0), .inl .iaload, .inr (5, 4, 1), .inl (.ifCond .eq 3), .inl (.iconst 1), .inr (7, 4, 0)]),
  ([false, false, false], [.inl (.iconst 0), .inr (7, 4, 1)]),
  ([false, false, false], [.inl .ireturn])]
def g_5_opposite : List (Nat × dk_S) := [(2, s_0_hasRank), (2, s_5_finding), (2, s_0_drumFor), (3, s_0_lagFromDrum), (2, s_5_isOpposite)]
def s_5_opposite : dk_S := dk_MV 5 g_5_opposite b_5_opposite 3
theorem h_5_opposite : dk_monoG g_5_opposite := dk_monoG_cons o_0_hasRank (dk_monoG_cons o_5_finding (dk_monoG_cons o_0_drumFor (dk_monoG_cons o_0_lagFromDrum (dk_monoG_cons o_5_isOpposite (dk_monoG_nil)))))
theorem o_5_opposite : dk_mono s_5_opposite := dk_MV_mono _ h_5_opposite _ _
def t_5_opposite : dk_Tm := (tc_5, [(114, 0, 0), (78, 0, 1), (136, 0, 2), (222, 0, 3), (225, 1, 4)], [0, 17, 37, 65, 66], 0)
def y_5_edges : MethodName := ⟨nn_R5, "edges", "(IIII)I"⟩
def b_5_edges : dk_T := [
  ([true, true, true, true, true, false, false, false, false], [.inl (.aload 0), .inr (0, 5, 0), .inl (.iload 1), .inr (5, 0, 0), .inl (.ifCond .eq 1), .inl (.iload 2), .inr (6, 101, 0), .inl (.iconst 0), .inl .iaload, .inr (6, 102, 0), .inl (.iconst 0), .inl .iaload, .inr (5, 1, 1), .inl (.ifCond .eq 1), .inl (.iload 3), .inl (.iload 2), .inr (6, 102, 0), .inl (.iconst 0), .inl .iaload, .inr (5, 1, 1), .inl (.ifCond .eq 1), .inl (.iload 4), .inl (.iconst 0), .inl (.iconst 1), .inr (5, 1, 1), .inl (.ifCond .ne 2), .inr (7, 1, 1)]),
  ([true, false, false, false, false, false, false, false, false], [.inl (.aload 0), .inl (.iconst 0), .inr (5, 2, 0), .inl .ireturn]),
  ([true, true, true, true, true, false, false, false, false], [.inl (.aload 0), .inr (0, 5, 0), .inl (.iload 1), .inr (5, 3, 0), .inl (.istore 5), .inl (.iload 5), .inl (.iconst (-1)), .inl (.if_icmp .ne 3), .inl (.aload 0), .inl (.iconst 3), .inr (5, 2, 0), .inl .ireturn]),
  ([true, true, true, true, true, true, false, false, false], [.inl (.aload 0), .inr (0, 5, 0), .inl (.iload 5), .inl (.iload 1), .inr (5, 4, 0), .inl (.istore 6), .inl (.iconst 0), .inl (.istore 7), .inl (.iload 2), .inl (.istore 8), .inr (7, 4, 1)]),
  ([true, false, false, true, true, false, true, true, true], [.inl (.iload 8), .inl (.iload 3), .inl (.if_icmp .gt 7), .inl (.iload 6), .inl (.iload 8), .inr (5, 5, 1), .inl (.ifCond .eq 6), .inl (.iload 4), .inl (.iconst 1), .inl (.if_icmp .ne 5), .inl (.iload 8), .inl .ireturn]),
  ([true, false, false, true, true, false, true, true, true], [.inl (.iinc 7 (1)), .inr (7, 6, 1)]),
  ([true, false, false, true, true, false, true, true, true], [.inl (.iinc 8 (1)), .inr (7, 4, 0)]),
  ([true, false, false, false, true, false, false, true, false], [.inl (.iload 4), .inl (.iconst 1), .inl (.if_icmp .ne 8), .inl (.aload 0), .inl (.iconst 3), .inr (5, 2, 0), .inr (7, 9, 0)]),
  ([false, false, false, false, false, false, false, true, false], [.inl (.iload 7), .inr (7, 9, 1)]),
  ([false, false, false, false, false, false, false, false, false], [.inl .ireturn])]
def g_5_edges : List (Nat × dk_S) := [(2, s_0_hasRank), (3, s_5_isWithin), (2, s_5_finding), (2, s_0_drumFor), (3, s_0_lagFromDrum), (2, s_5_isOpposite)]
def s_5_edges : dk_S := dk_MV 5 g_5_edges b_5_edges 9
theorem h_5_edges : dk_monoG g_5_edges := dk_monoG_cons o_0_hasRank (dk_monoG_cons o_5_isWithin (dk_monoG_cons o_5_finding (dk_monoG_cons o_0_drumFor (dk_monoG_cons o_0_lagFromDrum (dk_monoG_cons o_5_isOpposite (dk_monoG_nil))))))
theorem o_5_edges : dk_mono s_5_edges := dk_MV_mono _ h_5_edges _ _
def t_5_edges : dk_Tm := (tc_5, [(114, 0, 0), (68, 1, 1), (78, 0, 2), (136, 0, 3), (222, 0, 4), (225, 1, 5)], [0, 51, 57, 79, 97, 122, 125, 131, 145, 147], 0)
def y_5_ranksThatDiffer : MethodName := ⟨nn_R5, "ranksThatDiffer", "()I"⟩
def b_5_ranksThatDiffer : dk_T := [
  ([true, false, false], [.inl (.iconst 0), .inl (.istore 1), .inl (.iconst 0), .inl (.istore 2), .inr (7, 1, 1)]),
  ([true, true, true], [.inl (.iload 2), .inl (.aload 0), .inr (0, 5, 0), .inr (0, 0, 1), .inl (.if_icmp .ge 3), .inl (.aload 0), .inr (0, 5, 6), .inr (0, 4, 2), .inl (.iload 2), .inl .iaload, .inl (.aload 0), .inr (0, 5, 7), .inr (0, 4, 2), .inl (.iload 2), .inl .iaload, .inl (.if_icmp .eq 2), .inl (.iinc 1 (1)), .inr (7, 2, 1)]),
  ([true, true, true], [.inl (.iinc 2 (1)), .inr (7, 1, 0)]),
  ([false, true, false], [.inl (.iload 1), .inl .ireturn])]
def g_5_ranksThatDiffer : List (Nat × dk_S) := []
def s_5_ranksThatDiffer : dk_S := dk_MV 5 g_5_ranksThatDiffer b_5_ranksThatDiffer 3
theorem h_5_ranksThatDiffer : dk_monoG g_5_ranksThatDiffer := dk_monoG_nil
theorem o_5_ranksThatDiffer : dk_mono s_5_ranksThatDiffer := dk_MV_mono _ h_5_ranksThatDiffer _ _
def t_5_ranksThatDiffer : dk_Tm := (tc_5, [], [0, 4, 39, 45], 0)
def y_5_pacesUntilAlike : MethodName := ⟨nn_R5, "pacesUntilAlike", "(I)I"⟩
def b_5_pacesUntilAlike : dk_T := [
  ([true, true, false], [.inl (.iconst 0), .inl (.istore 2), .inr (7, 1, 1)]),
  ([true, true, true], [.inl (.iload 2), .inl (.iload 1), .inl (.if_icmp .gt 3), .inl (.aload 0), .inr (5, 0, 0), .inl (.ifCond .ne 2), .inl (.iload 2), .inl .ireturn]),
  ([true, true, true], [.inl (.aload 0), .inr (0, 5, 6), .inr (5, 1, 0), .inl .pop, .inl (.aload 0), .inr (0, 5, 7), .inr (5, 1, 0), .inl .pop, .inl (.iinc 2 (1)), .inr (7, 1, 0)]),
  ([false, false, false], [.inl (.iconst (-1)), .inl .ireturn])]
def g_5_pacesUntilAlike : List (Nat × dk_S) := [(1, s_5_ranksThatDiffer), (1, s_4_step)]
def s_5_pacesUntilAlike : dk_S := dk_MV 5 g_5_pacesUntilAlike b_5_pacesUntilAlike 3
theorem h_5_pacesUntilAlike : dk_monoG g_5_pacesUntilAlike := dk_monoG_cons o_5_ranksThatDiffer (dk_monoG_cons o_4_step (dk_monoG_nil))
theorem o_5_pacesUntilAlike : dk_mono s_5_pacesUntilAlike := dk_MV_mono _ h_5_pacesUntilAlike _ _
def t_5_pacesUntilAlike : dk_Tm := (tc_5, [(234, 0, 0), (208, 0, 1)], [0, 2, 16, 38], 0)
def y_5_greatestDifference : MethodName := ⟨nn_R5, "greatestDifference", "()I"⟩
def b_5_greatestDifference : dk_T := [
  ([true, false, false, false], [.inl (.iconst 0), .inl (.istore 1), .inl (.iconst 0), .inl (.istore 2), .inr (7, 1, 1)]),
  ([true, true, true, false], [.inl (.iload 2), .inl (.aload 0), .inr (0, 5, 0), .inr (0, 0, 1), .inl (.if_icmp .ge 2), .inl (.aload 0), .inr (0, 5, 0), .inl (.aload 0), .inr (0, 5, 7), .inr (0, 4, 2), .inl (.iload 2), .inl .iaload, .inl (.aload 0), .inr (0, 5, 6), .inr (0, 4, 2), .inl (.iload 2), .inl .iaload, .inl .isub, .inr (5, 0, 0), .inl (.istore 3), .inl (.iload 1), .inl (.iload 3), .inr (5, 1, 1), .inr (5, 2, 1), .inl (.istore 1), .inl (.iinc 2 (1)), .inr (7, 1, 0)]),
  ([false, true, false, false], [.inl (.iload 1), .inl .ireturn])]
def g_5_greatestDifference : List (Nat × dk_S) := [(2, s_0_wrap), (1, s_8_abs), (2, s_8_max)]
def s_5_greatestDifference : dk_S := dk_MV 5 g_5_greatestDifference b_5_greatestDifference 4
theorem h_5_greatestDifference : dk_monoG g_5_greatestDifference := dk_monoG_cons o_0_wrap (dk_monoG_cons o_8_abs (dk_monoG_cons o_8_max (dk_monoG_nil)))
theorem o_5_greatestDifference : dk_mono s_5_greatestDifference := dk_MV_mono _ h_5_greatestDifference _ _
def t_5_greatestDifference : dk_Tm := (tc_5, [(150, 0, 0), (203, 1, 1), (247, 1, 2)], [0, 4, 57], 0)
def y_5_slip : MethodName := ⟨nn_R5, "slip", "(IIII)I"⟩
def b_5_slip : dk_T := [
  ([true, true, true, true, true, false], [.inl (.aload 0), .inr (0, 5, 0), .inl (.iload 1), .inr (5, 0, 0), .inl (.ifCond .eq 1), .inl (.iload 2), .inl (.iconst (-999)), .inl (.iconst 999), .inr (5, 1, 1), .inl (.ifCond .eq 1), .inl (.iload 3), .inl (.iconst 0), .inl (.iconst 99), .inr (5, 1, 1), .inl (.ifCond .eq 1), .inl (.iload 4), .inl (.iconst 0), .inl (.iconst 2), .inr (5, 1, 1), .inl (.ifCond .ne 2), .inr (7, 1, 1)]),
  ([true, false, false, false, false, false], [.inl (.aload 0), .inl (.iconst 0), .inr (5, 2, 0), .inl .ireturn]),
  ([true, true, true, true, true, false], [.inl (.aload 0), .inr (5, 3, 0), .inl (.aload 0), .inr (0, 5, 7), .inr (5, 4, 0), .inl (.aload 0), .inr (0, 5, 7), .inr (0, 4, 2), .inl (.iload 1), .inl (.aload 0), .inr (0, 5, 0), .inl (.aload 0), .inr (0, 5, 7), .inr (0, 4, 2), .inl (.iload 1), .inl .iaload, .inl (.iload 2), .inl .iadd, .inr (5, 5, 0), .inl .iastore, .inl (.iload 4), .inl (.iconst 2), .inl (.if_icmp .ne 5), .inl (.aload 0), .inl (.iload 3), .inr (5, 6, 0), .inl (.istore 5), .inl (.iload 5), .inl (.ifCond .ge 3), .inl (.aload 0), .inl (.iconst 3), .inr (5, 2, 0), .inr (7, 4, 0)]),
  ([false, false, false, false, false, true], [.inl (.iload 5), .inr (7, 4, 1)]),
  ([false, false, false, false, false, false], [.inl .ireturn]),
  ([true, false, false, true, true, false], [.inl (.aload 0), .inr (0, 5, 6), .inl (.iload 3), .inr (5, 7, 0), .inl (.aload 0), .inr (0, 5, 7), .inl (.iload 3), .inr (5, 7, 0), .inl (.iload 4), .inl (.ifCond .ne 6), .inl (.aload 0), .inr (5, 8, 0), .inr (7, 7, 0)]),
  ([true, false, false, false, false, false], [.inl (.aload 0), .inr (5, 9, 0), .inr (7, 7, 1)]),
  ([false, false, false, false, false, false], [.inl .ireturn])]
def g_5_slip : List (Nat × dk_S) := [(2, s_0_hasRank), (3, s_5_isWithin), (2, s_5_finding), (1, s_5_setOut), (1, s_4_start), (2, s_0_wrap), (2, s_5_pacesUntilAlike), (2, s_4_walk), (1, s_5_ranksThatDiffer), (1, s_5_greatestDifference)]
def s_5_slip : dk_S := dk_MV 5 g_5_slip b_5_slip 6
theorem h_5_slip : dk_monoG g_5_slip := dk_monoG_cons o_0_hasRank (dk_monoG_cons o_5_isWithin (dk_monoG_cons o_5_finding (dk_monoG_cons o_5_setOut (dk_monoG_cons o_4_start (dk_monoG_cons o_0_wrap (dk_monoG_cons o_5_pacesUntilAlike (dk_monoG_cons o_4_walk (dk_monoG_cons o_5_ranksThatDiffer (dk_monoG_cons o_5_greatestDifference (dk_monoG_nil))))))))))
theorem o_5_slip : dk_mono s_5_slip := dk_MV_mono _ h_5_slip _ _
def t_5_slip : dk_Tm := (tc_5, [(114, 0, 0), (68, 1, 1), (78, 0, 2), (180, 0, 3), (228, 0, 4), (150, 0, 5), (231, 0, 6), (183, 0, 7), (234, 0, 8), (237, 0, 9)], [0, 44, 50, 114, 116, 117, 145, 149], 0)
def y_0_passedByMouth : MethodName := ⟨nn_R0, "passedByMouth", "(I)I"⟩
def b_0_passedByMouth : dk_T := [
  ([true, true], [.inl (.iload 1), .inl (.ifCond .le 1), .inl (.aload 0), .inr (0, 0, 0), .inl (.iconst 5), .inl .iaload, .inl (.aload 0), .inl (.aload 0), .inr (0, 0, 3), .inl (.iload 1), .inl (.iconst 1), .inl .isub, .inl .iaload, .inl (.aload 0), .inr (0, 0, 3), .inl (.iload 1), .inl .iaload, .inr (5, 0, 0), .inl .iadd, .inr (7, 2, 0)]),
  ([false, false], [.inl (.iconst 0), .inr (7, 2, 1)]),
  ([false, false], [.inl .ireturn])]
def g_0_passedByMouth : List (Nat × dk_S) := [(3, s_0_lagBetween)]
def s_0_passedByMouth : dk_S := dk_MV 0 g_0_passedByMouth b_0_passedByMouth 2
theorem h_0_passedByMouth : dk_monoG g_0_passedByMouth := dk_monoG_cons o_0_lagBetween (dk_monoG_nil)
theorem o_0_passedByMouth : dk_mono s_0_passedByMouth := dk_MV_mono _ h_0_passedByMouth _ _
def t_0_passedByMouth : dk_Tm := (tc_0, [(99, 0, 0)], [0, 32, 33], 0)
def y_5_tellBeginnings : MethodName := ⟨nn_R5, "tellBeginnings", "(I)V"⟩
def b_5_tellBeginnings : dk_T := [
  ([true, true, false, false, false], [.inl (.iconst 0), .inl (.istore 2), .inr (7, 1, 1)]),
  ([true, true, true, false, false], [.inl (.iload 2), .inl (.aload 0), .inr (0, 5, 0), .inr (0, 0, 1), .inl (.if_icmp .ge 10), .inl (.iload 1), .inl (.iconst 1), .inl (.if_icmp .ne 2), .inl (.aload 0), .inr (0, 5, 9), .inl (.iload 2), .inl (.aload 0), .inr (0, 5, 0), .inl (.iload 2), .inr (5, 0, 0), .inl .iastore, .inr (7, 9, 0)]),
  ([true, true, true, false, false], [.inl (.iload 2), .inl (.ifCond .ne 3), .inl (.aload 0), .inr (0, 5, 9), .inl (.iload 2), .inl (.iconst 0), .inl .iastore, .inr (7, 9, 0)]),
  ([true, true, true, false, false], [.inl (.iload 1), .inl (.ifCond .eq 4), .inl (.aload 0), .inr (0, 5, 0), .inl (.iload 2), .inr (5, 1, 0), .inl (.ifCond .eq 5), .inr (7, 4, 1)]),
  ([true, true, true, false, false], [.inl (.iconst 1), .inr (7, 6, 0)]),
  ([true, true, true, false, false], [.inl (.iconst 0), .inr (7, 6, 1)]),
  ([true, true, true, false, false], [.inl (.istore 3), .inl (.iload 3), .inl (.ifCond .eq 7), .inl (.aload 0), .inr (0, 5, 0), .inl (.iload 2), .inr (5, 2, 0), .inr (7, 8, 0)]),
  ([true, true, true, false, false], [.inl (.aload 0), .inr (0, 5, 0), .inr (0, 0, 0), .inl (.iconst 6), .inl .iaload, .inr (7, 8, 1)]),
  ([true, true, true, false, false], [.inl (.istore 4), .inl (.aload 0), .inr (0, 5, 9), .inl (.iload 2), .inl (.aload 0), .inr (0, 5, 9), .inl (.iload 2), .inl (.iconst 1), .inl .isub, .inl .iaload, .inl (.iload 4), .inl .iadd, .inl .iastore, .inr (7, 9, 1)]),
  ([true, true, true, false, false], [.inl (.iinc 2 (1)), .inr (7, 1, 0)]),
  ([false, false, false, false, false], [.inl .return_])]
def g_5_tellBeginnings : List (Nat × dk_S) := [(2, s_0_beatFor), (2, s_0_isBehindBend), (2, s_0_passedByMouth)]
def s_5_tellBeginnings : dk_S := dk_MV 5 g_5_tellBeginnings b_5_tellBeginnings 5
theorem h_5_tellBeginnings : dk_monoG g_5_tellBeginnings := dk_monoG_cons o_0_beatFor (dk_monoG_cons o_0_isBehindBend (dk_monoG_cons o_0_passedByMouth (dk_monoG_nil)))
theorem o_5_tellBeginnings : dk_mono s_5_tellBeginnings := dk_MV_mono _ h_5_tellBeginnings _ _
def t_5_tellBeginnings : dk_Tm := (tc_5, [(313, 0, 0), (316, 0, 1), (319, 0, 2)], [0, 2, 35, 49, 64, 68, 69, 85, 95, 114, 120], 2)
def y_5_begin : MethodName := ⟨nn_R5, "begin", "(II)I"⟩
def b_5_begin : dk_T := [
  ([true, true, true], [.inl (.iload 1), .inl (.iconst 0), .inl (.iconst 2), .inr (5, 0, 1), .inl (.ifCond .eq 1), .inl (.aload 0), .inr (0, 5, 0), .inl (.iload 2), .inr (5, 1, 0), .inl (.ifCond .ne 2), .inr (7, 1, 1)]),
  ([true, false, false], [.inl (.aload 0), .inl (.iconst 0), .inr (5, 2, 0), .inl .ireturn]),
  ([true, true, true], [.inl (.aload 0), .inl (.iload 1), .inr (5, 3, 0), .inl (.aload 0), .inr (0, 5, 9), .inl (.iload 2), .inl .iaload, .inl (.iconst (-2000000000)), .inl (.if_icmp .ne 3), .inl (.aload 0), .inl (.iconst 3), .inr (5, 2, 0), .inr (7, 4, 0)]),
  ([true, false, true], [.inl (.aload 0), .inr (0, 5, 9), .inl (.iload 2), .inl .iaload, .inr (7, 4, 1)]),
  ([false, false, false], [.inl .ireturn])]
def g_5_begin : List (Nat × dk_S) := [(3, s_5_isWithin), (2, s_0_hasRank), (2, s_5_finding), (2, s_5_tellBeginnings)]
def s_5_begin : dk_S := dk_MV 5 g_5_begin b_5_begin 3
theorem h_5_begin : dk_monoG g_5_begin := dk_monoG_cons o_5_isWithin (dk_monoG_cons o_0_hasRank (dk_monoG_cons o_5_finding (dk_monoG_cons o_5_tellBeginnings (dk_monoG_nil))))
theorem o_5_begin : dk_mono s_5_begin := dk_MV_mono _ h_5_begin _ _
def t_5_begin : dk_Tm := (tc_5, [(68, 1, 0), (114, 0, 1), (78, 0, 2), (240, 0, 3)], [0, 20, 26, 50, 56], 0)
def y_5_apart : MethodName := ⟨nn_R5, "apart", "(I)I"⟩
def b_5_apart : dk_T := [
  ([true, true, false, false, false, false, false], [.inl (.iload 1), .inl (.iconst 0), .inl (.iconst 2), .inr (5, 0, 1), .inl (.ifCond .ne 1), .inl (.aload 0), .inl (.iconst 0), .inr (5, 1, 0), .inl .ireturn]),
  ([true, true, false, false, false, false, false], [.inl (.aload 0), .inl (.iload 1), .inr (5, 2, 0), .inl (.iconst 0), .inl (.istore 2), .inl (.iconst 0), .inl (.istore 3), .inl (.iconst 0), .inl (.istore 4), .inl (.iconst 0), .inl (.istore 5), .inr (7, 2, 1)]),
  ([true, false, true, true, true, true, false], [.inl (.iload 5), .inl (.aload 0), .inr (0, 5, 0), .inr (0, 0, 1), .inl (.if_icmp .ge 8), .inl (.aload 0), .inr (0, 5, 9), .inl (.iload 5), .inl .iaload, .inl (.istore 6), .inl (.iload 6), .inl (.iconst (-2000000000)), .inl (.if_icmp .eq 7), .inl (.iload 2), .inl (.ifCond .eq 3), .inl (.iload 3), .inl (.iload 6), .inr (5, 3, 1), .inr (7, 4, 0)]),
  ([true, false, true, false, true, true, true], [.inl (.iload 6), .inr (7, 4, 1)]),
  ([true, false, true, false, true, true, true], [.inl (.istore 3), .inl (.iload 2), .inl (.ifCond .eq 5), .inl (.iload 4), .inl (.iload 6), .inr (5, 4, 1), .inr (7, 6, 0)]),
  ([true, false, false, true, false, true, true], [.inl (.iload 6), .inr (7, 6, 1)]),
  ([true, false, false, true, false, true, false], [.inl (.istore 4), .inl (.iconst 1), .inl (.istore 2), .inr (7, 7, 1)]),
  ([true, false, true, true, true, true, false], [.inl (.iinc 5 (1)), .inr (7, 2, 0)]),
  ([true, false, true, true, true, false, false], [.inl (.iload 2), .inl (.ifCond .eq 9), .inl (.iload 4), .inl (.iload 3), .inl .isub, .inr (7, 10, 0)]),
  ([true, false, false, false, false, false, false], [.inl (.aload 0), .inl (.iconst 3), .inr (5, 1, 0), .inr (7, 10, 1)]),
  ([false, false, false, false, false, false, false], [.inl .ireturn])]
def g_5_apart : List (Nat × dk_S) := [(3, s_5_isWithin), (2, s_5_finding), (2, s_5_tellBeginnings), (2, s_8_min), (2, s_8_max)]
def s_5_apart : dk_S := dk_MV 5 g_5_apart b_5_apart 7
theorem h_5_apart : dk_monoG g_5_apart := dk_monoG_cons o_5_isWithin (dk_monoG_cons o_5_finding (dk_monoG_cons o_5_tellBeginnings (dk_monoG_cons o_8_min (dk_monoG_cons o_8_max (dk_monoG_nil)))))
theorem o_5_apart : dk_mono s_5_apart := dk_MV_mono _ h_5_apart _ _
def t_5_apart : dk_Tm := (tc_5, [(68, 1, 0), (78, 0, 1), (240, 0, 2), (244, 1, 3), (247, 1, 4)], [0, 15, 30, 71, 73, 88, 90, 94, 100, 111, 116], 0)
def y_5_isBridge : MethodName := ⟨nn_R5, "isBridge", "(III)Z"⟩
def b_5_isBridge : dk_T := [
  ([true, true, true], [.inl (.iload 0), .inr (5, 0, 1), .inl (.ifCond .eq 1), .inl (.iload 1), .inl (.iload 0), .inl (.iconst 4999), .inr (5, 1, 1), .inl (.ifCond .eq 1), .inl (.iload 2), .inl (.iconst 0), .inl (.iconst 999), .inr (5, 1, 1), .inl (.ifCond .eq 1), .inl (.iconst 1), .inr (7, 2, 0)]),
  ([false, false, false], [.inl (.iconst 0), .inr (7, 2, 1)]),
  ([false, false, false], [.inl .lreturn])]
def g_5_isBridge : List (Nat × dk_S) := [(1, s_5_isPlace), (3, s_5_isWithin)]
def s_5_isBridge : dk_S := dk_M g_5_isBridge b_5_isBridge 3
theorem h_5_isBridge : dk_monoG g_5_isBridge := dk_monoG_cons o_5_isPlace (dk_monoG_cons o_5_isWithin (dk_monoG_nil))
theorem o_5_isBridge : dk_mono s_5_isBridge := dk_M_mono h_5_isBridge _ _
def t_5_isBridge : dk_Tm := (tc_5, [(153, 1, 0), (68, 1, 1)], [0, 33, 34], 1)
def y_8_floorMod : MethodName := ⟨"java/lang/Math", "floorMod", "(II)I"⟩
def b_8_floorMod : dk_T := [
  ([true, true, false], [.inl (.iload 0), .inl (.iload 1), .inl .irem, .inl (.istore 2), .inl (.iload 0), .inl (.iload 1), .inl .ixor, .inl (.ifCond .ge 1), .inl (.iload 2), .inl (.ifCond .eq 1), .inl (.iload 2), .inl (.iload 1), .inl .iadd, .inl .ireturn]),
  ([false, false, true], [.inl (.iload 2), .inl .ireturn])]
def g_8_floorMod : List (Nat × dk_S) := []
def s_8_floorMod : dk_S := dk_M g_8_floorMod b_8_floorMod 3
theorem h_8_floorMod : dk_monoG g_8_floorMod := dk_monoG_nil
theorem o_8_floorMod : dk_mono s_8_floorMod := dk_M_mono h_8_floorMod _ _
def t_8_floorMod : dk_Tm := (tc_n, [], [0, 18], 0)
def y_5_treadSoonBehind : MethodName := ⟨nn_R5, "treadSoonBehind", "(IIII)I"⟩
def b_5_treadSoonBehind : dk_T := [
  ([true, true, true, true, true, false, false, false], [.inl (.iconst 0), .inl (.istore 5), .inl (.iconst 0), .inl (.istore 6), .inr (7, 1, 1)]),
  ([true, true, true, true, true, true, true, false], [.inl (.iload 6), .inl (.aload 0), .inr (0, 5, 0), .inr (0, 0, 1), .inl (.if_icmp .ge 3), .inl (.aload 0), .inr (0, 5, 6), .inr (0, 4, 2), .inl (.iload 6), .inl .iaload, .inl (.aload 0), .inr (0, 5, 6), .inr (0, 4, 2), .inl (.iload 1), .inl .iaload, .inl .isub, .inl (.aload 0), .inr (0, 5, 0), .inr (0, 0, 0), .inl (.iconst 0), .inl .iaload, .inr (5, 0, 1), .inl (.istore 7), .inl (.aload 0), .inr (0, 5, 0), .inr (0, 0, 3), .inl (.iload 6), .inl .iaload, .inl (.iload 2), .inl (.iload 3), .inr (5, 1, 1), .inl (.ifCond .eq 2), .inl (.iload 7), .inl (.iload 4), .inl (.if_icmp .gt 2), .inl (.iinc 5 (1)), .inr (7, 2, 1)]),
  ([true, true, true, true, true, true, true, false], [.inl (.iinc 6 (1)), .inr (7, 1, 0)]),
  ([false, false, false, false, false, true, false, false], [.inl (.iload 5), .inl .ireturn])]
def g_5_treadSoonBehind : List (Nat × dk_S) := [(2, s_8_floorMod), (3, s_5_isWithin)]
def s_5_treadSoonBehind : dk_S := dk_MV 5 g_5_treadSoonBehind b_5_treadSoonBehind 8
theorem h_5_treadSoonBehind : dk_monoG g_5_treadSoonBehind := dk_monoG_cons o_8_floorMod (dk_monoG_cons o_5_isWithin (dk_monoG_nil))
theorem o_5_treadSoonBehind : dk_mono s_5_treadSoonBehind := dk_MV_mono _ h_5_treadSoonBehind _ _
def t_5_treadSoonBehind : dk_Tm := (tc_5, [(326, 1, 0), (68, 1, 1)], [0, 6, 80, 86], 0)
def y_5_togetherOn : MethodName := ⟨nn_R5, "togetherOn", "(III)I"⟩
def b_5_togetherOn : dk_T := [
  ([true, true, true, true, false, false], [.inl (.iconst 0), .inl (.istore 4), .inl (.iconst 0), .inl (.istore 5), .inr (7, 1, 1)]),
  ([true, true, true, true, true, true], [.inl (.iload 5), .inl (.aload 0), .inr (0, 5, 0), .inr (0, 0, 1), .inl (.if_icmp .ge 3), .inl (.aload 0), .inr (0, 5, 0), .inr (0, 0, 3), .inl (.iload 5), .inl .iaload, .inl (.iload 1), .inl (.iload 2), .inr (5, 0, 1), .inl (.ifCond .eq 2), .inl (.iload 4), .inl (.aload 0), .inl (.iload 5), .inl (.iload 1), .inl (.iload 2), .inl (.iload 3), .inr (5, 1, 0), .inr (5, 2, 1), .inl (.istore 4), .inr (7, 2, 1)]),
  ([true, true, true, true, true, true], [.inl (.iinc 5 (1)), .inr (7, 1, 0)]),
  ([false, false, false, false, true, false], [.inl (.iload 4), .inl .ireturn])]
def g_5_togetherOn : List (Nat × dk_S) := [(3, s_5_isWithin), (5, s_5_treadSoonBehind), (2, s_8_max)]
def s_5_togetherOn : dk_S := dk_MV 5 g_5_togetherOn b_5_togetherOn 6
theorem h_5_togetherOn : dk_monoG g_5_togetherOn := dk_monoG_cons o_5_isWithin (dk_monoG_cons o_5_treadSoonBehind (dk_monoG_cons o_8_max (dk_monoG_nil)))
theorem o_5_togetherOn : dk_mono s_5_togetherOn := dk_MV_mono _ h_5_togetherOn _ _
def t_5_togetherOn : dk_Tm := (tc_5, [(68, 1, 0), (322, 0, 1), (247, 1, 2)], [0, 6, 52, 58], 0)
def y_5_bridge : MethodName := ⟨nn_R5, "bridge", "(IIII)I"⟩
def b_5_bridge : dk_T := [
  ([true, true, true, true, true], [.inl (.iload 1), .inl (.iload 2), .inl (.iload 3), .inr (5, 0, 1), .inl (.ifCond .eq 1), .inl (.iload 4), .inr (5, 1, 1), .inl (.ifCond .ne 2), .inr (7, 1, 1)]),
  ([true, false, false, false, false], [.inl (.aload 0), .inl (.iconst 0), .inr (5, 2, 0), .inl .ireturn]),
  ([true, true, true, true, true], [.inl (.aload 0), .inr (5, 3, 0), .inl (.aload 0), .inr (0, 5, 6), .inl (.iload 4), .inr (5, 4, 0), .inl (.aload 0), .inl (.iload 1), .inl (.iload 2), .inl (.iload 3), .inr (5, 5, 0), .inl .ireturn])]
def g_5_bridge : List (Nat × dk_S) := [(3, s_5_isBridge), (1, s_5_isMarch), (2, s_5_finding), (1, s_5_setOut), (2, s_4_walk), (4, s_5_togetherOn)]
def s_5_bridge : dk_S := dk_MV 5 g_5_bridge b_5_bridge 5
theorem h_5_bridge : dk_monoG g_5_bridge := dk_monoG_cons o_5_isBridge (dk_monoG_cons o_5_isMarch (dk_monoG_cons o_5_finding (dk_monoG_cons o_5_setOut (dk_monoG_cons o_4_walk (dk_monoG_cons o_5_togetherOn (dk_monoG_nil))))))
theorem o_5_bridge : dk_mono s_5_bridge := dk_MV_mono _ h_5_bridge _ _
def t_5_bridge : dk_Tm := (tc_5, [(250, 1, 0), (200, 1, 1), (78, 0, 2), (180, 0, 3), (183, 0, 4), (253, 0, 5)], [0, 17, 23], 0)
def y_5_broken : MethodName := ⟨nn_R5, "broken", "(IIII)I"⟩
def b_5_broken : dk_T := [
  ([true, true, true, true, true, false], [.inl (.iload 1), .inl (.iload 2), .inl (.iload 3), .inr (5, 0, 1), .inl (.ifCond .eq 1), .inl (.iload 4), .inl (.iconst 0), .inl (.iconst 24), .inr (5, 1, 1), .inl (.ifCond .ne 2), .inr (7, 1, 1)]),
  ([true, false, false, false, false, false], [.inl (.aload 0), .inl (.iconst 0), .inr (5, 2, 0), .inl .ireturn]),
  ([true, true, true, true, true, false], [.inl (.aload 0), .inr (5, 3, 0), .inl (.iconst 0), .inl (.istore 5), .inr (7, 3, 1)]),
  ([true, true, true, true, true, true], [.inl (.iload 5), .inl (.iconst 200), .inl (.if_icmp .gt 6), .inl (.aload 0), .inl (.iload 1), .inl (.iload 2), .inl (.iload 3), .inr (5, 4, 0), .inl (.iload 4), .inl (.if_icmp .gt 4), .inl (.iload 5), .inl .ireturn]),
  ([true, true, true, true, true, true], [.inl (.aload 0), .inr (0, 5, 6), .inr (5, 5, 0), .inl (.ifCond .ne 5), .inr (7, 6, 0)]),
  ([true, true, true, true, true, true], [.inl (.iinc 5 (1)), .inr (7, 3, 0)]),
  ([true, false, false, false, false, false], [.inl (.aload 0), .inl (.iconst 3), .inr (5, 2, 0), .inl .ireturn])]
def g_5_broken : List (Nat × dk_S) := [(3, s_5_isBridge), (3, s_5_isWithin), (2, s_5_finding), (1, s_5_setOut), (4, s_5_togetherOn), (1, s_4_step)]
def s_5_broken : dk_S := dk_MV 5 g_5_broken b_5_broken 6
theorem h_5_broken : dk_monoG g_5_broken := dk_monoG_cons o_5_isBridge (dk_monoG_cons o_5_isWithin (dk_monoG_cons o_5_finding (dk_monoG_cons o_5_setOut (dk_monoG_cons o_5_togetherOn (dk_monoG_cons o_4_step (dk_monoG_nil))))))
theorem o_5_broken : dk_mono s_5_broken := dk_MV_mono _ h_5_broken _ _
def t_5_broken : dk_Tm := (tc_5, [(250, 1, 0), (68, 1, 1), (78, 0, 2), (180, 0, 3), (253, 0, 4), (208, 0, 5)], [0, 20, 26, 33, 56, 69, 75], 0)
def y_5_seed : MethodName := ⟨nn_R5, "seed", "(I)I"⟩
def b_5_seed : dk_T := [
  ([true, true, false], [.inl (.aload 0), .inr (0, 5, 0), .inr (0, 0, 15), .inl (.istore 2), .inl (.aload 0), .inr (0, 5, 0), .inl (.iload 1), .inr (1, 0, 15), .inl (.iload 2), .inl .ireturn])]
def g_5_seed : List (Nat × dk_S) := []
def s_5_seed : dk_S := dk_MV 5 g_5_seed b_5_seed 3
theorem h_5_seed : dk_monoG g_5_seed := dk_monoG_nil
theorem o_5_seed : dk_mono s_5_seed := dk_MV_mono _ h_5_seed _ _
def t_5_seed : dk_Tm := (tc_5, [], [0], 0)
def y_0_draw : MethodName := ⟨nn_R0, "draw", "()I"⟩
def b_0_draw : dk_T := [
  ([true], [.inl (.aload 0), .inl (.aload 0), .inr (0, 0, 15), .inl (.iconst (1103515245)), .inl .imul, .inl (.iconst 12345), .inl .iadd, .inr (1, 0, 15), .inl (.aload 0), .inr (0, 0, 15), .inl (.iconst 8), .inl .iushr, .inl .ireturn])]
def g_0_draw : List (Nat × dk_S) := []
def s_0_draw : dk_S := dk_MV 0 g_0_draw b_0_draw 1
theorem h_0_draw : dk_monoG g_0_draw := dk_monoG_nil
theorem o_0_draw : dk_mono s_0_draw := dk_MV_mono _ h_0_draw _ _
def t_0_draw : dk_Tm := (tc_0, [], [0], 0)
def y_5_shake : MethodName := ⟨nn_R5, "shake", "(I)I"⟩
def b_5_shake : dk_T := [
  ([true, true, false], [.inl (.iload 1), .inl (.iconst 0), .inl (.iconst 999), .inr (5, 0, 1), .inl (.ifCond .ne 1), .inl (.aload 0), .inl (.iconst 0), .inr (5, 1, 0), .inl .ireturn]),
  ([true, true, false], [.inl (.iconst 0), .inl (.istore 2), .inr (7, 2, 1)]),
  ([true, true, true], [.inl (.iload 2), .inl (.aload 0), .inr (0, 5, 0), .inr (0, 0, 1), .inl (.if_icmp .ge 3), .inl (.aload 0), .inr (0, 5, 0), .inr (0, 0, 7), .inl (.iload 2), .inl (.aload 0), .inr (0, 5, 0), .inl (.aload 0), .inr (0, 5, 0), .inr (0, 0, 7), .inl (.iload 2), .inl .iaload, .inl (.iload 1), .inl .isub, .inl (.aload 0), .inr (0, 5, 0), .inr (5, 2, 0), .inl (.iconst 2), .inl (.iload 1), .inl .imul, .inl (.iconst 1), .inl .iadd, .inl .irem, .inl .iadd, .inr (5, 3, 0), .inl .iastore, .inl (.iinc 2 (1)), .inr (7, 2, 0)]),
  ([true, false, false], [.inl (.aload 0), .inr (0, 5, 0), .inl (.aload 0), .inr (0, 5, 0), .inr (0, 0, 7), .inr (5, 4, 0), .inl .ireturn])]
def g_5_shake : List (Nat × dk_S) := [(3, s_5_isWithin), (2, s_5_finding), (1, s_0_draw), (2, s_0_wrap), (2, s_0_worstOf)]
def s_5_shake : dk_S := dk_MV 5 g_5_shake b_5_shake 3
theorem h_5_shake : dk_monoG g_5_shake := dk_monoG_cons o_5_isWithin (dk_monoG_cons o_5_finding (dk_monoG_cons o_0_draw (dk_monoG_cons o_0_wrap (dk_monoG_cons o_0_worstOf (dk_monoG_nil)))))
theorem o_5_shake : dk_mono s_5_shake := dk_MV_mono _ h_5_shake _ _
def t_5_shake : dk_Tm := (tc_5, [(68, 1, 0), (78, 0, 1), (260, 0, 2), (150, 0, 3), (196, 0, 4)], [0, 17, 19, 77], 0)
def y_5_hold : MethodName := ⟨nn_R5, "hold", "(II)I"⟩
def b_5_hold : dk_T := [
  ([true, true, true], [.inl (.iload 1), .inl (.iconst 0), .inl (.iconst 9), .inr (5, 0, 1), .inl (.ifCond .eq 1), .inl (.iload 2), .inl (.iconst (-1)), .inl (.if_icmp .eq 2), .inl (.aload 0), .inr (0, 5, 0), .inl (.iload 2), .inr (5, 1, 0), .inl (.ifCond .ne 2), .inr (7, 1, 1)]),
  ([true, false, false], [.inl (.aload 0), .inl (.iconst 0), .inr (5, 2, 0), .inl .ireturn]),
  ([true, true, true], [.inl (.aload 0), .inr (0, 5, 0), .inr (0, 0, 14), .inl (.iload 1), .inl (.iload 2), .inl .iastore, .inl (.iconst 1), .inl .ireturn])]
def g_5_hold : List (Nat × dk_S) := [(3, s_5_isWithin), (2, s_0_hasRank), (2, s_5_finding)]
def s_5_hold : dk_S := dk_MV 5 g_5_hold b_5_hold 3
theorem h_5_hold : dk_monoG g_5_hold := dk_monoG_cons o_5_isWithin (dk_monoG_cons o_0_hasRank (dk_monoG_cons o_5_finding (dk_monoG_nil)))
theorem o_5_hold : dk_mono s_5_hold := dk_MV_mono _ h_5_hold _ _
def t_5_hold : dk_Tm := (tc_5, [(68, 1, 0), (114, 0, 1), (78, 0, 2)], [0, 26, 32], 0)
def y_5_isUnder : MethodName := ⟨nn_R5, "isUnder", "(II)Z"⟩
def b_5_isUnder : dk_T := [
  ([true, true, false, false], [.inl (.iload 0), .inl (.istore 2), .inl (.iconst 0), .inl (.istore 3), .inr (7, 1, 1)]),
  ([false, true, true, true], [.inl (.iload 3), .inl (.iconst 7), .inl (.if_icmp .ge 3), .inl (.iload 2), .inl (.ifCond .lt 3), .inl (.iload 2), .inl (.iload 1), .inl (.if_icmp .ne 2), .inl (.iconst 1), .inl .lreturn]),
  ([false, true, true, true], [.inr (6, 103, 0), .inl (.iload 2), .inl .iaload, .inl (.istore 2), .inl (.iinc 3 (1)), .inr (7, 1, 0)]),
  ([false, false, false, false], [.inl (.iconst 0), .inl .lreturn])]
def g_5_isUnder : List (Nat × dk_S) := []
def s_5_isUnder : dk_S := dk_M g_5_isUnder b_5_isUnder 4
theorem h_5_isUnder : dk_monoG g_5_isUnder := dk_monoG_nil
theorem o_5_isUnder : dk_mono s_5_isUnder := dk_M_mono h_5_isUnder _ _
def t_5_isUnder : dk_Tm := (tc_5, [], [0, 4, 21, 33], 1)
def y_5_as : MethodName := ⟨nn_R5, "as", "(II)I"⟩
def b_5_as : dk_T := [
  ([true, true, true, false], [.inl (.iload 1), .inl (.iconst 0), .inl (.iconst 9), .inr (5, 0, 1), .inl (.ifCond .eq 1), .inl (.iload 2), .inl (.iconst 0), .inl (.iconst 6), .inr (5, 0, 1), .inl (.ifCond .ne 2), .inr (7, 1, 1)]),
  ([true, false, false, false], [.inl (.aload 0), .inl (.iconst 0), .inr (5, 1, 0), .inl .ireturn]),
  ([true, true, true, false], [.inl (.aload 0), .inr (0, 5, 0), .inr (0, 0, 14), .inl (.iload 1), .inl .iaload, .inl (.istore 3), .inl (.aload 0), .inr (0, 5, 0), .inl (.iload 3), .inr (5, 2, 0), .inl (.ifCond .ne 3), .inl (.aload 0), .inl (.iconst 5), .inr (5, 1, 0), .inl .ireturn]),
  ([true, false, true, true], [.inl (.aload 0), .inr (0, 5, 0), .inr (0, 0, 2), .inl (.iload 3), .inl .iaload, .inl (.iload 2), .inr (5, 3, 1), .inl (.ifCond .eq 4), .inl (.iload 3), .inr (7, 5, 0)]),
  ([true, false, false, false], [.inl (.aload 0), .inl (.iconst 2), .inr (5, 1, 0), .inr (7, 5, 1)]),
  ([false, false, false, false], [.inl .ireturn])]
def g_5_as : List (Nat × dk_S) := [(3, s_5_isWithin), (2, s_5_finding), (2, s_0_hasRank), (2, s_5_isUnder)]
def s_5_as : dk_S := dk_MV 5 g_5_as b_5_as 4
theorem h_5_as : dk_monoG g_5_as := dk_monoG_cons o_5_isWithin (dk_monoG_cons o_5_finding (dk_monoG_cons o_0_hasRank (dk_monoG_cons o_5_isUnder (dk_monoG_nil))))
theorem o_5_as : dk_mono s_5_as := dk_MV_mono _ h_5_as _ _
def t_5_as : dk_Tm := (tc_5, [(68, 1, 0), (78, 0, 1), (114, 0, 2), (266, 1, 3)], [0, 20, 26, 53, 73, 78], 0)
def y_5_isSheet : MethodName := ⟨nn_R5, "isSheet", "(I)Z"⟩
def b_5_isSheet : dk_T := [
  ([true], [.inl (.iload 0), .inl (.iconst 0), .inl (.iconst 3), .inr (5, 0, 1), .inl .lreturn])]
def g_5_isSheet : List (Nat × dk_S) := [(3, s_5_isWithin)]
def s_5_isSheet : dk_S := dk_M g_5_isSheet b_5_isSheet 1
theorem h_5_isSheet : dk_monoG g_5_isSheet := dk_monoG_cons o_5_isWithin (dk_monoG_nil)
theorem o_5_isSheet : dk_mono s_5_isSheet := dk_M_mono h_5_isSheet _ _
def t_5_isSheet : dk_Tm := (tc_5, [(68, 1, 0)], [0], 1)
def y_2_makeAnew : MethodName := ⟨nn_R2, "makeAnew", "(II)V"⟩
def b_2_makeAnew : dk_T := [
  ([true, true, true], [.inl (.aload 0), .inl (.iload 1), .inr (1, 2, 0), .inl (.aload 0), .inl (.iload 1), .inl (.ifCond .ne 1), .inl (.iconst 0), .inr (7, 2, 0)]),
  ([true, false, true], [.inl (.iload 2), .inr (7, 2, 1)]),
  ([true, false, false], [.inr (1, 2, 1), .inl (.aload 0), .inr (0, 2, 2), .inl (.iconst 0), .inr (5, 0, 1), .inl .return_])]
def g_2_makeAnew : List (Nat × dk_S) := [(2, s_9_fill)]
def s_2_makeAnew : dk_S := dk_MV 2 g_2_makeAnew b_2_makeAnew 3
theorem h_2_makeAnew : dk_monoG g_2_makeAnew := dk_monoG_cons o_9_fill (dk_monoG_nil)
theorem o_2_makeAnew : dk_mono s_2_makeAnew := dk_MV_mono _ h_2_makeAnew _ _
def t_2_makeAnew : dk_Tm := (tc_2, [(22, 1, 0)], [0, 14, 15], 2)
def y_5_sheet : MethodName := ⟨nn_R5, "sheet", "(III)I"⟩
def b_5_sheet : dk_T := [
  ([true, true, true, true], [.inl (.iload 1), .inr (5, 0, 1), .inl (.ifCond .eq 1), .inl (.iload 2), .inl (.ifCond .eq 2), .inl (.iload 2), .inl (.iconst 8), .inl (.if_icmp .eq 2), .inl (.iload 2), .inl (.iconst 16), .inl (.if_icmp .eq 2), .inl (.iload 2), .inl (.iconst 32), .inl (.if_icmp .eq 2), .inr (7, 1, 1)]),
  ([true, false, false, false], [.inl (.aload 0), .inl (.iconst 0), .inr (5, 1, 0), .inl .ireturn]),
  ([true, true, true, true], [.inl (.iload 3), .inl (.ifCond .ge 3), .inl (.aload 0), .inl (.iconst 6), .inr (5, 1, 0), .inl .ireturn]),
  ([true, true, true, true], [.inl (.iload 3), .inl (.iconst 40), .inl (.if_icmp .le 4), .inl (.aload 0), .inl (.iconst 0), .inr (5, 1, 0), .inl .ireturn]),
  ([true, true, true, true], [.inl (.aload 0), .inr (0, 5, 4), .inl (.iload 1), .inl .aaload, .inl (.iload 2), .inl (.iload 3), .inr (5, 2, 0), .inl (.aload 0), .inr (0, 5, 4), .inl (.iload 1), .inl .aaload, .inr (0, 2, 1), .inl .ireturn])]
def g_5_sheet : List (Nat × dk_S) := [(1, s_5_isSheet), (2, s_5_finding), (3, s_2_makeAnew)]
def s_5_sheet : dk_S := dk_MV 5 g_5_sheet b_5_sheet 4
theorem h_5_sheet : dk_monoG g_5_sheet := dk_monoG_cons o_5_isSheet (dk_monoG_cons o_5_finding (dk_monoG_cons o_2_makeAnew (dk_monoG_nil)))
theorem o_5_sheet : dk_mono s_5_sheet := dk_MV_mono _ h_5_sheet _ _
def t_5_sheet : dk_Tm := (tc_5, [(269, 1, 0), (78, 0, 1), (272, 0, 2)], [0, 29, 35, 46, 58], 0)
def y_2_isMissing : MethodName := ⟨nn_R2, "isMissing", "()Z"⟩
def b_2_isMissing : dk_T := [
  ([true], [.inl (.aload 0), .inr (0, 2, 0), .inl (.ifCond .ne 1), .inl (.iconst 1), .inr (7, 2, 0)]),
  ([false], [.inl (.iconst 0), .inr (7, 2, 1)]),
  ([false], [.inl .lreturn])]
def g_2_isMissing : List (Nat × dk_S) := []
def s_2_isMissing : dk_S := dk_MV 2 g_2_isMissing b_2_isMissing 1
theorem h_2_isMissing : dk_monoG g_2_isMissing := dk_monoG_nil
theorem o_2_isMissing : dk_mono s_2_isMissing := dk_MV_mono _ h_2_isMissing _ _
def t_2_isMissing : dk_Tm := (tc_2, [], [0, 11, 12], 1)
def y_2_put : MethodName := ⟨nn_R2, "put", "(II)V"⟩
def b_2_put : dk_T := [
  ([true, true, true], [.inl (.aload 0), .inr (0, 2, 0), .inl (.iconst 8), .inl (.if_icmp .ne 1), .inl (.aload 0), .inr (0, 2, 2), .inl (.iload 1), .inl (.iload 2), .inl .i2b, .inl .iastore, .inr (7, 3, 0)]),
  ([true, true, true], [.inl (.aload 0), .inr (0, 2, 0), .inl (.iconst 16), .inl (.if_icmp .ne 2), .inl (.aload 0), .inr (0, 2, 2), .inl (.iload 1), .inl (.iload 2), .inl .i2s, .inl .iastore, .inr (7, 3, 0)]),
  ([true, true, true], [.inl (.aload 0), .inr (0, 2, 2), .inl (.iload 1), .inl (.iload 2), .inl .iastore, .inr (7, 3, 1)]),
  ([false, false, false], [.inl .return_])]
def g_2_put : List (Nat × dk_S) := []
def s_2_put : dk_S := dk_MV 2 g_2_put b_2_put 3
theorem h_2_put : dk_monoG g_2_put := dk_monoG_nil
theorem o_2_put : dk_mono s_2_put := dk_MV_mono _ h_2_put _ _
def t_2_put : dk_Tm := (tc_2, [], [0, 20, 40, 47], 2)
def y_5_write : MethodName := ⟨nn_R5, "write", "(III)I"⟩
def b_5_write : dk_T := [
  ([true, true, true, true], [.inl (.iload 1), .inr (5, 0, 1), .inl (.ifCond .ne 1), .inl (.aload 0), .inl (.iconst 0), .inr (5, 1, 0), .inl .ireturn]),
  ([true, true, true, true], [.inl (.aload 0), .inr (0, 5, 4), .inl (.iload 1), .inl .aaload, .inr (5, 2, 0), .inl (.ifCond .eq 2), .inl (.aload 0), .inl (.iconst 5), .inr (5, 1, 0), .inl .ireturn]),
  ([true, true, true, true], [.inl (.iload 2), .inl (.iconst 0), .inl (.aload 0), .inr (0, 5, 4), .inl (.iload 1), .inl .aaload, .inr (0, 2, 1), .inl (.iconst 1), .inl .isub, .inr (5, 3, 1), .inl (.ifCond .ne 3), .inl (.aload 0), .inl (.iconst 0), .inr (5, 1, 0), .inl .ireturn]),
  ([true, true, true, true], [.inl (.aload 0), .inr (0, 5, 4), .inl (.iload 1), .inl .aaload, .inl (.iload 2), .inl (.iload 3), .inr (5, 4, 0), .inl (.iconst 1), .inl .ireturn])]
def g_5_write : List (Nat × dk_S) := [(1, s_5_isSheet), (2, s_5_finding), (1, s_2_isMissing), (3, s_5_isWithin), (3, s_2_put)]
def s_5_write : dk_S := dk_MV 5 g_5_write b_5_write 4
theorem h_5_write : dk_monoG g_5_write := dk_monoG_cons o_5_isSheet (dk_monoG_cons o_5_finding (dk_monoG_cons o_2_isMissing (dk_monoG_cons o_5_isWithin (dk_monoG_cons o_2_put (dk_monoG_nil)))))
theorem o_5_write : dk_mono s_5_write := dk_MV_mono _ h_5_write _ _
def t_5_write : dk_Tm := (tc_5, [(269, 1, 0), (78, 0, 1), (279, 0, 2), (68, 1, 3), (282, 0, 4)], [0, 13, 31, 56], 0)
def y_2_hasFrom : MethodName := ⟨nn_R2, "hasFrom", "(II)Z"⟩
def b_2_hasFrom : dk_T := [
  ([true, true, true], [.inl (.iload 1), .inl (.ifCond .lt 1), .inl (.iload 2), .inl (.ifCond .lt 1), .inl (.iload 1), .inl (.aload 0), .inr (0, 2, 1), .inl (.if_icmp .gt 1), .inl (.iload 2), .inl (.aload 0), .inr (0, 2, 1), .inl (.iload 1), .inl .isub, .inl (.if_icmp .gt 1), .inl (.iconst 1), .inr (7, 2, 0)]),
  ([false, false, false], [.inl (.iconst 0), .inr (7, 2, 1)]),
  ([false, false, false], [.inl .lreturn])]
def g_2_hasFrom : List (Nat × dk_S) := []
def s_2_hasFrom : dk_S := dk_MV 2 g_2_hasFrom b_2_hasFrom 3
theorem h_2_hasFrom : dk_monoG g_2_hasFrom := dk_monoG_nil
theorem o_2_hasFrom : dk_mono s_2_hasFrom := dk_MV_mono _ h_2_hasFrom _ _
def t_2_hasFrom : dk_Tm := (tc_2, [], [0, 30, 31], 1)
def y_5_copy : MethodName := ⟨nn_R5, "copy", "(IIIII)I"⟩
def b_5_copy : dk_T := [
  ([true, true, true, true, true, true, false, false], [.inl (.iload 1), .inr (5, 0, 1), .inl (.ifCond .eq 1), .inl (.iload 3), .inr (5, 0, 1), .inl (.ifCond .ne 2), .inr (7, 1, 1)]),
  ([true, false, false, false, false, false, false, false], [.inl (.aload 0), .inl (.iconst 0), .inr (5, 1, 0), .inl .ireturn]),
  ([true, true, true, true, true, true, false, false], [.inl (.aload 0), .inr (0, 5, 4), .inl (.iload 1), .inl .aaload, .inl (.astore 6), .inl (.aload 0), .inr (0, 5, 4), .inl (.iload 3), .inl .aaload, .inl (.astore 7), .inl (.aload 6), .inr (5, 2, 0), .inl (.ifCond .ne 3), .inl (.aload 7), .inr (5, 2, 0), .inl (.ifCond .eq 4), .inr (7, 3, 1)]),
  ([true, false, false, false, false, false, false, false], [.inl (.aload 0), .inl (.iconst 5), .inr (5, 1, 0), .inl .ireturn]),
  ([true, false, true, false, true, true, true, true], [.inl (.aload 6), .inr (0, 2, 0), .inl (.aload 7), .inr (0, 2, 0), .inl (.if_icmp .eq 5), .inl (.aload 0), .inl (.iconst 2), .inr (5, 1, 0), .inl .ireturn]),
  ([true, false, true, false, true, true, true, true], [.inl (.aload 6), .inl (.iload 2), .inl (.iload 5), .inr (5, 3, 0), .inl (.ifCond .eq 6), .inl (.aload 7), .inl (.iload 4), .inl (.iload 5), .inr (5, 3, 0), .inl (.ifCond .ne 7), .inr (7, 6, 1)]),
  ([true, false, false, false, false, false, false, false], [.inl (.aload 0), .inl (.iconst 0), .inr (5, 1, 0), .inl .ireturn]),
  ([false, false, true, false, true, true, true, true], [.inl (.aload 6), .inr (0, 2, 2), .inl (.iload 2), .inl (.aload 7), .inr (0, 2, 2), .inl (.iload 4), .inl (.iload 5), .inr (5, 4, 1), .inl (.iload 5), .inl .ireturn])]
def g_5_copy : List (Nat × dk_S) := [(1, s_5_isSheet), (2, s_5_finding), (1, s_2_isMissing), (3, s_2_hasFrom), (5, s_ac)]
def s_5_copy : dk_S := dk_MV 5 g_5_copy b_5_copy 8
theorem h_5_copy : dk_monoG g_5_copy := dk_monoG_cons o_5_isSheet (dk_monoG_cons o_5_finding (dk_monoG_cons o_2_isMissing (dk_monoG_cons o_2_hasFrom (dk_monoG_cons o_ac (dk_monoG_nil)))))
theorem o_5_copy : dk_mono s_5_copy := dk_MV_mono _ h_5_copy _ _
def t_5_copy : dk_Tm := (tc_5, [(269, 1, 0), (78, 0, 1), (279, 0, 2), (288, 0, 3), (190, 1, 4)], [0, 14, 20, 52, 58, 77, 100, 106], 0)
def y_5_load : MethodName := ⟨nn_R5, "load", "(I)I"⟩
def b_5_load : dk_T := [
  ([true, true, false, false], [.inl (.iload 1), .inr (5, 0, 1), .inl (.ifCond .ne 1), .inl (.aload 0), .inl (.iconst 0), .inr (5, 1, 0), .inl .ireturn]),
  ([true, true, false, false], [.inl (.aload 0), .inr (0, 5, 4), .inl (.iload 1), .inl .aaload, .inr (5, 2, 0), .inl (.ifCond .eq 2), .inl (.aload 0), .inl (.iconst 5), .inr (5, 1, 0), .inl .ireturn]),
  ([true, true, false, false], [.inl (.aload 0), .inr (0, 5, 4), .inl (.iload 1), .inl .aaload, .inr (0, 2, 1), .inl (.aload 0), .inr (0, 5, 0), .inr (0, 0, 1), .inr (5, 3, 1), .inl (.istore 2), .inl (.iconst 0), .inl (.istore 3), .inr (7, 3, 1)]),
  ([true, true, true, true], [.inl (.iload 3), .inl (.iload 2), .inl (.if_icmp .ge 4), .inl (.aload 0), .inr (0, 5, 0), .inr (0, 0, 7), .inl (.iload 3), .inl (.aload 0), .inr (0, 5, 0), .inl (.aload 0), .inr (0, 5, 4), .inl (.iload 1), .inl .aaload, .inr (0, 2, 2), .inl (.iload 3), .inl .iaload, .inr (5, 4, 0), .inl .iastore, .inl (.iinc 3 (1)), .inr (7, 3, 0)]),
  ([false, false, true, false], [.inl (.iload 2), .inl .ireturn])]
def g_5_load : List (Nat × dk_S) := [(1, s_5_isSheet), (2, s_5_finding), (1, s_2_isMissing), (2, s_8_min), (2, s_0_wrap)]
def s_5_load : dk_S := dk_MV 5 g_5_load b_5_load 4
theorem h_5_load : dk_monoG g_5_load := dk_monoG_cons o_5_isSheet (dk_monoG_cons o_5_finding (dk_monoG_cons o_2_isMissing (dk_monoG_cons o_8_min (dk_monoG_cons o_0_wrap (dk_monoG_nil)))))
theorem o_5_load : dk_mono s_5_load := dk_MV_mono _ h_5_load _ _
def t_5_load : dk_Tm := (tc_5, [(269, 1, 0), (78, 0, 1), (279, 0, 2), (244, 1, 3), (150, 0, 4)], [0, 13, 31, 53, 91], 0)
def y_5_judge : MethodName := ⟨nn_R5, "judge", "(I)I"⟩
def b_5_judge : dk_T := [
  ([true, true, false], [.inl (.iload 1), .inr (5, 0, 1), .inl (.ifCond .ne 1), .inl (.aload 0), .inl (.iconst 0), .inr (5, 1, 0), .inl .ireturn]),
  ([true, true, false], [.inl (.aload 0), .inr (0, 5, 4), .inl (.iload 1), .inl .aaload, .inr (5, 2, 0), .inl (.ifCond .eq 2), .inl (.aload 0), .inl (.iconst 5), .inr (5, 1, 0), .inl .ireturn]),
  ([true, true, false], [.inl (.aload 0), .inr (0, 5, 0), .inr (0, 0, 1), .inl (.ifCond .ne 3), .inl (.aload 0), .inl (.iconst 3), .inr (5, 1, 0), .inl .ireturn]),
  ([true, true, false], [.inl (.aload 0), .inr (5, 3, 0), .inl (.iconst 0), .inl (.istore 2), .inr (7, 4, 1)]),
  ([true, true, true], [.inl (.iload 2), .inl (.aload 0), .inr (0, 5, 4), .inl (.iload 1), .inl .aaload, .inr (0, 2, 1), .inl (.if_icmp .ge 6), .inl (.aload 0), .inr (0, 5, 6), .inr (5, 4, 0), .inl .pop, .inl (.aload 0), .inr (0, 5, 4), .inl (.iload 1), .inl .aaload, .inr (0, 2, 2), .inl (.iload 2), .inl .iaload, .inl (.aload 0), .inr (0, 5, 0), .inl (.aload 0), .inr (0, 5, 6), .inr (0, 4, 2), .inr (5, 5, 0), .inl (.if_icmp .eq 5), .inl (.iload 2), .inl .ireturn]),
  ([true, true, true], [.inl (.iinc 2 (1)), .inr (7, 4, 0)]),
  ([false, false, false], [.inl (.iconst (-1)), .inl .ireturn])]
def g_5_judge : List (Nat × dk_S) := [(1, s_5_isSheet), (2, s_5_finding), (1, s_2_isMissing), (1, s_5_setOut), (1, s_4_step), (2, s_0_worstOf)]
def s_5_judge : dk_S := dk_MV 5 g_5_judge b_5_judge 3
theorem h_5_judge : dk_monoG g_5_judge := dk_monoG_cons o_5_isSheet (dk_monoG_cons o_5_finding (dk_monoG_cons o_2_isMissing (dk_monoG_cons o_5_setOut (dk_monoG_cons o_4_step (dk_monoG_cons o_0_worstOf (dk_monoG_nil))))))
theorem o_5_judge : dk_mono s_5_judge := dk_MV_mono _ h_5_judge _ _
def t_5_judge : dk_Tm := (tc_5, [(269, 1, 0), (78, 0, 1), (279, 0, 2), (180, 0, 3), (208, 0, 4), (196, 0, 5)], [0, 13, 31, 47, 53, 104, 110], 0)
def y_0_becomeAs : MethodName := ⟨nn_R0, "becomeAs", "(LLongColumn$Column;)V"⟩
def b_0_becomeAs : dk_T := [
  ([true, true], [.inl (.aload 1), .inr (0, 0, 0), .inl (.iconst 0), .inl (.aload 0), .inr (0, 0, 0), .inl (.iconst 0), .inl (.iconst 7), .inr (5, 0, 1), .inl (.aload 0), .inl (.aload 1), .inr (0, 0, 1), .inr (1, 0, 1), .inl (.aload 1), .inr (0, 0, 2), .inl (.iconst 0), .inl (.aload 0), .inr (0, 0, 2), .inl (.iconst 0), .inl (.iconst 24), .inr (5, 0, 1), .inl (.aload 1), .inr (0, 0, 3), .inl (.iconst 0), .inl (.aload 0), .inr (0, 0, 3), .inl (.iconst 0), .inl (.iconst 24), .inr (5, 0, 1), .inl (.aload 1), .inr (0, 0, 4), .inl (.iconst 0), .inl (.aload 0), .inr (0, 0, 4), .inl (.iconst 0), .inl (.iconst 24), .inr (5, 0, 1), .inl (.aload 1), .inr (0, 0, 5), .inl (.iconst 0), .inl (.aload 0), .inr (0, 0, 5), .inl (.iconst 0), .inl (.iconst 24), .inr (5, 0, 1), .inl (.aload 1), .inr (0, 0, 6), .inl (.iconst 0), .inl (.aload 0), .inr (0, 0, 6), .inl (.iconst 0), .inl (.iconst 24), .inr (5, 0, 1), .inl (.aload 1), .inr (0, 0, 7), .inl (.iconst 0), .inl (.aload 0), .inr (0, 0, 7), .inl (.iconst 0), .inl (.iconst 24), .inr (5, 0, 1), .inl (.aload 0), .inl (.aload 1), .inr (0, 0, 8), .inr (1, 0, 8), .inl (.aload 1), .inr (0, 0, 9), .inl (.iconst 0), .inl (.aload 0), .inr (0, 0, 9), .inl (.iconst 0), .inl (.iconst 6), .inr (5, 0, 1), .inl (.aload 1), .inr (0, 0, 10), .inl (.iconst 0), .inl (.aload 0), .inr (0, 0, 10), .inl (.iconst 0), .inl (.iconst 6), .inr (5, 0, 1), .inl (.aload 1), .inr (0, 0, 11), .inl (.iconst 0), .inl (.aload 0), .inr (0, 0, 11), .inl (.iconst 0), .inl (.iconst 6), .inr (5, 0, 1), .inl (.aload 0), .inl (.aload 1), .inr (0, 0, 12), .inr (1, 0, 12), .inl (.aload 1), .inr (0, 0, 13), .inl (.iconst 0), .inl (.aload 0), .inr (0, 0, 13), .inl (.iconst 0), .inl (.iconst 6), .inr (5, 0, 1), .inl (.aload 1), .inr (0, 0, 14), .inl (.iconst 0), .inl (.aload 0), .inr (0, 0, 14), .inl (.iconst 0), .inl (.iconst 10), .inr (5, 0, 1), .inl (.aload 0), .inl (.aload 1), .inr (0, 0, 15), .inr (1, 0, 15), .inl .return_])]
def g_0_becomeAs : List (Nat × dk_S) := [(5, s_ac)]
def s_0_becomeAs : dk_S := dk_MV 0 g_0_becomeAs b_0_becomeAs 2
theorem h_0_becomeAs : dk_monoG g_0_becomeAs := dk_monoG_cons o_ac (dk_monoG_nil)
theorem o_0_becomeAs : dk_mono s_0_becomeAs := dk_MV_mono _ h_0_becomeAs _ _
def t_0_becomeAs : dk_Tm := (tc_0, [(75, 1, 0)], [0], 2)
def y_5_image : MethodName := ⟨nn_R5, "image", "()I"⟩
def b_5_image : dk_T := [
  ([true], [.inl (.aload 0), .inr (0, 5, 1), .inl (.aload 0), .inr (0, 5, 0), .inr (5, 0, 0), .inl (.aload 0), .inl (.iconst 1), .inr (2, 5, 2), .inl (.iconst 1), .inl .ireturn])]
def g_5_image : List (Nat × dk_S) := [(2, s_0_becomeAs)]
def s_5_image : dk_S := dk_MV 5 g_5_image b_5_image 1
theorem h_5_image : dk_monoG g_5_image := dk_monoG_cons o_0_becomeAs (dk_monoG_nil)
theorem o_5_image : dk_mono s_5_image := dk_MV_mono _ h_5_image _ _
def t_5_image : dk_Tm := (tc_5, [(294, 0, 0)], [0], 0)
def y_5_undo : MethodName := ⟨nn_R5, "undo", "()I"⟩
def b_5_undo : dk_T := [
  ([true], [.inl (.aload 0), .inr (0, 5, 2), .inl (.ifCond .ne 1), .inl (.aload 0), .inl (.iconst 3), .inr (5, 0, 0), .inl .ireturn]),
  ([true], [.inl (.aload 0), .inr (0, 5, 0), .inl (.aload 0), .inr (0, 5, 1), .inr (5, 1, 0), .inl (.aload 0), .inr (0, 5, 0), .inr (0, 0, 1), .inl .ireturn])]
def g_5_undo : List (Nat × dk_S) := [(2, s_5_finding), (2, s_0_becomeAs)]
def s_5_undo : dk_S := dk_MV 5 g_5_undo b_5_undo 1
theorem h_5_undo : dk_monoG g_5_undo := dk_monoG_cons o_5_finding (dk_monoG_cons o_0_becomeAs (dk_monoG_nil))
theorem o_5_undo : dk_mono s_5_undo := dk_MV_mono _ h_5_undo _ _
def t_5_undo : dk_Tm := (tc_5, [(78, 0, 0), (294, 0, 1)], [0, 13], 0)
def y_5_tear : MethodName := ⟨nn_R5, "tear", "()I"⟩
def b_5_tear : dk_T := [
  ([true, false], [.inl (.aload 0), .inr (0, 5, 2), .inl (.ifCond .eq 1), .inl (.iconst 1), .inr (7, 2, 0)]),
  ([true, false], [.inl (.iconst 0), .inr (7, 2, 1)]),
  ([true, false], [.inl (.istore 1), .inl (.aload 0), .inl (.iconst 0), .inr (2, 5, 2), .inl (.iload 1), .inl .ireturn])]
def g_5_tear : List (Nat × dk_S) := []
def s_5_tear : dk_S := dk_MV 5 g_5_tear b_5_tear 2
theorem h_5_tear : dk_monoG g_5_tear := dk_monoG_nil
theorem o_5_tear : dk_mono s_5_tear := dk_MV_mono _ h_5_tear _ _
def t_5_tear : dk_Tm := (tc_5, [], [0, 11, 12], 0)
def y_0_spotsHeld : MethodName := ⟨nn_R0, "spotsHeld", "()I"⟩
def b_0_spotsHeld : dk_T := [
  ([true, false, false], [.inl (.iconst 0), .inl (.istore 1), .inl (.iconst 0), .inl (.istore 2), .inr (7, 1, 1)]),
  ([true, true, true], [.inl (.iload 2), .inl (.iconst 10), .inl (.if_icmp .ge 3), .inl (.aload 0), .inr (0, 0, 14), .inl (.iload 2), .inl .iaload, .inl (.iconst (-1)), .inl (.if_icmp .eq 2), .inl (.iinc 1 (1)), .inr (7, 2, 1)]),
  ([true, true, true], [.inl (.iinc 2 (1)), .inr (7, 1, 0)]),
  ([false, true, false], [.inl (.iload 1), .inl .ireturn])]
def g_0_spotsHeld : List (Nat × dk_S) := []
def s_0_spotsHeld : dk_S := dk_MV 0 g_0_spotsHeld b_0_spotsHeld 3
theorem h_0_spotsHeld : dk_monoG g_0_spotsHeld := dk_monoG_nil
theorem o_0_spotsHeld : dk_mono s_0_spotsHeld := dk_MV_mono _ h_0_spotsHeld _ _
def t_0_spotsHeld : dk_Tm := (tc_0, [], [0, 4, 23, 29], 0)
def y_5_count : MethodName := ⟨nn_R5, "count", "(I)I"⟩
def b_5_count : dk_T := [
  ([true, true], [.inl (.iload 1), .inl (.tableswitch 7 0 5 #[1, 2, 3, 4, 5, 6])]),
  ([true, false], [.inl (.aload 0), .inr (0, 5, 0), .inr (0, 0, 1), .inl .ireturn]),
  ([true, false], [.inl (.aload 0), .inr (0, 5, 0), .inr (0, 0, 8), .inl .ireturn]),
  ([true, false], [.inl (.aload 0), .inr (0, 5, 0), .inr (0, 0, 12), .inl .ireturn]),
  ([true, false], [.inl (.aload 0), .inr (0, 5, 3), .inr (0, 3, 1), .inl .ireturn]),
  ([true, false], [.inl (.aload 0), .inr (0, 5, 0), .inr (0, 0, 15), .inl .ireturn]),
  ([true, false], [.inl (.aload 0), .inr (0, 5, 0), .inr (5, 0, 0), .inl .ireturn]),
  ([true, false], [.inl (.aload 0), .inl (.iconst 0), .inr (5, 1, 0), .inl .ireturn])]
def g_5_count : List (Nat × dk_S) := [(1, s_0_spotsHeld), (2, s_5_finding)]
def s_5_count : dk_S := dk_MV 5 g_5_count b_5_count 2
theorem h_5_count : dk_monoG g_5_count := dk_monoG_cons o_0_spotsHeld (dk_monoG_cons o_5_finding (dk_monoG_nil))
theorem o_5_count : dk_mono s_5_count := dk_MV_mono _ h_5_count _ _
def t_5_count : dk_Tm := (tc_5, [(297, 0, 0), (78, 0, 1)], [0, 40, 48, 56, 64, 72, 80, 88], 0)
def y_5_status : MethodName := ⟨nn_R5, "status", "(I)I"⟩
def b_5_status : dk_T := [
  ([true, true, false, false], [.inl (.iload 1), .inl (.iconst (-1)), .inl (.iconst 6), .inr (5, 0, 1), .inl (.ifCond .ne 1), .inl (.aload 0), .inl (.iconst 0), .inr (5, 1, 0), .inl .ireturn]),
  ([true, true, false, false], [.inl (.iload 1), .inl (.ifCond .lt 2), .inl (.aload 0), .inr (0, 5, 10), .inl (.iload 1), .inl .iaload, .inl .ireturn]),
  ([true, false, false, false], [.inl (.iconst 0), .inl (.istore 2), .inl (.iconst 0), .inl (.istore 3), .inr (7, 3, 1)]),
  ([true, false, true, true], [.inl (.iload 3), .inl (.iconst 7), .inl (.if_icmp .ge 4), .inl (.iload 2), .inl (.aload 0), .inr (0, 5, 10), .inl (.iload 3), .inl .iaload, .inl .iadd, .inl (.istore 2), .inl (.iinc 3 (1)), .inr (7, 3, 0)]),
  ([false, false, true, false], [.inl (.iload 2), .inl .ireturn])]
def g_5_status : List (Nat × dk_S) := [(3, s_5_isWithin), (2, s_5_finding)]
def s_5_status : dk_S := dk_MV 5 g_5_status b_5_status 4
theorem h_5_status : dk_monoG g_5_status := dk_monoG_cons o_5_isWithin (dk_monoG_cons o_5_finding (dk_monoG_nil))
theorem o_5_status : dk_mono s_5_status := dk_MV_mono _ h_5_status _ _
def t_5_status : dk_Tm := (tc_5, [(68, 1, 0), (78, 0, 1)], [0, 16, 27, 31, 52], 0)
def y_6_in : MethodName := ⟨nn_R6, "in", "(III)Z"⟩
def b_6_in : dk_T := [
  ([true, true, true], [.inl (.iload 0), .inl (.iload 1), .inl (.if_icmp .lt 1), .inl (.iload 0), .inl (.iload 2), .inl (.if_icmp .gt 1), .inl (.iconst 1), .inr (7, 2, 0)]),
  ([false, false, false], [.inl (.iconst 0), .inr (7, 2, 1)]),
  ([false, false, false], [.inl .lreturn])]
def g_6_in : List (Nat × dk_S) := []
def s_6_in : dk_S := dk_M g_6_in b_6_in 3
theorem h_6_in : dk_monoG g_6_in := dk_monoG_nil
theorem o_6_in : dk_mono s_6_in := dk_M_mono h_6_in _ _
def t_6_in : dk_Tm := (tc_6, [], [0, 14, 15], 1)
def y_6_finds : MethodName := ⟨nn_R6, "finds", "(I)I"⟩
def b_6_finds : dk_T := [
  ([true, true], [.inl (.aload 0), .inr (0, 6, 12), .inl (.iload 1), .inl .dup2, .inl .iaload, .inl (.iconst 1), .inl .iadd, .inl .iastore, .inl (.iconst (-1000001)), .inl (.iload 1), .inl .isub, .inl .ireturn])]
def g_6_finds : List (Nat × dk_S) := []
def s_6_finds : dk_S := dk_MV 6 g_6_finds b_6_finds 2
theorem h_6_finds : dk_monoG g_6_finds := dk_monoG_nil
theorem o_6_finds : dk_mono s_6_finds := dk_MV_mono _ h_6_finds _ _
def t_6_finds : dk_Tm := (tc_6, [], [0], 0)
def y_6_wrappedBy : MethodName := ⟨nn_R6, "wrappedBy", "(JI)I"⟩
def b_6_wrappedBy : dk_T := [
  ([true, false, true, false, false], [.inl (.lload 0), .inl (.iload 2), .inl .i2l, .inl .lrem, .inl (.lstore 3), .inl (.lload 3), .inl (.goto_w 0), .inl .lcmp, .inl (.ifCond .ge 1), .inl (.lload 3), .inl (.iload 2), .inl .i2l, .inl .ladd, .inr (7, 2, 0)]),
  ([false, false, true, true, false], [.inl (.lload 3), .inr (7, 2, 1)]),
  ([false, false, true, false, false], [.inl (.lstore 3), .inl (.goto_w (2)), .inl (.lload 3), .inl .lmul, .inl (.iload 2), .inl .i2l, .inl .lcmp, .inl (.ifCond .le 3), .inl (.lload 3), .inl (.iload 2), .inl .i2l, .inl .lsub, .inr (7, 4, 0)]),
  ([false, false, false, true, false], [.inl (.lload 3), .inr (7, 4, 1)]),
  ([false, false, false, false, false], [.inl .l2i, .inl .ireturn])]
def g_6_wrappedBy : List (Nat × dk_S) := []
def s_6_wrappedBy : dk_S := dk_M g_6_wrappedBy b_6_wrappedBy 5
theorem h_6_wrappedBy : dk_monoG g_6_wrappedBy := dk_monoG_nil
theorem o_6_wrappedBy : dk_mono s_6_wrappedBy := dk_M_mono h_6_wrappedBy _ _
def t_6_wrappedBy : dk_Tm := (tc_6, [], [0, 18, 19, 38, 39], 0)
def y_6_wrapped : MethodName := ⟨nn_R6, "wrapped", "(J)I"⟩
def b_6_wrapped : dk_T := [
  ([true, true, false], [.inl (.lload 1), .inl (.aload 0), .inr (0, 6, 0), .inl (.iconst 0), .inl .iaload, .inr (5, 0, 1), .inl .ireturn])]
def g_6_wrapped : List (Nat × dk_S) := [(2, s_6_wrappedBy)]
def s_6_wrapped : dk_S := dk_MV 6 g_6_wrapped b_6_wrapped 3
theorem h_6_wrapped : dk_monoG g_6_wrapped := dk_monoG_cons o_6_wrappedBy (dk_monoG_nil)
theorem o_6_wrapped : dk_mono s_6_wrapped := dk_MV_mono _ h_6_wrapped _ _
def t_6_wrapped : dk_Tm := (tc_6, [(97, 1, 0)], [0], 0)
def y_6_rule : MethodName := ⟨nn_R6, "rule", "(II)I"⟩
def b_6_rule : dk_T := [
  ([true, true, true, false, false], [.inl (.iload 1), .inl (.iconst 0), .inl (.iconst 6), .inr (5, 0, 1), .inl (.ifCond .eq 3), .inl (.iload 2), .inl (.aload 0), .inr (0, 6, 1), .inl (.iload 1), .inl (.iconst 0), .inl (.iconst 6), .inr (5, 0, 1), .inl (.ifCond .eq 1), .inl (.iload 1), .inr (7, 2, 0)]),
  ([true, true, true, false, false], [.inl (.iconst 0), .inr (7, 2, 1)]),
  ([true, true, true, false, false], [.inl .iaload, .inl (.if_icmp .lt 3), .inl (.iload 2), .inl (.aload 0), .inr (0, 6, 2), .inl (.iload 1), .inl .iaload, .inl (.if_icmp .le 4), .inr (7, 3, 1)]),
  ([true, false, false, false, false], [.inl (.aload 0), .inl (.iconst 0), .inr (5, 1, 0), .inl .ireturn]),
  ([true, true, true, false, false], [.inl (.aload 0), .inr (0, 6, 0), .inl (.iload 1), .inl .iaload, .inl (.istore 3), .inl (.aload 0), .inr (0, 6, 0), .inl (.iload 1), .inl (.iload 2), .inl .iastore, .inl (.iconst 0), .inl (.istore 4), .inr (7, 5, 1)]),
  ([true, false, false, true, true], [.inl (.iload 4), .inl (.aload 0), .inr (0, 6, 3), .inl (.if_icmp .ge 6), .inl (.aload 0), .inr (0, 6, 5), .inl (.iload 4), .inl (.aload 0), .inl (.aload 0), .inr (0, 6, 5), .inl (.iload 4), .inl .iaload, .inl .i2l, .inr (5, 2, 0), .inl .iastore, .inl (.iinc 4 (1)), .inr (7, 5, 0)]),
  ([false, false, false, true, false], [.inl (.iload 3), .inl .ireturn])]
def g_6_rule : List (Nat × dk_S) := [(3, s_6_in), (2, s_6_finds), (2, s_6_wrapped)]
def s_6_rule : dk_S := dk_MV 6 g_6_rule b_6_rule 5
theorem h_6_rule : dk_monoG g_6_rule := dk_monoG_cons o_6_in (dk_monoG_cons o_6_finds (dk_monoG_cons o_6_wrapped (dk_monoG_nil)))
theorem o_6_rule : dk_mono s_6_rule := dk_MV_mono _ h_6_rule _ _
def t_6_rule : dk_Tm := (tc_6, [(88, 1, 0), (101, 0, 1), (105, 0, 2)], [0, 29, 30, 44, 50, 67, 101], 0)
def y_6_feed : MethodName := ⟨nn_R6, "feed", "(II)I"⟩
def b_6_feed : dk_T := [
  ([true, true, true, false], [.inl (.iload 2), .inl (.iconst 1), .inl (.iconst 4), .inr (5, 0, 1), .inl (.ifCond .ne 1), .inl (.aload 0), .inl (.iconst 0), .inr (5, 1, 0), .inl .ireturn]),
  ([true, true, true, false], [.inl (.aload 0), .inr (0, 6, 14), .inl (.iload 2), .inl .iadd, .inl (.iconst 120), .inl (.if_icmp .le 2), .inl (.aload 0), .inl (.iconst 1), .inr (5, 1, 0), .inl .ireturn]),
  ([true, true, true, false], [.inl (.iload 2), .inl (.iconst 1), .inl .isub, .inl (.istore 3), .inr (7, 3, 1)]),
  ([true, true, false, true], [.inl (.iload 3), .inl (.ifCond .lt 4), .inl (.aload 0), .inr (0, 6, 13), .inl (.aload 0), .inr (0, 6, 14), .inl (.iload 1), .inl (.iconst 8), .inl (.iload 3), .inl .imul, .inl .ishr, .inl (.iconst 255), .inl .iand, .inl .iastore, .inl (.aload 0), .inl .dup, .inr (0, 6, 14), .inl (.iconst 1), .inl .iadd, .inr (1, 6, 14), .inl (.iinc 3 (-1)), .inr (7, 3, 0)]),
  ([true, false, false, false], [.inl (.aload 0), .inr (0, 6, 14), .inl .ireturn])]
def g_6_feed : List (Nat × dk_S) := [(3, s_6_in), (2, s_6_finds)]
def s_6_feed : dk_S := dk_MV 6 g_6_feed b_6_feed 4
theorem h_6_feed : dk_monoG g_6_feed := dk_monoG_cons o_6_in (dk_monoG_cons o_6_finds (dk_monoG_nil))
theorem o_6_feed : dk_mono s_6_feed := dk_MV_mono _ h_6_feed _ _
def t_6_feed : dk_Tm := (tc_6, [(88, 1, 0), (101, 0, 1)], [0, 15, 32, 36, 75], 0)
def y_6_wipe : MethodName := ⟨nn_R6, "wipe", "()I"⟩
def b_6_wipe : dk_T := [
  ([true, false], [.inl (.aload 0), .inr (0, 6, 14), .inl (.istore 1), .inl (.aload 0), .inl (.iconst 0), .inr (1, 6, 14), .inl (.iload 1), .inl .ireturn])]
def g_6_wipe : List (Nat × dk_S) := []
def s_6_wipe : dk_S := dk_MV 6 g_6_wipe b_6_wipe 2
theorem h_6_wipe : dk_monoG g_6_wipe := dk_monoG_nil
theorem o_6_wipe : dk_mono s_6_wipe := dk_MV_mono _ h_6_wipe _ _
def t_6_wipe : dk_Tm := (tc_6, [], [0], 0)
def y_6_byteAt : MethodName := ⟨nn_R6, "byteAt", "(I)I"⟩
def b_6_byteAt : dk_T := [
  ([true, true], [.inl (.iload 1), .inl (.aload 0), .inr (0, 6, 14), .inl (.if_icmp .ge 1), .inl (.aload 0), .inr (0, 6, 13), .inl (.iload 1), .inl .iaload, .inr (7, 2, 0)]),
  ([false, false], [.inl (.iconst (-1)), .inr (7, 2, 1)]),
  ([false, false], [.inl .ireturn])]
def g_6_byteAt : List (Nat × dk_S) := []
def s_6_byteAt : dk_S := dk_MV 6 g_6_byteAt b_6_byteAt 2
theorem h_6_byteAt : dk_monoG g_6_byteAt := dk_monoG_nil
theorem o_6_byteAt : dk_mono s_6_byteAt := dk_MV_mono _ h_6_byteAt _ _
def t_6_byteAt : dk_Tm := (tc_6, [], [0, 17, 18], 0)
def y_6_isLetter : MethodName := ⟨nn_R6, "isLetter", "(I)Z"⟩
def b_6_isLetter : dk_T := [
  ([true], [.inl (.iload 0), .inl (.iconst 97), .inl (.iconst 122), .inr (5, 0, 1), .inl .lreturn])]
def g_6_isLetter : List (Nat × dk_S) := [(3, s_6_in)]
def s_6_isLetter : dk_S := dk_M g_6_isLetter b_6_isLetter 1
theorem h_6_isLetter : dk_monoG g_6_isLetter := dk_monoG_cons o_6_in (dk_monoG_nil)
theorem o_6_isLetter : dk_mono s_6_isLetter := dk_M_mono h_6_isLetter _ _
def t_6_isLetter : dk_Tm := (tc_6, [(88, 1, 0)], [0], 1)
def y_6_isDigit : MethodName := ⟨nn_R6, "isDigit", "(I)Z"⟩
def b_6_isDigit : dk_T := [
  ([true], [.inl (.iload 0), .inl (.iconst 48), .inl (.iconst 57), .inr (5, 0, 1), .inl .lreturn])]
def g_6_isDigit : List (Nat × dk_S) := [(3, s_6_in)]
def s_6_isDigit : dk_S := dk_M g_6_isDigit b_6_isDigit 1
theorem h_6_isDigit : dk_monoG g_6_isDigit := dk_monoG_cons o_6_in (dk_monoG_nil)
theorem o_6_isDigit : dk_mono s_6_isDigit := dk_M_mono h_6_isDigit _ _
def t_6_isDigit : dk_Tm := (tc_6, [(88, 1, 0)], [0], 1)
def y_6_advance : MethodName := ⟨nn_R6, "advance", "()V"⟩
def b_6_advance : dk_T := [
  ([true, false], [.inl (.aload 0), .inl (.aload 0), .inr (0, 6, 16), .inr (1, 6, 15), .inr (7, 1, 1)]),
  ([true, false], [.inl (.aload 0), .inl (.aload 0), .inr (0, 6, 15), .inr (5, 0, 0), .inl (.iconst 32), .inl (.if_icmp .ne 2), .inl (.aload 0), .inl .dup, .inr (0, 6, 15), .inl (.iconst 1), .inl .iadd, .inr (1, 6, 15), .inr (7, 1, 0)]),
  ([true, false], [.inl (.aload 0), .inl (.aload 0), .inr (0, 6, 15), .inr (1, 6, 16), .inl (.aload 0), .inl (.aload 0), .inr (0, 6, 15), .inr (5, 0, 0), .inl (.istore 1), .inl (.aload 0), .inl (.iload 1), .inl (.ifCond .ge 3), .inl (.iconst 0), .inr (7, 6, 0)]),
  ([true, true], [.inl (.iload 1), .inr (5, 1, 1), .inl (.ifCond .eq 4), .inl (.iconst 1), .inr (7, 6, 0)]),
  ([true, true], [.inl (.iload 1), .inr (5, 2, 1), .inl (.ifCond .eq 5), .inl (.iconst 2), .inr (7, 6, 0)]),
  ([true, true], [.inl (.iconst 3), .inr (7, 6, 1)]),
  ([true, true], [.inr (1, 6, 17), .inl (.aload 0), .inl (.goto_w 0), .inr (4, 6, 18), .inl (.aload 0), .inl (.aload 0), .inr (0, 6, 17), .inl (.iconst 2), .inl (.if_icmp .ne 7), .inl (.iconst 0), .inr (7, 8, 0)]),
  ([true, true], [.inl (.iload 1), .inr (7, 8, 1)]),
  ([true, false], [.inr (1, 6, 19), .inl (.aload 0), .inr (0, 6, 17), .inl (.iconst 3), .inl (.if_icmp .ne 9), .inl (.aload 0), .inl .dup, .inr (0, 6, 16), .inl (.iconst 1), .inl .iadd, .inr (1, 6, 16), .inr (7, 9, 1)]),
  ([true, false], [.inl (.aload 0), .inr (0, 6, 17), .inl (.iconst 1), .inl (.if_icmp .ne 12), .inl (.aload 0), .inl (.aload 0), .inr (0, 6, 16), .inr (5, 0, 0), .inr (5, 1, 1), .inl (.ifCond .eq 12), .inl (.aload 0), .inl (.aload 0), .inr (0, 6, 16), .inl (.aload 0), .inr (0, 6, 15), .inl .isub, .inl (.iconst 8), .inl (.if_icmp .ge 10), .inl (.goto_w (27)), .inl (.aload 0), .inr (0, 6, 18), .inl .lmul, .inl (.aload 0), .inl (.aload 0), .inr (0, 6, 16), .inr (5, 0, 0), .inl .i2l, .inl .ladd, .inl (.goto_w (96)), .inl .lsub, .inr (7, 11, 0)]),
  ([true, false], [.inl (.goto_w (-1)), .inr (7, 11, 1)]),
  ([true, false], [.inr (4, 6, 18), .inl (.aload 0), .inl .dup, .inr (0, 6, 16), .inl (.iconst 1), .inl .iadd, .inr (1, 6, 16), .inr (7, 9, 0)]),
  ([true, false], [.inl (.aload 0), .inr (0, 6, 17), .inl (.iconst 2), .inl (.if_icmp .ne 15), .inl (.aload 0), .inl (.aload 0), .inr (0, 6, 16), .inr (5, 0, 0), .inr (5, 2, 1), .inl (.ifCond .eq 15), .inl (.aload 0), .inl (.aload 0), .inr (0, 6, 19), .inl (.iconst 9999), .inl (.if_icmp .le 13), .inl (.iconst 10000), .inr (7, 14, 0)]),
  ([true, false], [.inl (.iconst 10), .inl (.aload 0), .inr (0, 6, 19), .inl .imul, .inl (.aload 0), .inl (.aload 0), .inr (0, 6, 16), .inr (5, 0, 0), .inl .iadd, .inl (.iconst 48), .inl .isub, .inr (7, 14, 1)]),
  ([true, false], [.inr (1, 6, 19), .inl (.aload 0), .inl .dup, .inr (0, 6, 16), .inl (.iconst 1), .inl .iadd, .inr (1, 6, 16), .inr (7, 12, 0)]),
  ([false, false], [.inl .return_])]
def g_6_advance : List (Nat × dk_S) := [(2, s_6_byteAt), (1, s_6_isLetter), (1, s_6_isDigit)]
def s_6_advance : dk_S := dk_MV 6 g_6_advance b_6_advance 2
theorem h_6_advance : dk_monoG g_6_advance := dk_monoG_cons o_6_byteAt (dk_monoG_cons o_6_isLetter (dk_monoG_cons o_6_isDigit (dk_monoG_nil)))
theorem o_6_advance : dk_mono s_6_advance := dk_MV_mono _ h_6_advance _ _
def t_6_advance : dk_Tm := (tc_6, [(118, 0, 0), (121, 1, 1), (125, 1, 2)], [0, 8, 34, 60, 71, 82, 83, 104, 105, 126, 188, 191, 207, 246, 265, 281], 2)
def y_6_isWord : MethodName := ⟨nn_R6, "isWord", "(J)Z"⟩
def b_6_isWord : dk_T := [
  ([true, true, false], [.inl (.aload 0), .inr (0, 6, 17), .inl (.iconst 1), .inl (.if_icmp .ne 1), .inl (.aload 0), .inr (0, 6, 18), .inl (.lload 1), .inl .lcmp, .inl (.ifCond .ne 1), .inl (.iconst 1), .inr (7, 2, 0)]),
  ([false, false, false], [.inl (.iconst 0), .inr (7, 2, 1)]),
  ([false, false, false], [.inl .lreturn])]
def g_6_isWord : List (Nat × dk_S) := []
def s_6_isWord : dk_S := dk_MV 6 g_6_isWord b_6_isWord 3
theorem h_6_isWord : dk_monoG g_6_isWord := dk_monoG_nil
theorem o_6_isWord : dk_mono s_6_isWord := dk_MV_mono _ h_6_isWord _ _
def t_6_isWord : dk_Tm := (tc_6, [], [0, 21, 22], 1)
def y_6_kindHere : MethodName := ⟨nn_R6, "kindHere", "()I"⟩
def b_6_kindHere : dk_T := [
  ([true], [.inl (.aload 0), .inl (.goto_w (220309)), .inr (5, 0, 0), .inl (.ifCond .eq 1), .inl (.iconst 0), .inr (7, 8, 0)]),
  ([true], [.inl (.aload 0), .inl (.goto_w (3690)), .inr (5, 0, 0), .inl (.ifCond .eq 2), .inl (.iconst 1), .inr (7, 8, 0)]),
  ([true], [.inl (.aload 0), .inl (.goto_w (4325)), .inr (5, 0, 0), .inl (.ifCond .eq 3), .inl (.iconst 2), .inr (7, 8, 0)]),
  ([true], [.inl (.aload 0), .inl (.goto_w (9744)), .inr (5, 0, 0), .inl (.ifCond .eq 4), .inl (.iconst 3), .inr (7, 8, 0)]),
  ([true], [.inl (.aload 0), .inl (.goto_w (121898)), .inr (5, 0, 0), .inl (.ifCond .eq 5), .inl (.iconst 4), .inr (7, 8, 0)]),
  ([true], [.inl (.aload 0), .inl (.goto_w (404923)), .inr (5, 0, 0), .inl (.ifCond .eq 6), .inl (.iconst 5), .inr (7, 8, 0)]),
  ([true], [.inl (.aload 0), .inl (.goto_w (131360)), .inr (5, 0, 0), .inl (.ifCond .eq 7), .inl (.iconst 6), .inr (7, 8, 0)]),
  ([false], [.inl (.iconst (-1)), .inr (7, 8, 1)]),
  ([false], [.inl .ireturn])]
def g_6_kindHere : List (Nat × dk_S) := [(2, s_6_isWord)]
def s_6_kindHere : dk_S := dk_MV 6 g_6_kindHere b_6_kindHere 1
theorem h_6_kindHere : dk_monoG g_6_kindHere := dk_monoG_cons o_6_isWord (dk_monoG_nil)
theorem o_6_kindHere : dk_mono s_6_kindHere := dk_MV_mono _ h_6_kindHere _ _
def t_6_kindHere : dk_Tm := (tc_6, [(146, 0, 0)], [0, 14, 28, 42, 56, 70, 84, 99, 100], 0)
def y_6_wantNumber : MethodName := ⟨nn_R6, "wantNumber", "(II)I"⟩
def b_6_wantNumber : dk_T := [
  ([true, true, true, false], [.inl (.aload 0), .inr (0, 6, 19), .inl (.istore 3), .inl (.aload 0), .inl (.aload 0), .inr (0, 6, 20), .inl (.ifCond .eq 1), .inl (.aload 0), .inr (0, 6, 17), .inl (.iconst 2), .inl (.if_icmp .ne 1), .inl (.iload 3), .inl (.iload 1), .inl (.iload 2), .inr (5, 0, 1), .inl (.ifCond .eq 1), .inl (.iconst 1), .inr (7, 2, 0)]),
  ([true, false, false, true], [.inl (.iconst 0), .inr (7, 2, 1)]),
  ([true, false, false, true], [.inr (2, 6, 20), .inl (.aload 0), .inr (0, 6, 20), .inl (.ifCond .eq 3), .inl (.aload 0), .inr (5, 1, 0), .inr (7, 3, 1)]),
  ([false, false, false, true], [.inl (.iload 3), .inl .ireturn])]
def g_6_wantNumber : List (Nat × dk_S) := [(3, s_6_in), (1, s_6_advance)]
def s_6_wantNumber : dk_S := dk_MV 6 g_6_wantNumber b_6_wantNumber 4
theorem h_6_wantNumber : dk_monoG g_6_wantNumber := dk_monoG_cons o_6_in (dk_monoG_cons o_6_advance (dk_monoG_nil))
theorem o_6_wantNumber : dk_mono s_6_wantNumber := dk_MV_mono _ h_6_wantNumber _ _
def t_6_wantNumber : dk_Tm := (tc_6, [(88, 1, 0), (172, 0, 1)], [0, 34, 35, 49], 0)
def y_6_moreHere : MethodName := ⟨nn_R6, "moreHere", "()I"⟩
def b_6_moreHere : dk_T := [
  ([true], [.inl (.aload 0), .inl (.goto_w (316163)), .inr (5, 0, 0), .inl (.ifCond .eq 1), .inl (.iconst 2), .inr (7, 4, 0)]),
  ([true], [.inl (.aload 0), .inl (.goto_w (10256063)), .inr (5, 0, 0), .inl (.ifCond .eq 2), .inl (.iconst 3), .inr (7, 4, 0)]),
  ([true], [.inl (.aload 0), .inl (.goto_w (2486801)), .inr (5, 0, 0), .inl (.ifCond .eq 3), .inl (.iconst 4), .inr (7, 4, 0)]),
  ([false], [.inl (.iconst 0), .inr (7, 4, 1)]),
  ([false], [.inl .ireturn])]
def g_6_moreHere : List (Nat × dk_S) := [(2, s_6_isWord)]
def s_6_moreHere : dk_S := dk_MV 6 g_6_moreHere b_6_moreHere 1
theorem h_6_moreHere : dk_monoG g_6_moreHere := dk_monoG_cons o_6_isWord (dk_monoG_nil)
theorem o_6_moreHere : dk_mono s_6_moreHere := dk_MV_mono _ h_6_moreHere _ _
def t_6_moreHere : dk_Tm := (tc_6, [(146, 0, 0)], [0, 14, 28, 42, 43], 0)
def y_6_wantGroup : MethodName := ⟨nn_R6, "wantGroup", "()V"⟩
def b_6_wantGroup : dk_T := [
  ([true, false, false, false], [.inl (.iconst 6), .inl (.aload 0), .inr (0, 6, 22), .inl .imul, .inl (.istore 1), .inl (.aload 0), .inr (0, 6, 21), .inl (.iload 1), .inl (.aload 0), .inr (5, 0, 0), .inl .iastore, .inl (.aload 0), .inl (.aload 0), .inr (0, 6, 20), .inl (.ifCond .eq 1), .inl (.aload 0), .inr (0, 6, 21), .inl (.iload 1), .inl .iaload, .inl (.ifCond .lt 1), .inl (.iconst 1), .inr (7, 2, 0)]),
  ([true, true, false, false], [.inl (.iconst 0), .inr (7, 2, 1)]),
  ([true, true, false, false], [.inr (2, 6, 20), .inl (.aload 0), .inr (0, 6, 20), .inl (.ifCond .eq 3), .inl (.aload 0), .inr (5, 1, 0), .inr (7, 3, 1)]),
  ([true, true, false, false], [.inl (.aload 0), .inr (0, 6, 21), .inl (.iload 1), .inl (.iconst 1), .inl .iadd, .inl (.aload 0), .inl (.iconst 1), .inl (.iconst 24), .inr (5, 2, 0), .inl .iastore, .inl (.aload 0), .inl (.aload 0), .inr (0, 6, 20), .inl (.ifCond .eq 4), .inl (.aload 0), .inl (.goto_w (3094387)), .inr (5, 3, 0), .inl (.ifCond .eq 4), .inl (.iconst 1), .inr (7, 5, 0)]),
  ([true, true, false, false], [.inl (.iconst 0), .inr (7, 5, 1)]),
  ([true, true, false, false], [.inr (2, 6, 20), .inl (.aload 0), .inr (0, 6, 20), .inl (.ifCond .eq 6), .inl (.aload 0), .inr (5, 1, 0), .inr (7, 6, 1)]),
  ([true, true, false, false], [.inl (.aload 0), .inr (0, 6, 21), .inl (.iload 1), .inl (.iconst 2), .inl .iadd, .inl (.aload 0), .inl (.iconst 1), .inl (.iconst 200), .inr (5, 2, 0), .inl .iastore, .inl (.aload 0), .inr (0, 6, 21), .inl (.iload 1), .inl (.iconst 3), .inl .iadd, .inl (.iconst 50), .inl .iastore, .inl (.aload 0), .inr (0, 6, 21), .inl (.iload 1), .inl (.iconst 4), .inl .iadd, .inl (.iconst 50), .inl .iastore, .inl (.aload 0), .inr (0, 6, 21), .inl (.iload 1), .inl (.iconst 5), .inl .iadd, .inl (.iconst 0), .inl .iastore, .inr (7, 7, 1)]),
  ([true, true, false, false], [.inl (.aload 0), .inr (0, 6, 20), .inl (.ifCond .eq 10), .inl (.aload 0), .inr (5, 4, 0), .inl (.ifCond .le 10), .inl (.aload 0), .inr (5, 4, 0), .inl (.istore 2), .inl (.aload 0), .inr (5, 1, 0), .inl (.aload 0), .inl (.iconst 0), .inl (.iload 2), .inl (.iconst 4), .inl (.if_icmp .ne 8), .inl (.iconst 99), .inr (7, 9, 0)]),
  ([true, true, true, false], [.inl (.iconst 100), .inr (7, 9, 1)]),
  ([true, true, true, false], [.inr (5, 2, 0), .inl (.istore 3), .inl (.aload 0), .inr (0, 6, 21), .inl (.iload 1), .inl (.iconst 1), .inl .iadd, .inl (.iload 2), .inl .iadd, .inl (.iload 3), .inl .iastore, .inr (7, 7, 0)]),
  ([true, false, false, false], [.inl (.aload 0), .inl .dup, .inr (0, 6, 22), .inl (.iconst 1), .inl .iadd, .inr (1, 6, 22), .inl .return_])]
def g_6_wantGroup : List (Nat × dk_S) := [(1, s_6_kindHere), (1, s_6_advance), (3, s_6_wantNumber), (2, s_6_isWord), (1, s_6_moreHere)]
def s_6_wantGroup : dk_S := dk_MV 6 g_6_wantGroup b_6_wantGroup 4
theorem h_6_wantGroup : dk_monoG g_6_wantGroup := dk_monoG_cons o_6_kindHere (dk_monoG_cons o_6_advance (dk_monoG_cons o_6_wantNumber (dk_monoG_cons o_6_isWord (dk_monoG_cons o_6_moreHere (dk_monoG_nil)))))
theorem o_6_wantGroup : dk_mono s_6_wantGroup := dk_MV_mono _ h_6_wantGroup _ _
def t_6_wantGroup : dk_Tm := (tc_6, [(178, 0, 0), (172, 0, 1), (182, 0, 2), (146, 0, 3), (188, 0, 4)], [0, 39, 40, 54, 91, 92, 106, 151, 186, 188, 206], 2)
def y_6_its : MethodName := ⟨nn_R6, "its", "(II)I"⟩
def b_6_its : dk_T := [
  ([true, true, true], [.inl (.aload 0), .inr (0, 6, 4), .inl (.iconst 5), .inl (.iload 1), .inl .imul, .inl (.iload 2), .inl .iadd, .inl .iaload, .inl .ireturn])]
def g_6_its : List (Nat × dk_S) := []
def s_6_its : dk_S := dk_MV 6 g_6_its b_6_its 3
theorem h_6_its : dk_monoG g_6_its := dk_monoG_nil
theorem o_6_its : dk_mono s_6_its := dk_MV_mono _ h_6_its _ _
def t_6_its : dk_Tm := (tc_6, [], [0], 0)
def y_6_column : MethodName := ⟨nn_R6, "column", "()I"⟩
def b_6_column : dk_T := [
  ([true, false, false, false], [.inl (.aload 0), .inl (.iconst 0), .inr (1, 6, 16), .inl (.aload 0), .inl (.iconst 1), .inr (2, 6, 20), .inl (.aload 0), .inl (.iconst 0), .inr (1, 6, 22), .inl (.aload 0), .inr (5, 0, 0), .inl (.aload 0), .inr (5, 1, 0), .inr (7, 1, 1)]),
  ([true, false, false, false], [.inl (.aload 0), .inr (0, 6, 20), .inl (.ifCond .eq 2), .inl (.aload 0), .inr (0, 6, 17), .inl (.iconst 3), .inl (.if_icmp .ne 2), .inl (.aload 0), .inr (0, 6, 19), .inl (.iconst 59), .inl (.if_icmp .ne 2), .inl (.aload 0), .inr (5, 0, 0), .inl (.aload 0), .inr (5, 1, 0), .inr (7, 1, 0)]),
  ([true, false, false, false], [.inl (.aload 0), .inl (.aload 0), .inr (0, 6, 20), .inl (.ifCond .eq 3), .inl (.aload 0), .inr (0, 6, 17), .inl (.ifCond .ne 3), .inl (.iconst 1), .inr (7, 4, 0)]),
  ([true, false, false, false], [.inl (.iconst 0), .inr (7, 4, 1)]),
  ([true, false, false, false], [.inr (2, 6, 20), .inl (.aload 0), .inl (.iconst 0), .inr (1, 6, 14), .inl (.aload 0), .inr (0, 6, 20), .inl (.ifCond .ne 5), .inl (.iconst (-1)), .inl (.aload 0), .inr (0, 6, 15), .inl .isub, .inl .ireturn]),
  ([true, false, false, false], [.inl (.aload 0), .inr (0, 6, 3), .inl (.istore 1), .inl (.iconst 0), .inl (.istore 2), .inr (7, 6, 1)]),
  ([true, true, true, false], [.inl (.iload 2), .inl (.aload 0), .inr (0, 6, 22), .inl (.if_icmp .ge 7), .inl (.iload 1), .inl (.aload 0), .inr (0, 6, 21), .inl (.iconst 6), .inl (.iload 2), .inl .imul, .inl (.iconst 1), .inl .iadd, .inl .iaload, .inl .iadd, .inl (.istore 1), .inl (.iinc 2 (1)), .inr (7, 6, 0)]),
  ([true, true, false, false], [.inl (.iload 1), .inl (.iconst 24), .inl (.if_icmp .le 8), .inl (.aload 0), .inl (.iconst 1), .inr (5, 2, 0), .inl .ireturn]),
  ([true, false, false, false], [.inl (.iconst 0), .inl (.istore 2), .inr (7, 9, 1)]),
  ([true, false, true, false], [.inl (.iload 2), .inl (.aload 0), .inr (0, 6, 22), .inl (.if_icmp .ge 14), .inl (.iconst 0), .inl (.istore 3), .inr (7, 10, 1)]),
  ([true, false, true, true], [.inl (.iload 3), .inl (.aload 0), .inr (0, 6, 21), .inl (.iconst 6), .inl (.iload 2), .inl .imul, .inl (.iconst 1), .inl .iadd, .inl .iaload, .inl (.if_icmp .ge 13), .inl (.aload 0), .inr (0, 6, 4), .inl (.iconst 5), .inl (.aload 0), .inr (0, 6, 3), .inl .imul, .inl (.aload 0), .inr (0, 6, 21), .inl (.iconst 6), .inl (.iload 2), .inl .imul, .inl .iaload, .inl .iastore, .inl (.aload 0), .inr (0, 6, 4), .inl (.iconst 5), .inl (.aload 0), .inr (0, 6, 3), .inl .imul, .inl (.iconst 1), .inl .iadd, .inl (.aload 0), .inr (0, 6, 3), .inl (.ifCond .ne 11), .inl (.iconst 0), .inr (7, 12, 0)]),
  ([true, false, true, true], [.inl (.aload 0), .inl (.aload 0), .inr (0, 6, 3), .inl (.iconst 1), .inl .isub, .inl (.iconst 1), .inr (5, 3, 0), .inl (.aload 0), .inr (0, 6, 21), .inl (.iconst 6), .inl (.iload 2), .inl .imul, .inl (.iconst 2), .inl .iadd, .inl .iaload, .inl .iadd, .inr (7, 12, 1)]),
  ([true, false, true, true], [.inl .iastore, .inl (.aload 0), .inr (0, 6, 4), .inl (.iconst 5), .inl (.aload 0), .inr (0, 6, 3), .inl .imul, .inl (.iconst 2), .inl .iadd, .inl (.aload 0), .inr (0, 6, 21), .inl (.iconst 6), .inl (.iload 2), .inl .imul, .inl (.iconst 3), .inl .iadd, .inl .iaload, .inl .iastore, .inl (.aload 0), .inr (0, 6, 4), .inl (.iconst 5), .inl (.aload 0), .inr (0, 6, 3), .inl .imul, .inl (.iconst 3), .inl .iadd, .inl (.aload 0), .inr (0, 6, 21), .inl (.iconst 6), .inl (.iload 2), .inl .imul, .inl (.iconst 4), .inl .iadd, .inl .iaload, .inl .iastore, .inl (.aload 0), .inr (0, 6, 4), .inl (.iconst 5), .inl (.aload 0), .inr (0, 6, 3), .inl .imul, .inl (.iconst 4), .inl .iadd, .inl (.aload 0), .inr (0, 6, 21), .inl (.iconst 6), .inl (.iload 2), .inl .imul, .inl (.iconst 5), .inl .iadd, .inl .iaload, .inl .iastore, .inl (.aload 0), .inr (0, 6, 5), .inl (.aload 0), .inr (0, 6, 3), .inl (.iconst 0), .inl .iastore, .inl (.aload 0), .inl .dup, .inr (0, 6, 3), .inl (.iconst 1), .inl .iadd, .inr (1, 6, 3), .inl (.iinc 3 (1)), .inr (7, 10, 0)]),
  ([true, false, true, false], [.inl (.iinc 2 (1)), .inr (7, 9, 0)]),
  ([true, false, false, false], [.inl (.aload 0), .inr (0, 6, 3), .inl .ireturn])]
def g_6_column : List (Nat × dk_S) := [(1, s_6_advance), (1, s_6_wantGroup), (2, s_6_finds), (3, s_6_its)]
def s_6_column : dk_S := dk_MV 6 g_6_column b_6_column 4
theorem h_6_column : dk_monoG g_6_column := dk_monoG_cons o_6_advance (dk_monoG_cons o_6_wantGroup (dk_monoG_cons o_6_finds (dk_monoG_cons o_6_its (dk_monoG_nil))))
theorem o_6_column : dk_mono s_6_column := dk_MV_mono _ h_6_column _ _
def t_6_column : dk_Tm := (tc_6, [(172, 0, 0), (191, 0, 1), (101, 0, 2), (194, 0, 3)], [0, 23, 58, 77, 78, 100, 107, 135, 147, 149, 159, 217, 240, 339, 345], 0)
def y_6_isPlace : MethodName := ⟨nn_R6, "isPlace", "(I)Z"⟩
def b_6_isPlace : dk_T := [
  ([true], [.inl (.iload 0), .inl (.iconst 0), .inl (.iconst 4999), .inr (5, 0, 1), .inl .lreturn])]
def g_6_isPlace : List (Nat × dk_S) := [(3, s_6_in)]
def s_6_isPlace : dk_S := dk_M g_6_isPlace b_6_isPlace 1
theorem h_6_isPlace : dk_monoG g_6_isPlace := dk_monoG_cons o_6_in (dk_monoG_nil)
theorem o_6_isPlace : dk_mono s_6_isPlace := dk_M_mono h_6_isPlace _ _
def t_6_isPlace : dk_Tm := (tc_6, [(88, 1, 0)], [0], 1)
def y_6_lagOf : MethodName := ⟨nn_R6, "lagOf", "(II)I"⟩
def b_6_lagOf : dk_T := [
  ([true, true, true], [.inl (.iload 2), .inl (.iload 1), .inl (.if_icmp .le 1), .inl (.iload 2), .inl (.iload 1), .inl .isub, .inl (.iconst 1000), .inl .imul, .inl (.aload 0), .inr (0, 6, 0), .inl (.iconst 1), .inl .iaload, .inl (.aload 0), .inr (0, 6, 0), .inl (.iconst 2), .inl .iaload, .inl .iadd, .inl .idiv, .inr (7, 2, 0)]),
  ([true, true, true], [.inl (.iload 1), .inl (.iload 2), .inl .isub, .inl (.iconst 1000), .inl .imul, .inl (.aload 0), .inr (0, 6, 0), .inl (.iconst 1), .inl .iaload, .inl (.aload 0), .inr (0, 6, 0), .inl (.iconst 2), .inl .iaload, .inl .isub, .inl .idiv, .inr (7, 2, 1)]),
  ([false, false, false], [.inl .ireturn])]
def g_6_lagOf : List (Nat × dk_S) := []
def s_6_lagOf : dk_S := dk_MV 6 g_6_lagOf b_6_lagOf 3
theorem h_6_lagOf : dk_monoG g_6_lagOf := dk_monoG_nil
theorem o_6_lagOf : dk_mono s_6_lagOf := dk_MV_mono _ h_6_lagOf _ _
def t_6_lagOf : dk_Tm := (tc_6, [], [0, 29, 50], 0)
def y_6_lag : MethodName := ⟨nn_R6, "lag", "(II)I"⟩
def b_6_lag : dk_T := [
  ([true, true, true], [.inl (.iload 1), .inr (5, 0, 1), .inl (.ifCond .eq 1), .inl (.iload 2), .inr (5, 0, 1), .inl (.ifCond .eq 1), .inl (.aload 0), .inl (.iload 1), .inl (.iload 2), .inr (5, 1, 0), .inr (7, 2, 0)]),
  ([true, false, false], [.inl (.aload 0), .inl (.iconst 0), .inr (5, 2, 0), .inr (7, 2, 1)]),
  ([false, false, false], [.inl .ireturn])]
def g_6_lag : List (Nat × dk_S) := [(1, s_6_isPlace), (3, s_6_lagOf), (2, s_6_finds)]
def s_6_lag : dk_S := dk_MV 6 g_6_lag b_6_lag 3
theorem h_6_lag : dk_monoG g_6_lag := dk_monoG_cons o_6_isPlace (dk_monoG_cons o_6_lagOf (dk_monoG_cons o_6_finds (dk_monoG_nil)))
theorem o_6_lag : dk_mono s_6_lag := dk_MV_mono _ h_6_lag _ _
def t_6_lag : dk_Tm := (tc_6, [(197, 1, 0), (200, 0, 1), (101, 0, 2)], [0, 23, 28], 0)
def y_6_isRank : MethodName := ⟨nn_R6, "isRank", "(I)Z"⟩
def b_6_isRank : dk_T := [
  ([true, true], [.inl (.iload 1), .inl (.iconst 0), .inl (.aload 0), .inr (0, 6, 3), .inl (.iconst 1), .inl .isub, .inr (5, 0, 1), .inl .lreturn])]
def g_6_isRank : List (Nat × dk_S) := [(3, s_6_in)]
def s_6_isRank : dk_S := dk_MV 6 g_6_isRank b_6_isRank 2
theorem h_6_isRank : dk_monoG g_6_isRank := dk_monoG_cons o_6_in (dk_monoG_nil)
theorem o_6_isRank : dk_mono s_6_isRank := dk_MV_mono _ h_6_isRank _ _
def t_6_isRank : dk_Tm := (tc_6, [(88, 1, 0)], [0], 1)
def y_6_beginMarch : MethodName := ⟨nn_R6, "beginMarch", "()V"⟩
def b_6_beginMarch : dk_T := [
  ([true, false], [.inl (.iconst 0), .inl (.istore 1), .inr (7, 1, 1)]),
  ([true, true], [.inl (.iload 1), .inl (.aload 0), .inr (0, 6, 3), .inl (.if_icmp .ge 2), .inl (.aload 0), .inr (0, 6, 23), .inl (.iload 1), .inl (.aload 0), .inr (0, 6, 5), .inl (.iload 1), .inl .iaload, .inl .iastore, .inl (.iinc 1 (1)), .inr (7, 1, 0)]),
  ([false, false], [.inl .return_])]
def g_6_beginMarch : List (Nat × dk_S) := []
def s_6_beginMarch : dk_S := dk_MV 6 g_6_beginMarch b_6_beginMarch 2
theorem h_6_beginMarch : dk_monoG g_6_beginMarch := dk_monoG_nil
theorem o_6_beginMarch : dk_mono s_6_beginMarch := dk_MV_mono _ h_6_beginMarch _ _
def t_6_beginMarch : dk_Tm := (tc_6, [], [0, 2, 28], 2)
def y_6_size : MethodName := ⟨nn_R6, "size", "(I)I"⟩
def b_6_size : dk_T := [
  ([true], [.inl (.iload 0), .inl (.ifCond .ge 1), .inl (.iload 0), .inl .ineg, .inr (7, 2, 0)]),
  ([true], [.inl (.iload 0), .inr (7, 2, 1)]),
  ([false], [.inl .ireturn])]
def g_6_size : List (Nat × dk_S) := []
def s_6_size : dk_S := dk_M g_6_size b_6_size 1
theorem h_6_size : dk_monoG g_6_size := dk_monoG_nil
theorem o_6_size : dk_mono s_6_size := dk_M_mono h_6_size _ _
def t_6_size : dk_Tm := (tc_6, [], [0, 9, 10], 0)
def y_6_drumFor : MethodName := ⟨nn_R6, "drumFor", "(I)I"⟩
def b_6_drumFor : dk_T := [
  ([true, true, false, false, false, false], [.inl (.iconst (-1)), .inl (.istore 2), .inl (.iconst 0), .inl (.istore 3), .inl (.iconst 0), .inl (.istore 4), .inr (7, 1, 1)]),
  ([true, true, true, true, true, false], [.inl (.iload 4), .inl (.aload 0), .inr (0, 6, 6), .inl (.if_icmp .ge 3), .inl (.aload 0), .inr (0, 6, 7), .inl (.iconst 3), .inl (.iload 4), .inl .imul, .inl (.iconst 1), .inl .iadd, .inl .iaload, .inl (.aload 0), .inr (0, 6, 7), .inl (.iconst 3), .inl (.iload 4), .inl .imul, .inl .iaload, .inl (.aload 0), .inl (.iload 1), .inl (.iconst 1), .inr (5, 0, 0), .inl .isub, .inr (5, 1, 1), .inl (.iconst 50), .inl .idiv, .inl .isub, .inl (.istore 5), .inl (.iload 5), .inl (.iload 3), .inl (.if_icmp .le 2), .inl (.iload 5), .inl (.istore 3), .inl (.iload 4), .inl (.istore 2), .inr (7, 2, 1)]),
  ([true, true, true, true, true, false], [.inl (.iinc 4 (1)), .inr (7, 1, 0)]),
  ([false, false, true, false, false, false], [.inl (.iload 2), .inl .ireturn])]
def g_6_drumFor : List (Nat × dk_S) := [(3, s_6_its), (1, s_6_size)]
def s_6_drumFor : dk_S := dk_MV 6 g_6_drumFor b_6_drumFor 6
theorem h_6_drumFor : dk_monoG g_6_drumFor := dk_monoG_cons o_6_its (dk_monoG_cons o_6_size (dk_monoG_nil))
theorem o_6_drumFor : dk_mono s_6_drumFor := dk_MV_mono _ h_6_drumFor _ _
def t_6_drumFor : dk_Tm := (tc_6, [(194, 0, 0), (203, 1, 1)], [0, 7, 64, 70], 0)
def y_6_byEar : MethodName := ⟨nn_R6, "byEar", "(I)I"⟩
def b_6_byEar : dk_T := [
  ([true, true, false], [.inl (.aload 0), .inl (.iload 1), .inr (5, 0, 0), .inl (.istore 2), .inl (.iload 2), .inl (.ifCond .ge 1), .inl (.iconst 0), .inr (7, 2, 0)]),
  ([true, true, true], [.inl (.aload 0), .inl (.aload 0), .inl (.aload 0), .inr (0, 6, 7), .inl (.iconst 3), .inl (.iload 2), .inl .imul, .inl .iaload, .inl (.aload 0), .inl (.iload 1), .inl (.iconst 1), .inr (5, 1, 0), .inr (5, 2, 0), .inl .i2l, .inl (.aload 0), .inr (0, 6, 7), .inl (.iconst 3), .inl (.iload 2), .inl .imul, .inl (.iconst 2), .inl .iadd, .inl .iaload, .inl .i2l, .inl .lsub, .inl (.aload 0), .inr (0, 6, 23), .inl (.iload 1), .inl .iaload, .inl .i2l, .inl .lsub, .inr (5, 3, 0), .inl (.aload 0), .inl (.iload 1), .inl (.iconst 2), .inr (5, 1, 0), .inl .imul, .inl (.iconst 100), .inl .idiv, .inr (7, 2, 1)]),
  ([false, false, false], [.inl .ireturn])]
def g_6_byEar : List (Nat × dk_S) := [(2, s_6_drumFor), (3, s_6_its), (3, s_6_lagOf), (2, s_6_wrapped)]
def s_6_byEar : dk_S := dk_MV 6 g_6_byEar b_6_byEar 3
theorem h_6_byEar : dk_monoG g_6_byEar := dk_monoG_cons o_6_drumFor (dk_monoG_cons o_6_its (dk_monoG_cons o_6_lagOf (dk_monoG_cons o_6_wrapped (dk_monoG_nil))))
theorem o_6_byEar : dk_mono s_6_byEar := dk_MV_mono _ h_6_byEar _ _
def t_6_byEar : dk_Tm := (tc_6, [(209, 0, 0), (194, 0, 1), (200, 0, 2), (105, 0, 3)], [0, 14, 67], 0)
def y_6_isBent : MethodName := ⟨nn_R6, "isBent", "(I)Z"⟩
def b_6_isBent : dk_T := [
  ([true, true, false], [.inl (.iconst 0), .inl (.istore 2), .inr (7, 1, 1)]),
  ([true, true, true], [.inl (.iload 2), .inl (.aload 0), .inr (0, 6, 8), .inl (.if_icmp .ge 5), .inl (.iload 1), .inl (.ifCond .le 4), .inl (.aload 0), .inr (0, 6, 9), .inl (.iload 2), .inl .iaload, .inl (.aload 0), .inl (.iload 1), .inl (.ifCond .le 2), .inl (.iload 1), .inl (.iconst 1), .inl .isub, .inr (7, 3, 0)]),
  ([true, true, true], [.inl (.iconst 0), .inr (7, 3, 1)]),
  ([true, true, true], [.inl (.iconst 1), .inr (5, 0, 0), .inl (.if_icmp .lt 4), .inl (.aload 0), .inr (0, 6, 9), .inl (.iload 2), .inl .iaload, .inl (.aload 0), .inl (.iload 1), .inl (.iconst 1), .inr (5, 0, 0), .inl (.if_icmp .ge 4), .inl (.iconst 1), .inl .lreturn]),
  ([true, true, true], [.inl (.iinc 2 (1)), .inr (7, 1, 0)]),
  ([false, false, false], [.inl (.iconst 0), .inl .lreturn])]
def g_6_isBent : List (Nat × dk_S) := [(3, s_6_its)]
def s_6_isBent : dk_S := dk_MV 6 g_6_isBent b_6_isBent 3
theorem h_6_isBent : dk_monoG g_6_isBent := dk_monoG_cons o_6_its (dk_monoG_nil)
theorem o_6_isBent : dk_mono s_6_isBent := dk_MV_mono _ h_6_isBent _ _
def t_6_isBent : dk_Tm := (tc_6, [(194, 0, 0)], [0, 2, 31, 32, 56, 62], 1)
def y_6_byEye : MethodName := ⟨nn_R6, "byEye", "(I)I"⟩
def b_6_byEye : dk_T := [
  ([true, true], [.inl (.iload 1), .inl (.ifCond .eq 1), .inl (.aload 0), .inl (.iload 1), .inr (5, 0, 0), .inl (.ifCond .eq 2), .inr (7, 1, 1)]),
  ([false, false], [.inl (.iconst 0), .inr (7, 3, 0)]),
  ([true, true], [.inl (.aload 0), .inl (.aload 0), .inr (0, 6, 23), .inl (.iload 1), .inl (.iconst 1), .inl .isub, .inl .iaload, .inl .i2l, .inl (.aload 0), .inr (0, 6, 23), .inl (.iload 1), .inl .iaload, .inl .i2l, .inl .lsub, .inr (5, 1, 0), .inl (.aload 0), .inl (.iload 1), .inl (.iconst 2), .inr (5, 2, 0), .inl .imul, .inl (.iconst 100), .inl .idiv, .inr (7, 3, 1)]),
  ([false, false], [.inl .ireturn])]
def g_6_byEye : List (Nat × dk_S) := [(2, s_6_isBent), (2, s_6_wrapped), (3, s_6_its)]
def s_6_byEye : dk_S := dk_MV 6 g_6_byEye b_6_byEye 2
theorem h_6_byEye : dk_monoG g_6_byEye := dk_monoG_cons o_6_isBent (dk_monoG_cons o_6_wrapped (dk_monoG_cons o_6_its (dk_monoG_nil)))
theorem o_6_byEye : dk_mono s_6_byEye := dk_MV_mono _ h_6_byEye _ _
def t_6_byEye : dk_Tm := (tc_6, [(212, 0, 0), (105, 0, 1), (194, 0, 2)], [0, 12, 16, 47], 0)
def y_6_byFeet : MethodName := ⟨nn_R6, "byFeet", "(I)I"⟩
def b_6_byFeet : dk_T := [
  ([true, true, false, false, false], [.inl (.iconst 0), .inl (.istore 2), .inl (.iconst 0), .inl (.istore 3), .inl (.iconst 0), .inl (.istore 4), .inr (7, 1, 1)]),
  ([true, true, true, true, true], [.inl (.iload 4), .inl (.aload 0), .inr (0, 6, 3), .inl (.if_icmp .ge 3), .inl (.iload 4), .inl (.iload 1), .inl (.if_icmp .eq 2), .inl (.aload 0), .inl (.iload 4), .inl (.iconst 1), .inr (5, 0, 0), .inl (.aload 0), .inl (.iload 1), .inl (.iconst 1), .inr (5, 0, 0), .inl .isub, .inr (5, 1, 1), .inl (.aload 0), .inr (0, 6, 0), .inl (.iconst 3), .inl .iaload, .inl (.if_icmp .gt 2), .inl (.iload 2), .inl (.aload 0), .inl (.aload 0), .inr (0, 6, 23), .inl (.iload 4), .inl .iaload, .inl .i2l, .inl (.aload 0), .inl (.aload 0), .inl (.iload 4), .inl (.iconst 1), .inr (5, 0, 0), .inl (.aload 0), .inl (.iload 1), .inl (.iconst 1), .inr (5, 0, 0), .inr (5, 2, 0), .inl .i2l, .inl .ladd, .inl (.aload 0), .inr (0, 6, 23), .inl (.iload 1), .inl .iaload, .inl .i2l, .inl .lsub, .inr (5, 3, 0), .inl .iadd, .inl (.istore 2), .inl (.iinc 3 (1)), .inr (7, 2, 1)]),
  ([true, true, true, true, true], [.inl (.iinc 4 (1)), .inr (7, 1, 0)]),
  ([true, true, true, true, false], [.inl (.iload 3), .inl (.ifCond .ne 4), .inl (.aload 0), .inl (.iload 1), .inr (5, 4, 0), .inr (7, 5, 0)]),
  ([true, true, true, true, false], [.inl (.iload 2), .inl (.iload 3), .inl .idiv, .inl (.aload 0), .inl (.iload 1), .inl (.iconst 2), .inr (5, 0, 0), .inl .imul, .inl (.iconst 100), .inl .idiv, .inr (7, 5, 1)]),
  ([false, false, false, false, false], [.inl .ireturn])]
def g_6_byFeet : List (Nat × dk_S) := [(3, s_6_its), (1, s_6_size), (3, s_6_lagOf), (2, s_6_wrapped), (2, s_6_byEar)]
def s_6_byFeet : dk_S := dk_MV 6 g_6_byFeet b_6_byFeet 5
theorem h_6_byFeet : dk_monoG g_6_byFeet := dk_monoG_cons o_6_its (dk_monoG_cons o_6_size (dk_monoG_cons o_6_lagOf (dk_monoG_cons o_6_wrapped (dk_monoG_cons o_6_byEar (dk_monoG_nil)))))
theorem o_6_byFeet : dk_mono s_6_byFeet := dk_MV_mono _ h_6_byFeet _ _
def t_6_byFeet : dk_Tm := (tc_6, [(194, 0, 0), (203, 1, 1), (200, 0, 2), (105, 0, 3), (215, 0, 4)], [0, 7, 93, 99, 111, 124], 0)
def y_6_turn : MethodName := ⟨nn_R6, "turn", "(I)I"⟩
def b_6_turn : dk_T := [
  ([true, true], [.inl (.aload 0), .inl (.iload 1), .inl (.iconst 0), .inr (5, 0, 0), .inl (.tableswitch 7 1 6 #[1, 2, 3, 4, 5, 6])]),
  ([true, true], [.inl (.aload 0), .inl (.iload 1), .inr (5, 1, 0), .inl .ireturn]),
  ([true, true], [.inl (.aload 0), .inl (.iload 1), .inr (5, 2, 0), .inl .ireturn]),
  ([true, true], [.inl (.aload 0), .inl (.iload 1), .inr (5, 2, 0), .inl (.aload 0), .inl (.iload 1), .inl (.iconst 3), .inr (5, 0, 0), .inl .imul, .inl (.aload 0), .inl (.iload 1), .inr (5, 1, 0), .inl (.iconst 100), .inl (.aload 0), .inl (.iload 1), .inl (.iconst 3), .inr (5, 0, 0), .inl .isub, .inl .imul, .inl .iadd, .inl (.iconst 100), .inl .idiv, .inl .ireturn]),
  ([true, true], [.inl (.aload 0), .inl (.iload 1), .inr (5, 3, 0), .inl .ireturn]),
  ([true, true], [.inl (.aload 0), .inl (.aload 0), .inr (0, 6, 0), .inl (.iconst 4), .inl .iaload, .inl .i2l, .inl (.aload 0), .inr (0, 6, 23), .inl (.iload 1), .inl .iaload, .inl .i2l, .inl .lsub, .inr (5, 4, 0), .inl .ireturn]),
  ([true, true], [.inl (.aload 0), .inl (.iload 1), .inl (.iconst 4), .inr (5, 0, 0), .inl .ireturn]),
  ([false, false], [.inl (.iconst 0), .inl .ireturn])]
def g_6_turn : List (Nat × dk_S) := [(3, s_6_its), (2, s_6_byEar), (2, s_6_byEye), (2, s_6_byFeet), (2, s_6_wrapped)]
def s_6_turn : dk_S := dk_MV 6 g_6_turn b_6_turn 2
theorem h_6_turn : dk_monoG g_6_turn := dk_monoG_cons o_6_its (dk_monoG_cons o_6_byEar (dk_monoG_cons o_6_byEye (dk_monoG_cons o_6_byFeet (dk_monoG_cons o_6_wrapped (dk_monoG_nil)))))
theorem o_6_turn : dk_mono s_6_turn := dk_MV_mono _ h_6_turn _ _
def t_6_turn : dk_Tm := (tc_6, [(194, 0, 0), (215, 0, 1), (218, 0, 2), (221, 0, 3), (105, 0, 4)], [0, 44, 50, 56, 88, 94, 114, 121], 0)
def y_6_rankOf : MethodName := ⟨nn_R6, "rankOf", "(II)I"⟩
def b_6_rankOf : dk_T := [
  ([true, true, true], [.inl (.aload 0), .inl (.iload 1), .inr (5, 0, 0), .inl (.ifCond .eq 1), .inl (.iload 2), .inl (.iconst 0), .inl (.iconst 7), .inr (5, 1, 1), .inl (.ifCond .ne 2), .inr (7, 1, 1)]),
  ([true, false, false], [.inl (.aload 0), .inl (.iconst 0), .inr (5, 2, 0), .inl .ireturn]),
  ([true, true, true], [.inl (.iload 2), .inl (.iconst 5), .inl (.if_icmp .ge 3), .inl (.aload 0), .inl (.iload 1), .inl (.iload 2), .inr (5, 3, 0), .inl .ireturn]),
  ([true, true, true], [.inl (.aload 0), .inr (5, 4, 0), .inl (.iload 2), .inl (.iconst 5), .inl (.if_icmp .ne 4), .inl (.aload 0), .inr (0, 6, 5), .inl (.iload 1), .inl .iaload, .inr (7, 6, 0)]),
  ([true, true, true], [.inl (.iload 2), .inl (.iconst 6), .inl (.if_icmp .ne 5), .inl (.aload 0), .inl (.iload 1), .inr (5, 5, 0), .inr (7, 6, 0)]),
  ([true, true, false], [.inl (.aload 0), .inl (.iload 1), .inr (5, 6, 0), .inr (7, 6, 1)]),
  ([false, false, false], [.inl .ireturn])]
def g_6_rankOf : List (Nat × dk_S) := [(2, s_6_isRank), (3, s_6_in), (2, s_6_finds), (3, s_6_its), (1, s_6_beginMarch), (2, s_6_drumFor), (2, s_6_turn)]
def s_6_rankOf : dk_S := dk_MV 6 g_6_rankOf b_6_rankOf 3
theorem h_6_rankOf : dk_monoG g_6_rankOf := dk_monoG_cons o_6_isRank (dk_monoG_cons o_6_in (dk_monoG_cons o_6_finds (dk_monoG_cons o_6_its (dk_monoG_cons o_6_beginMarch (dk_monoG_cons o_6_drumFor (dk_monoG_cons o_6_turn (dk_monoG_nil)))))))
theorem o_6_rankOf : dk_mono s_6_rankOf := dk_MV_mono _ h_6_rankOf _ _
def t_6_rankOf : dk_Tm := (tc_6, [(240, 0, 0), (88, 1, 1), (101, 0, 2), (194, 0, 3), (230, 0, 4), (209, 0, 5), (224, 0, 6)], [0, 18, 24, 36, 54, 68, 73], 0)
def y_6_change : MethodName := ⟨nn_R6, "change", "(III)I"⟩
def b_6_change : dk_T := [
  ([true, true, true, true, false, false], [.inl (.iload 2), .inl (.iconst 2), .inl (.if_icmp .eq 1), .inl (.iload 2), .inl (.iconst 3), .inl (.if_icmp .ne 2), .inr (7, 1, 1)]),
  ([true, true, true, true, false, false], [.inl (.iload 3), .inl (.iconst 0), .inl (.iconst 100), .inr (5, 0, 1), .inr (7, 5, 0)]),
  ([true, true, true, true, false, false], [.inl (.iload 2), .inl (.iconst 4), .inl (.if_icmp .ne 3), .inl (.iload 3), .inl (.iconst (-99)), .inl (.iconst 99), .inr (5, 0, 1), .inr (7, 5, 0)]),
  ([true, true, true, true, false, false], [.inl (.iload 2), .inl (.iconst 5), .inl (.if_icmp .ne 4), .inl (.iconst 1), .inr (7, 5, 0)]),
  ([true, true, true, true, false, false], [.inl (.iconst 0), .inr (7, 5, 1)]),
  ([true, true, true, true, false, false], [.inl (.istore 4), .inl (.aload 0), .inl (.iload 1), .inr (5, 1, 0), .inl (.ifCond .eq 6), .inl (.iload 4), .inl (.ifCond .ne 7), .inr (7, 6, 1)]),
  ([true, false, false, false, false, false], [.inl (.aload 0), .inl (.iconst 0), .inr (5, 2, 0), .inl .ireturn]),
  ([true, true, true, true, false, false], [.inl (.iload 2), .inl (.iconst 5), .inl (.if_icmp .ne 8), .inl (.aload 0), .inr (0, 6, 5), .inl (.iload 1), .inl .iaload, .inr (7, 9, 0)]),
  ([true, true, true, true, false, false], [.inl (.aload 0), .inl (.iload 1), .inl (.iload 2), .inr (5, 3, 0), .inr (7, 9, 1)]),
  ([true, true, true, true, false, false], [.inl (.istore 5), .inl (.iload 2), .inl (.iconst 5), .inl (.if_icmp .ne 10), .inl (.aload 0), .inr (0, 6, 5), .inl (.iload 1), .inl (.aload 0), .inl (.iload 3), .inl .i2l, .inr (5, 4, 0), .inl .iastore, .inr (7, 11, 0)]),
  ([true, true, true, true, false, true], [.inl (.aload 0), .inr (0, 6, 4), .inl (.iconst 5), .inl (.iload 1), .inl .imul, .inl (.iload 2), .inl .iadd, .inl (.iload 3), .inl .iastore, .inr (7, 11, 1)]),
  ([false, false, false, false, false, true], [.inl (.iload 5), .inl .ireturn])]
def g_6_change : List (Nat × dk_S) := [(3, s_6_in), (2, s_6_isRank), (2, s_6_finds), (3, s_6_its), (2, s_6_wrapped)]
def s_6_change : dk_S := dk_MV 6 g_6_change b_6_change 6
theorem h_6_change : dk_monoG g_6_change := dk_monoG_cons o_6_in (dk_monoG_cons o_6_isRank (dk_monoG_cons o_6_finds (dk_monoG_cons o_6_its (dk_monoG_cons o_6_wrapped (dk_monoG_nil)))))
theorem o_6_change : dk_mono s_6_change := dk_MV_mono _ h_6_change _ _
def t_6_change : dk_Tm := (tc_6, [(88, 1, 0), (240, 0, 1), (101, 0, 2), (194, 0, 3), (105, 0, 4)], [0, 10, 20, 36, 45, 46, 61, 67, 81, 87, 109, 120], 0)
def y_6_drum : MethodName := ⟨nn_R6, "drum", "(III)I"⟩
def b_6_drum : dk_T := [
  ([true, true, true, true], [.inl (.iload 1), .inr (5, 0, 1), .inl (.ifCond .eq 1), .inl (.iload 2), .inl (.iconst 1), .inl (.iconst 99), .inr (5, 1, 1), .inl (.ifCond .eq 1), .inl (.iload 3), .inl (.iconst (-999)), .inl (.iconst 999), .inr (5, 1, 1), .inl (.ifCond .ne 2), .inr (7, 1, 1)]),
  ([true, false, false, false], [.inl (.aload 0), .inl (.iconst 0), .inr (5, 2, 0), .inl .ireturn]),
  ([true, true, true, true], [.inl (.aload 0), .inr (0, 6, 6), .inl (.iconst 6), .inl (.if_icmp .ne 3), .inl (.aload 0), .inl (.iconst 1), .inr (5, 2, 0), .inl .ireturn]),
  ([true, true, true, true], [.inl (.aload 0), .inr (0, 6, 7), .inl (.iconst 3), .inl (.aload 0), .inr (0, 6, 6), .inl .imul, .inl (.iload 1), .inl .iastore, .inl (.aload 0), .inr (0, 6, 7), .inl (.iconst 3), .inl (.aload 0), .inr (0, 6, 6), .inl .imul, .inl (.iconst 1), .inl .iadd, .inl (.iload 2), .inl .iastore, .inl (.aload 0), .inr (0, 6, 7), .inl (.iconst 3), .inl (.aload 0), .inr (0, 6, 6), .inl .imul, .inl (.iconst 2), .inl .iadd, .inl (.iload 3), .inl .iastore, .inl (.aload 0), .inl .dup, .inr (0, 6, 6), .inl (.iconst 1), .inl .iadd, .inr (1, 6, 6), .inl (.aload 0), .inr (0, 6, 6), .inl (.iconst 1), .inl .isub, .inl .ireturn])]
def g_6_drum : List (Nat × dk_S) := [(1, s_6_isPlace), (3, s_6_in), (2, s_6_finds)]
def s_6_drum : dk_S := dk_MV 6 g_6_drum b_6_drum 4
theorem h_6_drum : dk_monoG g_6_drum := dk_monoG_cons o_6_isPlace (dk_monoG_cons o_6_in (dk_monoG_cons o_6_finds (dk_monoG_nil)))
theorem o_6_drum : dk_mono s_6_drum := dk_MV_mono _ h_6_drum _ _
def t_6_drum : dk_Tm := (tc_6, [(197, 1, 0), (88, 1, 1), (101, 0, 2)], [0, 30, 36, 51], 0)
def y_6_isDrum : MethodName := ⟨nn_R6, "isDrum", "(I)Z"⟩
def b_6_isDrum : dk_T := [
  ([true, true], [.inl (.iload 1), .inl (.iconst 0), .inl (.aload 0), .inr (0, 6, 6), .inl (.iconst 1), .inl .isub, .inr (5, 0, 1), .inl .lreturn])]
def g_6_isDrum : List (Nat × dk_S) := [(3, s_6_in)]
def s_6_isDrum : dk_S := dk_MV 6 g_6_isDrum b_6_isDrum 2
theorem h_6_isDrum : dk_monoG g_6_isDrum := dk_monoG_cons o_6_in (dk_monoG_nil)
theorem o_6_isDrum : dk_mono s_6_isDrum := dk_MV_mono _ h_6_isDrum _ _
def t_6_isDrum : dk_Tm := (tc_6, [(88, 1, 0)], [0], 1)
def y_6_drumOf : MethodName := ⟨nn_R6, "drumOf", "(II)I"⟩
def b_6_drumOf : dk_T := [
  ([true, true, true], [.inl (.aload 0), .inl (.iload 1), .inr (5, 0, 0), .inl (.ifCond .eq 1), .inl (.iload 2), .inl (.iconst 0), .inl (.iconst 2), .inr (5, 1, 1), .inl (.ifCond .eq 1), .inl (.aload 0), .inr (0, 6, 7), .inl (.iconst 3), .inl (.iload 1), .inl .imul, .inl (.iload 2), .inl .iadd, .inl .iaload, .inr (7, 2, 0)]),
  ([true, false, false], [.inl (.aload 0), .inl (.iconst 0), .inr (5, 2, 0), .inr (7, 2, 1)]),
  ([false, false, false], [.inl .ireturn])]
def g_6_drumOf : List (Nat × dk_S) := [(2, s_6_isDrum), (3, s_6_in), (2, s_6_finds)]
def s_6_drumOf : dk_S := dk_MV 6 g_6_drumOf b_6_drumOf 3
theorem h_6_drumOf : dk_monoG g_6_drumOf := dk_monoG_cons o_6_isDrum (dk_monoG_cons o_6_in (dk_monoG_cons o_6_finds (dk_monoG_nil)))
theorem o_6_drumOf : dk_mono s_6_drumOf := dk_MV_mono _ h_6_drumOf _ _
def t_6_drumOf : dk_Tm := (tc_6, [(243, 0, 0), (88, 1, 1), (101, 0, 2)], [0, 30, 35], 0)
def y_6_carry : MethodName := ⟨nn_R6, "carry", "(II)I"⟩
def b_6_carry : dk_T := [
  ([true, true, true, false], [.inl (.aload 0), .inl (.iload 1), .inr (5, 0, 0), .inl (.ifCond .eq 1), .inl (.iload 2), .inr (5, 1, 1), .inl (.ifCond .ne 2), .inr (7, 1, 1)]),
  ([true, false, false, false], [.inl (.aload 0), .inl (.iconst 0), .inr (5, 2, 0), .inl .ireturn]),
  ([true, true, true, false], [.inl (.aload 0), .inr (0, 6, 7), .inl (.iconst 3), .inl (.iload 1), .inl .imul, .inl .iaload, .inl (.istore 3), .inl (.aload 0), .inr (0, 6, 7), .inl (.iconst 3), .inl (.iload 1), .inl .imul, .inl (.iload 2), .inl .iastore, .inl (.iload 3), .inl .ireturn])]
def g_6_carry : List (Nat × dk_S) := [(2, s_6_isDrum), (1, s_6_isPlace), (2, s_6_finds)]
def s_6_carry : dk_S := dk_MV 6 g_6_carry b_6_carry 4
theorem h_6_carry : dk_monoG g_6_carry := dk_monoG_cons o_6_isDrum (dk_monoG_cons o_6_isPlace (dk_monoG_cons o_6_finds (dk_monoG_nil)))
theorem o_6_carry : dk_mono s_6_carry := dk_MV_mono _ h_6_carry _ _
def t_6_carry : dk_Tm := (tc_6, [(243, 0, 0), (197, 1, 1), (101, 0, 2)], [0, 15, 21], 0)
def y_6_bend : MethodName := ⟨nn_R6, "bend", "(I)I"⟩
def b_6_bend : dk_T := [
  ([true, true], [.inl (.iload 1), .inr (5, 0, 1), .inl (.ifCond .ne 1), .inl (.aload 0), .inl (.iconst 0), .inr (5, 1, 0), .inl .ireturn]),
  ([true, true], [.inl (.aload 0), .inr (0, 6, 8), .inl (.iconst 6), .inl (.if_icmp .ne 2), .inl (.aload 0), .inl (.iconst 1), .inr (5, 1, 0), .inl .ireturn]),
  ([true, true], [.inl (.aload 0), .inr (0, 6, 9), .inl (.aload 0), .inr (0, 6, 8), .inl (.iload 1), .inl .iastore, .inl (.aload 0), .inl .dup, .inr (0, 6, 8), .inl (.iconst 1), .inl .iadd, .inr (1, 6, 8), .inl (.aload 0), .inr (0, 6, 8), .inl .ireturn])]
def g_6_bend : List (Nat × dk_S) := [(1, s_6_isPlace), (2, s_6_finds)]
def s_6_bend : dk_S := dk_MV 6 g_6_bend b_6_bend 2
theorem h_6_bend : dk_monoG g_6_bend := dk_monoG_cons o_6_isPlace (dk_monoG_cons o_6_finds (dk_monoG_nil))
theorem o_6_bend : dk_mono s_6_bend := dk_MV_mono _ h_6_bend _ _
def t_6_bend : dk_Tm := (tc_6, [(197, 1, 0), (101, 0, 1)], [0, 13, 28], 0)
def y_6_goes : MethodName := ⟨nn_R6, "goes", "()V"⟩
def b_6_goes : dk_T := [
  ([true, false], [.inl (.iconst 0), .inl (.istore 1), .inr (7, 1, 1)]),
  ([true, true], [.inl (.iload 1), .inl (.aload 0), .inr (0, 6, 3), .inl (.if_icmp .ge 2), .inl (.aload 0), .inr (0, 6, 24), .inl (.iload 1), .inl (.aload 0), .inl (.aload 0), .inr (0, 6, 23), .inl (.iload 1), .inl .iaload, .inl .i2l, .inl (.aload 0), .inl (.iload 1), .inr (5, 0, 0), .inl .i2l, .inl .ladd, .inr (5, 1, 0), .inl .iastore, .inl (.iinc 1 (1)), .inr (7, 1, 0)]),
  ([true, false], [.inl (.iconst 0), .inl (.istore 1), .inr (7, 3, 1)]),
  ([true, true], [.inl (.iload 1), .inl (.aload 0), .inr (0, 6, 3), .inl (.if_icmp .ge 4), .inl (.aload 0), .inr (0, 6, 23), .inl (.iload 1), .inl (.aload 0), .inr (0, 6, 24), .inl (.iload 1), .inl .iaload, .inl .iastore, .inl (.iinc 1 (1)), .inr (7, 3, 0)]),
  ([false, false], [.inl .return_])]
def g_6_goes : List (Nat × dk_S) := [(2, s_6_turn), (2, s_6_wrapped)]
def s_6_goes : dk_S := dk_MV 6 g_6_goes b_6_goes 2
theorem h_6_goes : dk_monoG g_6_goes := dk_monoG_cons o_6_turn (dk_monoG_cons o_6_wrapped (dk_monoG_nil))
theorem o_6_goes : dk_mono s_6_goes := dk_MV_mono _ h_6_goes _ _
def t_6_goes : dk_Tm := (tc_6, [(224, 0, 0), (105, 0, 1)], [0, 2, 40, 42, 68], 2)
def y_6_goesOn : MethodName := ⟨nn_R6, "goesOn", "(I)V"⟩
def b_6_goesOn : dk_T := [
  ([true, true, false], [.inl (.iconst 0), .inl (.istore 2), .inr (7, 1, 1)]),
  ([true, true, true], [.inl (.iload 2), .inl (.iload 1), .inl (.if_icmp .ge 2), .inl (.aload 0), .inr (5, 0, 0), .inl (.iinc 2 (1)), .inr (7, 1, 0)]),
  ([false, false, false], [.inl .return_])]
def g_6_goesOn : List (Nat × dk_S) := [(1, s_6_goes)]
def s_6_goesOn : dk_S := dk_MV 6 g_6_goesOn b_6_goesOn 3
theorem h_6_goesOn : dk_monoG g_6_goesOn := dk_monoG_cons o_6_goes (dk_monoG_nil)
theorem o_6_goesOn : dk_mono s_6_goesOn := dk_MV_mono _ h_6_goesOn _ _
def t_6_goesOn : dk_Tm := (tc_6, [(227, 0, 0)], [0, 2, 17], 2)
def y_6_worstNow : MethodName := ⟨nn_R6, "worstNow", "()I"⟩
def b_6_worstNow : dk_T := [
  ([true, false, false], [.inl (.iconst 0), .inl (.istore 1), .inl (.iconst 0), .inl (.istore 2), .inr (7, 1, 1)]),
  ([true, true, true], [.inl (.iload 2), .inl (.aload 0), .inr (0, 6, 3), .inl (.if_icmp .ge 4), .inl (.aload 0), .inr (0, 6, 23), .inl (.iload 2), .inl .iaload, .inr (5, 0, 1), .inl (.iload 1), .inl (.if_icmp .le 2), .inl (.aload 0), .inr (0, 6, 23), .inl (.iload 2), .inl .iaload, .inr (5, 0, 1), .inr (7, 3, 0)]),
  ([true, true, true], [.inl (.iload 1), .inr (7, 3, 1)]),
  ([true, false, true], [.inl (.istore 1), .inl (.iinc 2 (1)), .inr (7, 1, 0)]),
  ([false, true, false], [.inl (.iload 1), .inl .ireturn])]
def g_6_worstNow : List (Nat × dk_S) := [(1, s_6_size)]
def s_6_worstNow : dk_S := dk_MV 6 g_6_worstNow b_6_worstNow 3
theorem h_6_worstNow : dk_monoG g_6_worstNow := dk_monoG_cons o_6_size (dk_monoG_nil)
theorem o_6_worstNow : dk_mono s_6_worstNow := dk_MV_mono _ h_6_worstNow _ _
def t_6_worstNow : dk_Tm := (tc_6, [(203, 1, 0)], [0, 4, 37, 38, 45], 0)
def y_6_worstBehind : MethodName := ⟨nn_R6, "worstBehind", "(I)I"⟩
def b_6_worstBehind : dk_T := [
  ([true, true], [.inl (.aload 0), .inr (5, 0, 0), .inl (.aload 0), .inl (.iload 1), .inr (5, 1, 0), .inl (.aload 0), .inr (5, 2, 0), .inl .ireturn])]
def g_6_worstBehind : List (Nat × dk_S) := [(1, s_6_beginMarch), (2, s_6_goesOn), (1, s_6_worstNow)]
def s_6_worstBehind : dk_S := dk_MV 6 g_6_worstBehind b_6_worstBehind 2
theorem h_6_worstBehind : dk_monoG g_6_worstBehind := dk_monoG_cons o_6_beginMarch (dk_monoG_cons o_6_goesOn (dk_monoG_cons o_6_worstNow (dk_monoG_nil)))
theorem o_6_worstBehind : dk_mono s_6_worstBehind := dk_MV_mono _ h_6_worstBehind _ _
def t_6_worstBehind : dk_Tm := (tc_6, [(230, 0, 0), (233, 0, 1), (237, 0, 2)], [0], 0)
def y_6_tread : MethodName := ⟨nn_R6, "tread", "(I)I"⟩
def b_6_tread : dk_T := [
  ([true, true, false, false], [.inl (.iload 1), .inl (.iconst 1), .inl (.iconst 99), .inr (5, 0, 1), .inl (.ifCond .ne 1), .inl (.aload 0), .inl (.iconst 0), .inr (5, 1, 0), .inl .ireturn]),
  ([true, true, false, false], [.inl (.aload 0), .inr (0, 6, 3), .inl (.ifCond .ne 2), .inl (.aload 0), .inl (.iconst 3), .inr (5, 1, 0), .inl .ireturn]),
  ([true, true, false, false], [.inl (.aload 0), .inl (.iload 1), .inr (5, 2, 0), .inl (.istore 2), .inl (.iconst 0), .inl (.istore 3), .inr (7, 3, 1)]),
  ([true, false, true, true], [.inl (.iload 3), .inl (.aload 0), .inr (0, 6, 3), .inl (.if_icmp .ge 4), .inl (.aload 0), .inr (0, 6, 5), .inl (.iload 3), .inl (.aload 0), .inr (0, 6, 23), .inl (.iload 3), .inl .iaload, .inl .iastore, .inl (.iinc 3 (1)), .inr (7, 3, 0)]),
  ([false, false, true, false], [.inl (.iload 2), .inl .ireturn])]
def g_6_tread : List (Nat × dk_S) := [(3, s_6_in), (2, s_6_finds), (2, s_6_worstBehind)]
def s_6_tread : dk_S := dk_MV 6 g_6_tread b_6_tread 4
theorem h_6_tread : dk_monoG g_6_tread := dk_monoG_cons o_6_in (dk_monoG_cons o_6_finds (dk_monoG_cons o_6_worstBehind (dk_monoG_nil)))
theorem o_6_tread : dk_mono s_6_tread := dk_MV_mono _ h_6_tread _ _
def t_6_tread : dk_Tm := (tc_6, [(88, 1, 0), (101, 0, 1), (246, 0, 2)], [0, 16, 29, 37, 63], 0)
def y_6_march : MethodName := ⟨nn_R6, "march", "(II)I"⟩
def b_6_march : dk_T := [
  ([true, true, true], [.inl (.aload 0), .inl (.iload 1), .inr (5, 0, 0), .inl (.ifCond .eq 1), .inl (.iload 2), .inl (.iconst 0), .inl (.iconst 200), .inr (5, 1, 1), .inl (.ifCond .ne 2), .inr (7, 1, 1)]),
  ([true, false, false], [.inl (.aload 0), .inl (.iconst 0), .inr (5, 2, 0), .inl .ireturn]),
  ([true, true, true], [.inl (.aload 0), .inr (5, 3, 0), .inl (.aload 0), .inl (.iload 2), .inr (5, 4, 0), .inl (.aload 0), .inr (0, 6, 23), .inl (.iload 1), .inl .iaload, .inl .ireturn])]
def g_6_march : List (Nat × dk_S) := [(2, s_6_isRank), (3, s_6_in), (2, s_6_finds), (1, s_6_beginMarch), (2, s_6_goesOn)]
def s_6_march : dk_S := dk_MV 6 g_6_march b_6_march 3
theorem h_6_march : dk_monoG g_6_march := dk_monoG_cons o_6_isRank (dk_monoG_cons o_6_in (dk_monoG_cons o_6_finds (dk_monoG_cons o_6_beginMarch (dk_monoG_cons o_6_goesOn (dk_monoG_nil)))))
theorem o_6_march : dk_mono s_6_march := dk_MV_mono _ h_6_march _ _
def t_6_march : dk_Tm := (tc_6, [(240, 0, 0), (88, 1, 1), (101, 0, 2), (230, 0, 3), (233, 0, 4)], [0, 19, 25], 0)
def y_6_worst : MethodName := ⟨nn_R6, "worst", "(I)I"⟩
def b_6_worst : dk_T := [
  ([true, true], [.inl (.iload 1), .inl (.iconst 0), .inl (.iconst 200), .inr (5, 0, 1), .inl (.ifCond .ne 1), .inl (.aload 0), .inl (.iconst 0), .inr (5, 1, 0), .inl .ireturn]),
  ([true, true], [.inl (.aload 0), .inr (0, 6, 3), .inl (.ifCond .ne 2), .inl (.aload 0), .inl (.iconst 3), .inr (5, 1, 0), .inr (7, 3, 0)]),
  ([true, true], [.inl (.aload 0), .inl (.iload 1), .inr (5, 2, 0), .inr (7, 3, 1)]),
  ([false, false], [.inl .ireturn])]
def g_6_worst : List (Nat × dk_S) := [(3, s_6_in), (2, s_6_finds), (2, s_6_worstBehind)]
def s_6_worst : dk_S := dk_MV 6 g_6_worst b_6_worst 2
theorem h_6_worst : dk_monoG g_6_worst := dk_monoG_cons o_6_in (dk_monoG_cons o_6_finds (dk_monoG_cons o_6_worstBehind (dk_monoG_nil)))
theorem o_6_worst : dk_mono s_6_worst := dk_MV_mono _ h_6_worst _ _
def t_6_worst : dk_Tm := (tc_6, [(88, 1, 0), (101, 0, 1), (246, 0, 2)], [0, 17, 32, 37], 0)
def y_6_right : MethodName := ⟨nn_R6, "right", "(II)I"⟩
def b_6_right : dk_T := [
  ([true, true, true, false, false], [.inl (.iload 1), .inl (.iconst 0), .inl (.iconst 999), .inr (5, 0, 1), .inl (.ifCond .eq 1), .inl (.iload 2), .inl (.iconst 0), .inl (.iconst 200), .inr (5, 0, 1), .inl (.ifCond .ne 2), .inr (7, 1, 1)]),
  ([true, false, false, false, false], [.inl (.aload 0), .inl (.iconst 0), .inr (5, 1, 0), .inl .ireturn]),
  ([true, true, true, false, false], [.inl (.aload 0), .inr (5, 2, 0), .inl (.aload 0), .inl (.iload 2), .inr (5, 3, 0), .inl (.iconst 0), .inl (.istore 3), .inl (.iconst 0), .inl (.istore 4), .inr (7, 3, 1)]),
  ([true, true, false, true, true], [.inl (.iload 4), .inl (.aload 0), .inr (0, 6, 3), .inl (.if_icmp .ge 6), .inl (.iload 3), .inl (.aload 0), .inr (0, 6, 23), .inl (.iload 4), .inl .iaload, .inr (5, 4, 1), .inl (.iload 1), .inl (.if_icmp .gt 4), .inl (.iconst 1), .inl (.iload 4), .inl .ishl, .inr (7, 5, 0)]),
  ([true, true, false, false, true], [.inl (.iconst 0), .inr (7, 5, 1)]),
  ([true, true, false, false, true], [.inl .ior, .inl (.istore 3), .inl (.iinc 4 (1)), .inr (7, 3, 0)]),
  ([false, false, false, true, false], [.inl (.iload 3), .inl .ireturn])]
def g_6_right : List (Nat × dk_S) := [(3, s_6_in), (2, s_6_finds), (1, s_6_beginMarch), (2, s_6_goesOn), (1, s_6_size)]
def s_6_right : dk_S := dk_MV 6 g_6_right b_6_right 5
theorem h_6_right : dk_monoG g_6_right := dk_monoG_cons o_6_in (dk_monoG_cons o_6_finds (dk_monoG_cons o_6_beginMarch (dk_monoG_cons o_6_goesOn (dk_monoG_cons o_6_size (dk_monoG_nil)))))
theorem o_6_right : dk_mono s_6_right := dk_MV_mono _ h_6_right _ _
def t_6_right : dk_Tm := (tc_6, [(88, 1, 0), (101, 0, 1), (230, 0, 2), (233, 0, 3), (203, 1, 4)], [0, 22, 28, 42, 73, 74, 82], 0)
def y_6_tellMarch : MethodName := ⟨nn_R6, "tellMarch", "(I)V"⟩
def b_6_tellMarch : dk_T := [
  ([true, true, false, false], [.inl (.aload 0), .inr (5, 0, 0), .inl (.iconst 0), .inl (.istore 2), .inr (7, 1, 1)]),
  ([true, true, true, false], [.inl (.iload 2), .inl (.iload 1), .inl (.if_icmp .gt 4), .inl (.iconst 0), .inl (.istore 3), .inr (7, 2, 1)]),
  ([true, true, true, true], [.inl (.iload 3), .inl (.aload 0), .inr (0, 6, 3), .inl (.if_icmp .ge 3), .inl (.aload 0), .inr (0, 6, 25), .inl (.iconst 24), .inl (.iload 2), .inl .imul, .inl (.iload 3), .inl .iadd, .inl (.aload 0), .inr (0, 6, 23), .inl (.iload 3), .inl .iaload, .inl .iastore, .inl (.iinc 3 (1)), .inr (7, 2, 0)]),
  ([true, true, true, false], [.inl (.aload 0), .inr (5, 1, 0), .inl (.iinc 2 (1)), .inr (7, 1, 0)]),
  ([false, false, false, false], [.inl .return_])]
def g_6_tellMarch : List (Nat × dk_S) := [(1, s_6_beginMarch), (1, s_6_goes)]
def s_6_tellMarch : dk_S := dk_MV 6 g_6_tellMarch b_6_tellMarch 4
theorem h_6_tellMarch : dk_monoG g_6_tellMarch := dk_monoG_cons o_6_beginMarch (dk_monoG_cons o_6_goes (dk_monoG_nil))
theorem o_6_tellMarch : dk_mono s_6_tellMarch := dk_MV_mono _ h_6_tellMarch _ _
def t_6_tellMarch : dk_Tm := (tc_6, [(230, 0, 0), (227, 0, 1)], [0, 6, 13, 44, 54], 2)
def y_6_isAlike : MethodName := ⟨nn_R6, "isAlike", "(II)Z"⟩
def b_6_isAlike : dk_T := [
  ([true, true, true, false], [.inl (.iconst 0), .inl (.istore 3), .inr (7, 1, 1)]),
  ([true, true, true, true], [.inl (.iload 3), .inl (.aload 0), .inr (0, 6, 3), .inl (.if_icmp .ge 3), .inl (.aload 0), .inr (0, 6, 25), .inl (.iconst 24), .inl (.iload 1), .inl .imul, .inl (.iload 3), .inl .iadd, .inl .iaload, .inl (.aload 0), .inr (0, 6, 25), .inl (.iconst 24), .inl (.iload 2), .inl .imul, .inl (.iload 3), .inl .iadd, .inl .iaload, .inl (.if_icmp .eq 2), .inl (.iconst 0), .inl .lreturn]),
  ([true, true, true, true], [.inl (.iinc 3 (1)), .inr (7, 1, 0)]),
  ([false, false, false, false], [.inl (.iconst 1), .inl .lreturn])]
def g_6_isAlike : List (Nat × dk_S) := []
def s_6_isAlike : dk_S := dk_MV 6 g_6_isAlike b_6_isAlike 4
theorem h_6_isAlike : dk_monoG g_6_isAlike := dk_monoG_nil
theorem o_6_isAlike : dk_mono s_6_isAlike := dk_MV_mono _ h_6_isAlike _ _
def t_6_isAlike : dk_Tm := (tc_6, [], [0, 2, 37, 43], 1)
def y_6_settles : MethodName := ⟨nn_R6, "settles", "()I"⟩
def b_6_settles : dk_T := [
  ([true, false], [.inl (.aload 0), .inl (.iconst 201), .inr (5, 0, 0), .inl (.iconst 0), .inl (.istore 1), .inr (7, 1, 1)]),
  ([true, true], [.inl (.iload 1), .inl (.iconst 200), .inl (.if_icmp .gt 3), .inl (.aload 0), .inl (.iload 1), .inl (.iload 1), .inl (.iconst 1), .inl .iadd, .inr (5, 1, 0), .inl (.ifCond .eq 2), .inl (.iload 1), .inl .ireturn]),
  ([true, true], [.inl (.iinc 1 (1)), .inr (7, 1, 0)]),
  ([true, false], [.inl (.aload 0), .inl (.iconst 3), .inr (5, 2, 0), .inl .ireturn])]
def g_6_settles : List (Nat × dk_S) := [(2, s_6_tellMarch), (3, s_6_isAlike), (2, s_6_finds)]
def s_6_settles : dk_S := dk_MV 6 g_6_settles b_6_settles 2
theorem h_6_settles : dk_monoG g_6_settles := dk_monoG_cons o_6_tellMarch (dk_monoG_cons o_6_isAlike (dk_monoG_cons o_6_finds (dk_monoG_nil)))
theorem o_6_settles : dk_mono s_6_settles := dk_MV_mono _ h_6_settles _ _
def t_6_settles : dk_Tm := (tc_6, [(249, 0, 0), (252, 0, 1), (101, 0, 2)], [0, 9, 29, 35], 0)
def y_6_round : MethodName := ⟨nn_R6, "round", "(I)I"⟩
def b_6_round : dk_T := [
  ([true, true, false, false], [.inl (.iload 1), .inl (.iconst 0), .inl (.iconst 1), .inr (5, 0, 1), .inl (.ifCond .ne 1), .inl (.aload 0), .inl (.iconst 0), .inr (5, 1, 0), .inl .ireturn]),
  ([true, true, false, false], [.inl (.aload 0), .inl (.iconst 200), .inr (5, 2, 0), .inl (.iconst 0), .inl (.istore 2), .inr (7, 2, 1)]),
  ([true, true, true, false], [.inl (.iload 2), .inl (.iconst 200), .inl (.if_icmp .ge 8), .inl (.iconst 1), .inl (.istore 3), .inr (7, 3, 1)]),
  ([true, true, true, true], [.inl (.iload 2), .inl (.iload 3), .inl .iadd, .inl (.iconst 200), .inl (.if_icmp .gt 7), .inl (.aload 0), .inl (.iload 2), .inl (.iload 2), .inl (.iload 3), .inl .iadd, .inr (5, 3, 0), .inl (.ifCond .eq 6), .inl (.iload 1), .inl (.ifCond .ne 4), .inl (.iload 2), .inr (7, 5, 0)]),
  ([false, false, false, true], [.inl (.iload 3), .inr (7, 5, 1)]),
  ([false, false, false, false], [.inl .ireturn]),
  ([true, true, true, true], [.inl (.iinc 3 (1)), .inr (7, 3, 0)]),
  ([true, true, true, false], [.inl (.iinc 2 (1)), .inr (7, 2, 0)]),
  ([true, false, false, false], [.inl (.aload 0), .inl (.iconst 3), .inr (5, 1, 0), .inl .ireturn])]
def g_6_round : List (Nat × dk_S) := [(3, s_6_in), (2, s_6_finds), (2, s_6_tellMarch), (3, s_6_isAlike)]
def s_6_round : dk_S := dk_MV 6 g_6_round b_6_round 4
theorem h_6_round : dk_monoG g_6_round := dk_monoG_cons o_6_in (dk_monoG_cons o_6_finds (dk_monoG_cons o_6_tellMarch (dk_monoG_cons o_6_isAlike (dk_monoG_nil))))
theorem o_6_round : dk_mono s_6_round := dk_MV_mono _ h_6_round _ _
def t_6_round : dk_Tm := (tc_6, [(88, 1, 0), (101, 0, 1), (249, 0, 2), (252, 0, 3)], [0, 15, 24, 33, 61, 62, 63, 69, 75], 0)
def y_6_better : MethodName := ⟨nn_R6, "better", "(I)I"⟩
def b_6_better : dk_T := [
  ([true, true, false, false, false, false], [.inl (.iload 1), .inl (.iconst 1), .inl (.iconst 200), .inr (5, 0, 1), .inl (.ifCond .ne 1), .inl (.aload 0), .inl (.iconst 0), .inr (5, 1, 0), .inl .ireturn]),
  ([true, true, false, false, false, false], [.inl (.aload 0), .inr (5, 2, 0), .inl (.iconst 0), .inl (.istore 2), .inl (.aload 0), .inr (5, 3, 0), .inl (.istore 3), .inl (.iconst 0), .inl (.istore 4), .inr (7, 2, 1)]),
  ([true, true, true, true, true, false], [.inl (.iload 4), .inl (.iload 1), .inl (.if_icmp .ge 5), .inl (.aload 0), .inr (5, 4, 0), .inl (.aload 0), .inr (5, 3, 0), .inl (.istore 5), .inl (.iload 2), .inl (.iload 5), .inl (.iload 3), .inl (.if_icmp .ge 3), .inl (.iconst 1), .inr (7, 4, 0)]),
  ([true, true, false, false, true, true], [.inl (.iconst 0), .inr (7, 4, 1)]),
  ([true, true, false, false, true, true], [.inl .iadd, .inl (.istore 2), .inl (.iload 5), .inl (.istore 3), .inl (.iinc 4 (1)), .inr (7, 2, 0)]),
  ([false, false, true, false, false, false], [.inl (.iload 2), .inl .ireturn])]
def g_6_better : List (Nat × dk_S) := [(3, s_6_in), (2, s_6_finds), (1, s_6_beginMarch), (1, s_6_worstNow), (1, s_6_goes)]
def s_6_better : dk_S := dk_MV 6 g_6_better b_6_better 6
theorem h_6_better : dk_monoG g_6_better := dk_monoG_cons o_6_in (dk_monoG_cons o_6_finds (dk_monoG_cons o_6_beginMarch (dk_monoG_cons o_6_worstNow (dk_monoG_cons o_6_goes (dk_monoG_nil)))))
theorem o_6_better : dk_mono s_6_better := dk_MV_mono _ h_6_better _ _
def t_6_better : dk_Tm := (tc_6, [(88, 1, 0), (101, 0, 1), (230, 0, 2), (237, 0, 3), (227, 0, 4)], [0, 17, 31, 58, 59, 70], 0)
def y_6_place : MethodName := ⟨nn_R6, "place", "(II)I"⟩
def b_6_place : dk_T := [
  ([true, true, true, false, false, false, false, false], [.inl (.aload 0), .inl (.iload 1), .inr (5, 0, 0), .inl (.ifCond .eq 1), .inl (.iload 2), .inl (.iconst 0), .inl (.iconst 50), .inr (5, 1, 1), .inl (.ifCond .ne 2), .inr (7, 1, 1)]),
  ([true, false, false, false, false, false, false, false], [.inl (.aload 0), .inl (.iconst 0), .inr (5, 2, 0), .inl .ireturn]),
  ([true, true, true, false, false, false, false, false], [.inl (.aload 0), .inr (0, 6, 3), .inl (.ifCond .ne 3), .inl (.aload 0), .inl (.iconst 3), .inr (5, 2, 0), .inl .ireturn]),
  ([true, true, true, false, false, false, false, false], [.inl (.aload 0), .inr (0, 6, 7), .inl (.iconst 3), .inl (.iload 1), .inl .imul, .inl .iaload, .inl (.istore 3), .inl (.iconst 0), .inl (.istore 4), .inl (.iconst (-1)), .inl (.istore 5), .inl (.iconst 0), .inl (.istore 6), .inr (7, 4, 1)]),
  ([true, true, true, true, true, true, true, false], [.inl (.iload 6), .inl (.aload 0), .inr (0, 6, 3), .inl (.if_icmp .ge 7), .inl (.aload 0), .inr (0, 6, 7), .inl (.iconst 3), .inl (.iload 1), .inl .imul, .inl (.aload 0), .inl (.iload 6), .inl (.iconst 1), .inr (5, 3, 0), .inl .iastore, .inl (.aload 0), .inl (.iload 2), .inr (5, 4, 0), .inl (.istore 7), .inl (.iload 5), .inl (.ifCond .lt 5), .inl (.iload 7), .inl (.iload 5), .inl (.if_icmp .ge 6), .inr (7, 5, 1)]),
  ([true, true, true, true, false, false, true, true], [.inl (.iload 7), .inl (.istore 5), .inl (.iload 6), .inl (.istore 4), .inr (7, 6, 1)]),
  ([true, true, true, true, true, true, true, false], [.inl (.iinc 6 (1)), .inr (7, 4, 0)]),
  ([true, true, false, true, true, false, false, false], [.inl (.aload 0), .inr (0, 6, 7), .inl (.iconst 3), .inl (.iload 1), .inl .imul, .inl (.iload 3), .inl .iastore, .inl (.iload 4), .inl .ireturn])]
def g_6_place : List (Nat × dk_S) := [(2, s_6_isDrum), (3, s_6_in), (2, s_6_finds), (3, s_6_its), (2, s_6_worstBehind)]
def s_6_place : dk_S := dk_MV 6 g_6_place b_6_place 8
theorem h_6_place : dk_monoG g_6_place := dk_monoG_cons o_6_isDrum (dk_monoG_cons o_6_in (dk_monoG_cons o_6_finds (dk_monoG_cons o_6_its (dk_monoG_cons o_6_worstBehind (dk_monoG_nil)))))
theorem o_6_place : dk_mono s_6_place := dk_MV_mono _ h_6_place _ _
def t_6_place : dk_Tm := (tc_6, [(243, 0, 0), (88, 1, 1), (101, 0, 2), (194, 0, 3), (246, 0, 4)], [0, 18, 24, 37, 55, 98, 106, 112], 0)
def y_6_areTwo : MethodName := ⟨nn_R6, "areTwo", "(II)Z"⟩
def b_6_areTwo : dk_T := [
  ([true, true, true], [.inl (.aload 0), .inl (.iload 1), .inr (5, 0, 0), .inl (.ifCond .eq 1), .inl (.aload 0), .inl (.iload 2), .inr (5, 0, 0), .inl (.ifCond .eq 1), .inl (.iload 1), .inl (.iload 2), .inl (.if_icmp .eq 1), .inl (.iconst 1), .inr (7, 2, 0)]),
  ([false, false, false], [.inl (.iconst 0), .inr (7, 2, 1)]),
  ([false, false, false], [.inl .lreturn])]
def g_6_areTwo : List (Nat × dk_S) := [(2, s_6_isDrum)]
def s_6_areTwo : dk_S := dk_MV 6 g_6_areTwo b_6_areTwo 3
theorem h_6_areTwo : dk_monoG g_6_areTwo := dk_monoG_cons o_6_isDrum (dk_monoG_nil)
theorem o_6_areTwo : dk_mono s_6_areTwo := dk_MV_mono _ h_6_areTwo _ _
def t_6_areTwo : dk_Tm := (tc_6, [(243, 0, 0)], [0, 25, 26], 1)
def y_6_both : MethodName := ⟨nn_R6, "both", "(III)I"⟩
def b_6_both : dk_T := [
  ([true, true, true, true, false, false, false, false, false, false, false], [.inl (.aload 0), .inl (.iload 1), .inl (.iload 2), .inr (5, 0, 0), .inl (.ifCond .eq 1), .inl (.iload 3), .inl (.iconst 0), .inl (.iconst 9), .inr (5, 1, 1), .inl (.ifCond .ne 2), .inr (7, 1, 1)]),
  ([true, false, false, false, false, false, false, false, false, false, false], [.inl (.aload 0), .inl (.iconst 0), .inr (5, 2, 0), .inl .ireturn]),
  ([true, true, true, true, false, false, false, false, false, false, false], [.inl (.aload 0), .inr (0, 6, 3), .inl (.ifCond .ne 3), .inl (.aload 0), .inl (.iconst 3), .inr (5, 2, 0), .inl .ireturn]),
  ([true, true, true, true, false, false, false, false, false, false, false], [.inl (.aload 0), .inr (0, 6, 7), .inl (.iconst 3), .inl (.iload 1), .inl .imul, .inl .iaload, .inl (.istore 4), .inl (.aload 0), .inr (0, 6, 7), .inl (.iconst 3), .inl (.iload 2), .inl .imul, .inl .iaload, .inl (.istore 5), .inl (.iconst 0), .inl (.istore 6), .inl (.iconst (-1)), .inl (.istore 7), .inl (.iconst 0), .inl (.istore 8), .inr (7, 4, 1)]),
  ([true, true, true, true, true, true, true, true, true, false, false], [.inl (.iload 8), .inl (.aload 0), .inr (0, 6, 3), .inl (.if_icmp .ge 9), .inl (.iconst 0), .inl (.istore 9), .inr (7, 5, 1)]),
  ([true, true, true, true, true, true, true, true, true, true, false], [.inl (.iload 9), .inl (.aload 0), .inr (0, 6, 3), .inl (.if_icmp .ge 8), .inl (.aload 0), .inr (0, 6, 7), .inl (.iconst 3), .inl (.iload 1), .inl .imul, .inl (.aload 0), .inl (.iload 8), .inl (.iconst 1), .inr (5, 3, 0), .inl .iastore, .inl (.aload 0), .inr (0, 6, 7), .inl (.iconst 3), .inl (.iload 2), .inl .imul, .inl (.aload 0), .inl (.iload 9), .inl (.iconst 1), .inr (5, 3, 0), .inl .iastore, .inl (.aload 0), .inl (.iload 3), .inr (5, 4, 0), .inl (.istore 10), .inl (.iload 7), .inl (.ifCond .lt 6), .inl (.iload 10), .inl (.iload 7), .inl (.if_icmp .ge 7), .inr (7, 6, 1)]),
  ([true, true, true, true, true, true, false, false, true, true, true], [.inl (.iload 10), .inl (.istore 7), .inl (.iconst 100), .inl (.iload 8), .inl .imul, .inl (.iload 9), .inl .iadd, .inl (.istore 6), .inr (7, 7, 1)]),
  ([true, true, true, true, true, true, true, true, true, true, false], [.inl (.iinc 9 (1)), .inr (7, 5, 0)]),
  ([true, true, true, true, true, true, true, true, true, false, false], [.inl (.iinc 8 (1)), .inr (7, 4, 0)]),
  ([true, true, true, false, true, true, true, false, false, false, false], [.inl (.aload 0), .inr (0, 6, 7), .inl (.iconst 3), .inl (.iload 1), .inl .imul, .inl (.iload 4), .inl .iastore, .inl (.aload 0), .inr (0, 6, 7), .inl (.iconst 3), .inl (.iload 2), .inl .imul, .inl (.iload 5), .inl .iastore, .inl (.iload 6), .inl .ireturn])]
def g_6_both : List (Nat × dk_S) := [(3, s_6_areTwo), (3, s_6_in), (2, s_6_finds), (3, s_6_its), (2, s_6_worstBehind)]
def s_6_both : dk_S := dk_MV 6 g_6_both b_6_both 11
theorem h_6_both : dk_monoG g_6_both := dk_monoG_cons o_6_areTwo (dk_monoG_cons o_6_in (dk_monoG_cons o_6_finds (dk_monoG_cons o_6_its (dk_monoG_cons o_6_worstBehind (dk_monoG_nil)))))
theorem o_6_both : dk_mono s_6_both := dk_MV_mono _ h_6_both _ _
def t_6_both : dk_Tm := (tc_6, [(256, 0, 0), (88, 1, 1), (101, 0, 2), (194, 0, 3), (246, 0, 4)], [0, 19, 25, 38, 67, 79, 137, 151, 157, 163], 0)
def y_6_two : MethodName := ⟨nn_R6, "two", "(IIII)I"⟩
def b_6_two : dk_T := [
  ([true, true, true, true, true, false, false, false, false, false], [.inl (.aload 0), .inl (.iload 1), .inl (.iload 2), .inr (5, 0, 0), .inl (.ifCond .eq 1), .inl (.iload 3), .inl (.iconst 1), .inl (.iconst 99), .inr (5, 1, 1), .inl (.ifCond .eq 1), .inl (.iload 4), .inl (.iconst 0), .inl (.iconst 1), .inr (5, 1, 1), .inl (.ifCond .ne 2), .inr (7, 1, 1)]),
  ([true, false, false, false, false, false, false, false, false, false], [.inl (.aload 0), .inl (.iconst 0), .inr (5, 2, 0), .inl .ireturn]),
  ([true, true, true, true, true, false, false, false, false, false], [.inl (.aload 0), .inr (0, 6, 7), .inl (.iconst 3), .inl (.iload 1), .inl .imul, .inl (.iconst 2), .inl .iadd, .inl .iaload, .inl (.istore 5), .inl (.aload 0), .inr (0, 6, 7), .inl (.iconst 3), .inl (.iload 2), .inl .imul, .inl (.iconst 2), .inl .iadd, .inl .iaload, .inl (.istore 6), .inl (.aload 0), .inl (.aload 0), .inr (0, 6, 7), .inl (.iconst 3), .inl (.iload 2), .inl .imul, .inl .iaload, .inl (.aload 0), .inr (0, 6, 7), .inl (.iconst 3), .inl (.iload 1), .inl .imul, .inl .iaload, .inr (5, 3, 0), .inl (.istore 7), .inl (.aload 0), .inl (.aload 0), .inr (0, 6, 7), .inl (.iconst 3), .inl (.iload 1), .inl .imul, .inl .iaload, .inl (.aload 0), .inr (0, 6, 7), .inl (.iconst 3), .inl (.iload 2), .inl .imul, .inl .iaload, .inr (5, 3, 0), .inl (.istore 8), .inl (.iconst 0), .inl (.istore 9), .inr (7, 3, 1)]),
  ([true, false, false, true, true, true, true, true, true, true], [.inl (.iload 9), .inl (.iload 3), .inl (.if_icmp .ge 4), .inl (.iload 5), .inl (.aload 0), .inl (.iload 5), .inl .i2l, .inl (.iload 7), .inl .i2l, .inl .ladd, .inl (.iload 6), .inl .i2l, .inl .lsub, .inr (5, 4, 0), .inl (.iconst 2), .inl .idiv, .inl .isub, .inl (.istore 5), .inl (.iload 6), .inl (.aload 0), .inl (.iload 6), .inl .i2l, .inl (.iload 8), .inl .i2l, .inl .ladd, .inl (.iload 5), .inl .i2l, .inl .lsub, .inr (5, 4, 0), .inl (.iconst 2), .inl .idiv, .inl .isub, .inl (.istore 6), .inl (.iinc 9 (1)), .inr (7, 3, 0)]),
  ([false, false, false, false, true, true, true, false, false, false], [.inl (.iload 4), .inl (.ifCond .ne 5), .inl (.iload 5), .inr (7, 6, 0)]),
  ([false, false, false, false, false, false, true, false, false, false], [.inl (.iload 6), .inr (7, 6, 1)]),
  ([false, false, false, false, false, false, false, false, false, false], [.inl .ireturn])]
def g_6_two : List (Nat × dk_S) := [(3, s_6_areTwo), (3, s_6_in), (2, s_6_finds), (3, s_6_lagOf), (2, s_6_wrapped)]
def s_6_two : dk_S := dk_MV 6 g_6_two b_6_two 10
theorem h_6_two : dk_monoG g_6_two := dk_monoG_cons o_6_areTwo (dk_monoG_cons o_6_in (dk_monoG_cons o_6_finds (dk_monoG_cons o_6_lagOf (dk_monoG_cons o_6_wrapped (dk_monoG_nil)))))
theorem o_6_two : dk_mono s_6_two := dk_MV_mono _ h_6_two _ _
def t_6_two : dk_Tm := (tc_6, [(256, 0, 0), (88, 1, 1), (101, 0, 2), (200, 0, 3), (105, 0, 4)], [0, 29, 35, 106, 162, 172, 174], 0)
def y_6_isOpposite : MethodName := ⟨nn_R6, "isOpposite", "(II)Z"⟩
def b_6_isOpposite : dk_T := [
  ([false, true, true], [.inl (.iconst 4), .inl (.iload 1), .inl .i2l, .inl (.iload 2), .inr (5, 0, 1), .inr (5, 1, 1), .inl .imul, .inl (.iload 2), .inl (.if_icmp .lt 1), .inl (.iconst 1), .inr (7, 2, 0)]),
  ([false, false, false], [.inl (.iconst 0), .inr (7, 2, 1)]),
  ([false, false, false], [.inl .lreturn])]
def g_6_isOpposite : List (Nat × dk_S) := [(2, s_6_wrappedBy), (1, s_6_size)]
def s_6_isOpposite : dk_S := dk_MV 6 g_6_isOpposite b_6_isOpposite 3
theorem h_6_isOpposite : dk_monoG g_6_isOpposite := dk_monoG_cons o_6_wrappedBy (dk_monoG_cons o_6_size (dk_monoG_nil))
theorem o_6_isOpposite : dk_mono s_6_isOpposite := dk_MV_mono _ h_6_isOpposite _ _
def t_6_isOpposite : dk_Tm := (tc_6, [(97, 1, 0), (203, 1, 1)], [0, 19, 20], 1)
def y_6_opposite : MethodName := ⟨nn_R6, "opposite", "(I)I"⟩
def b_6_opposite : dk_T := [
  ([true, true, false], [.inl (.aload 0), .inl (.iload 1), .inr (5, 0, 0), .inl (.ifCond .ne 1), .inl (.aload 0), .inl (.iconst 0), .inr (5, 1, 0), .inl .ireturn]),
  ([true, true, false], [.inl (.aload 0), .inl (.iload 1), .inr (5, 2, 0), .inl (.istore 2), .inl (.iload 2), .inl (.ifCond .ge 2), .inl (.aload 0), .inl (.iconst 3), .inr (5, 1, 0), .inl .ireturn]),
  ([true, true, true], [.inl (.aload 0), .inl (.aload 0), .inl (.aload 0), .inr (0, 6, 7), .inl (.iconst 3), .inl (.iload 2), .inl .imul, .inl .iaload, .inl (.aload 0), .inl (.iload 1), .inl (.iconst 1), .inr (5, 3, 0), .inr (5, 4, 0), .inl (.aload 0), .inr (0, 6, 0), .inl (.iconst 0), .inl .iaload, .inr (5, 5, 0), .inl (.ifCond .eq 3), .inl (.iconst 1), .inr (7, 4, 0)]),
  ([false, false, false], [.inl (.iconst 0), .inr (7, 4, 1)]),
  ([false, false, false], [.inl .ireturn])]
def g_6_opposite : List (Nat × dk_S) := [(2, s_6_isRank), (2, s_6_finds), (2, s_6_drumFor), (3, s_6_its), (3, s_6_lagOf), (3, s_6_isOpposite)]
def s_6_opposite : dk_S := dk_MV 6 g_6_opposite b_6_opposite 3
theorem h_6_opposite : dk_monoG g_6_opposite := dk_monoG_cons o_6_isRank (dk_monoG_cons o_6_finds (dk_monoG_cons o_6_drumFor (dk_monoG_cons o_6_its (dk_monoG_cons o_6_lagOf (dk_monoG_cons o_6_isOpposite (dk_monoG_nil))))))
theorem o_6_opposite : dk_mono s_6_opposite := dk_MV_mono _ h_6_opposite _ _
def t_6_opposite : dk_Tm := (tc_6, [(240, 0, 0), (101, 0, 1), (209, 0, 2), (194, 0, 3), (200, 0, 4), (259, 0, 5)], [0, 14, 30, 65, 66], 0)
def y_6_edges : MethodName := ⟨nn_R6, "edges", "(IIII)I"⟩
def b_6_edges : dk_T := [
  ([true, true, true, true, true, false, false, false, false, false, false], [.inl (.aload 0), .inl (.iload 1), .inr (5, 0, 0), .inl (.ifCond .eq 1), .inl (.iload 2), .inl (.iconst 100), .inl (.iconst 2000), .inr (5, 1, 1), .inl (.ifCond .eq 1), .inl (.iload 3), .inl (.iload 2), .inl (.iconst 2000), .inr (5, 1, 1), .inl (.ifCond .eq 1), .inl (.iload 4), .inl (.iconst 0), .inl (.iconst 1), .inr (5, 1, 1), .inl (.ifCond .ne 2), .inr (7, 1, 1)]),
  ([true, false, false, false, false, false, false, false, false, false, false], [.inl (.aload 0), .inl (.iconst 0), .inr (5, 2, 0), .inl .ireturn]),
  ([true, true, true, true, true, false, false, false, false, false, false], [.inl (.aload 0), .inl (.iload 1), .inr (5, 3, 0), .inl (.istore 5), .inl (.iload 5), .inl (.ifCond .ge 3), .inl (.aload 0), .inl (.iconst 3), .inr (5, 2, 0), .inl .ireturn]),
  ([true, true, true, true, true, true, false, false, false, false, false], [.inl (.aload 0), .inl (.aload 0), .inr (0, 6, 7), .inl (.iconst 3), .inl (.iload 5), .inl .imul, .inl .iaload, .inl (.aload 0), .inl (.iload 1), .inl (.iconst 1), .inr (5, 4, 0), .inr (5, 5, 0), .inl (.istore 6), .inl (.iconst 0), .inl (.istore 7), .inl (.iconst 0), .inl (.istore 8), .inl (.iload 3), .inl (.istore 9), .inr (7, 4, 1)]),
  ([true, false, true, false, true, false, true, true, true, true, false], [.inl (.iload 9), .inl (.iload 2), .inl (.if_icmp .lt 9), .inl (.aload 0), .inl (.iload 6), .inl (.iload 9), .inr (5, 6, 0), .inl (.istore 10), .inl (.iload 7), .inl (.iload 10), .inl (.ifCond .eq 5), .inl (.iconst 1), .inr (7, 6, 0)]),
  ([true, false, true, false, true, false, true, false, true, true, true], [.inl (.iconst 0), .inr (7, 6, 1)]),
  ([true, false, true, false, true, false, true, false, true, true, true], [.inl .iadd, .inl (.istore 7), .inl (.iload 10), .inl (.ifCond .eq 7), .inl (.iload 9), .inr (7, 8, 0)]),
  ([true, false, true, false, true, false, true, true, true, true, false], [.inl (.iload 8), .inr (7, 8, 1)]),
  ([true, false, true, false, true, false, true, true, false, true, false], [.inl (.istore 8), .inl (.iinc 9 (-1)), .inr (7, 4, 0)]),
  ([true, false, false, false, true, false, false, true, true, false, false], [.inl (.iload 4), .inl (.ifCond .ne 10), .inl (.iload 7), .inr (7, 12, 0)]),
  ([true, false, false, false, false, false, false, true, true, false, false], [.inl (.iload 7), .inl (.ifCond .ne 11), .inl (.aload 0), .inl (.iconst 3), .inr (5, 2, 0), .inr (7, 12, 0)]),
  ([false, false, false, false, false, false, false, false, true, false, false], [.inl (.iload 8), .inr (7, 12, 1)]),
  ([false, false, false, false, false, false, false, false, false, false, false], [.inl .ireturn])]
def g_6_edges : List (Nat × dk_S) := [(2, s_6_isRank), (3, s_6_in), (2, s_6_finds), (2, s_6_drumFor), (3, s_6_its), (3, s_6_lagOf), (3, s_6_isOpposite)]
def s_6_edges : dk_S := dk_MV 6 g_6_edges b_6_edges 11
theorem h_6_edges : dk_monoG g_6_edges := dk_monoG_cons o_6_isRank (dk_monoG_cons o_6_in (dk_monoG_cons o_6_finds (dk_monoG_cons o_6_drumFor (dk_monoG_cons o_6_its (dk_monoG_cons o_6_lagOf (dk_monoG_cons o_6_isOpposite (dk_monoG_nil)))))))
theorem o_6_edges : dk_mono s_6_edges := dk_MV_mono _ h_6_edges _ _
def t_6_edges : dk_Tm := (tc_6, [(240, 0, 0), (88, 1, 1), (101, 0, 2), (209, 0, 3), (194, 0, 4), (200, 0, 5), (259, 0, 6)], [0, 41, 47, 65, 95, 122, 123, 136, 138, 146, 156, 169, 171], 0)
def y_6_slip : MethodName := ⟨nn_R6, "slip", "(IIII)I"⟩
def b_6_slip : dk_T := [
  ([true, true, true, true, true, false, false, false, false, false, false], [.inl (.aload 0), .inl (.iload 1), .inr (5, 0, 0), .inl (.ifCond .eq 1), .inl (.iload 2), .inl (.iconst (-999)), .inl (.iconst 999), .inr (5, 1, 1), .inl (.ifCond .eq 1), .inl (.iload 3), .inl (.iconst 0), .inl (.iconst 99), .inr (5, 1, 1), .inl (.ifCond .eq 1), .inl (.iload 4), .inl (.iconst 0), .inl (.iconst 2), .inr (5, 1, 1), .inl (.ifCond .ne 2), .inr (7, 1, 1)]),
  ([true, false, false, false, false, false, false, false, false, false, false], [.inl (.aload 0), .inl (.iconst 0), .inr (5, 2, 0), .inl .ireturn]),
  ([true, true, true, true, true, false, false, false, false, false, false], [.inl (.aload 0), .inr (5, 3, 0), .inl (.iconst 0), .inl (.istore 5), .inr (7, 3, 1)]),
  ([true, true, true, true, true, true, false, false, false, false, false], [.inl (.iload 5), .inl (.iload 3), .inl (.if_icmp .gt 6), .inl (.iconst 0), .inl (.istore 6), .inr (7, 4, 1)]),
  ([true, true, true, true, true, true, true, false, false, false, false], [.inl (.iload 6), .inl (.aload 0), .inr (0, 6, 3), .inl (.if_icmp .ge 5), .inl (.aload 0), .inr (0, 6, 26), .inl (.iconst 24), .inl (.iload 5), .inl .imul, .inl (.iload 6), .inl .iadd, .inl (.aload 0), .inr (0, 6, 23), .inl (.iload 6), .inl .iaload, .inl .iastore, .inl (.iinc 6 (1)), .inr (7, 4, 0)]),
  ([true, true, true, true, true, true, false, false, false, false, false], [.inl (.aload 0), .inr (5, 4, 0), .inl (.iinc 5 (1)), .inr (7, 3, 0)]),
  ([true, true, true, true, true, false, false, false, false, false, false], [.inl (.aload 0), .inr (5, 3, 0), .inl (.aload 0), .inr (0, 6, 23), .inl (.iload 1), .inl (.aload 0), .inl (.aload 0), .inr (0, 6, 23), .inl (.iload 1), .inl .iaload, .inl .i2l, .inl (.iload 2), .inl .i2l, .inl .ladd, .inr (5, 5, 0), .inl .iastore, .inl (.iconst (-1)), .inl (.istore 5), .inl (.iconst 0), .inl (.istore 6), .inl (.iconst 0), .inl (.istore 7), .inl (.iconst 0), .inl (.istore 8), .inr (7, 7, 1)]),
  ([true, false, false, true, true, true, true, true, true, false, false], [.inl (.iload 8), .inl (.iload 3), .inl (.if_icmp .gt 16), .inl (.iconst 0), .inl (.istore 6), .inl (.iconst 0), .inl (.istore 7), .inl (.iconst 0), .inl (.istore 9), .inr (7, 8, 1)]),
  ([true, false, false, true, true, true, true, true, true, true, false], [.inl (.iload 9), .inl (.aload 0), .inr (0, 6, 3), .inl (.if_icmp .ge 13), .inl (.aload 0), .inl (.aload 0), .inr (0, 6, 23), .inl (.iload 9), .inl .iaload, .inl .i2l, .inl (.aload 0), .inr (0, 6, 26), .inl (.iconst 24), .inl (.iload 8), .inl .imul, .inl (.iload 9), .inl .iadd, .inl .iaload, .inl .i2l, .inl .lsub, .inr (5, 5, 0), .inr (5, 6, 1), .inl (.istore 10), .inl (.iload 6), .inl (.aload 0), .inr (0, 6, 23), .inl (.iload 9), .inl .iaload, .inl (.aload 0), .inr (0, 6, 26), .inl (.iconst 24), .inl (.iload 8), .inl .imul, .inl (.iload 9), .inl .iadd, .inl .iaload, .inl (.if_icmp .eq 9), .inl (.iconst 1), .inr (7, 10, 0)]),
  ([true, false, false, true, true, true, false, true, true, true, true], [.inl (.iconst 0), .inr (7, 10, 1)]),
  ([true, false, false, true, true, true, false, true, true, true, true], [.inl .iadd, .inl (.istore 6), .inl (.iload 10), .inl (.iload 7), .inl (.if_icmp .le 11), .inl (.iload 10), .inr (7, 12, 0)]),
  ([true, false, false, true, true, true, true, true, true, true, false], [.inl (.iload 7), .inr (7, 12, 1)]),
  ([true, false, false, true, true, true, true, false, true, true, false], [.inl (.istore 7), .inl (.iinc 9 (1)), .inr (7, 8, 0)]),
  ([true, false, false, true, true, true, true, true, true, false, false], [.inl (.iload 5), .inl (.ifCond .ge 14), .inl (.iload 6), .inl (.ifCond .ne 14), .inl (.iload 8), .inr (7, 15, 0)]),
  ([true, false, false, true, true, true, true, true, true, false, false], [.inl (.iload 5), .inr (7, 15, 1)]),
  ([true, false, false, true, true, false, true, true, true, false, false], [.inl (.istore 5), .inl (.aload 0), .inr (5, 4, 0), .inl (.iinc 8 (1)), .inr (7, 7, 0)]),
  ([true, false, false, false, true, true, true, true, false, false, false], [.inl (.iload 4), .inl (.ifCond .ne 17), .inl (.iload 6), .inr (7, 20, 0)]),
  ([true, false, false, false, true, true, false, true, false, false, false], [.inl (.iload 4), .inl (.iconst 1), .inl (.if_icmp .ne 18), .inl (.iload 7), .inr (7, 20, 0)]),
  ([true, false, false, false, false, true, false, false, false, false, false], [.inl (.iload 5), .inl (.ifCond .ge 19), .inl (.aload 0), .inl (.iconst 3), .inr (5, 2, 0), .inr (7, 20, 0)]),
  ([false, false, false, false, false, true, false, false, false, false, false], [.inl (.iload 5), .inr (7, 20, 1)]),
  ([false, false, false, false, false, false, false, false, false, false, false], [.inl .ireturn])]
def g_6_slip : List (Nat × dk_S) := [(2, s_6_isRank), (3, s_6_in), (2, s_6_finds), (1, s_6_beginMarch), (1, s_6_goes), (2, s_6_wrapped), (1, s_6_size)]
def s_6_slip : dk_S := dk_MV 6 g_6_slip b_6_slip 11
theorem h_6_slip : dk_monoG g_6_slip := dk_monoG_cons o_6_isRank (dk_monoG_cons o_6_in (dk_monoG_cons o_6_finds (dk_monoG_cons o_6_beginMarch (dk_monoG_cons o_6_goes (dk_monoG_cons o_6_wrapped (dk_monoG_cons o_6_size (dk_monoG_nil)))))))
theorem o_6_slip : dk_mono s_6_slip := dk_MV_mono _ h_6_slip _ _
def t_6_slip : dk_Tm := (tc_6, [(240, 0, 0), (88, 1, 1), (101, 0, 2), (230, 0, 3), (227, 0, 4), (105, 0, 5), (203, 1, 6)], [0, 41, 47, 54, 63, 98, 108, 144, 159, 229, 230, 245, 247, 255, 270, 272, 284, 294, 305, 318, 320], 0)
def y_6_findBegun : MethodName := ⟨nn_R6, "findBegun", "(I)V"⟩
def b_6_findBegun : dk_T := [
  ([true, true, false, false, false], [.inl (.iconst 0), .inl (.istore 2), .inr (7, 1, 1)]),
  ([true, true, true, false, false], [.inl (.iload 2), .inl (.aload 0), .inr (0, 6, 3), .inl (.if_icmp .ge 15), .inl (.aload 0), .inl (.iload 2), .inr (5, 0, 0), .inl (.istore 3), .inl (.aload 0), .inr (0, 6, 28), .inl (.iload 2), .inl (.iload 1), .inl (.iconst 1), .inl (.if_icmp .ne 2), .inl (.iload 3), .inl (.ifCond .lt 3), .inr (7, 2, 1)]),
  ([true, true, true, true, false], [.inl (.iconst 1), .inr (7, 4, 0)]),
  ([true, true, true, true, false], [.inl (.iconst 0), .inr (7, 4, 1)]),
  ([true, true, true, true, false], [.inl .bastore, .inl (.iload 1), .inl (.iconst 1), .inl (.if_icmp .ne 7), .inl (.aload 0), .inr (0, 6, 27), .inl (.iload 2), .inl (.iload 3), .inl (.ifCond .ge 5), .inl (.iconst 0), .inr (7, 6, 0)]),
  ([true, true, true, true, false], [.inl (.aload 0), .inl (.aload 0), .inr (0, 6, 7), .inl (.iconst 3), .inl (.iload 3), .inl .imul, .inl .iaload, .inl (.aload 0), .inl (.iload 2), .inl (.iconst 1), .inr (5, 1, 0), .inr (5, 2, 0), .inl (.aload 0), .inr (0, 6, 7), .inl (.iconst 3), .inl (.iload 3), .inl .imul, .inl (.iconst 2), .inl .iadd, .inl .iaload, .inl .isub, .inr (7, 6, 1)]),
  ([true, true, true, false, false], [.inl .iastore, .inr (7, 14, 0)]),
  ([true, true, true, false, false], [.inl (.iload 2), .inl (.ifCond .ne 8), .inl (.aload 0), .inr (0, 6, 27), .inl (.iload 2), .inl (.iconst 0), .inl .iastore, .inr (7, 14, 0)]),
  ([true, true, true, false, false], [.inl (.iload 1), .inl (.ifCond .eq 9), .inl (.aload 0), .inl (.iload 2), .inr (5, 3, 0), .inl (.ifCond .eq 10), .inr (7, 9, 1)]),
  ([true, true, true, false, false], [.inl (.iconst 1), .inr (7, 11, 0)]),
  ([true, true, true, false, false], [.inl (.iconst 0), .inr (7, 11, 1)]),
  ([true, true, true, false, false], [.inl (.istore 4), .inl (.aload 0), .inr (0, 6, 27), .inl (.iload 2), .inl (.aload 0), .inr (0, 6, 27), .inl (.iload 2), .inl (.iconst 1), .inl .isub, .inl .iaload, .inl (.iload 4), .inl (.ifCond .eq 12), .inl (.aload 0), .inr (0, 6, 0), .inl (.iconst 5), .inl .iaload, .inl (.aload 0), .inl (.aload 0), .inl (.iload 2), .inl (.iconst 1), .inl .isub, .inl (.iconst 1), .inr (5, 1, 0), .inl (.aload 0), .inl (.iload 2), .inl (.iconst 1), .inr (5, 1, 0), .inr (5, 2, 0), .inl .iadd, .inr (7, 13, 0)]),
  ([true, true, true, false, false], [.inl (.aload 0), .inr (0, 6, 0), .inl (.iconst 6), .inl .iaload, .inr (7, 13, 1)]),
  ([true, true, true, false, false], [.inl .iadd, .inl .iastore, .inr (7, 14, 1)]),
  ([true, true, true, false, false], [.inl (.iinc 2 (1)), .inr (7, 1, 0)]),
  ([false, false, false, false, false], [.inl .return_])]
def g_6_findBegun : List (Nat × dk_S) := [(2, s_6_drumFor), (3, s_6_its), (3, s_6_lagOf), (2, s_6_isBent)]
def s_6_findBegun : dk_S := dk_MV 6 g_6_findBegun b_6_findBegun 5
theorem h_6_findBegun : dk_monoG g_6_findBegun := dk_monoG_cons o_6_drumFor (dk_monoG_cons o_6_its (dk_monoG_cons o_6_lagOf (dk_monoG_cons o_6_isBent (dk_monoG_nil))))
theorem o_6_findBegun : dk_mono s_6_findBegun := dk_MV_mono _ h_6_findBegun _ _
def t_6_findBegun : dk_Tm := (tc_6, [(209, 0, 0), (194, 0, 1), (200, 0, 2), (212, 0, 3)], [0, 2, 30, 34, 35, 54, 83, 87, 101, 113, 117, 118, 166, 173, 175, 181], 2)
def y_6_begin : MethodName := ⟨nn_R6, "begin", "(II)I"⟩
def b_6_begin : dk_T := [
  ([true, true, true], [.inl (.iload 1), .inl (.iconst 0), .inl (.iconst 2), .inr (5, 0, 1), .inl (.ifCond .eq 1), .inl (.aload 0), .inl (.iload 2), .inr (5, 1, 0), .inl (.ifCond .ne 2), .inr (7, 1, 1)]),
  ([true, false, false], [.inl (.aload 0), .inl (.iconst 0), .inr (5, 2, 0), .inl .ireturn]),
  ([true, true, true], [.inl (.aload 0), .inl (.iload 1), .inr (5, 3, 0), .inl (.aload 0), .inr (0, 6, 28), .inl (.iload 2), .inl .baload, .inl (.ifCond .eq 3), .inl (.aload 0), .inr (0, 6, 27), .inl (.iload 2), .inl .iaload, .inr (7, 4, 0)]),
  ([true, false, false], [.inl (.aload 0), .inl (.iconst 3), .inr (5, 2, 0), .inr (7, 4, 1)]),
  ([false, false, false], [.inl .ireturn])]
def g_6_begin : List (Nat × dk_S) := [(3, s_6_in), (2, s_6_isRank), (2, s_6_finds), (2, s_6_findBegun)]
def s_6_begin : dk_S := dk_MV 6 g_6_begin b_6_begin 3
theorem h_6_begin : dk_monoG g_6_begin := dk_monoG_cons o_6_in (dk_monoG_cons o_6_isRank (dk_monoG_cons o_6_finds (dk_monoG_cons o_6_findBegun (dk_monoG_nil))))
theorem o_6_begin : dk_mono s_6_begin := dk_MV_mono _ h_6_begin _ _
def t_6_begin : dk_Tm := (tc_6, [(88, 1, 0), (240, 0, 1), (101, 0, 2), (262, 0, 3)], [0, 17, 23, 46, 51], 0)
def y_6_apart : MethodName := ⟨nn_R6, "apart", "(I)I"⟩
def b_6_apart : dk_T := [
  ([true, true, false, false, false, false], [.inl (.iload 1), .inl (.iconst 0), .inl (.iconst 2), .inr (5, 0, 1), .inl (.ifCond .ne 1), .inl (.aload 0), .inl (.iconst 0), .inr (5, 1, 0), .inl .ireturn]),
  ([true, true, false, false, false, false], [.inl (.aload 0), .inl (.iload 1), .inr (5, 2, 0), .inl (.iconst 0), .inl (.istore 2), .inl (.iconst 0), .inl (.istore 3), .inl (.iconst 0), .inl (.istore 4), .inl (.iconst 0), .inl (.istore 5), .inr (7, 2, 1)]),
  ([true, false, true, true, true, true], [.inl (.iload 5), .inl (.aload 0), .inr (0, 6, 3), .inl (.if_icmp .ge 10), .inl (.aload 0), .inr (0, 6, 28), .inl (.iload 5), .inl .baload, .inl (.ifCond .eq 9), .inl (.iload 2), .inl (.ifCond .eq 3), .inl (.aload 0), .inr (0, 6, 27), .inl (.iload 5), .inl .iaload, .inl (.iload 3), .inl (.if_icmp .ge 4), .inr (7, 3, 1)]),
  ([true, false, true, false, true, true], [.inl (.aload 0), .inr (0, 6, 27), .inl (.iload 5), .inl .iaload, .inr (7, 5, 0)]),
  ([true, false, true, true, true, true], [.inl (.iload 3), .inr (7, 5, 1)]),
  ([true, false, true, false, true, true], [.inl (.istore 3), .inl (.iload 2), .inl (.ifCond .eq 6), .inl (.aload 0), .inr (0, 6, 27), .inl (.iload 5), .inl .iaload, .inl (.iload 4), .inl (.if_icmp .le 7), .inr (7, 6, 1)]),
  ([true, false, true, true, false, true], [.inl (.aload 0), .inr (0, 6, 27), .inl (.iload 5), .inl .iaload, .inr (7, 8, 0)]),
  ([true, false, true, true, true, true], [.inl (.iload 4), .inr (7, 8, 1)]),
  ([true, false, true, true, false, true], [.inl (.istore 4), .inl (.iinc 2 (1)), .inr (7, 9, 1)]),
  ([true, false, true, true, true, true], [.inl (.iinc 5 (1)), .inr (7, 2, 0)]),
  ([true, false, true, true, true, false], [.inl (.iload 2), .inl (.ifCond .ne 11), .inl (.aload 0), .inl (.iconst 3), .inr (5, 1, 0), .inr (7, 12, 0)]),
  ([false, false, false, true, true, false], [.inl (.iload 4), .inl (.iload 3), .inl .isub, .inr (7, 12, 1)]),
  ([false, false, false, false, false, false], [.inl .ireturn])]
def g_6_apart : List (Nat × dk_S) := [(3, s_6_in), (2, s_6_finds), (2, s_6_findBegun)]
def s_6_apart : dk_S := dk_MV 6 g_6_apart b_6_apart 6
theorem h_6_apart : dk_monoG g_6_apart := dk_monoG_cons o_6_in (dk_monoG_cons o_6_finds (dk_monoG_cons o_6_findBegun (dk_monoG_nil)))
theorem o_6_apart : dk_mono s_6_apart := dk_MV_mono _ h_6_apart _ _
def t_6_apart : dk_Tm := (tc_6, [(88, 1, 0), (101, 0, 1), (262, 0, 2)], [0, 15, 30, 64, 74, 75, 92, 102, 104, 109, 115, 127, 131], 0)
def y_6_isBridge : MethodName := ⟨nn_R6, "isBridge", "(III)Z"⟩
def b_6_isBridge : dk_T := [
  ([true, true, true], [.inl (.iload 0), .inr (5, 0, 1), .inl (.ifCond .eq 1), .inl (.iload 1), .inl (.iload 0), .inl (.iconst 4999), .inr (5, 1, 1), .inl (.ifCond .eq 1), .inl (.iload 2), .inl (.iconst 0), .inl (.iconst 999), .inr (5, 1, 1), .inl (.ifCond .eq 1), .inl (.iconst 1), .inr (7, 2, 0)]),
  ([false, false, false], [.inl (.iconst 0), .inr (7, 2, 1)]),
  ([false, false, false], [.inl .lreturn])]
def g_6_isBridge : List (Nat × dk_S) := [(1, s_6_isPlace), (3, s_6_in)]
def s_6_isBridge : dk_S := dk_M g_6_isBridge b_6_isBridge 3
theorem h_6_isBridge : dk_monoG g_6_isBridge := dk_monoG_cons o_6_isPlace (dk_monoG_cons o_6_in (dk_monoG_nil))
theorem o_6_isBridge : dk_mono s_6_isBridge := dk_M_mono h_6_isBridge _ _
def t_6_isBridge : dk_Tm := (tc_6, [(197, 1, 0), (88, 1, 1)], [0, 33, 34], 1)
def y_6_together : MethodName := ⟨nn_R6, "together", "(III)I"⟩
def b_6_together : dk_T := [
  ([true, true, true, true, false, false, false, false, false], [.inl (.iconst 0), .inl (.istore 4), .inl (.iconst 0), .inl (.istore 5), .inr (7, 1, 1)]),
  ([true, true, true, true, true, true, false, false, false], [.inl (.iload 5), .inl (.aload 0), .inr (0, 6, 3), .inl (.if_icmp .ge 10), .inl (.iconst 0), .inl (.istore 6), .inl (.iconst 0), .inl (.istore 7), .inr (7, 2, 1)]),
  ([true, true, true, true, true, true, true, true, false], [.inl (.iload 7), .inl (.aload 0), .inr (0, 6, 3), .inl (.if_icmp .ge 7), .inl (.aload 0), .inr (0, 6, 23), .inl (.iload 7), .inl .iaload, .inl (.aload 0), .inr (0, 6, 23), .inl (.iload 5), .inl .iaload, .inl .isub, .inl (.istore 8), .inl (.iload 8), .inl (.ifCond .ge 3), .inl (.iload 8), .inl (.aload 0), .inr (0, 6, 0), .inl (.iconst 0), .inl .iaload, .inl .iadd, .inr (7, 4, 0)]),
  ([true, true, true, true, true, true, true, true, true], [.inl (.iload 8), .inr (7, 4, 1)]),
  ([true, true, true, true, true, true, true, true, false], [.inl (.istore 8), .inl (.iload 6), .inl (.aload 0), .inl (.iload 7), .inl (.iconst 1), .inr (5, 0, 0), .inl (.iload 1), .inl (.iload 2), .inr (5, 1, 1), .inl (.ifCond .eq 5), .inl (.iload 8), .inl (.iload 3), .inl (.if_icmp .gt 5), .inl (.iconst 1), .inr (7, 6, 0)]),
  ([true, true, true, true, true, true, false, true, false], [.inl (.iconst 0), .inr (7, 6, 1)]),
  ([true, true, true, true, true, true, false, true, false], [.inl .iadd, .inl (.istore 6), .inl (.iinc 7 (1)), .inr (7, 2, 0)]),
  ([true, true, true, true, true, true, true, false, false], [.inl (.aload 0), .inl (.iload 5), .inl (.iconst 1), .inr (5, 0, 0), .inl (.iload 1), .inl (.iload 2), .inr (5, 1, 1), .inl (.ifCond .eq 8), .inl (.iload 6), .inl (.iload 4), .inl (.if_icmp .le 8), .inl (.iload 6), .inr (7, 9, 0)]),
  ([true, true, true, true, true, true, false, false, false], [.inl (.iload 4), .inr (7, 9, 1)]),
  ([true, true, true, true, false, true, false, false, false], [.inl (.istore 4), .inl (.iinc 5 (1)), .inr (7, 1, 0)]),
  ([false, false, false, false, true, false, false, false, false], [.inl (.iload 4), .inl .ireturn])]
def g_6_together : List (Nat × dk_S) := [(3, s_6_its), (3, s_6_in)]
def s_6_together : dk_S := dk_MV 6 g_6_together b_6_together 9
theorem h_6_together : dk_monoG g_6_together := dk_monoG_cons o_6_its (dk_monoG_cons o_6_in (dk_monoG_nil))
theorem o_6_together : dk_mono s_6_together := dk_MV_mono _ h_6_together _ _
def t_6_together : dk_Tm := (tc_6, [(194, 0, 0), (88, 1, 1)], [0, 6, 21, 64, 66, 95, 96, 105, 132, 134, 142], 0)
def y_6_bridge : MethodName := ⟨nn_R6, "bridge", "(IIII)I"⟩
def b_6_bridge : dk_T := [
  ([true, true, true, true, true], [.inl (.iload 1), .inl (.iload 2), .inl (.iload 3), .inr (5, 0, 1), .inl (.ifCond .eq 1), .inl (.iload 4), .inl (.iconst 0), .inl (.iconst 200), .inr (5, 1, 1), .inl (.ifCond .ne 2), .inr (7, 1, 1)]),
  ([true, false, false, false, false], [.inl (.aload 0), .inl (.iconst 0), .inr (5, 2, 0), .inl .ireturn]),
  ([true, true, true, true, true], [.inl (.aload 0), .inr (5, 3, 0), .inl (.aload 0), .inl (.iload 4), .inr (5, 4, 0), .inl (.aload 0), .inl (.iload 1), .inl (.iload 2), .inl (.iload 3), .inr (5, 5, 0), .inl .ireturn])]
def g_6_bridge : List (Nat × dk_S) := [(3, s_6_isBridge), (3, s_6_in), (2, s_6_finds), (1, s_6_beginMarch), (2, s_6_goesOn), (4, s_6_together)]
def s_6_bridge : dk_S := dk_MV 6 g_6_bridge b_6_bridge 5
theorem h_6_bridge : dk_monoG g_6_bridge := dk_monoG_cons o_6_isBridge (dk_monoG_cons o_6_in (dk_monoG_cons o_6_finds (dk_monoG_cons o_6_beginMarch (dk_monoG_cons o_6_goesOn (dk_monoG_cons o_6_together (dk_monoG_nil))))))
theorem o_6_bridge : dk_mono s_6_bridge := dk_MV_mono _ h_6_bridge _ _
def t_6_bridge : dk_Tm := (tc_6, [(265, 1, 0), (88, 1, 1), (101, 0, 2), (230, 0, 3), (233, 0, 4), (268, 0, 5)], [0, 21, 27], 0)
def y_6_broken : MethodName := ⟨nn_R6, "broken", "(IIII)I"⟩
def b_6_broken : dk_T := [
  ([true, true, true, true, true, false], [.inl (.iload 1), .inl (.iload 2), .inl (.iload 3), .inr (5, 0, 1), .inl (.ifCond .eq 1), .inl (.iload 4), .inl (.iconst 0), .inl (.iconst 24), .inr (5, 1, 1), .inl (.ifCond .ne 2), .inr (7, 1, 1)]),
  ([true, false, false, false, false, false], [.inl (.aload 0), .inl (.iconst 0), .inr (5, 2, 0), .inl .ireturn]),
  ([true, true, true, true, true, false], [.inl (.aload 0), .inr (5, 3, 0), .inl (.iconst 0), .inl (.istore 5), .inr (7, 3, 1)]),
  ([true, true, true, true, true, true], [.inl (.iload 5), .inl (.iconst 200), .inl (.if_icmp .gt 5), .inl (.aload 0), .inl (.iload 1), .inl (.iload 2), .inl (.iload 3), .inr (5, 4, 0), .inl (.iload 4), .inl (.if_icmp .gt 4), .inl (.iload 5), .inl .ireturn]),
  ([true, true, true, true, true, true], [.inl (.aload 0), .inr (5, 5, 0), .inl (.iinc 5 (1)), .inr (7, 3, 0)]),
  ([true, false, false, false, false, false], [.inl (.aload 0), .inl (.iconst 3), .inr (5, 2, 0), .inl .ireturn])]
def g_6_broken : List (Nat × dk_S) := [(3, s_6_isBridge), (3, s_6_in), (2, s_6_finds), (1, s_6_beginMarch), (4, s_6_together), (1, s_6_goes)]
def s_6_broken : dk_S := dk_MV 6 g_6_broken b_6_broken 6
theorem h_6_broken : dk_monoG g_6_broken := dk_monoG_cons o_6_isBridge (dk_monoG_cons o_6_in (dk_monoG_cons o_6_finds (dk_monoG_cons o_6_beginMarch (dk_monoG_cons o_6_together (dk_monoG_cons o_6_goes (dk_monoG_nil))))))
theorem o_6_broken : dk_mono s_6_broken := dk_MV_mono _ h_6_broken _ _
def t_6_broken : dk_Tm := (tc_6, [(265, 1, 0), (88, 1, 1), (101, 0, 2), (230, 0, 3), (268, 0, 4), (227, 0, 5)], [0, 20, 26, 33, 56, 66], 0)
def y_6_seed : MethodName := ⟨nn_R6, "seed", "(I)I"⟩
def b_6_seed : dk_T := [
  ([true, true, false], [.inl (.aload 0), .inr (0, 6, 10), .inl (.istore 2), .inl (.aload 0), .inl (.iload 1), .inr (1, 6, 10), .inl (.iload 2), .inl .ireturn])]
def g_6_seed : List (Nat × dk_S) := []
def s_6_seed : dk_S := dk_MV 6 g_6_seed b_6_seed 3
theorem h_6_seed : dk_monoG g_6_seed := dk_monoG_nil
theorem o_6_seed : dk_mono s_6_seed := dk_MV_mono _ h_6_seed _ _
def t_6_seed : dk_Tm := (tc_6, [], [0], 0)
def y_6_shake : MethodName := ⟨nn_R6, "shake", "(I)I"⟩
def b_6_shake : dk_T := [
  ([true, true, false], [.inl (.iload 1), .inl (.iconst 0), .inl (.iconst 999), .inr (5, 0, 1), .inl (.ifCond .ne 1), .inl (.aload 0), .inl (.iconst 0), .inr (5, 1, 0), .inl .ireturn]),
  ([true, true, false], [.inl (.iconst 0), .inl (.istore 2), .inr (7, 2, 1)]),
  ([true, true, true], [.inl (.iload 2), .inl (.aload 0), .inr (0, 6, 3), .inl (.if_icmp .ge 3), .inl (.aload 0), .inl (.aload 0), .inr (0, 6, 10), .inl (.iconst (1103515245)), .inl .imul, .inl (.iconst 12345), .inl .iadd, .inr (1, 6, 10), .inl (.aload 0), .inr (0, 6, 5), .inl (.iload 2), .inl (.aload 0), .inl (.aload 0), .inr (0, 6, 5), .inl (.iload 2), .inl .iaload, .inl .i2l, .inl (.iload 1), .inl .i2l, .inl .lsub, .inl (.aload 0), .inr (0, 6, 10), .inl (.iconst 8), .inl .iushr, .inl (.iconst 2), .inl (.iload 1), .inl .imul, .inl (.iconst 1), .inl .iadd, .inl .irem, .inl .i2l, .inl .ladd, .inr (5, 2, 0), .inl .iastore, .inl (.iinc 2 (1)), .inr (7, 2, 0)]),
  ([true, false, false], [.inl (.aload 0), .inr (5, 3, 0), .inl (.aload 0), .inr (5, 4, 0), .inl .ireturn])]
def g_6_shake : List (Nat × dk_S) := [(3, s_6_in), (2, s_6_finds), (2, s_6_wrapped), (1, s_6_beginMarch), (1, s_6_worstNow)]
def s_6_shake : dk_S := dk_MV 6 g_6_shake b_6_shake 3
theorem h_6_shake : dk_monoG g_6_shake := dk_monoG_cons o_6_in (dk_monoG_cons o_6_finds (dk_monoG_cons o_6_wrapped (dk_monoG_cons o_6_beginMarch (dk_monoG_cons o_6_worstNow (dk_monoG_nil)))))
theorem o_6_shake : dk_mono s_6_shake := dk_MV_mono _ h_6_shake _ _
def t_6_shake : dk_Tm := (tc_6, [(88, 1, 0), (101, 0, 1), (105, 0, 2), (230, 0, 3), (237, 0, 4)], [0, 17, 19, 84], 0)
def y_6_hold : MethodName := ⟨nn_R6, "hold", "(II)I"⟩
def b_6_hold : dk_T := [
  ([true, true, true], [.inl (.iload 1), .inl (.iconst 0), .inl (.iconst 9), .inr (5, 0, 1), .inl (.ifCond .eq 1), .inl (.iload 2), .inl (.iconst (-1)), .inl (.if_icmp .eq 2), .inl (.aload 0), .inl (.iload 2), .inr (5, 1, 0), .inl (.ifCond .ne 2), .inr (7, 1, 1)]),
  ([true, false, false], [.inl (.aload 0), .inl (.iconst 0), .inr (5, 2, 0), .inl .ireturn]),
  ([true, true, true], [.inl (.aload 0), .inr (0, 6, 11), .inl (.iload 1), .inl (.iload 2), .inl .iastore, .inl (.iconst 1), .inl .ireturn])]
def g_6_hold : List (Nat × dk_S) := [(3, s_6_in), (2, s_6_isRank), (2, s_6_finds)]
def s_6_hold : dk_S := dk_MV 6 g_6_hold b_6_hold 3
theorem h_6_hold : dk_monoG g_6_hold := dk_monoG_cons o_6_in (dk_monoG_cons o_6_isRank (dk_monoG_cons o_6_finds (dk_monoG_nil)))
theorem o_6_hold : dk_mono s_6_hold := dk_MV_mono _ h_6_hold _ _
def t_6_hold : dk_Tm := (tc_6, [(88, 1, 0), (240, 0, 1), (101, 0, 2)], [0, 23, 29], 0)
def y_6_as : MethodName := ⟨nn_R6, "as", "(II)I"⟩
def b_6_as : dk_T := [
  ([true, true, true, false, false, false], [.inl (.iload 1), .inl (.iconst 0), .inl (.iconst 9), .inr (5, 0, 1), .inl (.ifCond .eq 1), .inl (.iload 2), .inl (.iconst 0), .inl (.iconst 6), .inr (5, 0, 1), .inl (.ifCond .ne 2), .inr (7, 1, 1)]),
  ([true, false, false, false, false, false], [.inl (.aload 0), .inl (.iconst 0), .inr (5, 1, 0), .inl .ireturn]),
  ([true, true, true, false, false, false], [.inl (.aload 0), .inr (0, 6, 11), .inl (.iload 1), .inl .iaload, .inl (.istore 3), .inl (.iload 3), .inl (.ifCond .ge 3), .inl (.aload 0), .inl (.iconst 5), .inr (5, 1, 0), .inl .ireturn]),
  ([true, false, true, true, false, false], [.inl (.aload 0), .inl (.iload 3), .inl (.iconst 0), .inr (5, 2, 0), .inl (.istore 4), .inl (.iload 2), .inl (.ifCond .eq 6), .inl (.iload 2), .inl (.iload 4), .inl (.if_icmp .eq 6), .inl (.iload 2), .inl (.iconst 1), .inl (.if_icmp .ne 4), .inl (.iload 4), .inl (.iconst 4), .inl (.if_icmp .eq 6), .inr (7, 4, 1)]),
  ([true, false, true, true, true, false], [.inl (.iload 2), .inl (.iconst 2), .inl (.if_icmp .ne 5), .inl (.iload 4), .inl (.iconst 3), .inl (.if_icmp .eq 6), .inr (7, 5, 1)]),
  ([true, false, true, true, true, false], [.inl (.iload 2), .inl (.iconst 5), .inl (.if_icmp .ne 7), .inl (.iload 4), .inl (.iconst 6), .inl (.if_icmp .ne 7), .inr (7, 6, 1)]),
  ([true, false, false, true, false, false], [.inl (.iconst 1), .inr (7, 8, 0)]),
  ([true, false, false, true, false, false], [.inl (.iconst 0), .inr (7, 8, 1)]),
  ([true, false, false, true, false, false], [.inl (.istore 5), .inl (.iload 5), .inl (.ifCond .eq 9), .inl (.iload 3), .inr (7, 10, 0)]),
  ([true, false, false, false, false, false], [.inl (.aload 0), .inl (.iconst 2), .inr (5, 1, 0), .inr (7, 10, 1)]),
  ([false, false, false, false, false, false], [.inl .ireturn])]
def g_6_as : List (Nat × dk_S) := [(3, s_6_in), (2, s_6_finds), (3, s_6_its)]
def s_6_as : dk_S := dk_MV 6 g_6_as b_6_as 6
theorem h_6_as : dk_monoG g_6_as := dk_monoG_cons o_6_in (dk_monoG_cons o_6_finds (dk_monoG_cons o_6_its (dk_monoG_nil)))
theorem o_6_as : dk_mono s_6_as := dk_MV_mono _ h_6_as _ _
def t_6_as : dk_Tm := (tc_6, [(88, 1, 0), (101, 0, 1), (194, 0, 2)], [0, 20, 26, 43, 72, 83, 95, 99, 100, 111, 116], 0)
def y_6_isSheet : MethodName := ⟨nn_R6, "isSheet", "(I)Z"⟩
def b_6_isSheet : dk_T := [
  ([true], [.inl (.iload 0), .inl (.iconst 0), .inl (.iconst 3), .inr (5, 0, 1), .inl .lreturn])]
def g_6_isSheet : List (Nat × dk_S) := [(3, s_6_in)]
def s_6_isSheet : dk_S := dk_M g_6_isSheet b_6_isSheet 1
theorem h_6_isSheet : dk_monoG g_6_isSheet := dk_monoG_cons o_6_in (dk_monoG_nil)
theorem o_6_isSheet : dk_mono s_6_isSheet := dk_M_mono h_6_isSheet _ _
def t_6_isSheet : dk_Tm := (tc_6, [(88, 1, 0)], [0], 1)
def y_6_sheet : MethodName := ⟨nn_R6, "sheet", "(III)I"⟩
def b_6_sheet : dk_T := [
  ([true, true, true, true, false], [.inl (.iload 1), .inr (5, 0, 1), .inl (.ifCond .eq 1), .inl (.iload 2), .inl (.ifCond .eq 2), .inl (.iload 2), .inl (.iconst 8), .inl (.if_icmp .eq 2), .inl (.iload 2), .inl (.iconst 16), .inl (.if_icmp .eq 2), .inl (.iload 2), .inl (.iconst 32), .inl (.if_icmp .eq 2), .inr (7, 1, 1)]),
  ([true, false, false, false, false], [.inl (.aload 0), .inl (.iconst 0), .inr (5, 1, 0), .inl .ireturn]),
  ([true, true, true, true, false], [.inl (.iload 3), .inl (.ifCond .ge 3), .inl (.aload 0), .inl (.iconst 6), .inr (5, 1, 0), .inl .ireturn]),
  ([true, true, true, true, false], [.inl (.iload 3), .inl (.iconst 40), .inl (.if_icmp .le 4), .inl (.aload 0), .inl (.iconst 0), .inr (5, 1, 0), .inl .ireturn]),
  ([true, true, true, true, false], [.inl (.aload 0), .inr (0, 6, 29), .inl (.iload 1), .inl (.iload 2), .inl .iastore, .inl (.aload 0), .inr (0, 6, 30), .inl (.iload 1), .inl (.iload 2), .inl (.ifCond .ne 5), .inl (.iconst 0), .inr (7, 6, 0)]),
  ([true, true, false, true, false], [.inl (.iload 3), .inr (7, 6, 1)]),
  ([true, true, false, false, false], [.inl .iastore, .inl (.iconst 0), .inl (.istore 4), .inr (7, 7, 1)]),
  ([true, true, false, false, true], [.inl (.iload 4), .inl (.iconst 40), .inl (.if_icmp .ge 8), .inl (.aload 0), .inr (0, 6, 31), .inl (.iconst 40), .inl (.iload 1), .inl .imul, .inl (.iload 4), .inl .iadd, .inl (.iconst 0), .inl .iastore, .inl (.iinc 4 (1)), .inr (7, 7, 0)]),
  ([true, true, false, false, false], [.inl (.aload 0), .inr (0, 6, 30), .inl (.iload 1), .inl .iaload, .inl .ireturn])]
def g_6_sheet : List (Nat × dk_S) := [(1, s_6_isSheet), (2, s_6_finds)]
def s_6_sheet : dk_S := dk_MV 6 g_6_sheet b_6_sheet 5
theorem h_6_sheet : dk_monoG g_6_sheet := dk_monoG_cons o_6_isSheet (dk_monoG_cons o_6_finds (dk_monoG_nil))
theorem o_6_sheet : dk_mono s_6_sheet := dk_MV_mono _ h_6_sheet _ _
def t_6_sheet : dk_Tm := (tc_6, [(273, 1, 0), (101, 0, 1)], [0, 29, 35, 46, 58, 78, 79, 83, 109], 0)
def y_6_write : MethodName := ⟨nn_R6, "write", "(III)I"⟩
def b_6_write : dk_T := [
  ([true, true, true, true], [.inl (.iload 1), .inr (5, 0, 1), .inl (.ifCond .ne 1), .inl (.aload 0), .inl (.iconst 0), .inr (5, 1, 0), .inl .ireturn]),
  ([true, true, true, true], [.inl (.aload 0), .inr (0, 6, 29), .inl (.iload 1), .inl .iaload, .inl (.ifCond .ne 2), .inl (.aload 0), .inl (.iconst 5), .inr (5, 1, 0), .inl .ireturn]),
  ([true, true, true, true], [.inl (.iload 2), .inl (.iconst 0), .inl (.aload 0), .inr (0, 6, 30), .inl (.iload 1), .inl .iaload, .inl (.iconst 1), .inl .isub, .inr (5, 2, 1), .inl (.ifCond .ne 3), .inl (.aload 0), .inl (.iconst 0), .inr (5, 1, 0), .inl .ireturn]),
  ([true, true, true, true], [.inl (.aload 0), .inr (0, 6, 31), .inl (.iconst 40), .inl (.iload 1), .inl .imul, .inl (.iload 2), .inl .iadd, .inl (.aload 0), .inr (0, 6, 29), .inl (.iload 1), .inl .iaload, .inl (.iconst 8), .inl (.if_icmp .ne 4), .inl (.iload 3), .inl .i2b, .inr (7, 6, 0)]),
  ([true, true, false, true], [.inl (.aload 0), .inr (0, 6, 29), .inl (.iload 1), .inl .iaload, .inl (.iconst 16), .inl (.if_icmp .ne 5), .inl (.iload 3), .inl .i2s, .inr (7, 6, 0)]),
  ([false, false, false, true], [.inl (.iload 3), .inr (7, 6, 1)]),
  ([false, false, false, false], [.inl .iastore, .inl (.iconst 1), .inl .ireturn])]
def g_6_write : List (Nat × dk_S) := [(1, s_6_isSheet), (2, s_6_finds), (3, s_6_in)]
def s_6_write : dk_S := dk_MV 6 g_6_write b_6_write 4
theorem h_6_write : dk_monoG g_6_write := dk_monoG_cons o_6_isSheet (dk_monoG_cons o_6_finds (dk_monoG_cons o_6_in (dk_monoG_nil)))
theorem o_6_write : dk_mono s_6_write := dk_MV_mono _ h_6_write _ _
def t_6_write : dk_Tm := (tc_6, [(273, 1, 0), (101, 0, 1), (88, 1, 2)], [0, 13, 28, 50, 76, 92, 93], 0)
def y_6_copy : MethodName := ⟨nn_R6, "copy", "(IIIII)I"⟩
def b_6_copy : dk_T := [
  ([true, true, true, true, true, true, false], [.inl (.iload 1), .inr (5, 0, 1), .inl (.ifCond .eq 1), .inl (.iload 3), .inr (5, 0, 1), .inl (.ifCond .ne 2), .inr (7, 1, 1)]),
  ([true, false, false, false, false, false, false], [.inl (.aload 0), .inl (.iconst 0), .inr (5, 1, 0), .inl .ireturn]),
  ([true, true, true, true, true, true, false], [.inl (.aload 0), .inr (0, 6, 29), .inl (.iload 1), .inl .iaload, .inl (.ifCond .eq 3), .inl (.aload 0), .inr (0, 6, 29), .inl (.iload 3), .inl .iaload, .inl (.ifCond .ne 4), .inr (7, 3, 1)]),
  ([true, false, false, false, false, false, false], [.inl (.aload 0), .inl (.iconst 5), .inr (5, 1, 0), .inl .ireturn]),
  ([true, true, true, true, true, true, false], [.inl (.aload 0), .inr (0, 6, 29), .inl (.iload 1), .inl .iaload, .inl (.aload 0), .inr (0, 6, 29), .inl (.iload 3), .inl .iaload, .inl (.if_icmp .eq 5), .inl (.aload 0), .inl (.iconst 2), .inr (5, 1, 0), .inl .ireturn]),
  ([true, true, true, true, true, true, false], [.inl (.iload 2), .inl (.ifCond .lt 6), .inl (.iload 4), .inl (.ifCond .lt 6), .inl (.iload 5), .inl (.ifCond .lt 6), .inl (.iload 2), .inl .i2l, .inl (.iload 5), .inl .i2l, .inl .ladd, .inl (.aload 0), .inr (0, 6, 30), .inl (.iload 1), .inl .iaload, .inl .i2l, .inl .lcmp, .inl (.ifCond .gt 6), .inl (.iload 4), .inl .i2l, .inl (.iload 5), .inl .i2l, .inl .ladd, .inl (.aload 0), .inr (0, 6, 30), .inl (.iload 3), .inl .iaload, .inl .i2l, .inl .lcmp, .inl (.ifCond .le 7), .inr (7, 6, 1)]),
  ([true, false, false, false, false, false, false], [.inl (.aload 0), .inl (.iconst 0), .inr (5, 1, 0), .inl .ireturn]),
  ([true, true, true, true, true, true, false], [.inl (.iconst 0), .inl (.istore 6), .inr (7, 8, 1)]),
  ([true, true, true, true, true, true, true], [.inl (.iload 6), .inl (.iload 5), .inl (.if_icmp .ge 9), .inl (.aload 0), .inr (0, 6, 32), .inl (.iload 6), .inl (.aload 0), .inr (0, 6, 31), .inl (.iconst 40), .inl (.iload 1), .inl .imul, .inl (.iload 2), .inl .iadd, .inl (.iload 6), .inl .iadd, .inl .iaload, .inl .iastore, .inl (.iinc 6 (1)), .inr (7, 8, 0)]),
  ([true, false, false, true, true, true, false], [.inl (.iconst 0), .inl (.istore 6), .inr (7, 10, 1)]),
  ([true, false, false, true, true, true, true], [.inl (.iload 6), .inl (.iload 5), .inl (.if_icmp .ge 11), .inl (.aload 0), .inr (0, 6, 31), .inl (.iconst 40), .inl (.iload 3), .inl .imul, .inl (.iload 4), .inl .iadd, .inl (.iload 6), .inl .iadd, .inl (.aload 0), .inr (0, 6, 32), .inl (.iload 6), .inl .iaload, .inl .iastore, .inl (.iinc 6 (1)), .inr (7, 10, 0)]),
  ([false, false, false, false, false, true, false], [.inl (.iload 5), .inl .ireturn])]
def g_6_copy : List (Nat × dk_S) := [(1, s_6_isSheet), (2, s_6_finds)]
def s_6_copy : dk_S := dk_MV 6 g_6_copy b_6_copy 7
theorem h_6_copy : dk_monoG g_6_copy := dk_monoG_cons o_6_isSheet (dk_monoG_cons o_6_finds (dk_monoG_nil))
theorem o_6_copy : dk_mono s_6_copy := dk_MV_mono _ h_6_copy _ _
def t_6_copy : dk_Tm := (tc_6, [(273, 1, 0), (101, 0, 1)], [0, 14, 20, 38, 44, 65, 114, 120, 123, 157, 160, 195], 0)
def y_6_load : MethodName := ⟨nn_R6, "load", "(I)I"⟩
def b_6_load : dk_T := [
  ([true, true, false, false], [.inl (.iload 1), .inr (5, 0, 1), .inl (.ifCond .ne 1), .inl (.aload 0), .inl (.iconst 0), .inr (5, 1, 0), .inl .ireturn]),
  ([true, true, false, false], [.inl (.aload 0), .inr (0, 6, 29), .inl (.iload 1), .inl .iaload, .inl (.ifCond .ne 2), .inl (.aload 0), .inl (.iconst 5), .inr (5, 1, 0), .inl .ireturn]),
  ([true, true, false, false], [.inl (.aload 0), .inr (0, 6, 30), .inl (.iload 1), .inl .iaload, .inl (.aload 0), .inr (0, 6, 3), .inl (.if_icmp .ge 3), .inl (.aload 0), .inr (0, 6, 30), .inl (.iload 1), .inl .iaload, .inr (7, 4, 0)]),
  ([true, true, false, false], [.inl (.aload 0), .inr (0, 6, 3), .inr (7, 4, 1)]),
  ([true, true, false, false], [.inl (.istore 2), .inl (.iconst 0), .inl (.istore 3), .inr (7, 5, 1)]),
  ([true, true, true, true], [.inl (.iload 3), .inl (.iload 2), .inl (.if_icmp .ge 6), .inl (.aload 0), .inr (0, 6, 5), .inl (.iload 3), .inl (.aload 0), .inl (.aload 0), .inr (0, 6, 31), .inl (.iconst 40), .inl (.iload 1), .inl .imul, .inl (.iload 3), .inl .iadd, .inl .iaload, .inl .i2l, .inr (5, 2, 0), .inl .iastore, .inl (.iinc 3 (1)), .inr (7, 5, 0)]),
  ([false, false, true, false], [.inl (.iload 2), .inl .ireturn])]
def g_6_load : List (Nat × dk_S) := [(1, s_6_isSheet), (2, s_6_finds), (2, s_6_wrapped)]
def s_6_load : dk_S := dk_MV 6 g_6_load b_6_load 4
theorem h_6_load : dk_monoG g_6_load := dk_monoG_cons o_6_isSheet (dk_monoG_cons o_6_finds (dk_monoG_cons o_6_wrapped (dk_monoG_nil)))
theorem o_6_load : dk_mono s_6_load := dk_MV_mono _ h_6_load _ _
def t_6_load : dk_Tm := (tc_6, [(273, 1, 0), (101, 0, 1), (105, 0, 2)], [0, 13, 28, 50, 54, 57, 90], 0)
def y_6_judge : MethodName := ⟨nn_R6, "judge", "(I)I"⟩
def b_6_judge : dk_T := [
  ([true, true, false], [.inl (.iload 1), .inr (5, 0, 1), .inl (.ifCond .ne 1), .inl (.aload 0), .inl (.iconst 0), .inr (5, 1, 0), .inl .ireturn]),
  ([true, true, false], [.inl (.aload 0), .inr (0, 6, 29), .inl (.iload 1), .inl .iaload, .inl (.ifCond .ne 2), .inl (.aload 0), .inl (.iconst 5), .inr (5, 1, 0), .inl .ireturn]),
  ([true, true, false], [.inl (.aload 0), .inr (0, 6, 3), .inl (.ifCond .ne 3), .inl (.aload 0), .inl (.iconst 3), .inr (5, 1, 0), .inl .ireturn]),
  ([true, true, false], [.inl (.aload 0), .inr (5, 2, 0), .inl (.iconst 0), .inl (.istore 2), .inr (7, 4, 1)]),
  ([true, true, true], [.inl (.iload 2), .inl (.aload 0), .inr (0, 6, 30), .inl (.iload 1), .inl .iaload, .inl (.if_icmp .ge 6), .inl (.aload 0), .inr (5, 3, 0), .inl (.aload 0), .inr (0, 6, 31), .inl (.iconst 40), .inl (.iload 1), .inl .imul, .inl (.iload 2), .inl .iadd, .inl .iaload, .inl (.aload 0), .inr (5, 4, 0), .inl (.if_icmp .eq 5), .inl (.iload 2), .inl .ireturn]),
  ([true, true, true], [.inl (.iinc 2 (1)), .inr (7, 4, 0)]),
  ([false, false, false], [.inl (.iconst (-1)), .inl .ireturn])]
def g_6_judge : List (Nat × dk_S) := [(1, s_6_isSheet), (2, s_6_finds), (1, s_6_beginMarch), (1, s_6_goes), (1, s_6_worstNow)]
def s_6_judge : dk_S := dk_MV 6 g_6_judge b_6_judge 3
theorem h_6_judge : dk_monoG g_6_judge := dk_monoG_cons o_6_isSheet (dk_monoG_cons o_6_finds (dk_monoG_cons o_6_beginMarch (dk_monoG_cons o_6_goes (dk_monoG_cons o_6_worstNow (dk_monoG_nil)))))
theorem o_6_judge : dk_mono s_6_judge := dk_MV_mono _ h_6_judge _ _
def t_6_judge : dk_Tm := (tc_6, [(273, 1, 0), (101, 0, 1), (230, 0, 2), (227, 0, 3), (237, 0, 4)], [0, 13, 28, 41, 47, 81, 87], 0)
def y_6_move : MethodName := ⟨nn_R6, "move", "([IIZ)V"⟩
def b_6_move : dk_T := [
  ([true, true, true, true, false], [.inl (.iconst 0), .inl (.istore 4), .inr (7, 1, 1)]),
  ([true, true, true, true, true], [.inl (.iload 4), .inl (.iload 2), .inl (.if_icmp .ge 4), .inl (.iload 3), .inl (.ifCond .eq 2), .inl (.aload 0), .inr (0, 6, 34), .inl (.aload 0), .inr (0, 6, 35), .inl (.aload 1), .inl (.iload 4), .inl .iaload, .inl .iastore, .inr (7, 3, 0)]),
  ([true, true, true, true, true], [.inl (.aload 1), .inl (.iload 4), .inl (.aload 0), .inr (0, 6, 34), .inl (.aload 0), .inr (0, 6, 35), .inl .iaload, .inl .iastore, .inr (7, 3, 1)]),
  ([true, true, true, true, true], [.inl (.aload 0), .inl .dup, .inr (0, 6, 35), .inl (.iconst 1), .inl .iadd, .inr (1, 6, 35), .inl (.iinc 4 (1)), .inr (7, 1, 0)]),
  ([false, false, false, false, false], [.inl .return_])]
def g_6_move : List (Nat × dk_S) := []
def s_6_move : dk_S := dk_MV 6 g_6_move b_6_move 5
theorem h_6_move : dk_monoG g_6_move := dk_monoG_nil
theorem o_6_move : dk_mono s_6_move := dk_MV_mono _ h_6_move _ _
def t_6_move : dk_Tm := (tc_6, [], [0, 3, 29, 42, 58], 2)
def y_6_moveAll : MethodName := ⟨nn_R6, "moveAll", "(Z)V"⟩
def b_6_moveAll : dk_T := [
  ([true, true], [.inl (.aload 0), .inl (.iconst 0), .inr (1, 6, 35), .inl (.aload 0), .inr (0, 6, 36), .inl (.iconst 0), .inl (.aload 0), .inr (0, 6, 3), .inl .iastore, .inl (.aload 0), .inr (0, 6, 36), .inl (.iconst 1), .inl (.aload 0), .inr (0, 6, 6), .inl .iastore, .inl (.aload 0), .inr (0, 6, 36), .inl (.iconst 2), .inl (.aload 0), .inr (0, 6, 8), .inl .iastore, .inl (.aload 0), .inr (0, 6, 36), .inl (.iconst 3), .inl (.aload 0), .inr (0, 6, 10), .inl .iastore, .inl (.aload 0), .inl (.aload 0), .inr (0, 6, 36), .inl (.iconst 4), .inl (.iload 1), .inr (5, 0, 0), .inl (.aload 0), .inl (.aload 0), .inr (0, 6, 0), .inl (.iconst 7), .inl (.iload 1), .inr (5, 0, 0), .inl (.aload 0), .inl (.aload 0), .inr (0, 6, 4), .inl (.iconst 120), .inl (.iload 1), .inr (5, 0, 0), .inl (.aload 0), .inl (.aload 0), .inr (0, 6, 5), .inl (.iconst 24), .inl (.iload 1), .inr (5, 0, 0), .inl (.aload 0), .inl (.aload 0), .inr (0, 6, 7), .inl (.iconst 18), .inl (.iload 1), .inr (5, 0, 0), .inl (.aload 0), .inl (.aload 0), .inr (0, 6, 9), .inl (.iconst 6), .inl (.iload 1), .inr (5, 0, 0), .inl (.aload 0), .inl (.aload 0), .inr (0, 6, 11), .inl (.iconst 10), .inl (.iload 1), .inr (5, 0, 0), .inl .return_])]
def g_6_moveAll : List (Nat × dk_S) := [(4, s_6_move)]
def s_6_moveAll : dk_S := dk_MV 6 g_6_moveAll b_6_moveAll 2
theorem h_6_moveAll : dk_monoG g_6_moveAll := dk_monoG_cons o_6_move (dk_monoG_nil)
theorem o_6_moveAll : dk_mono s_6_moveAll := dk_MV_mono _ h_6_moveAll _ _
def t_6_moveAll : dk_Tm := (tc_6, [(279, 0, 0)], [0], 2)
def y_6_image : MethodName := ⟨nn_R6, "image", "()I"⟩
def b_6_image : dk_T := [
  ([true], [.inl (.aload 0), .inl (.iconst 1), .inr (5, 0, 0), .inl (.aload 0), .inl (.iconst 1), .inr (2, 6, 33), .inl (.iconst 1), .inl .ireturn])]
def g_6_image : List (Nat × dk_S) := [(2, s_6_moveAll)]
def s_6_image : dk_S := dk_MV 6 g_6_image b_6_image 1
theorem h_6_image : dk_monoG g_6_image := dk_monoG_cons o_6_moveAll (dk_monoG_nil)
theorem o_6_image : dk_mono s_6_image := dk_MV_mono _ h_6_image _ _
def t_6_image : dk_Tm := (tc_6, [(283, 0, 0)], [0], 0)
def y_6_undo : MethodName := ⟨nn_R6, "undo", "()I"⟩
def b_6_undo : dk_T := [
  ([true], [.inl (.aload 0), .inr (0, 6, 33), .inl (.ifCond .ne 1), .inl (.aload 0), .inl (.iconst 3), .inr (5, 0, 0), .inl .ireturn]),
  ([true], [.inl (.aload 0), .inl (.iconst 0), .inr (5, 1, 0), .inl (.aload 0), .inl (.aload 0), .inr (0, 6, 36), .inl (.iconst 0), .inl .iaload, .inr (1, 6, 3), .inl (.aload 0), .inl (.aload 0), .inr (0, 6, 36), .inl (.iconst 1), .inl .iaload, .inr (1, 6, 6), .inl (.aload 0), .inl (.aload 0), .inr (0, 6, 36), .inl (.iconst 2), .inl .iaload, .inr (1, 6, 8), .inl (.aload 0), .inl (.aload 0), .inr (0, 6, 36), .inl (.iconst 3), .inl .iaload, .inr (1, 6, 10), .inl (.aload 0), .inr (0, 6, 3), .inl .ireturn])]
def g_6_undo : List (Nat × dk_S) := [(2, s_6_finds), (2, s_6_moveAll)]
def s_6_undo : dk_S := dk_MV 6 g_6_undo b_6_undo 1
theorem h_6_undo : dk_monoG g_6_undo := dk_monoG_cons o_6_finds (dk_monoG_cons o_6_moveAll (dk_monoG_nil))
theorem o_6_undo : dk_mono s_6_undo := dk_MV_mono _ h_6_undo _ _
def t_6_undo : dk_Tm := (tc_6, [(101, 0, 0), (283, 0, 1)], [0, 13], 0)
def y_6_tear : MethodName := ⟨nn_R6, "tear", "()I"⟩
def b_6_tear : dk_T := [
  ([true, false], [.inl (.aload 0), .inr (0, 6, 33), .inl (.ifCond .eq 1), .inl (.iconst 1), .inr (7, 2, 0)]),
  ([true, false], [.inl (.iconst 0), .inr (7, 2, 1)]),
  ([true, false], [.inl (.istore 1), .inl (.aload 0), .inl (.iconst 0), .inr (2, 6, 33), .inl (.iload 1), .inl .ireturn])]
def g_6_tear : List (Nat × dk_S) := []
def s_6_tear : dk_S := dk_MV 6 g_6_tear b_6_tear 2
theorem h_6_tear : dk_monoG g_6_tear := dk_monoG_nil
theorem o_6_tear : dk_mono s_6_tear := dk_MV_mono _ h_6_tear _ _
def t_6_tear : dk_Tm := (tc_6, [], [0, 11, 12], 0)
def y_6_count : MethodName := ⟨nn_R6, "count", "(I)I"⟩
def b_6_count : dk_T := [
  ([true, true, false, false], [.inl (.iconst 0), .inl (.istore 2), .inl (.iload 1), .inl (.tableswitch 11 0 5 #[1, 2, 3, 4, 5, 6])]),
  ([true, false, false, false], [.inl (.aload 0), .inr (0, 6, 3), .inl .ireturn]),
  ([true, false, false, false], [.inl (.aload 0), .inr (0, 6, 6), .inl .ireturn]),
  ([true, false, false, false], [.inl (.aload 0), .inr (0, 6, 8), .inl .ireturn]),
  ([true, false, false, false], [.inl (.aload 0), .inr (0, 6, 14), .inl .ireturn]),
  ([true, false, false, false], [.inl (.aload 0), .inr (0, 6, 10), .inl .ireturn]),
  ([true, false, true, false], [.inl (.iconst 0), .inl (.istore 3), .inr (7, 7, 1)]),
  ([true, false, true, true], [.inl (.iload 3), .inl (.iconst 10), .inl (.if_icmp .ge 10), .inl (.iload 2), .inl (.aload 0), .inr (0, 6, 11), .inl (.iload 3), .inl .iaload, .inl (.ifCond .lt 8), .inl (.iconst 1), .inr (7, 9, 0)]),
  ([true, false, false, true], [.inl (.iconst 0), .inr (7, 9, 1)]),
  ([true, false, false, true], [.inl .iadd, .inl (.istore 2), .inl (.iinc 3 (1)), .inr (7, 7, 0)]),
  ([false, false, true, false], [.inl (.iload 2), .inl .ireturn]),
  ([true, false, false, false], [.inl (.aload 0), .inl (.iconst 0), .inr (5, 0, 0), .inl .ireturn])]
def g_6_count : List (Nat × dk_S) := [(2, s_6_finds)]
def s_6_count : dk_S := dk_MV 6 g_6_count b_6_count 4
theorem h_6_count : dk_monoG g_6_count := dk_monoG_cons o_6_finds (dk_monoG_nil)
theorem o_6_count : dk_mono s_6_count := dk_MV_mono _ h_6_count _ _
def t_6_count : dk_Tm := (tc_6, [(101, 0, 0)], [0, 40, 45, 50, 55, 60, 65, 67, 87, 88, 96, 98], 0)
def y_6_status : MethodName := ⟨nn_R6, "status", "(I)I"⟩
def b_6_status : dk_T := [
  ([true, true, false, false], [.inl (.iload 1), .inl (.iconst (-1)), .inl (.iconst 6), .inr (5, 0, 1), .inl (.ifCond .ne 1), .inl (.aload 0), .inl (.iconst 0), .inr (5, 1, 0), .inl .ireturn]),
  ([true, true, false, false], [.inl (.iconst 0), .inl (.istore 2), .inl (.iconst 0), .inl (.istore 3), .inr (7, 2, 1)]),
  ([true, true, true, true], [.inl (.iload 3), .inl (.iconst 7), .inl (.if_icmp .ge 6), .inl (.iload 2), .inl (.iload 1), .inl (.ifCond .lt 3), .inl (.iload 3), .inl (.iload 1), .inl (.if_icmp .ne 4), .inr (7, 3, 1)]),
  ([true, true, false, true], [.inl (.aload 0), .inr (0, 6, 12), .inl (.iload 3), .inl .iaload, .inr (7, 5, 0)]),
  ([true, true, false, true], [.inl (.iconst 0), .inr (7, 5, 1)]),
  ([true, true, false, true], [.inl .iadd, .inl (.istore 2), .inl (.iinc 3 (1)), .inr (7, 2, 0)]),
  ([false, false, true, false], [.inl (.iload 2), .inl .ireturn])]
def g_6_status : List (Nat × dk_S) := [(3, s_6_in), (2, s_6_finds)]
def s_6_status : dk_S := dk_MV 6 g_6_status b_6_status 4
theorem h_6_status : dk_monoG g_6_status := dk_monoG_cons o_6_in (dk_monoG_cons o_6_finds (dk_monoG_nil))
theorem o_6_status : dk_mono s_6_status := dk_MV_mono _ h_6_status _ _
def t_6_status : dk_Tm := (tc_6, [(88, 1, 0), (101, 0, 1)], [0, 16, 20, 36, 45, 46, 54], 0)
end
section
/-! THE METHODS: their contracts -/
theorem k_9_fill : dk_ckT t_9_fill prog_15_method_103_code 4 t_9_fill.2.2.1 b_9_fill = true := by decide +kernel
set_option maxRecDepth 20000 in
theorem hc_9_fill : ∀ q ∈ t_9_fill.2.1, ∃ n Sm, dk_nth g_9_fill q.2.2 = some (n, Sm) ∧ dk_Call y_9_fill.cls ({ frames := 0, cells := 0, slots := 0, locals := 0 }) prog_15_method_103_code 4 q.2.1 q.1 n Sm :=
  dk_an
theorem e_9_fill : dk_Met y_9_fill prog_15_method_103_code 4 none ({ frames := 0, cells := 0, slots := 0, locals := 0 }) s_9_fill := dk_met (y := y_9_fill) (cc := prog_15_method_103_code) (maxL := 4) (ret := none) (rm := ({ frames := 0, cells := 0, slots := 0, locals := 0 })) (T := t_9_fill) (tb := b_9_fill) (G := g_9_fill) (by decide +kernel) ⟨fun z => absurd z (by decide), fun z => absurd z (by decide), fun _ => rfl, fun z => absurd z (by decide)⟩ (fun _ _ _ _ _ _ _ => tok_n _) h_9_fill k_9_fill rfl (fun i kd j h => hc_9_fill (i, kd, j) (dk_lk_mem h))
set_option maxRecDepth 20000 in
theorem wv_9_fill : ∀ w ∈ [Cond.static y_9_fill, Cond.initialized y_9_fill.cls, Cond.code y_9_fill prog_15_method_103_code 4 none], w ∈ dk_TB := dk_ac (dk_tb 95 rfl rfl) (dk_ac (dk_tb 59 rfl rfl) (dk_ac (dk_tb 96 rfl rfl) (dk_an)))
theorem hd_9_fill : y_9_fill.cls ≠ "java/lang/invoke/MethodHandle" ∧ y_9_fill.cls ≠ "java/lang/invoke/VarHandle" ∧ (parseMethodDescriptor y_9_fill.desc).map (fun d => d.parameters.length) = some 2 := by decide +kernel
theorem k_5_isWithin : dk_ckT t_5_isWithin prog_1_method_45_code 3 t_5_isWithin.2.2.1 b_5_isWithin = true := by decide +kernel
set_option maxRecDepth 20000 in
theorem hc_5_isWithin : ∀ q ∈ t_5_isWithin.2.1, ∃ n Sm, dk_nth g_5_isWithin q.2.2 = some (n, Sm) ∧ dk_Call y_5_isWithin.cls ({ frames := 0, cells := 0, slots := 0, locals := 0 }) prog_1_method_45_code 3 q.2.1 q.1 n Sm :=
  dk_an
theorem e_5_isWithin : dk_Met y_5_isWithin prog_1_method_45_code 3 (some .boolean) ({ frames := 0, cells := 0, slots := 0, locals := 0 }) s_5_isWithin := dk_met (y := y_5_isWithin) (cc := prog_1_method_45_code) (maxL := 3) (ret := (some .boolean)) (rm := ({ frames := 0, cells := 0, slots := 0, locals := 0 })) (T := t_5_isWithin) (tb := b_5_isWithin) (G := g_5_isWithin) (by decide +kernel) ⟨fun z => absurd z (by decide), fun _ => rfl, fun z => absurd z (by decide), fun z => absurd z (by decide)⟩ (fun _ _ _ _ _ hts hd => tok_5 hts hd) h_5_isWithin k_5_isWithin rfl (fun i kd j h => hc_5_isWithin (i, kd, j) (dk_lk_mem h))
set_option maxRecDepth 20000 in
theorem wv_5_isWithin : ∀ w ∈ [Cond.static y_5_isWithin, Cond.initialized y_5_isWithin.cls, Cond.code y_5_isWithin prog_1_method_45_code 3 (some .boolean)], w ∈ dk_TB := dk_ac (dk_tb 317 rfl rfl) (dk_ac (dk_tb 57 rfl rfl) (dk_ac (dk_tb 318 rfl rfl) (dk_an)))
theorem hd_5_isWithin : y_5_isWithin.cls ≠ "java/lang/invoke/MethodHandle" ∧ y_5_isWithin.cls ≠ "java/lang/invoke/VarHandle" ∧ (parseMethodDescriptor y_5_isWithin.desc).map (fun d => d.parameters.length) = some 3 := by decide +kernel
theorem k_5_finding : dk_ckT t_5_finding prog_1_method_44_code 2 t_5_finding.2.2.1 b_5_finding = true := by decide +kernel
set_option maxRecDepth 20000 in
theorem hc_5_finding : ∀ q ∈ t_5_finding.2.1, ∃ n Sm, dk_nth g_5_finding q.2.2 = some (n, Sm) ∧ dk_Call y_5_finding.cls ({ frames := 0, cells := 0, slots := 0, locals := 0 }) prog_1_method_44_code 2 q.2.1 q.1 n Sm :=
  dk_an
theorem e_5_finding : dk_Met y_5_finding prog_1_method_44_code 2 (some .int) ({ frames := 0, cells := 0, slots := 0, locals := 0 }) s_5_finding := dk_metV 5 (dk_met (y := y_5_finding) (cc := prog_1_method_44_code) (maxL := 2) (ret := (some .int)) (rm := ({ frames := 0, cells := 0, slots := 0, locals := 0 })) (T := t_5_finding) (tb := b_5_finding) (G := g_5_finding) (by decide +kernel) ⟨fun _ => rfl, fun z => absurd z (by decide), fun z => absurd z (by decide), fun z => absurd z (by decide)⟩ (fun _ _ _ _ _ hts hd => tok_5 hts hd) h_5_finding k_5_finding rfl (fun i kd j h => hc_5_finding (i, kd, j) (dk_lk_mem h)))
set_option maxRecDepth 20000 in
theorem wv_5_finding : ∀ w ∈ [Cond.instanceMethod y_5_finding, Cond.selects y_5_finding.cls y_5_finding y_5_finding, Cond.initialized y_5_finding.cls, Cond.code y_5_finding prog_1_method_44_code 2 (some .int)], w ∈ dk_TB := dk_ac (dk_tb 325 rfl rfl) (dk_ac (dk_tb 0 rfl rfl) (dk_ac (dk_tb 57 rfl rfl) (dk_ac (dk_tb 326 rfl rfl) (dk_an))))
theorem hd_5_finding : y_5_finding.cls ≠ "java/lang/invoke/MethodHandle" ∧ y_5_finding.cls ≠ "java/lang/invoke/VarHandle" ∧ (parseMethodDescriptor y_5_finding.desc).map (fun d => d.parameters.length) = some 1 := by decide +kernel
theorem k_5_wrapped : dk_ckT t_5_wrapped prog_1_method_52_code 3 t_5_wrapped.2.2.1 b_5_wrapped = true := by decide +kernel
set_option maxRecDepth 20000 in
theorem hc_5_wrapped : ∀ q ∈ t_5_wrapped.2.1, ∃ n Sm, dk_nth g_5_wrapped q.2.2 = some (n, Sm) ∧ dk_Call y_5_wrapped.cls ({ frames := 0, cells := 0, slots := 0, locals := 0 }) prog_1_method_52_code 3 q.2.1 q.1 n Sm :=
  dk_an
theorem e_5_wrapped : dk_Met y_5_wrapped prog_1_method_52_code 3 (some .int) ({ frames := 0, cells := 0, slots := 0, locals := 0 }) s_5_wrapped := dk_met (y := y_5_wrapped) (cc := prog_1_method_52_code) (maxL := 3) (ret := (some .int)) (rm := ({ frames := 0, cells := 0, slots := 0, locals := 0 })) (T := t_5_wrapped) (tb := b_5_wrapped) (G := g_5_wrapped) (by decide +kernel) ⟨fun _ => rfl, fun z => absurd z (by decide), fun z => absurd z (by decide), fun z => absurd z (by decide)⟩ (fun _ _ _ _ _ hts hd => tok_5 hts hd) h_5_wrapped k_5_wrapped rfl (fun i kd j h => hc_5_wrapped (i, kd, j) (dk_lk_mem h))
set_option maxRecDepth 20000 in
theorem wv_5_wrapped : ∀ w ∈ [Cond.static y_5_wrapped, Cond.initialized y_5_wrapped.cls, Cond.code y_5_wrapped prog_1_method_52_code 3 (some .int)], w ∈ dk_TB := dk_ac (dk_tb 337 rfl rfl) (dk_ac (dk_tb 57 rfl rfl) (dk_ac (dk_tb 338 rfl rfl) (dk_an)))
theorem hd_5_wrapped : y_5_wrapped.cls ≠ "java/lang/invoke/MethodHandle" ∧ y_5_wrapped.cls ≠ "java/lang/invoke/VarHandle" ∧ (parseMethodDescriptor y_5_wrapped.desc).map (fun d => d.parameters.length) = some 2 := by decide +kernel
theorem k_0_wrap : dk_ckT t_0_wrap prog_2_method_5_code 2 t_0_wrap.2.2.1 b_0_wrap = true := by decide +kernel
set_option maxRecDepth 20000 in
theorem hc_0_wrap : ∀ q ∈ t_0_wrap.2.1, ∃ n Sm, dk_nth g_0_wrap q.2.2 = some (n, Sm) ∧ dk_Call y_0_wrap.cls ({ frames := 1, cells := 0, slots := 0, locals := 22 }) prog_2_method_5_code 2 q.2.1 q.1 n Sm :=
  dk_ac ⟨2, s_5_wrapped, rfl, fun hx hb hml hown hts hF => dk_callN e_5_wrapped (List.mem_of_getElem? (i := 0) rfl) wv_5_wrapped ⟨rfl, rfl⟩ hd_5_wrapped ⟨by decide, by decide⟩ ⟨Nat.zero_le _, Nat.zero_le _⟩ hx hb hml hown hts hF⟩
    (dk_an)
theorem e_0_wrap : dk_Met y_0_wrap prog_2_method_5_code 2 (some .int) ({ frames := 1, cells := 0, slots := 0, locals := 22 }) s_0_wrap := dk_metV 0 (dk_met (y := y_0_wrap) (cc := prog_2_method_5_code) (maxL := 2) (ret := (some .int)) (rm := ({ frames := 1, cells := 0, slots := 0, locals := 22 })) (T := t_0_wrap) (tb := b_0_wrap) (G := g_0_wrap) (by decide +kernel) ⟨fun _ => rfl, fun z => absurd z (by decide), fun z => absurd z (by decide), fun z => absurd z (by decide)⟩ (fun _ _ _ _ _ hts hd => tok_0 hts hd) h_0_wrap k_0_wrap rfl (fun i kd j h => hc_0_wrap (i, kd, j) (dk_lk_mem h)))
set_option maxRecDepth 20000 in
theorem wv_0_wrap : ∀ w ∈ [Cond.instanceMethod y_0_wrap, Cond.selects y_0_wrap.cls y_0_wrap y_0_wrap, Cond.initialized y_0_wrap.cls, Cond.code y_0_wrap prog_2_method_5_code 2 (some .int)], w ∈ dk_TB := dk_ac (dk_tb 333 rfl rfl) (dk_ac (dk_tb 334 rfl rfl) (dk_ac (dk_tb 58 rfl rfl) (dk_ac (dk_tb 335 rfl rfl) (dk_an))))
theorem hd_0_wrap : y_0_wrap.cls ≠ "java/lang/invoke/MethodHandle" ∧ y_0_wrap.cls ≠ "java/lang/invoke/VarHandle" ∧ (parseMethodDescriptor y_0_wrap.desc).map (fun d => d.parameters.length) = some 1 := by decide +kernel
theorem k_0_wrapAnew : dk_ckT t_0_wrapAnew prog_2_method_6_code 2 t_0_wrapAnew.2.2.1 b_0_wrapAnew = true := by decide +kernel
set_option maxRecDepth 20000 in
theorem hc_0_wrapAnew : ∀ q ∈ t_0_wrapAnew.2.1, ∃ n Sm, dk_nth g_0_wrapAnew q.2.2 = some (n, Sm) ∧ dk_Call y_0_wrapAnew.cls ({ frames := 2, cells := 0, slots := 0, locals := 43 }) prog_2_method_6_code 2 q.2.1 q.1 n Sm :=
  dk_ac ⟨2, s_0_wrap, rfl, fun hx hb hml hown hts hF => dk_callV e_0_wrap dk_rcV rfl (dk_ac (dk_tb 332 rfl rfl) wv_0_wrap) ⟨rfl, rfl⟩ hd_0_wrap ⟨by decide, by decide⟩ ⟨Nat.zero_le _, Nat.zero_le _⟩ hx hb hml hown hts hF⟩
    (dk_an)
theorem e_0_wrapAnew : dk_Met y_0_wrapAnew prog_2_method_6_code 2 none ({ frames := 2, cells := 0, slots := 0, locals := 43 }) s_0_wrapAnew := dk_metV 0 (dk_met (y := y_0_wrapAnew) (cc := prog_2_method_6_code) (maxL := 2) (ret := none) (rm := ({ frames := 2, cells := 0, slots := 0, locals := 43 })) (T := t_0_wrapAnew) (tb := b_0_wrapAnew) (G := g_0_wrapAnew) (by decide +kernel) ⟨fun z => absurd z (by decide), fun z => absurd z (by decide), fun _ => rfl, fun z => absurd z (by decide)⟩ (fun _ _ _ _ _ hts hd => tok_0 hts hd) h_0_wrapAnew k_0_wrapAnew rfl (fun i kd j h => hc_0_wrapAnew (i, kd, j) (dk_lk_mem h)))
set_option maxRecDepth 20000 in
theorem wv_0_wrapAnew : ∀ w ∈ [Cond.instanceMethod y_0_wrapAnew, Cond.selects y_0_wrapAnew.cls y_0_wrapAnew y_0_wrapAnew, Cond.initialized y_0_wrapAnew.cls, Cond.code y_0_wrapAnew prog_2_method_6_code 2 none], w ∈ dk_TB := dk_ac (dk_tb 329 rfl rfl) (dk_ac (dk_tb 330 rfl rfl) (dk_ac (dk_tb 58 rfl rfl) (dk_ac (dk_tb 331 rfl rfl) (dk_an))))
theorem hd_0_wrapAnew : y_0_wrapAnew.cls ≠ "java/lang/invoke/MethodHandle" ∧ y_0_wrapAnew.cls ≠ "java/lang/invoke/VarHandle" ∧ (parseMethodDescriptor y_0_wrapAnew.desc).map (fun d => d.parameters.length) = some 0 := by decide +kernel
theorem k_5_rule : dk_ckT t_5_rule prog_1_method_2_code 4 t_5_rule.2.2.1 b_5_rule = true := by decide +kernel
set_option maxRecDepth 20000 in
theorem hc_5_rule : ∀ q ∈ t_5_rule.2.1, ∃ n Sm, dk_nth g_5_rule q.2.2 = some (n, Sm) ∧ dk_Call y_5_rule.cls ({ frames := 3, cells := 0, slots := 0, locals := 64 }) prog_1_method_2_code 4 q.2.1 q.1 n Sm :=
  dk_ac ⟨3, s_5_isWithin, rfl, fun hx hb hml hown hts hF => dk_callS e_5_isWithin (dk_ac (dk_tb 316 rfl rfl) wv_5_isWithin) ⟨rfl, rfl⟩ hd_5_isWithin ⟨by decide, by decide⟩ ⟨Nat.zero_le _, Nat.zero_le _⟩ hx hb hml hown hts hF⟩
    (dk_ac ⟨2, s_5_finding, rfl, fun hx hb hml hown hts hF => dk_callV e_5_finding dk_rcV rfl (dk_ac (dk_tb 323 rfl rfl) wv_5_finding) ⟨rfl, rfl⟩ hd_5_finding ⟨by decide, by decide⟩ ⟨Nat.zero_le _, Nat.zero_le _⟩ hx hb hml hown hts hF⟩
    (dk_ac ⟨1, s_0_wrapAnew, rfl, fun hx hb hml hown hts hF => dk_callV e_0_wrapAnew dk_rcV rfl (dk_ac (dk_tb 328 rfl rfl) wv_0_wrapAnew) ⟨rfl, rfl⟩ hd_0_wrapAnew ⟨by decide, by decide⟩ ⟨Nat.zero_le _, Nat.zero_le _⟩ hx hb hml hown hts hF⟩
    (dk_an)))
theorem e_5_rule : dk_Met y_5_rule prog_1_method_2_code 4 (some .int) ({ frames := 3, cells := 0, slots := 0, locals := 64 }) s_5_rule := dk_metV 5 (dk_met (y := y_5_rule) (cc := prog_1_method_2_code) (maxL := 4) (ret := (some .int)) (rm := ({ frames := 3, cells := 0, slots := 0, locals := 64 })) (T := t_5_rule) (tb := b_5_rule) (G := g_5_rule) (by decide +kernel) ⟨fun _ => rfl, fun z => absurd z (by decide), fun z => absurd z (by decide), fun z => absurd z (by decide)⟩ (fun _ _ _ _ _ hts hd => tok_5 hts hd) h_5_rule k_5_rule rfl (fun i kd j h => hc_5_rule (i, kd, j) (dk_lk_mem h)))
set_option maxRecDepth 20000 in
theorem wv_5_rule : ∀ w ∈ [Cond.instanceMethod y_5_rule, Cond.selects y_5_rule.cls y_5_rule y_5_rule, Cond.initialized y_5_rule.cls, Cond.code y_5_rule prog_1_method_2_code 4 (some .int)], w ∈ dk_TB := dk_ac (dk_tb 313 rfl rfl) (dk_ac (dk_tb 314 rfl rfl) (dk_ac (dk_tb 57 rfl rfl) (dk_ac (dk_tb 315 rfl rfl) (dk_an))))
theorem hd_5_rule : y_5_rule.cls ≠ "java/lang/invoke/MethodHandle" ∧ y_5_rule.cls ≠ "java/lang/invoke/VarHandle" ∧ (parseMethodDescriptor y_5_rule.desc).map (fun d => d.parameters.length) = some 2 := by decide +kernel
theorem k_5_feed : dk_ckT t_5_feed prog_1_method_3_code 4 t_5_feed.2.2.1 b_5_feed = true := by decide +kernel
set_option maxRecDepth 20000 in
theorem hc_5_feed : ∀ q ∈ t_5_feed.2.1, ∃ n Sm, dk_nth g_5_feed q.2.2 = some (n, Sm) ∧ dk_Call y_5_feed.cls ({ frames := 1, cells := 0, slots := 0, locals := 22 }) prog_1_method_3_code 4 q.2.1 q.1 n Sm :=
  dk_ac ⟨3, s_5_isWithin, rfl, fun hx hb hml hown hts hF => dk_callS e_5_isWithin (dk_ac (dk_tb 316 rfl rfl) wv_5_isWithin) ⟨rfl, rfl⟩ hd_5_isWithin ⟨by decide, by decide⟩ ⟨Nat.zero_le _, Nat.zero_le _⟩ hx hb hml hown hts hF⟩
    (dk_ac ⟨2, s_5_finding, rfl, fun hx hb hml hown hts hF => dk_callV e_5_finding dk_rcV rfl (dk_ac (dk_tb 323 rfl rfl) wv_5_finding) ⟨rfl, rfl⟩ hd_5_finding ⟨by decide, by decide⟩ ⟨Nat.zero_le _, Nat.zero_le _⟩ hx hb hml hown hts hF⟩
    (dk_an))
theorem e_5_feed : dk_Met y_5_feed prog_1_method_3_code 4 (some .int) ({ frames := 1, cells := 0, slots := 0, locals := 22 }) s_5_feed := dk_metV 5 (dk_met (y := y_5_feed) (cc := prog_1_method_3_code) (maxL := 4) (ret := (some .int)) (rm := ({ frames := 1, cells := 0, slots := 0, locals := 22 })) (T := t_5_feed) (tb := b_5_feed) (G := g_5_feed) (by decide +kernel) ⟨fun _ => rfl, fun z => absurd z (by decide), fun z => absurd z (by decide), fun z => absurd z (by decide)⟩ (fun _ _ _ _ _ hts hd => tok_5 hts hd) h_5_feed k_5_feed rfl (fun i kd j h => hc_5_feed (i, kd, j) (dk_lk_mem h)))
set_option maxRecDepth 20000 in
theorem wv_5_feed : ∀ w ∈ [Cond.instanceMethod y_5_feed, Cond.selects y_5_feed.cls y_5_feed y_5_feed, Cond.initialized y_5_feed.cls, Cond.code y_5_feed prog_1_method_3_code 4 (some .int)], w ∈ dk_TB := dk_ac (dk_tb 340 rfl rfl) (dk_ac (dk_tb 341 rfl rfl) (dk_ac (dk_tb 57 rfl rfl) (dk_ac (dk_tb 342 rfl rfl) (dk_an))))
theorem hd_5_feed : y_5_feed.cls ≠ "java/lang/invoke/MethodHandle" ∧ y_5_feed.cls ≠ "java/lang/invoke/VarHandle" ∧ (parseMethodDescriptor y_5_feed.desc).map (fun d => d.parameters.length) = some 2 := by decide +kernel
theorem k_5_wipe : dk_ckT t_5_wipe prog_1_method_4_code 2 t_5_wipe.2.2.1 b_5_wipe = true := by decide +kernel
set_option maxRecDepth 20000 in
theorem hc_5_wipe : ∀ q ∈ t_5_wipe.2.1, ∃ n Sm, dk_nth g_5_wipe q.2.2 = some (n, Sm) ∧ dk_Call y_5_wipe.cls ({ frames := 0, cells := 0, slots := 0, locals := 0 }) prog_1_method_4_code 2 q.2.1 q.1 n Sm :=
  dk_an
theorem e_5_wipe : dk_Met y_5_wipe prog_1_method_4_code 2 (some .int) ({ frames := 0, cells := 0, slots := 0, locals := 0 }) s_5_wipe := dk_metV 5 (dk_met (y := y_5_wipe) (cc := prog_1_method_4_code) (maxL := 2) (ret := (some .int)) (rm := ({ frames := 0, cells := 0, slots := 0, locals := 0 })) (T := t_5_wipe) (tb := b_5_wipe) (G := g_5_wipe) (by decide +kernel) ⟨fun _ => rfl, fun z => absurd z (by decide), fun z => absurd z (by decide), fun z => absurd z (by decide)⟩ (fun _ _ _ _ _ hts hd => tok_5 hts hd) h_5_wipe k_5_wipe rfl (fun i kd j h => hc_5_wipe (i, kd, j) (dk_lk_mem h)))
set_option maxRecDepth 20000 in
theorem wv_5_wipe : ∀ w ∈ [Cond.instanceMethod y_5_wipe, Cond.selects y_5_wipe.cls y_5_wipe y_5_wipe, Cond.initialized y_5_wipe.cls, Cond.code y_5_wipe prog_1_method_4_code 2 (some .int)], w ∈ dk_TB := dk_ac (dk_tb 344 rfl rfl) (dk_ac (dk_tb 345 rfl rfl) (dk_ac (dk_tb 57 rfl rfl) (dk_ac (dk_tb 346 rfl rfl) (dk_an))))
theorem hd_5_wipe : y_5_wipe.cls ≠ "java/lang/invoke/MethodHandle" ∧ y_5_wipe.cls ≠ "java/lang/invoke/VarHandle" ∧ (parseMethodDescriptor y_5_wipe.desc).map (fun d => d.parameters.length) = some 0 := by decide +kernel
theorem k_3_tokenOf : dk_ckT t_3_tokenOf prog_5_method_13_code 1 t_3_tokenOf.2.2.1 b_3_tokenOf = true := by decide +kernel
set_option maxRecDepth 20000 in
theorem hc_3_tokenOf : ∀ q ∈ t_3_tokenOf.2.1, ∃ n Sm, dk_nth g_3_tokenOf q.2.2 = some (n, Sm) ∧ dk_Call y_3_tokenOf.cls ({ frames := 0, cells := 0, slots := 0, locals := 0 }) prog_5_method_13_code 1 q.2.1 q.1 n Sm :=
  dk_an
theorem e_3_tokenOf : dk_Met y_3_tokenOf prog_5_method_13_code 1 (some .int) ({ frames := 0, cells := 0, slots := 0, locals := 0 }) s_3_tokenOf := dk_met (y := y_3_tokenOf) (cc := prog_5_method_13_code) (maxL := 1) (ret := (some .int)) (rm := ({ frames := 0, cells := 0, slots := 0, locals := 0 })) (T := t_3_tokenOf) (tb := b_3_tokenOf) (G := g_3_tokenOf) (by decide +kernel) ⟨fun _ => rfl, fun z => absurd z (by decide), fun z => absurd z (by decide), fun z => absurd z (by decide)⟩ (fun _ _ _ _ _ hts hd => tok_3 hts hd) h_3_tokenOf k_3_tokenOf rfl (fun i kd j h => hc_3_tokenOf (i, kd, j) (dk_lk_mem h))
set_option maxRecDepth 20000 in
theorem wv_3_tokenOf : ∀ w ∈ [Cond.static y_3_tokenOf, Cond.initialized y_3_tokenOf.cls, Cond.code y_3_tokenOf prog_5_method_13_code 1 (some .int)], w ∈ dk_TB := dk_ac (dk_tb 360 rfl rfl) (dk_ac (dk_tb 60 rfl rfl) (dk_ac (dk_tb 361 rfl rfl) (dk_an)))
theorem hd_3_tokenOf : y_3_tokenOf.cls ≠ "java/lang/invoke/MethodHandle" ∧ y_3_tokenOf.cls ≠ "java/lang/invoke/VarHandle" ∧ (parseMethodDescriptor y_3_tokenOf.desc).map (fun d => d.parameters.length) = some 1 := by decide +kernel
theorem k_8_min : dk_ckT t_8_min prog_10_method_69_code 2 t_8_min.2.2.1 b_8_min = true := by decide +kernel
set_option maxRecDepth 20000 in
theorem hc_8_min : ∀ q ∈ t_8_min.2.1, ∃ n Sm, dk_nth g_8_min q.2.2 = some (n, Sm) ∧ dk_Call y_8_min.cls ({ frames := 0, cells := 0, slots := 0, locals := 0 }) prog_10_method_69_code 2 q.2.1 q.1 n Sm :=
  dk_an
theorem e_8_min : dk_Met y_8_min prog_10_method_69_code 2 (some .int) ({ frames := 0, cells := 0, slots := 0, locals := 0 }) s_8_min := dk_met (y := y_8_min) (cc := prog_10_method_69_code) (maxL := 2) (ret := (some .int)) (rm := ({ frames := 0, cells := 0, slots := 0, locals := 0 })) (T := t_8_min) (tb := b_8_min) (G := g_8_min) (by decide +kernel) ⟨fun _ => rfl, fun z => absurd z (by decide), fun z => absurd z (by decide), fun z => absurd z (by decide)⟩ (fun _ _ _ _ _ _ _ => tok_n _) h_8_min k_8_min rfl (fun i kd j h => hc_8_min (i, kd, j) (dk_lk_mem h))
set_option maxRecDepth 20000 in
theorem wv_8_min : ∀ w ∈ [Cond.static y_8_min, Cond.initialized y_8_min.cls, Cond.code y_8_min prog_10_method_69_code 2 (some .int)], w ∈ dk_TB := dk_ac (dk_tb 363 rfl rfl) (dk_ac (dk_tb 65 rfl rfl) (dk_ac (dk_tb 364 rfl rfl) (dk_an)))
theorem hd_8_min : y_8_min.cls ≠ "java/lang/invoke/MethodHandle" ∧ y_8_min.cls ≠ "java/lang/invoke/VarHandle" ∧ (parseMethodDescriptor y_8_min.desc).map (fun d => d.parameters.length) = some 2 := by decide +kernel
theorem k_3_nextToken : dk_ckT t_3_nextToken prog_5_method_12_code 1 t_3_nextToken.2.2.1 b_3_nextToken = true := by decide +kernel
set_option maxRecDepth 20000 in
theorem hc_3_nextToken : ∀ q ∈ t_3_nextToken.2.1, ∃ n Sm, dk_nth g_3_nextToken q.2.2 = some (n, Sm) ∧ dk_Call y_3_nextToken.cls ({ frames := 1, cells := 0, slots := 0, locals := 21 }) prog_5_method_12_code 1 q.2.1 q.1 n Sm :=
  dk_ac ⟨1, s_3_tokenOf, rfl, fun hx hb hml hown hts hF => dk_callS e_3_tokenOf (dk_ac (dk_tb 359 rfl rfl) wv_3_tokenOf) ⟨rfl, rfl⟩ hd_3_tokenOf ⟨by decide, by decide⟩ ⟨Nat.zero_le _, Nat.zero_le _⟩ hx hb hml hown hts hF⟩
    (dk_ac ⟨2, s_8_min, rfl, fun hx hb hml hown hts hF => dk_callS e_8_min (dk_ac (dk_tb 362 rfl rfl) wv_8_min) ⟨rfl, rfl⟩ hd_8_min ⟨by decide, by decide⟩ ⟨Nat.zero_le _, Nat.zero_le _⟩ hx hb hml hown hts hF⟩
    (dk_an))
theorem e_3_nextToken : dk_Met y_3_nextToken prog_5_method_12_code 1 none ({ frames := 1, cells := 0, slots := 0, locals := 21 }) s_3_nextToken := dk_metV 3 (dk_met (y := y_3_nextToken) (cc := prog_5_method_12_code) (maxL := 1) (ret := none) (rm := ({ frames := 1, cells := 0, slots := 0, locals := 21 })) (T := t_3_nextToken) (tb := b_3_nextToken) (G := g_3_nextToken) (by decide +kernel) ⟨fun z => absurd z (by decide), fun z => absurd z (by decide), fun _ => rfl, fun z => absurd z (by decide)⟩ (fun _ _ _ _ _ hts hd => tok_3 hts hd) h_3_nextToken k_3_nextToken rfl (fun i kd j h => hc_3_nextToken (i, kd, j) (dk_lk_mem h)))
set_option maxRecDepth 20000 in
theorem wv_3_nextToken : ∀ w ∈ [Cond.instanceMethod y_3_nextToken, Cond.selects y_3_nextToken.cls y_3_nextToken y_3_nextToken, Cond.initialized y_3_nextToken.cls, Cond.code y_3_nextToken prog_5_method_12_code 1 none], w ∈ dk_TB := dk_ac (dk_tb 357 rfl rfl) (dk_ac (dk_tb 1 rfl rfl) (dk_ac (dk_tb 60 rfl rfl) (dk_ac (dk_tb 358 rfl rfl) (dk_an))))
theorem hd_3_nextToken : y_3_nextToken.cls ≠ "java/lang/invoke/MethodHandle" ∧ y_3_nextToken.cls ≠ "java/lang/invoke/VarHandle" ∧ (parseMethodDescriptor y_3_nextToken.desc).map (fun d => d.parameters.length) = some 0 := by decide +kernel
theorem k_3_wordOf : dk_ckT t_3_wordOf prog_5_method_10_code 1 t_3_wordOf.2.2.1 b_3_wordOf = true := by decide +kernel
set_option maxRecDepth 20000 in
theorem hc_3_wordOf : ∀ q ∈ t_3_wordOf.2.1, ∃ n Sm, dk_nth g_3_wordOf q.2.2 = some (n, Sm) ∧ dk_Call y_3_wordOf.cls ({ frames := 0, cells := 0, slots := 0, locals := 0 }) prog_5_method_10_code 1 q.2.1 q.1 n Sm :=
  dk_an
theorem e_3_wordOf : dk_Met y_3_wordOf prog_5_method_10_code 1 (some (.object "java/lang/String")) ({ frames := 0, cells := 0, slots := 0, locals := 0 }) s_3_wordOf := dk_met (y := y_3_wordOf) (cc := prog_5_method_10_code) (maxL := 1) (ret := (some (.object "java/lang/String"))) (rm := ({ frames := 0, cells := 0, slots := 0, locals := 0 })) (T := t_3_wordOf) (tb := b_3_wordOf) (G := g_3_wordOf) (by decide +kernel) ⟨fun z => absurd z (by decide), fun z => absurd z (by decide), fun z => absurd z (by decide), fun _ => ⟨_, rfl⟩⟩ (fun _ _ _ _ _ hts hd => tok_3 hts hd) h_3_wordOf k_3_wordOf rfl (fun i kd j h => hc_3_wordOf (i, kd, j) (dk_lk_mem h))
set_option maxRecDepth 20000 in
theorem wv_3_wordOf : ∀ w ∈ [Cond.static y_3_wordOf, Cond.initialized y_3_wordOf.cls, Cond.code y_3_wordOf prog_5_method_10_code 1 (some (.object "java/lang/String"))], w ∈ dk_TB := dk_ac (dk_tb 374 rfl rfl) (dk_ac (dk_tb 60 rfl rfl) (dk_ac (dk_tb 375 rfl rfl) (dk_an)))
theorem hd_3_wordOf : y_3_wordOf.cls ≠ "java/lang/invoke/MethodHandle" ∧ y_3_wordOf.cls ≠ "java/lang/invoke/VarHandle" ∧ (parseMethodDescriptor y_3_wordOf.desc).map (fun d => d.parameters.length) = some 1 := by decide +kernel
theorem k_3_isWord : dk_ckT t_3_isWord prog_5_method_11_code 3 t_3_isWord.2.2.1 b_3_isWord = true := by decide +kernel
set_option maxRecDepth 20000 in
theorem hc_3_isWord : ∀ q ∈ t_3_isWord.2.1, ∃ n Sm, dk_nth g_3_isWord q.2.2 = some (n, Sm) ∧ dk_Call y_3_isWord.cls ({ frames := 5, cells := 0, slots := 0, locals := 160 }) prog_5_method_11_code 3 q.2.1 q.1 n Sm :=
  dk_ac ⟨1, s_sl, rfl, call_sl (own := nn_R3) (i := 99) (dk_tb 387 rfl rfl) (by decide) (by decide)⟩
    (dk_ac ⟨2, s_sc, rfl, call_sc (own := nn_R3) (i := 103) (dk_tb 397 rfl rfl) (by decide) (by decide)⟩
    (dk_an))
theorem e_3_isWord : dk_Met y_3_isWord prog_5_method_11_code 3 (some .boolean) ({ frames := 5, cells := 0, slots := 0, locals := 160 }) s_3_isWord := dk_metV 3 (dk_met (y := y_3_isWord) (cc := prog_5_method_11_code) (maxL := 3) (ret := (some .boolean)) (rm := ({ frames := 5, cells := 0, slots := 0, locals := 160 })) (T := t_3_isWord) (tb := b_3_isWord) (G := g_3_isWord) (by decide +kernel) ⟨fun z => absurd z (by decide), fun _ => rfl, fun z => absurd z (by decide), fun z => absurd z (by decide)⟩ (fun _ _ _ _ _ hts hd => tok_3 hts hd) h_3_isWord k_3_isWord rfl (fun i kd j h => hc_3_isWord (i, kd, j) (dk_lk_mem h)))
set_option maxRecDepth 20000 in
theorem wv_3_isWord : ∀ w ∈ [Cond.instanceMethod y_3_isWord, Cond.selects y_3_isWord.cls y_3_isWord y_3_isWord, Cond.initialized y_3_isWord.cls, Cond.code y_3_isWord prog_5_method_11_code 3 (some .boolean)], w ∈ dk_TB := dk_ac (dk_tb 385 rfl rfl) (dk_ac (dk_tb 4 rfl rfl) (dk_ac (dk_tb 60 rfl rfl) (dk_ac (dk_tb 386 rfl rfl) (dk_an))))
theorem hd_3_isWord : y_3_isWord.cls ≠ "java/lang/invoke/MethodHandle" ∧ y_3_isWord.cls ≠ "java/lang/invoke/VarHandle" ∧ (parseMethodDescriptor y_3_isWord.desc).map (fun d => d.parameters.length) = some 1 := by decide +kernel
theorem k_3_kindHere : dk_ckT t_3_kindHere prog_5_method_9_code 2 t_3_kindHere.2.2.1 b_3_kindHere = true := by decide +kernel
set_option maxRecDepth 20000 in
theorem hc_3_kindHere : ∀ q ∈ t_3_kindHere.2.1, ∃ n Sm, dk_nth g_3_kindHere q.2.2 = some (n, Sm) ∧ dk_Call y_3_kindHere.cls ({ frames := 6, cells := 0, slots := 0, locals := 182 }) prog_5_method_9_code 2 q.2.1 q.1 n Sm :=
  dk_ac ⟨1, s_3_wordOf, rfl, fun hx hb hml hown hts hF => dk_callS e_3_wordOf (dk_ac (dk_tb 373 rfl rfl) wv_3_wordOf) ⟨rfl, rfl⟩ hd_3_wordOf ⟨by decide, by decide⟩ ⟨Nat.zero_le _, Nat.zero_le _⟩ hx hb hml hown hts hF⟩
    (dk_ac ⟨2, s_3_isWord, rfl, fun hx hb hml hown hts hF => dk_callV e_3_isWord dk_rcV rfl (dk_ac (dk_tb 383 rfl rfl) wv_3_isWord) ⟨rfl, rfl⟩ hd_3_isWord ⟨by decide, by decide⟩ ⟨Nat.zero_le _, Nat.zero_le _⟩ hx hb hml hown hts hF⟩
    (dk_an))
theorem e_3_kindHere : dk_Met y_3_kindHere prog_5_method_9_code 2 (some .int) ({ frames := 6, cells := 0, slots := 0, locals := 182 }) s_3_kindHere := dk_metV 3 (dk_met (y := y_3_kindHere) (cc := prog_5_method_9_code) (maxL := 2) (ret := (some .int)) (rm := ({ frames := 6, cells := 0, slots := 0, locals := 182 })) (T := t_3_kindHere) (tb := b_3_kindHere) (G := g_3_kindHere) (by decide +kernel) ⟨fun _ => rfl, fun z => absurd z (by decide), fun z => absurd z (by decide), fun z => absurd z (by decide)⟩ (fun _ _ _ _ _ hts hd => tok_3 hts hd) h_3_kindHere k_3_kindHere rfl (fun i kd j h => hc_3_kindHere (i, kd, j) (dk_lk_mem h)))
set_option maxRecDepth 20000 in
theorem wv_3_kindHere : ∀ w ∈ [Cond.instanceMethod y_3_kindHere, Cond.selects y_3_kindHere.cls y_3_kindHere y_3_kindHere, Cond.initialized y_3_kindHere.cls, Cond.code y_3_kindHere prog_5_method_9_code 2 (some .int)], w ∈ dk_TB := dk_ac (dk_tb 371 rfl rfl) (dk_ac (dk_tb 3 rfl rfl) (dk_ac (dk_tb 60 rfl rfl) (dk_ac (dk_tb 372 rfl rfl) (dk_an))))
theorem hd_3_kindHere : y_3_kindHere.cls ≠ "java/lang/invoke/MethodHandle" ∧ y_3_kindHere.cls ≠ "java/lang/invoke/VarHandle" ∧ (parseMethodDescriptor y_3_kindHere.desc).map (fun d => d.parameters.length) = some 0 := by decide +kernel
theorem k_3_note : dk_ckT t_3_note prog_5_method_7_code 3 t_3_note.2.2.1 b_3_note = true := by decide +kernel
set_option maxRecDepth 20000 in
theorem hc_3_note : ∀ q ∈ t_3_note.2.1, ∃ n Sm, dk_nth g_3_note q.2.2 = some (n, Sm) ∧ dk_Call y_3_note.cls ({ frames := 0, cells := 0, slots := 0, locals := 0 }) prog_5_method_7_code 3 q.2.1 q.1 n Sm :=
  dk_an
theorem e_3_note : dk_Met y_3_note prog_5_method_7_code 3 none ({ frames := 0, cells := 0, slots := 0, locals := 0 }) s_3_note := dk_metV 3 (dk_met (y := y_3_note) (cc := prog_5_method_7_code) (maxL := 3) (ret := none) (rm := ({ frames := 0, cells := 0, slots := 0, locals := 0 })) (T := t_3_note) (tb := b_3_note) (G := g_3_note) (by decide +kernel) ⟨fun z => absurd z (by decide), fun z => absurd z (by decide), fun _ => rfl, fun z => absurd z (by decide)⟩ (fun _ _ _ _ _ hts hd => tok_3 hts hd) h_3_note k_3_note rfl (fun i kd j h => hc_3_note (i, kd, j) (dk_lk_mem h)))
set_option maxRecDepth 20000 in
theorem wv_3_note : ∀ w ∈ [Cond.instanceMethod y_3_note, Cond.selects y_3_note.cls y_3_note y_3_note, Cond.initialized y_3_note.cls, Cond.code y_3_note prog_5_method_7_code 3 none], w ∈ dk_TB := dk_ac (dk_tb 437 rfl rfl) (dk_ac (dk_tb 5 rfl rfl) (dk_ac (dk_tb 60 rfl rfl) (dk_ac (dk_tb 438 rfl rfl) (dk_an))))
theorem hd_3_note : y_3_note.cls ≠ "java/lang/invoke/MethodHandle" ∧ y_3_note.cls ≠ "java/lang/invoke/VarHandle" ∧ (parseMethodDescriptor y_3_note.desc).map (fun d => d.parameters.length) = some 2 := by decide +kernel
theorem k_3_readNumber : dk_ckT t_3_readNumber prog_5_method_6_code 4 t_3_readNumber.2.2.1 b_3_readNumber = true := by decide +kernel
set_option maxRecDepth 20000 in
theorem hc_3_readNumber : ∀ q ∈ t_3_readNumber.2.1, ∃ n Sm, dk_nth g_3_readNumber q.2.2 = some (n, Sm) ∧ dk_Call y_3_readNumber.cls ({ frames := 2, cells := 0, slots := 0, locals := 41 }) prog_5_method_6_code 4 q.2.1 q.1 n Sm :=
  dk_ac ⟨3, s_3_note, rfl, fun hx hb hml hown hts hF => dk_callV e_3_note dk_rcV rfl (dk_ac (dk_tb 435 rfl rfl) wv_3_note) ⟨rfl, rfl⟩ hd_3_note ⟨by decide, by decide⟩ ⟨Nat.zero_le _, Nat.zero_le _⟩ hx hb hml hown hts hF⟩
    (dk_ac ⟨1, s_3_nextToken, rfl, fun hx hb hml hown hts hF => dk_callV e_3_nextToken dk_rcV rfl (dk_ac (dk_tb 355 rfl rfl) wv_3_nextToken) ⟨rfl, rfl⟩ hd_3_nextToken ⟨by decide, by decide⟩ ⟨Nat.zero_le _, Nat.zero_le _⟩ hx hb hml hown hts hF⟩
    (dk_an))
theorem e_3_readNumber : dk_Met y_3_readNumber prog_5_method_6_code 4 (some .boolean) ({ frames := 2, cells := 0, slots := 0, locals := 41 }) s_3_readNumber := dk_metV 3 (dk_met (y := y_3_readNumber) (cc := prog_5_method_6_code) (maxL := 4) (ret := (some .boolean)) (rm := ({ frames := 2, cells := 0, slots := 0, locals := 41 })) (T := t_3_readNumber) (tb := b_3_readNumber) (G := g_3_readNumber) (by decide +kernel) ⟨fun z => absurd z (by decide), fun _ => rfl, fun z => absurd z (by decide), fun z => absurd z (by decide)⟩ (fun _ _ _ _ _ hts hd => tok_3 hts hd) h_3_readNumber k_3_readNumber rfl (fun i kd j h => hc_3_readNumber (i, kd, j) (dk_lk_mem h)))
set_option maxRecDepth 20000 in
theorem wv_3_readNumber : ∀ w ∈ [Cond.instanceMethod y_3_readNumber, Cond.selects y_3_readNumber.cls y_3_readNumber y_3_readNumber, Cond.initialized y_3_readNumber.cls, Cond.code y_3_readNumber prog_5_method_6_code 4 (some .boolean)], w ∈ dk_TB := dk_ac (dk_tb 441 rfl rfl) (dk_ac (dk_tb 6 rfl rfl) (dk_ac (dk_tb 60 rfl rfl) (dk_ac (dk_tb 442 rfl rfl) (dk_an))))
theorem hd_3_readNumber : y_3_readNumber.cls ≠ "java/lang/invoke/MethodHandle" ∧ y_3_readNumber.cls ≠ "java/lang/invoke/VarHandle" ∧ (parseMethodDescriptor y_3_readNumber.desc).map (fun d => d.parameters.length) = some 3 := by decide +kernel
theorem k_3_optionHere : dk_ckT t_3_optionHere prog_5_method_8_code 1 t_3_optionHere.2.2.1 b_3_optionHere = true := by decide +kernel
set_option maxRecDepth 20000 in
theorem hc_3_optionHere : ∀ q ∈ t_3_optionHere.2.1, ∃ n Sm, dk_nth g_3_optionHere q.2.2 = some (n, Sm) ∧ dk_Call y_3_optionHere.cls ({ frames := 6, cells := 0, slots := 0, locals := 182 }) prog_5_method_8_code 1 q.2.1 q.1 n Sm :=
  dk_ac ⟨2, s_3_isWord, rfl, fun hx hb hml hown hts hF => dk_callV e_3_isWord dk_rcV rfl (dk_ac (dk_tb 383 rfl rfl) wv_3_isWord) ⟨rfl, rfl⟩ hd_3_isWord ⟨by decide, by decide⟩ ⟨Nat.zero_le _, Nat.zero_le _⟩ hx hb hml hown hts hF⟩
    (dk_an)
theorem e_3_optionHere : dk_Met y_3_optionHere prog_5_method_8_code 1 (some .int) ({ frames := 6, cells := 0, slots := 0, locals := 182 }) s_3_optionHere := dk_metV 3 (dk_met (y := y_3_optionHere) (cc := prog_5_method_8_code) (maxL := 1) (ret := (some .int)) (rm := ({ frames := 6, cells := 0, slots := 0, locals := 182 })) (T := t_3_optionHere) (tb := b_3_optionHere) (G := g_3_optionHere) (by decide +kernel) ⟨fun _ => rfl, fun z => absurd z (by decide), fun z => absurd z (by decide), fun z => absurd z (by decide)⟩ (fun _ _ _ _ _ hts hd => tok_3 hts hd) h_3_optionHere k_3_optionHere rfl (fun i kd j h => hc_3_optionHere (i, kd, j) (dk_lk_mem h)))
set_option maxRecDepth 20000 in
theorem wv_3_optionHere : ∀ w ∈ [Cond.instanceMethod y_3_optionHere, Cond.selects y_3_optionHere.cls y_3_optionHere y_3_optionHere, Cond.initialized y_3_optionHere.cls, Cond.code y_3_optionHere prog_5_method_8_code 1 (some .int)], w ∈ dk_TB := dk_ac (dk_tb 450 rfl rfl) (dk_ac (dk_tb 8 rfl rfl) (dk_ac (dk_tb 60 rfl rfl) (dk_ac (dk_tb 451 rfl rfl) (dk_an))))
theorem hd_3_optionHere : y_3_optionHere.cls ≠ "java/lang/invoke/MethodHandle" ∧ y_3_optionHere.cls ≠ "java/lang/invoke/VarHandle" ∧ (parseMethodDescriptor y_3_optionHere.desc).map (fun d => d.parameters.length) = some 0 := by decide +kernel
theorem k_3_readOptions : dk_ckT t_3_readOptions prog_5_method_5_code 3 t_3_readOptions.2.2.1 b_3_readOptions = true := by decide +kernel
set_option maxRecDepth 20000 in
theorem hc_3_readOptions : ∀ q ∈ t_3_readOptions.2.1, ∃ n Sm, dk_nth g_3_readOptions q.2.2 = some (n, Sm) ∧ dk_Call y_3_readOptions.cls ({ frames := 7, cells := 0, slots := 0, locals := 202 }) prog_5_method_5_code 3 q.2.1 q.1 n Sm :=
  dk_ac ⟨3, s_3_note, rfl, fun hx hb hml hown hts hF => dk_callV e_3_note dk_rcV rfl (dk_ac (dk_tb 435 rfl rfl) wv_3_note) ⟨rfl, rfl⟩ hd_3_note ⟨by decide, by decide⟩ ⟨Nat.zero_le _, Nat.zero_le _⟩ hx hb hml hown hts hF⟩
    (dk_ac ⟨1, s_3_optionHere, rfl, fun hx hb hml hown hts hF => dk_callV e_3_optionHere dk_rcV rfl (dk_ac (dk_tb 448 rfl rfl) wv_3_optionHere) ⟨rfl, rfl⟩ hd_3_optionHere ⟨by decide, by decide⟩ ⟨Nat.zero_le _, Nat.zero_le _⟩ hx hb hml hown hts hF⟩
    (dk_ac ⟨1, s_3_nextToken, rfl, fun hx hb hml hown hts hF => dk_callV e_3_nextToken dk_rcV rfl (dk_ac (dk_tb 355 rfl rfl) wv_3_nextToken) ⟨rfl, rfl⟩ hd_3_nextToken ⟨by decide, by decide⟩ ⟨Nat.zero_le _, Nat.zero_le _⟩ hx hb hml hown hts hF⟩
    (dk_ac ⟨4, s_3_readNumber, rfl, fun hx hb hml hown hts hF => dk_callV e_3_readNumber dk_rcV rfl (dk_ac (dk_tb 439 rfl rfl) wv_3_readNumber) ⟨rfl, rfl⟩ hd_3_readNumber ⟨by decide, by decide⟩ ⟨Nat.zero_le _, Nat.zero_le _⟩ hx hb hml hown hts hF⟩
    (dk_an))))
theorem e_3_readOptions : dk_Met y_3_readOptions prog_5_method_5_code 3 (some .boolean) ({ frames := 7, cells := 0, slots := 0, locals := 202 }) s_3_readOptions := dk_metV 3 (dk_met (y := y_3_readOptions) (cc := prog_5_method_5_code) (maxL := 3) (ret := (some .boolean)) (rm := ({ frames := 7, cells := 0, slots := 0, locals := 202 })) (T := t_3_readOptions) (tb := b_3_readOptions) (G := g_3_readOptions) (by decide +kernel) ⟨fun z => absurd z (by decide), fun _ => rfl, fun z => absurd z (by decide), fun z => absurd z (by decide)⟩ (fun _ _ _ _ _ hts hd => tok_3 hts hd) h_3_readOptions k_3_readOptions rfl (fun i kd j h => hc_3_readOptions (i, kd, j) (dk_lk_mem h)))
set_option maxRecDepth 20000 in
theorem wv_3_readOptions : ∀ w ∈ [Cond.instanceMethod y_3_readOptions, Cond.selects y_3_readOptions.cls y_3_readOptions y_3_readOptions, Cond.initialized y_3_readOptions.cls, Cond.code y_3_readOptions prog_5_method_5_code 3 (some .boolean)], w ∈ dk_TB := dk_ac (dk_tb 446 rfl rfl) (dk_ac (dk_tb 7 rfl rfl) (dk_ac (dk_tb 60 rfl rfl) (dk_ac (dk_tb 447 rfl rfl) (dk_an))))
theorem hd_3_readOptions : y_3_readOptions.cls ≠ "java/lang/invoke/MethodHandle" ∧ y_3_readOptions.cls ≠ "java/lang/invoke/VarHandle" ∧ (parseMethodDescriptor y_3_readOptions.desc).map (fun d => d.parameters.length) = some 0 := by decide +kernel
theorem k_3_of : dk_ckT t_3_of prog_5_method_2_code 3 t_3_of.2.2.1 b_3_of = true := by decide +kernel
set_option maxRecDepth 20000 in
theorem hc_3_of : ∀ q ∈ t_3_of.2.1, ∃ n Sm, dk_nth g_3_of q.2.2 = some (n, Sm) ∧ dk_Call y_3_of.cls ({ frames := 0, cells := 0, slots := 0, locals := 0 }) prog_5_method_2_code 3 q.2.1 q.1 n Sm :=
  dk_an
theorem e_3_of : dk_Met y_3_of prog_5_method_2_code 3 (some .int) ({ frames := 0, cells := 0, slots := 0, locals := 0 }) s_3_of := dk_metV 3 (dk_met (y := y_3_of) (cc := prog_5_method_2_code) (maxL := 3) (ret := (some .int)) (rm := ({ frames := 0, cells := 0, slots := 0, locals := 0 })) (T := t_3_of) (tb := b_3_of) (G := g_3_of) (by decide +kernel) ⟨fun _ => rfl, fun z => absurd z (by decide), fun z => absurd z (by decide), fun z => absurd z (by decide)⟩ (fun _ _ _ _ _ hts hd => tok_3 hts hd) h_3_of k_3_of rfl (fun i kd j h => hc_3_of (i, kd, j) (dk_lk_mem h)))
set_option maxRecDepth 20000 in
theorem wv_3_of : ∀ w ∈ [Cond.instanceMethod y_3_of, Cond.selects y_3_of.cls y_3_of y_3_of, Cond.initialized y_3_of.cls, Cond.code y_3_of prog_5_method_2_code 3 (some .int)], w ∈ dk_TB := dk_ac (dk_tb 456 rfl rfl) (dk_ac (dk_tb 457 rfl rfl) (dk_ac (dk_tb 60 rfl rfl) (dk_ac (dk_tb 458 rfl rfl) (dk_an))))
theorem hd_3_of : y_3_of.cls ≠ "java/lang/invoke/MethodHandle" ∧ y_3_of.cls ≠ "java/lang/invoke/VarHandle" ∧ (parseMethodDescriptor y_3_of.desc).map (fun d => d.parameters.length) = some 2 := by decide +kernel
theorem k_3_readGroup : dk_ckT t_3_readGroup prog_5_method_4_code 2 t_3_readGroup.2.2.1 b_3_readGroup = true := by decide +kernel
set_option maxRecDepth 20000 in
theorem hc_3_readGroup : ∀ q ∈ t_3_readGroup.2.1, ∃ n Sm, dk_nth g_3_readGroup q.2.2 = some (n, Sm) ∧ dk_Call y_3_readGroup.cls ({ frames := 8, cells := 0, slots := 0, locals := 224 }) prog_5_method_4_code 2 q.2.1 q.1 n Sm :=
  dk_ac ⟨1, s_3_kindHere, rfl, fun hx hb hml hown hts hF => dk_callV e_3_kindHere dk_rcV rfl (dk_ac (dk_tb 369 rfl rfl) wv_3_kindHere) ⟨rfl, rfl⟩ hd_3_kindHere ⟨by decide, by decide⟩ ⟨Nat.zero_le _, Nat.zero_le _⟩ hx hb hml hown hts hF⟩
    (dk_ac ⟨3, s_3_note, rfl, fun hx hb hml hown hts hF => dk_callV e_3_note dk_rcV rfl (dk_ac (dk_tb 435 rfl rfl) wv_3_note) ⟨rfl, rfl⟩ hd_3_note ⟨by decide, by decide⟩ ⟨Nat.zero_le _, Nat.zero_le _⟩ hx hb hml hown hts hF⟩
    (dk_ac ⟨1, s_3_nextToken, rfl, fun hx hb hml hown hts hF => dk_callV e_3_nextToken dk_rcV rfl (dk_ac (dk_tb 355 rfl rfl) wv_3_nextToken) ⟨rfl, rfl⟩ hd_3_nextToken ⟨by decide, by decide⟩ ⟨Nat.zero_le _, Nat.zero_le _⟩ hx hb hml hown hts hF⟩
    (dk_ac ⟨4, s_3_readNumber, rfl, fun hx hb hml hown hts hF => dk_callV e_3_readNumber dk_rcV rfl (dk_ac (dk_tb 439 rfl rfl) wv_3_readNumber) ⟨rfl, rfl⟩ hd_3_readNumber ⟨by decide, by decide⟩ ⟨Nat.zero_le _, Nat.zero_le _⟩ hx hb hml hown hts hF⟩
    (dk_ac ⟨2, s_3_isWord, rfl, fun hx hb hml hown hts hF => dk_callV e_3_isWord dk_rcV rfl (dk_ac (dk_tb 383 rfl rfl) wv_3_isWord) ⟨rfl, rfl⟩ hd_3_isWord ⟨by decide, by decide⟩ ⟨Nat.zero_le _, Nat.zero_le _⟩ hx hb hml hown hts hF⟩
    (dk_ac ⟨1, s_3_readOptions, rfl, fun hx hb hml hown hts hF => dk_callV e_3_readOptions dk_rcV rfl (dk_ac (dk_tb 444 rfl rfl) wv_3_readOptions) ⟨rfl, rfl⟩ hd_3_readOptions ⟨by decide, by decide⟩ ⟨Nat.zero_le _, Nat.zero_le _⟩ hx hb hml hown hts hF⟩
    (dk_ac ⟨3, s_3_of, rfl, fun hx hb hml hown hts hF => dk_callV e_3_of dk_rcV rfl (dk_ac (dk_tb 455 rfl rfl) wv_3_of) ⟨rfl, rfl⟩ hd_3_of ⟨by decide, by decide⟩ ⟨Nat.zero_le _, Nat.zero_le _⟩ hx hb hml hown hts hF⟩
    (dk_an)))))))
theorem e_3_readGroup : dk_Met y_3_readGroup prog_5_method_4_code 2 (some .boolean) ({ frames := 8, cells := 0, slots := 0, locals := 224 }) s_3_readGroup := dk_metV 3 (dk_met (y := y_3_readGroup) (cc := prog_5_method_4_code) (maxL := 2) (ret := (some .boolean)) (rm := ({ frames := 8, cells := 0, slots := 0, locals := 224 })) (T := t_3_readGroup) (tb := b_3_readGroup) (G := g_3_readGroup) (by decide +kernel) ⟨fun z => absurd z (by decide), fun _ => rfl, fun z => absurd z (by decide), fun z => absurd z (by decide)⟩ (fun _ _ _ _ _ hts hd => tok_3 hts hd) h_3_readGroup k_3_readGroup rfl (fun i kd j h => hc_3_readGroup (i, kd, j) (dk_lk_mem h)))
set_option maxRecDepth 20000 in
theorem wv_3_readGroup : ∀ w ∈ [Cond.instanceMethod y_3_readGroup, Cond.selects y_3_readGroup.cls y_3_readGroup y_3_readGroup, Cond.initialized y_3_readGroup.cls, Cond.code y_3_readGroup prog_5_method_4_code 2 (some .boolean)], w ∈ dk_TB := dk_ac (dk_tb 367 rfl rfl) (dk_ac (dk_tb 2 rfl rfl) (dk_ac (dk_tb 60 rfl rfl) (dk_ac (dk_tb 368 rfl rfl) (dk_an))))
theorem hd_3_readGroup : y_3_readGroup.cls ≠ "java/lang/invoke/MethodHandle" ∧ y_3_readGroup.cls ≠ "java/lang/invoke/VarHandle" ∧ (parseMethodDescriptor y_3_readGroup.desc).map (fun d => d.parameters.length) = some 0 := by decide +kernel
theorem k_3_readText : dk_ckT t_3_readText prog_5_method_3_code 2 t_3_readText.2.2.1 b_3_readText = true := by decide +kernel
set_option maxRecDepth 20000 in
theorem hc_3_readText : ∀ q ∈ t_3_readText.2.1, ∃ n Sm, dk_nth g_3_readText q.2.2 = some (n, Sm) ∧ dk_Call y_3_readText.cls ({ frames := 9, cells := 0, slots := 0, locals := 245 }) prog_5_method_3_code 2 q.2.1 q.1 n Sm :=
  dk_ac ⟨1, s_3_nextToken, rfl, fun hx hb hml hown hts hF => dk_callV e_3_nextToken dk_rcV rfl (dk_ac (dk_tb 355 rfl rfl) wv_3_nextToken) ⟨rfl, rfl⟩ hd_3_nextToken ⟨by decide, by decide⟩ ⟨Nat.zero_le _, Nat.zero_le _⟩ hx hb hml hown hts hF⟩
    (dk_ac ⟨1, s_3_readGroup, rfl, fun hx hb hml hown hts hF => dk_callV e_3_readGroup dk_rcV rfl (dk_ac (dk_tb 365 rfl rfl) wv_3_readGroup) ⟨rfl, rfl⟩ hd_3_readGroup ⟨by decide, by decide⟩ ⟨Nat.zero_le _, Nat.zero_le _⟩ hx hb hml hown hts hF⟩
    (dk_an))
theorem e_3_readText : dk_Met y_3_readText prog_5_method_3_code 2 (some .int) ({ frames := 9, cells := 0, slots := 0, locals := 245 }) s_3_readText := dk_metV 3 (dk_met (y := y_3_readText) (cc := prog_5_method_3_code) (maxL := 2) (ret := (some .int)) (rm := ({ frames := 9, cells := 0, slots := 0, locals := 245 })) (T := t_3_readText) (tb := b_3_readText) (G := g_3_readText) (by decide +kernel) ⟨fun _ => rfl, fun z => absurd z (by decide), fun z => absurd z (by decide), fun z => absurd z (by decide)⟩ (fun _ _ _ _ _ hts hd => tok_3 hts hd) h_3_readText k_3_readText rfl (fun i kd j h => hc_3_readText (i, kd, j) (dk_lk_mem h)))
set_option maxRecDepth 20000 in
theorem wv_3_readText : ∀ w ∈ [Cond.instanceMethod y_3_readText, Cond.selects y_3_readText.cls y_3_readText y_3_readText, Cond.initialized y_3_readText.cls, Cond.code y_3_readText prog_5_method_3_code 2 (some .int)], w ∈ dk_TB := dk_ac (dk_tb 352 rfl rfl) (dk_ac (dk_tb 353 rfl rfl) (dk_ac (dk_tb 60 rfl rfl) (dk_ac (dk_tb 354 rfl rfl) (dk_an))))
theorem hd_3_readText : y_3_readText.cls ≠ "java/lang/invoke/MethodHandle" ∧ y_3_readText.cls ≠ "java/lang/invoke/VarHandle" ∧ (parseMethodDescriptor y_3_readText.desc).map (fun d => d.parameters.length) = some 0 := by decide +kernel
theorem k_0_fallIn : dk_ckT t_0_fallIn prog_2_method_7_code 4 t_0_fallIn.2.2.1 b_0_fallIn = true := by decide +kernel
set_option maxRecDepth 20000 in
theorem hc_0_fallIn : ∀ q ∈ t_0_fallIn.2.1, ∃ n Sm, dk_nth g_0_fallIn q.2.2 = some (n, Sm) ∧ dk_Call y_0_fallIn.cls ({ frames := 1, cells := 0, slots := 0, locals := 22 }) prog_2_method_7_code 4 q.2.1 q.1 n Sm :=
  dk_ac ⟨3, s_3_of, rfl, fun hx hb hml hown hts hF => dk_callV e_3_of dk_rcV rfl (dk_ac (dk_tb 464 rfl rfl) wv_3_of) ⟨rfl, rfl⟩ hd_3_of ⟨by decide, by decide⟩ ⟨Nat.zero_le _, Nat.zero_le _⟩ hx hb hml hown hts hF⟩
    (dk_an)
theorem e_0_fallIn : dk_Met y_0_fallIn prog_2_method_7_code 4 none ({ frames := 1, cells := 0, slots := 0, locals := 22 }) s_0_fallIn := dk_metV 0 (dk_met (y := y_0_fallIn) (cc := prog_2_method_7_code) (maxL := 4) (ret := none) (rm := ({ frames := 1, cells := 0, slots := 0, locals := 22 })) (T := t_0_fallIn) (tb := b_0_fallIn) (G := g_0_fallIn) (by decide +kernel) ⟨fun z => absurd z (by decide), fun z => absurd z (by decide), fun _ => rfl, fun z => absurd z (by decide)⟩ (fun _ _ _ _ _ hts hd => tok_0 hts hd) h_0_fallIn k_0_fallIn rfl (fun i kd j h => hc_0_fallIn (i, kd, j) (dk_lk_mem h)))
set_option maxRecDepth 20000 in
theorem wv_0_fallIn : ∀ w ∈ [Cond.instanceMethod y_0_fallIn, Cond.selects y_0_fallIn.cls y_0_fallIn y_0_fallIn, Cond.initialized y_0_fallIn.cls, Cond.code y_0_fallIn prog_2_method_7_code 4 none], w ∈ dk_TB := dk_ac (dk_tb 461 rfl rfl) (dk_ac (dk_tb 462 rfl rfl) (dk_ac (dk_tb 58 rfl rfl) (dk_ac (dk_tb 463 rfl rfl) (dk_an))))
theorem hd_0_fallIn : y_0_fallIn.cls ≠ "java/lang/invoke/MethodHandle" ∧ y_0_fallIn.cls ≠ "java/lang/invoke/VarHandle" ∧ (parseMethodDescriptor y_0_fallIn.desc).map (fun d => d.parameters.length) = some 2 := by decide +kernel
theorem k_5_column : dk_ckT t_5_column prog_1_method_5_code 4 t_5_column.2.2.1 b_5_column = true := by decide +kernel
set_option maxRecDepth 20000 in
theorem hc_5_column : ∀ q ∈ t_5_column.2.1, ∃ n Sm, dk_nth g_5_column q.2.2 = some (n, Sm) ∧ dk_Call y_5_column.cls ({ frames := 10, cells := 0, slots := 0, locals := 266 }) prog_1_method_5_code 4 q.2.1 q.1 n Sm :=
  dk_ac ⟨1, s_3_readText, rfl, fun hx hb hml hown hts hF => dk_callV e_3_readText dk_rcV rfl (dk_ac (dk_tb 351 rfl rfl) wv_3_readText) ⟨rfl, rfl⟩ hd_3_readText ⟨by decide, by decide⟩ ⟨Nat.zero_le _, Nat.zero_le _⟩ hx hb hml hown hts hF⟩
    (dk_ac ⟨2, s_5_finding, rfl, fun hx hb hml hown hts hF => dk_callV e_5_finding dk_rcV rfl (dk_ac (dk_tb 323 rfl rfl) wv_5_finding) ⟨rfl, rfl⟩ hd_5_finding ⟨by decide, by decide⟩ ⟨Nat.zero_le _, Nat.zero_le _⟩ hx hb hml hown hts hF⟩
    (dk_ac ⟨3, s_3_of, rfl, fun hx hb hml hown hts hF => dk_callV e_3_of dk_rcV rfl (dk_ac (dk_tb 459 rfl rfl) wv_3_of) ⟨rfl, rfl⟩ hd_3_of ⟨by decide, by decide⟩ ⟨Nat.zero_le _, Nat.zero_le _⟩ hx hb hml hown hts hF⟩
    (dk_ac ⟨3, s_0_fallIn, rfl, fun hx hb hml hown hts hF => dk_callV e_0_fallIn dk_rcV rfl (dk_ac (dk_tb 460 rfl rfl) wv_0_fallIn) ⟨rfl, rfl⟩ hd_0_fallIn ⟨by decide, by decide⟩ ⟨Nat.zero_le _, Nat.zero_le _⟩ hx hb hml hown hts hF⟩
    (dk_an))))
theorem e_5_column : dk_Met y_5_column prog_1_method_5_code 4 (some .int) ({ frames := 10, cells := 0, slots := 0, locals := 266 }) s_5_column := dk_metV 5 (dk_met (y := y_5_column) (cc := prog_1_method_5_code) (maxL := 4) (ret := (some .int)) (rm := ({ frames := 10, cells := 0, slots := 0, locals := 266 })) (T := t_5_column) (tb := b_5_column) (G := g_5_column) (by decide +kernel) ⟨fun _ => rfl, fun z => absurd z (by decide), fun z => absurd z (by decide), fun z => absurd z (by decide)⟩ (fun _ _ _ _ _ hts hd => tok_5 hts hd) h_5_column k_5_column rfl (fun i kd j h => hc_5_column (i, kd, j) (dk_lk_mem h)))
set_option maxRecDepth 20000 in
theorem wv_5_column : ∀ w ∈ [Cond.instanceMethod y_5_column, Cond.selects y_5_column.cls y_5_column y_5_column, Cond.initialized y_5_column.cls, Cond.code y_5_column prog_1_method_5_code 4 (some .int)], w ∈ dk_TB := dk_ac (dk_tb 348 rfl rfl) (dk_ac (dk_tb 349 rfl rfl) (dk_ac (dk_tb 57 rfl rfl) (dk_ac (dk_tb 350 rfl rfl) (dk_an))))
theorem hd_5_column : y_5_column.cls ≠ "java/lang/invoke/MethodHandle" ∧ y_5_column.cls ≠ "java/lang/invoke/VarHandle" ∧ (parseMethodDescriptor y_5_column.desc).map (fun d => d.parameters.length) = some 0 := by decide +kernel
theorem k_0_hasRank : dk_ckT t_0_hasRank prog_2_method_3_code 2 t_0_hasRank.2.2.1 b_0_hasRank = true := by decide +kernel
set_option maxRecDepth 20000 in
theorem hc_0_hasRank : ∀ q ∈ t_0_hasRank.2.1, ∃ n Sm, dk_nth g_0_hasRank q.2.2 = some (n, Sm) ∧ dk_Call y_0_hasRank.cls ({ frames := 0, cells := 0, slots := 0, locals := 0 }) prog_2_method_3_code 2 q.2.1 q.1 n Sm :=
  dk_an
theorem e_0_hasRank : dk_Met y_0_hasRank prog_2_method_3_code 2 (some .boolean) ({ frames := 0, cells := 0, slots := 0, locals := 0 }) s_0_hasRank := dk_metV 0 (dk_met (y := y_0_hasRank) (cc := prog_2_method_3_code) (maxL := 2) (ret := (some .boolean)) (rm := ({ frames := 0, cells := 0, slots := 0, locals := 0 })) (T := t_0_hasRank) (tb := b_0_hasRank) (G := g_0_hasRank) (by decide +kernel) ⟨fun z => absurd z (by decide), fun _ => rfl, fun z => absurd z (by decide), fun z => absurd z (by decide)⟩ (fun _ _ _ _ _ hts hd => tok_0 hts hd) h_0_hasRank k_0_hasRank rfl (fun i kd j h => hc_0_hasRank (i, kd, j) (dk_lk_mem h)))
set_option maxRecDepth 20000 in
theorem wv_0_hasRank : ∀ w ∈ [Cond.instanceMethod y_0_hasRank, Cond.selects y_0_hasRank.cls y_0_hasRank y_0_hasRank, Cond.initialized y_0_hasRank.cls, Cond.code y_0_hasRank prog_2_method_3_code 2 (some .boolean)], w ∈ dk_TB := dk_ac (dk_tb 471 rfl rfl) (dk_ac (dk_tb 472 rfl rfl) (dk_ac (dk_tb 58 rfl rfl) (dk_ac (dk_tb 473 rfl rfl) (dk_an))))
theorem hd_0_hasRank : y_0_hasRank.cls ≠ "java/lang/invoke/MethodHandle" ∧ y_0_hasRank.cls ≠ "java/lang/invoke/VarHandle" ∧ (parseMethodDescriptor y_0_hasRank.desc).map (fun d => d.parameters.length) = some 1 := by decide +kernel
theorem k_8_abs : dk_ckT t_8_abs prog_10_method_59_code 1 t_8_abs.2.2.1 b_8_abs = true := by decide +kernel
set_option maxRecDepth 20000 in
theorem hc_8_abs : ∀ q ∈ t_8_abs.2.1, ∃ n Sm, dk_nth g_8_abs q.2.2 = some (n, Sm) ∧ dk_Call y_8_abs.cls ({ frames := 0, cells := 0, slots := 0, locals := 0 }) prog_10_method_59_code 1 q.2.1 q.1 n Sm :=
  dk_an
theorem e_8_abs : dk_Met y_8_abs prog_10_method_59_code 1 (some .int) ({ frames := 0, cells := 0, slots := 0, locals := 0 }) s_8_abs := dk_met (y := y_8_abs) (cc := prog_10_method_59_code) (maxL := 1) (ret := (some .int)) (rm := ({ frames := 0, cells := 0, slots := 0, locals := 0 })) (T := t_8_abs) (tb := b_8_abs) (G := g_8_abs) (by decide +kernel) ⟨fun _ => rfl, fun z => absurd z (by decide), fun z => absurd z (by decide), fun z => absurd z (by decide)⟩ (fun _ _ _ _ _ _ _ => tok_n _) h_8_abs k_8_abs rfl (fun i kd j h => hc_8_abs (i, kd, j) (dk_lk_mem h))
set_option maxRecDepth 20000 in
theorem wv_8_abs : ∀ w ∈ [Cond.static y_8_abs, Cond.initialized y_8_abs.cls, Cond.code y_8_abs prog_10_method_59_code 1 (some .int)], w ∈ dk_TB := dk_ac (dk_tb 479 rfl rfl) (dk_ac (dk_tb 65 rfl rfl) (dk_ac (dk_tb 480 rfl rfl) (dk_an)))
theorem hd_8_abs : y_8_abs.cls ≠ "java/lang/invoke/MethodHandle" ∧ y_8_abs.cls ≠ "java/lang/invoke/VarHandle" ∧ (parseMethodDescriptor y_8_abs.desc).map (fun d => d.parameters.length) = some 1 := by decide +kernel
theorem k_0_drumFor : dk_ckT t_0_drumFor prog_2_method_9_code 6 t_0_drumFor.2.2.1 b_0_drumFor = true := by decide +kernel
set_option maxRecDepth 20000 in
theorem hc_0_drumFor : ∀ q ∈ t_0_drumFor.2.1, ∃ n Sm, dk_nth g_0_drumFor q.2.2 = some (n, Sm) ∧ dk_Call y_0_drumFor.cls ({ frames := 1, cells := 0, slots := 0, locals := 20 }) prog_2_method_9_code 6 q.2.1 q.1 n Sm :=
  dk_ac ⟨1, s_8_abs, rfl, fun hx hb hml hown hts hF => dk_callS e_8_abs (dk_ac (dk_tb 478 rfl rfl) wv_8_abs) ⟨rfl, rfl⟩ hd_8_abs ⟨by decide, by decide⟩ ⟨Nat.zero_le _, Nat.zero_le _⟩ hx hb hml hown hts hF⟩
    (dk_an)
theorem e_0_drumFor : dk_Met y_0_drumFor prog_2_method_9_code 6 (some .int) ({ frames := 1, cells := 0, slots := 0, locals := 20 }) s_0_drumFor := dk_metV 0 (dk_met (y := y_0_drumFor) (cc := prog_2_method_9_code) (maxL := 6) (ret := (some .int)) (rm := ({ frames := 1, cells := 0, slots := 0, locals := 20 })) (T := t_0_drumFor) (tb := b_0_drumFor) (G := g_0_drumFor) (by decide +kernel) ⟨fun _ => rfl, fun z => absurd z (by decide), fun z => absurd z (by decide), fun z => absurd z (by decide)⟩ (fun _ _ _ _ _ hts hd => tok_0 hts hd) h_0_drumFor k_0_drumFor rfl (fun i kd j h => hc_0_drumFor (i, kd, j) (dk_lk_mem h)))
set_option maxRecDepth 20000 in
theorem wv_0_drumFor : ∀ w ∈ [Cond.instanceMethod y_0_drumFor, Cond.selects y_0_drumFor.cls y_0_drumFor y_0_drumFor, Cond.initialized y_0_drumFor.cls, Cond.code y_0_drumFor prog_2_method_9_code 6 (some .int)], w ∈ dk_TB := dk_ac (dk_tb 475 rfl rfl) (dk_ac (dk_tb 476 rfl rfl) (dk_ac (dk_tb 58 rfl rfl) (dk_ac (dk_tb 477 rfl rfl) (dk_an))))
theorem hd_0_drumFor : y_0_drumFor.cls ≠ "java/lang/invoke/MethodHandle" ∧ y_0_drumFor.cls ≠ "java/lang/invoke/VarHandle" ∧ (parseMethodDescriptor y_0_drumFor.desc).map (fun d => d.parameters.length) = some 1 := by decide +kernel
theorem k_0_lagBetween : dk_ckT t_0_lagBetween prog_2_method_8_code 3 t_0_lagBetween.2.2.1 b_0_lagBetween = true := by decide +kernel
set_option maxRecDepth 20000 in
theorem hc_0_lagBetween : ∀ q ∈ t_0_lagBetween.2.1, ∃ n Sm, dk_nth g_0_lagBetween q.2.2 = some (n, Sm) ∧ dk_Call y_0_lagBetween.cls ({ frames := 0, cells := 0, slots := 0, locals := 0 }) prog_2_method_8_code 3 q.2.1 q.1 n Sm :=
  dk_an
theorem e_0_lagBetween : dk_Met y_0_lagBetween prog_2_method_8_code 3 (some .int) ({ frames := 0, cells := 0, slots := 0, locals := 0 }) s_0_lagBetween := dk_metV 0 (dk_met (y := y_0_lagBetween) (cc := prog_2_method_8_code) (maxL := 3) (ret := (some .int)) (rm := ({ frames := 0, cells := 0, slots := 0, locals := 0 })) (T := t_0_lagBetween) (tb := b_0_lagBetween) (G := g_0_lagBetween) (by decide +kernel) ⟨fun _ => rfl, fun z => absurd z (by decide), fun z => absurd z (by decide), fun z => absurd z (by decide)⟩ (fun _ _ _ _ _ hts hd => tok_0 hts hd) h_0_lagBetween k_0_lagBetween rfl (fun i kd j h => hc_0_lagBetween (i, kd, j) (dk_lk_mem h)))
set_option maxRecDepth 20000 in
theorem wv_0_lagBetween : ∀ w ∈ [Cond.instanceMethod y_0_lagBetween, Cond.selects y_0_lagBetween.cls y_0_lagBetween y_0_lagBetween, Cond.initialized y_0_lagBetween.cls, Cond.code y_0_lagBetween prog_2_method_8_code 3 (some .int)], w ∈ dk_TB := dk_ac (dk_tb 500 rfl rfl) (dk_ac (dk_tb 501 rfl rfl) (dk_ac (dk_tb 58 rfl rfl) (dk_ac (dk_tb 502 rfl rfl) (dk_an))))
theorem hd_0_lagBetween : y_0_lagBetween.cls ≠ "java/lang/invoke/MethodHandle" ∧ y_0_lagBetween.cls ≠ "java/lang/invoke/VarHandle" ∧ (parseMethodDescriptor y_0_lagBetween.desc).map (fun d => d.parameters.length) = some 2 := by decide +kernel
theorem k_0_lagFromDrum : dk_ckT t_0_lagFromDrum prog_2_method_10_code 3 t_0_lagFromDrum.2.2.1 b_0_lagFromDrum = true := by decide +kernel
set_option maxRecDepth 20000 in
theorem hc_0_lagFromDrum : ∀ q ∈ t_0_lagFromDrum.2.1, ∃ n Sm, dk_nth g_0_lagFromDrum q.2.2 = some (n, Sm) ∧ dk_Call y_0_lagFromDrum.cls ({ frames := 1, cells := 0, slots := 0, locals := 22 }) prog_2_method_10_code 3 q.2.1 q.1 n Sm :=
  dk_ac ⟨3, s_0_lagBetween, rfl, fun hx hb hml hown hts hF => dk_callV e_0_lagBetween dk_rcV rfl (dk_ac (dk_tb 499 rfl rfl) wv_0_lagBetween) ⟨rfl, rfl⟩ hd_0_lagBetween ⟨by decide, by decide⟩ ⟨Nat.zero_le _, Nat.zero_le _⟩ hx hb hml hown hts hF⟩
    (dk_an)
theorem e_0_lagFromDrum : dk_Met y_0_lagFromDrum prog_2_method_10_code 3 (some .int) ({ frames := 1, cells := 0, slots := 0, locals := 22 }) s_0_lagFromDrum := dk_metV 0 (dk_met (y := y_0_lagFromDrum) (cc := prog_2_method_10_code) (maxL := 3) (ret := (some .int)) (rm := ({ frames := 1, cells := 0, slots := 0, locals := 22 })) (T := t_0_lagFromDrum) (tb := b_0_lagFromDrum) (G := g_0_lagFromDrum) (by decide +kernel) ⟨fun _ => rfl, fun z => absurd z (by decide), fun z => absurd z (by decide), fun z => absurd z (by decide)⟩ (fun _ _ _ _ _ hts hd => tok_0 hts hd) h_0_lagFromDrum k_0_lagFromDrum rfl (fun i kd j h => hc_0_lagFromDrum (i, kd, j) (dk_lk_mem h)))
set_option maxRecDepth 20000 in
theorem wv_0_lagFromDrum : ∀ w ∈ [Cond.instanceMethod y_0_lagFromDrum, Cond.selects y_0_lagFromDrum.cls y_0_lagFromDrum y_0_lagFromDrum, Cond.initialized y_0_lagFromDrum.cls, Cond.code y_0_lagFromDrum prog_2_method_10_code 3 (some .int)], w ∈ dk_TB := dk_ac (dk_tb 496 rfl rfl) (dk_ac (dk_tb 497 rfl rfl) (dk_ac (dk_tb 58 rfl rfl) (dk_ac (dk_tb 498 rfl rfl) (dk_an))))
theorem hd_0_lagFromDrum : y_0_lagFromDrum.cls ≠ "java/lang/invoke/MethodHandle" ∧ y_0_lagFromDrum.cls ≠ "java/lang/invoke/VarHandle" ∧ (parseMethodDescriptor y_0_lagFromDrum.desc).map (fun d => d.parameters.length) = some 2 := by decide +kernel
theorem k_0_beatFor : dk_ckT t_0_beatFor prog_2_method_11_code 3 t_0_beatFor.2.2.1 b_0_beatFor = true := by decide +kernel
set_option maxRecDepth 20000 in
theorem hc_0_beatFor : ∀ q ∈ t_0_beatFor.2.1, ∃ n Sm, dk_nth g_0_beatFor q.2.2 = some (n, Sm) ∧ dk_Call y_0_beatFor.cls ({ frames := 2, cells := 0, slots := 0, locals := 45 }) prog_2_method_11_code 3 q.2.1 q.1 n Sm :=
  dk_ac ⟨2, s_0_drumFor, rfl, fun hx hb hml hown hts hF => dk_callV e_0_drumFor dk_rcV rfl (dk_ac (dk_tb 493 rfl rfl) wv_0_drumFor) ⟨rfl, rfl⟩ hd_0_drumFor ⟨by decide, by decide⟩ ⟨Nat.zero_le _, Nat.zero_le _⟩ hx hb hml hown hts hF⟩
    (dk_ac ⟨3, s_0_lagFromDrum, rfl, fun hx hb hml hown hts hF => dk_callV e_0_lagFromDrum dk_rcV rfl (dk_ac (dk_tb 495 rfl rfl) wv_0_lagFromDrum) ⟨rfl, rfl⟩ hd_0_lagFromDrum ⟨by decide, by decide⟩ ⟨Nat.zero_le _, Nat.zero_le _⟩ hx hb hml hown hts hF⟩
    (dk_an))
theorem e_0_beatFor : dk_Met y_0_beatFor prog_2_method_11_code 3 (some .int) ({ frames := 2, cells := 0, slots := 0, locals := 45 }) s_0_beatFor := dk_metV 0 (dk_met (y := y_0_beatFor) (cc := prog_2_method_11_code) (maxL := 3) (ret := (some .int)) (rm := ({ frames := 2, cells := 0, slots := 0, locals := 45 })) (T := t_0_beatFor) (tb := b_0_beatFor) (G := g_0_beatFor) (by decide +kernel) ⟨fun _ => rfl, fun z => absurd z (by decide), fun z => absurd z (by decide), fun z => absurd z (by decide)⟩ (fun _ _ _ _ _ hts hd => tok_0 hts hd) h_0_beatFor k_0_beatFor rfl (fun i kd j h => hc_0_beatFor (i, kd, j) (dk_lk_mem h)))
set_option maxRecDepth 20000 in
theorem wv_0_beatFor : ∀ w ∈ [Cond.instanceMethod y_0_beatFor, Cond.selects y_0_beatFor.cls y_0_beatFor y_0_beatFor, Cond.initialized y_0_beatFor.cls, Cond.code y_0_beatFor prog_2_method_11_code 3 (some .int)], w ∈ dk_TB := dk_ac (dk_tb 490 rfl rfl) (dk_ac (dk_tb 491 rfl rfl) (dk_ac (dk_tb 58 rfl rfl) (dk_ac (dk_tb 492 rfl rfl) (dk_an))))
theorem hd_0_beatFor : y_0_beatFor.cls ≠ "java/lang/invoke/MethodHandle" ∧ y_0_beatFor.cls ≠ "java/lang/invoke/VarHandle" ∧ (parseMethodDescriptor y_0_beatFor.desc).map (fun d => d.parameters.length) = some 1 := by decide +kernel
theorem k_1_listen : dk_ckT t_1_listen prog_3_method_3_code 2 t_1_listen.2.2.1 b_1_listen = true := by decide +kernel
set_option maxRecDepth 20000 in
theorem hc_1_listen : ∀ q ∈ t_1_listen.2.1, ∃ n Sm, dk_nth g_1_listen q.2.2 = some (n, Sm) ∧ dk_Call y_1_listen.cls ({ frames := 3, cells := 0, slots := 0, locals := 67 }) prog_3_method_3_code 2 q.2.1 q.1 n Sm :=
  dk_ac ⟨2, s_0_beatFor, rfl, fun hx hb hml hown hts hF => dk_callV e_0_beatFor dk_rcV rfl (dk_ac (dk_tb 489 rfl rfl) wv_0_beatFor) ⟨rfl, rfl⟩ hd_0_beatFor ⟨by decide, by decide⟩ ⟨Nat.zero_le _, Nat.zero_le _⟩ hx hb hml hown hts hF⟩
    (dk_an)
theorem e_1_listen : dk_Met y_1_listen prog_3_method_3_code 2 none ({ frames := 3, cells := 0, slots := 0, locals := 67 }) s_1_listen := dk_metV 1 (dk_met (y := y_1_listen) (cc := prog_3_method_3_code) (maxL := 2) (ret := none) (rm := ({ frames := 3, cells := 0, slots := 0, locals := 67 })) (T := t_1_listen) (tb := b_1_listen) (G := g_1_listen) (by decide +kernel) ⟨fun z => absurd z (by decide), fun z => absurd z (by decide), fun _ => rfl, fun z => absurd z (by decide)⟩ (fun _ _ _ _ _ hts hd => tok_1 hts hd) h_1_listen k_1_listen rfl (fun i kd j h => hc_1_listen (i, kd, j) (dk_lk_mem h)))
set_option maxRecDepth 20000 in
theorem wv_1_listen : ∀ w ∈ [Cond.instanceMethod y_1_listen, Cond.selects y_1_listen.cls y_1_listen y_1_listen, Cond.initialized y_1_listen.cls, Cond.code y_1_listen prog_3_method_3_code 2 none], w ∈ dk_TB := dk_ac (dk_tb 486 rfl rfl) (dk_ac (dk_tb 487 rfl rfl) (dk_ac (dk_tb 61 rfl rfl) (dk_ac (dk_tb 488 rfl rfl) (dk_an))))
theorem hd_1_listen : y_1_listen.cls ≠ "java/lang/invoke/MethodHandle" ∧ y_1_listen.cls ≠ "java/lang/invoke/VarHandle" ∧ (parseMethodDescriptor y_1_listen.desc).map (fun d => d.parameters.length) = some 0 := by decide +kernel
theorem k_0_isBehindBend : dk_ckT t_0_isBehindBend prog_2_method_12_code 3 t_0_isBehindBend.2.2.1 b_0_isBehindBend = true := by decide +kernel
set_option maxRecDepth 20000 in
theorem hc_0_isBehindBend : ∀ q ∈ t_0_isBehindBend.2.1, ∃ n Sm, dk_nth g_0_isBehindBend q.2.2 = some (n, Sm) ∧ dk_Call y_0_isBehindBend.cls ({ frames := 0, cells := 0, slots := 0, locals := 0 }) prog_2_method_12_code 3 q.2.1 q.1 n Sm :=
  dk_an
theorem e_0_isBehindBend : dk_Met y_0_isBehindBend prog_2_method_12_code 3 (some .boolean) ({ frames := 0, cells := 0, slots := 0, locals := 0 }) s_0_isBehindBend := dk_metV 0 (dk_met (y := y_0_isBehindBend) (cc := prog_2_method_12_code) (maxL := 3) (ret := (some .boolean)) (rm := ({ frames := 0, cells := 0, slots := 0, locals := 0 })) (T := t_0_isBehindBend) (tb := b_0_isBehindBend) (G := g_0_isBehindBend) (by decide +kernel) ⟨fun z => absurd z (by decide), fun _ => rfl, fun z => absurd z (by decide), fun z => absurd z (by decide)⟩ (fun _ _ _ _ _ hts hd => tok_0 hts hd) h_0_isBehindBend k_0_isBehindBend rfl (fun i kd j h => hc_0_isBehindBend (i, kd, j) (dk_lk_mem h)))
set_option maxRecDepth 20000 in
theorem wv_0_isBehindBend : ∀ w ∈ [Cond.instanceMethod y_0_isBehindBend, Cond.selects y_0_isBehindBend.cls y_0_isBehindBend y_0_isBehindBend, Cond.initialized y_0_isBehindBend.cls, Cond.code y_0_isBehindBend prog_2_method_12_code 3 (some .boolean)], w ∈ dk_TB := dk_ac (dk_tb 504 rfl rfl) (dk_ac (dk_tb 505 rfl rfl) (dk_ac (dk_tb 58 rfl rfl) (dk_ac (dk_tb 506 rfl rfl) (dk_an))))
theorem hd_0_isBehindBend : y_0_isBehindBend.cls ≠ "java/lang/invoke/MethodHandle" ∧ y_0_isBehindBend.cls ≠ "java/lang/invoke/VarHandle" ∧ (parseMethodDescriptor y_0_isBehindBend.desc).map (fun d => d.parameters.length) = some 1 := by decide +kernel
theorem k_1_feel : dk_ckT t_1_feel prog_3_method_4_code 5 t_1_feel.2.2.1 b_1_feel = true := by decide +kernel
set_option maxRecDepth 20000 in
theorem hc_1_feel : ∀ q ∈ t_1_feel.2.1, ∃ n Sm, dk_nth g_1_feel q.2.2 = some (n, Sm) ∧ dk_Call y_1_feel.cls ({ frames := 1, cells := 0, slots := 0, locals := 22 }) prog_3_method_4_code 5 q.2.1 q.1 n Sm :=
  dk_ac ⟨1, s_8_abs, rfl, fun hx hb hml hown hts hF => dk_callS e_8_abs (dk_ac (dk_tb 511 rfl rfl) wv_8_abs) ⟨rfl, rfl⟩ hd_8_abs ⟨by decide, by decide⟩ ⟨Nat.zero_le _, Nat.zero_le _⟩ hx hb hml hown hts hF⟩
    (dk_ac ⟨3, s_0_lagBetween, rfl, fun hx hb hml hown hts hF => dk_callV e_0_lagBetween dk_rcV rfl (dk_ac (dk_tb 512 rfl rfl) wv_0_lagBetween) ⟨rfl, rfl⟩ hd_0_lagBetween ⟨by decide, by decide⟩ ⟨Nat.zero_le _, Nat.zero_le _⟩ hx hb hml hown hts hF⟩
    (dk_an))
theorem e_1_feel : dk_Met y_1_feel prog_3_method_4_code 5 none ({ frames := 1, cells := 0, slots := 0, locals := 22 }) s_1_feel := dk_metV 1 (dk_met (y := y_1_feel) (cc := prog_3_method_4_code) (maxL := 5) (ret := none) (rm := ({ frames := 1, cells := 0, slots := 0, locals := 22 })) (T := t_1_feel) (tb := b_1_feel) (G := g_1_feel) (by decide +kernel) ⟨fun z => absurd z (by decide), fun z => absurd z (by decide), fun _ => rfl, fun z => absurd z (by decide)⟩ (fun _ _ _ _ _ hts hd => tok_1 hts hd) h_1_feel k_1_feel rfl (fun i kd j h => hc_1_feel (i, kd, j) (dk_lk_mem h)))
set_option maxRecDepth 20000 in
theorem wv_1_feel : ∀ w ∈ [Cond.instanceMethod y_1_feel, Cond.selects y_1_feel.cls y_1_feel y_1_feel, Cond.initialized y_1_feel.cls, Cond.code y_1_feel prog_3_method_4_code 5 none], w ∈ dk_TB := dk_ac (dk_tb 509 rfl rfl) (dk_ac (dk_tb 9 rfl rfl) (dk_ac (dk_tb 61 rfl rfl) (dk_ac (dk_tb 510 rfl rfl) (dk_an))))
theorem hd_1_feel : y_1_feel.cls ≠ "java/lang/invoke/MethodHandle" ∧ y_1_feel.cls ≠ "java/lang/invoke/VarHandle" ∧ (parseMethodDescriptor y_1_feel.desc).map (fun d => d.parameters.length) = some 1 := by decide +kernel
theorem k_1_prepare : dk_ckT t_1_prepare prog_3_method_2_code 2 t_1_prepare.2.2.1 b_1_prepare = true := by decide +kernel
set_option maxRecDepth 20000 in
theorem hc_1_prepare : ∀ q ∈ t_1_prepare.2.1, ∃ n Sm, dk_nth g_1_prepare q.2.2 = some (n, Sm) ∧ dk_Call y_1_prepare.cls ({ frames := 4, cells := 0, slots := 0, locals := 88 }) prog_3_method_2_code 2 q.2.1 q.1 n Sm :=
  dk_ac ⟨1, s_1_listen, rfl, fun hx hb hml hown hts hF => dk_callV e_1_listen dk_rcV rfl (dk_ac (dk_tb 485 rfl rfl) wv_1_listen) ⟨rfl, rfl⟩ hd_1_listen ⟨by decide, by decide⟩ ⟨Nat.zero_le _, Nat.zero_le _⟩ hx hb hml hown hts hF⟩
    (dk_ac ⟨2, s_0_isBehindBend, rfl, fun hx hb hml hown hts hF => dk_callV e_0_isBehindBend dk_rcV rfl (dk_ac (dk_tb 503 rfl rfl) wv_0_isBehindBend) ⟨rfl, rfl⟩ hd_0_isBehindBend ⟨by decide, by decide⟩ ⟨Nat.zero_le _, Nat.zero_le _⟩ hx hb hml hown hts hF⟩
    (dk_ac ⟨2, s_1_feel, rfl, fun hx hb hml hown hts hF => dk_callV e_1_feel dk_rcV rfl (dk_ac (dk_tb 507 rfl rfl) wv_1_feel) ⟨rfl, rfl⟩ hd_1_feel ⟨by decide, by decide⟩ ⟨Nat.zero_le _, Nat.zero_le _⟩ hx hb hml hown hts hF⟩
    (dk_an)))
theorem e_1_prepare : dk_Met y_1_prepare prog_3_method_2_code 2 none ({ frames := 4, cells := 0, slots := 0, locals := 88 }) s_1_prepare := dk_metV 1 (dk_met (y := y_1_prepare) (cc := prog_3_method_2_code) (maxL := 2) (ret := none) (rm := ({ frames := 4, cells := 0, slots := 0, locals := 88 })) (T := t_1_prepare) (tb := b_1_prepare) (G := g_1_prepare) (by decide +kernel) ⟨fun z => absurd z (by decide), fun z => absurd z (by decide), fun _ => rfl, fun z => absurd z (by decide)⟩ (fun _ _ _ _ _ hts hd => tok_1 hts hd) h_1_prepare k_1_prepare rfl (fun i kd j h => hc_1_prepare (i, kd, j) (dk_lk_mem h)))
set_option maxRecDepth 20000 in
theorem wv_1_prepare : ∀ w ∈ [Cond.instanceMethod y_1_prepare, Cond.selects y_1_prepare.cls y_1_prepare y_1_prepare, Cond.initialized y_1_prepare.cls, Cond.code y_1_prepare prog_3_method_2_code 2 none], w ∈ dk_TB := dk_ac (dk_tb 482 rfl rfl) (dk_ac (dk_tb 483 rfl rfl) (dk_ac (dk_tb 61 rfl rfl) (dk_ac (dk_tb 484 rfl rfl) (dk_an))))
theorem hd_1_prepare : y_1_prepare.cls ≠ "java/lang/invoke/MethodHandle" ∧ y_1_prepare.cls ≠ "java/lang/invoke/VarHandle" ∧ (parseMethodDescriptor y_1_prepare.desc).map (fun d => d.parameters.length) = some 0 := by decide +kernel
theorem k_1_turnByEar : dk_ckT t_1_turnByEar prog_3_method_6_code 3 t_1_turnByEar.2.2.1 b_1_turnByEar = true := by decide +kernel
set_option maxRecDepth 20000 in
theorem hc_1_turnByEar : ∀ q ∈ t_1_turnByEar.2.1, ∃ n Sm, dk_nth g_1_turnByEar q.2.2 = some (n, Sm) ∧ dk_Call y_1_turnByEar.cls ({ frames := 1, cells := 0, slots := 0, locals := 22 }) prog_3_method_6_code 3 q.2.1 q.1 n Sm :=
  dk_ac ⟨2, s_5_wrapped, rfl, fun hx hb hml hown hts hF => dk_callN e_5_wrapped (List.mem_of_getElem? (i := 1) rfl) wv_5_wrapped ⟨rfl, rfl⟩ hd_5_wrapped ⟨by decide, by decide⟩ ⟨Nat.zero_le _, Nat.zero_le _⟩ hx hb hml hown hts hF⟩
    (dk_an)
theorem e_1_turnByEar : dk_Met y_1_turnByEar prog_3_method_6_code 3 (some .int) ({ frames := 1, cells := 0, slots := 0, locals := 22 }) s_1_turnByEar := dk_metV 1 (dk_met (y := y_1_turnByEar) (cc := prog_3_method_6_code) (maxL := 3) (ret := (some .int)) (rm := ({ frames := 1, cells := 0, slots := 0, locals := 22 })) (T := t_1_turnByEar) (tb := b_1_turnByEar) (G := g_1_turnByEar) (by decide +kernel) ⟨fun _ => rfl, fun z => absurd z (by decide), fun z => absurd z (by decide), fun z => absurd z (by decide)⟩ (fun _ _ _ _ _ hts hd => tok_1 hts hd) h_1_turnByEar k_1_turnByEar rfl (fun i kd j h => hc_1_turnByEar (i, kd, j) (dk_lk_mem h)))
set_option maxRecDepth 20000 in
theorem wv_1_turnByEar : ∀ w ∈ [Cond.instanceMethod y_1_turnByEar, Cond.selects y_1_turnByEar.cls y_1_turnByEar y_1_turnByEar, Cond.initialized y_1_turnByEar.cls, Cond.code y_1_turnByEar prog_3_method_6_code 3 (some .int)], w ∈ dk_TB := dk_ac (dk_tb 520 rfl rfl) (dk_ac (dk_tb 10 rfl rfl) (dk_ac (dk_tb 61 rfl rfl) (dk_ac (dk_tb 521 rfl rfl) (dk_an))))
theorem hd_1_turnByEar : y_1_turnByEar.cls ≠ "java/lang/invoke/MethodHandle" ∧ y_1_turnByEar.cls ≠ "java/lang/invoke/VarHandle" ∧ (parseMethodDescriptor y_1_turnByEar.desc).map (fun d => d.parameters.length) = some 2 := by decide +kernel
theorem k_1_turnByEye : dk_ckT t_1_turnByEye prog_3_method_7_code 3 t_1_turnByEye.2.2.1 b_1_turnByEye = true := by decide +kernel
set_option maxRecDepth 20000 in
theorem hc_1_turnByEye : ∀ q ∈ t_1_turnByEye.2.1, ∃ n Sm, dk_nth g_1_turnByEye q.2.2 = some (n, Sm) ∧ dk_Call y_1_turnByEye.cls ({ frames := 1, cells := 0, slots := 0, locals := 22 }) prog_3_method_7_code 3 q.2.1 q.1 n Sm :=
  dk_ac ⟨2, s_5_wrapped, rfl, fun hx hb hml hown hts hF => dk_callN e_5_wrapped (List.mem_of_getElem? (i := 1) rfl) wv_5_wrapped ⟨rfl, rfl⟩ hd_5_wrapped ⟨by decide, by decide⟩ ⟨Nat.zero_le _, Nat.zero_le _⟩ hx hb hml hown hts hF⟩
    (dk_an)
theorem e_1_turnByEye : dk_Met y_1_turnByEye prog_3_method_7_code 3 (some .int) ({ frames := 1, cells := 0, slots := 0, locals := 22 }) s_1_turnByEye := dk_metV 1 (dk_met (y := y_1_turnByEye) (cc := prog_3_method_7_code) (maxL := 3) (ret := (some .int)) (rm := ({ frames := 1, cells := 0, slots := 0, locals := 22 })) (T := t_1_turnByEye) (tb := b_1_turnByEye) (G := g_1_turnByEye) (by decide +kernel) ⟨fun _ => rfl, fun z => absurd z (by decide), fun z => absurd z (by decide), fun z => absurd z (by decide)⟩ (fun _ _ _ _ _ hts hd => tok_1 hts hd) h_1_turnByEye k_1_turnByEye rfl (fun i kd j h => hc_1_turnByEye (i, kd, j) (dk_lk_mem h)))
set_option maxRecDepth 20000 in
theorem wv_1_turnByEye : ∀ w ∈ [Cond.instanceMethod y_1_turnByEye, Cond.selects y_1_turnByEye.cls y_1_turnByEye y_1_turnByEye, Cond.initialized y_1_turnByEye.cls, Cond.code y_1_turnByEye prog_3_method_7_code 3 (some .int)], w ∈ dk_TB := dk_ac (dk_tb 525 rfl rfl) (dk_ac (dk_tb 11 rfl rfl) (dk_ac (dk_tb 61 rfl rfl) (dk_ac (dk_tb 526 rfl rfl) (dk_an))))
theorem hd_1_turnByEye : y_1_turnByEye.cls ≠ "java/lang/invoke/MethodHandle" ∧ y_1_turnByEye.cls ≠ "java/lang/invoke/VarHandle" ∧ (parseMethodDescriptor y_1_turnByEye.desc).map (fun d => d.parameters.length) = some 2 := by decide +kernel
theorem k_1_turnByFeet : dk_ckT t_1_turnByFeet prog_3_method_8_code 6 t_1_turnByFeet.2.2.1 b_1_turnByFeet = true := by decide +kernel
set_option maxRecDepth 20000 in
theorem hc_1_turnByFeet : ∀ q ∈ t_1_turnByFeet.2.1, ∃ n Sm, dk_nth g_1_turnByFeet q.2.2 = some (n, Sm) ∧ dk_Call y_1_turnByFeet.cls ({ frames := 1, cells := 0, slots := 0, locals := 22 }) prog_3_method_8_code 6 q.2.1 q.1 n Sm :=
  dk_ac ⟨2, s_5_wrapped, rfl, fun hx hb hml hown hts hF => dk_callN e_5_wrapped (List.mem_of_getElem? (i := 1) rfl) wv_5_wrapped ⟨rfl, rfl⟩ hd_5_wrapped ⟨by decide, by decide⟩ ⟨Nat.zero_le _, Nat.zero_le _⟩ hx hb hml hown hts hF⟩
    (dk_an)
theorem e_1_turnByFeet : dk_Met y_1_turnByFeet prog_3_method_8_code 6 (some .int) ({ frames := 1, cells := 0, slots := 0, locals := 22 }) s_1_turnByFeet := dk_metV 1 (dk_met (y := y_1_turnByFeet) (cc := prog_3_method_8_code) (maxL := 6) (ret := (some .int)) (rm := ({ frames := 1, cells := 0, slots := 0, locals := 22 })) (T := t_1_turnByFeet) (tb := b_1_turnByFeet) (G := g_1_turnByFeet) (by decide +kernel) ⟨fun _ => rfl, fun z => absurd z (by decide), fun z => absurd z (by decide), fun z => absurd z (by decide)⟩ (fun _ _ _ _ _ hts hd => tok_1 hts hd) h_1_turnByFeet k_1_turnByFeet rfl (fun i kd j h => hc_1_turnByFeet (i, kd, j) (dk_lk_mem h)))
set_option maxRecDepth 20000 in
theorem wv_1_turnByFeet : ∀ w ∈ [Cond.instanceMethod y_1_turnByFeet, Cond.selects y_1_turnByFeet.cls y_1_turnByFeet y_1_turnByFeet, Cond.initialized y_1_turnByFeet.cls, Cond.code y_1_turnByFeet prog_3_method_8_code 6 (some .int)], w ∈ dk_TB := dk_ac (dk_tb 529 rfl rfl) (dk_ac (dk_tb 12 rfl rfl) (dk_ac (dk_tb 61 rfl rfl) (dk_ac (dk_tb 530 rfl rfl) (dk_an))))
theorem hd_1_turnByFeet : y_1_turnByFeet.cls ≠ "java/lang/invoke/MethodHandle" ∧ y_1_turnByFeet.cls ≠ "java/lang/invoke/VarHandle" ∧ (parseMethodDescriptor y_1_turnByFeet.desc).map (fun d => d.parameters.length) = some 2 := by decide +kernel
theorem k_1_turnOf : dk_ckT t_1_turnOf prog_3_method_5_code 5 t_1_turnOf.2.2.1 b_1_turnOf = true := by decide +kernel
set_option maxRecDepth 20000 in
theorem hc_1_turnOf : ∀ q ∈ t_1_turnOf.2.1, ∃ n Sm, dk_nth g_1_turnOf q.2.2 = some (n, Sm) ∧ dk_Call y_1_turnOf.cls ({ frames := 2, cells := 0, slots := 0, locals := 47 }) prog_3_method_5_code 5 q.2.1 q.1 n Sm :=
  dk_ac ⟨3, s_1_turnByEar, rfl, fun hx hb hml hown hts hF => dk_callV e_1_turnByEar dk_rcV rfl (dk_ac (dk_tb 518 rfl rfl) wv_1_turnByEar) ⟨rfl, rfl⟩ hd_1_turnByEar ⟨by decide, by decide⟩ ⟨Nat.zero_le _, Nat.zero_le _⟩ hx hb hml hown hts hF⟩
    (dk_ac ⟨3, s_1_turnByEye, rfl, fun hx hb hml hown hts hF => dk_callV e_1_turnByEye dk_rcV rfl (dk_ac (dk_tb 523 rfl rfl) wv_1_turnByEye) ⟨rfl, rfl⟩ hd_1_turnByEye ⟨by decide, by decide⟩ ⟨Nat.zero_le _, Nat.zero_le _⟩ hx hb hml hown hts hF⟩
    (dk_ac ⟨3, s_1_turnByFeet, rfl, fun hx hb hml hown hts hF => dk_callV e_1_turnByFeet dk_rcV rfl (dk_ac (dk_tb 527 rfl rfl) wv_1_turnByFeet) ⟨rfl, rfl⟩ hd_1_turnByFeet ⟨by decide, by decide⟩ ⟨Nat.zero_le _, Nat.zero_le _⟩ hx hb hml hown hts hF⟩
    (dk_ac ⟨2, s_5_wrapped, rfl, fun hx hb hml hown hts hF => dk_callN e_5_wrapped (List.mem_of_getElem? (i := 1) rfl) wv_5_wrapped ⟨rfl, rfl⟩ hd_5_wrapped ⟨by decide, by decide⟩ ⟨Nat.zero_le _, Nat.zero_le _⟩ hx hb hml hown hts hF⟩
    (dk_an))))
theorem e_1_turnOf : dk_Met y_1_turnOf prog_3_method_5_code 5 (some .int) ({ frames := 2, cells := 0, slots := 0, locals := 47 }) s_1_turnOf := dk_metV 1 (dk_met (y := y_1_turnOf) (cc := prog_3_method_5_code) (maxL := 5) (ret := (some .int)) (rm := ({ frames := 2, cells := 0, slots := 0, locals := 47 })) (T := t_1_turnOf) (tb := b_1_turnOf) (G := g_1_turnOf) (by decide +kernel) ⟨fun _ => rfl, fun z => absurd z (by decide), fun z => absurd z (by decide), fun z => absurd z (by decide)⟩ (fun _ _ _ _ _ hts hd => tok_1 hts hd) h_1_turnOf k_1_turnOf rfl (fun i kd j h => hc_1_turnOf (i, kd, j) (dk_lk_mem h)))
set_option maxRecDepth 20000 in
theorem wv_1_turnOf : ∀ w ∈ [Cond.instanceMethod y_1_turnOf, Cond.selects y_1_turnOf.cls y_1_turnOf y_1_turnOf, Cond.initialized y_1_turnOf.cls, Cond.code y_1_turnOf prog_3_method_5_code 5 (some .int)], w ∈ dk_TB := dk_ac (dk_tb 515 rfl rfl) (dk_ac (dk_tb 516 rfl rfl) (dk_ac (dk_tb 61 rfl rfl) (dk_ac (dk_tb 517 rfl rfl) (dk_an))))
theorem hd_1_turnOf : y_1_turnOf.cls ≠ "java/lang/invoke/MethodHandle" ∧ y_1_turnOf.cls ≠ "java/lang/invoke/VarHandle" ∧ (parseMethodDescriptor y_1_turnOf.desc).map (fun d => d.parameters.length) = some 2 := by decide +kernel
theorem k_5_rankOf : dk_ckT t_5_rankOf prog_1_method_6_code 3 t_5_rankOf.2.2.1 b_5_rankOf = true := by decide +kernel
set_option maxRecDepth 20000 in
theorem hc_5_rankOf : ∀ q ∈ t_5_rankOf.2.1, ∃ n Sm, dk_nth g_5_rankOf q.2.2 = some (n, Sm) ∧ dk_Call y_5_rankOf.cls ({ frames := 5, cells := 0, slots := 0, locals := 109 }) prog_1_method_6_code 3 q.2.1 q.1 n Sm :=
  dk_ac ⟨2, s_0_hasRank, rfl, fun hx hb hml hown hts hF => dk_callV e_0_hasRank dk_rcV rfl (dk_ac (dk_tb 470 rfl rfl) wv_0_hasRank) ⟨rfl, rfl⟩ hd_0_hasRank ⟨by decide, by decide⟩ ⟨Nat.zero_le _, Nat.zero_le _⟩ hx hb hml hown hts hF⟩
    (dk_ac ⟨3, s_5_isWithin, rfl, fun hx hb hml hown hts hF => dk_callS e_5_isWithin (dk_ac (dk_tb 316 rfl rfl) wv_5_isWithin) ⟨rfl, rfl⟩ hd_5_isWithin ⟨by decide, by decide⟩ ⟨Nat.zero_le _, Nat.zero_le _⟩ hx hb hml hown hts hF⟩
    (dk_ac ⟨2, s_5_finding, rfl, fun hx hb hml hown hts hF => dk_callV e_5_finding dk_rcV rfl (dk_ac (dk_tb 323 rfl rfl) wv_5_finding) ⟨rfl, rfl⟩ hd_5_finding ⟨by decide, by decide⟩ ⟨Nat.zero_le _, Nat.zero_le _⟩ hx hb hml hown hts hF⟩
    (dk_ac ⟨2, s_0_drumFor, rfl, fun hx hb hml hown hts hF => dk_callV e_0_drumFor dk_rcV rfl (dk_ac (dk_tb 474 rfl rfl) wv_0_drumFor) ⟨rfl, rfl⟩ hd_0_drumFor ⟨by decide, by decide⟩ ⟨Nat.zero_le _, Nat.zero_le _⟩ hx hb hml hown hts hF⟩
    (dk_ac ⟨1, s_1_prepare, rfl, fun hx hb hml hown hts hF => dk_callV e_1_prepare dk_rcV rfl (dk_ac (dk_tb 481 rfl rfl) wv_1_prepare) ⟨rfl, rfl⟩ hd_1_prepare ⟨by decide, by decide⟩ ⟨Nat.zero_le _, Nat.zero_le _⟩ hx hb hml hown hts hF⟩
    (dk_ac ⟨3, s_1_turnOf, rfl, fun hx hb hml hown hts hF => dk_callV e_1_turnOf dk_rcV rfl (dk_ac (dk_tb 514 rfl rfl) wv_1_turnOf) ⟨rfl, rfl⟩ hd_1_turnOf ⟨by decide, by decide⟩ ⟨Nat.zero_le _, Nat.zero_le _⟩ hx hb hml hown hts hF⟩
    (dk_an))))))
theorem e_5_rankOf : dk_Met y_5_rankOf prog_1_method_6_code 3 (some .int) ({ frames := 5, cells := 0, slots := 0, locals := 109 }) s_5_rankOf := dk_metV 5 (dk_met (y := y_5_rankOf) (cc := prog_1_method_6_code) (maxL := 3) (ret := (some .int)) (rm := ({ frames := 5, cells := 0, slots := 0, locals := 109 })) (T := t_5_rankOf) (tb := b_5_rankOf) (G := g_5_rankOf) (by decide +kernel) ⟨fun _ => rfl, fun z => absurd z (by decide), fun z => absurd z (by decide), fun z => absurd z (by decide)⟩ (fun _ _ _ _ _ hts hd => tok_5 hts hd) h_5_rankOf k_5_rankOf rfl (fun i kd j h => hc_5_rankOf (i, kd, j) (dk_lk_mem h)))
set_option maxRecDepth 20000 in
theorem wv_5_rankOf : ∀ w ∈ [Cond.instanceMethod y_5_rankOf, Cond.selects y_5_rankOf.cls y_5_rankOf y_5_rankOf, Cond.initialized y_5_rankOf.cls, Cond.code y_5_rankOf prog_1_method_6_code 3 (some .int)], w ∈ dk_TB := dk_ac (dk_tb 467 rfl rfl) (dk_ac (dk_tb 468 rfl rfl) (dk_ac (dk_tb 57 rfl rfl) (dk_ac (dk_tb 469 rfl rfl) (dk_an))))
theorem hd_5_rankOf : y_5_rankOf.cls ≠ "java/lang/invoke/MethodHandle" ∧ y_5_rankOf.cls ≠ "java/lang/invoke/VarHandle" ∧ (parseMethodDescriptor y_5_rankOf.desc).map (fun d => d.parameters.length) = some 2 := by decide +kernel
theorem k_5_exchange : dk_ckT t_5_exchange prog_1_method_51_code 4 t_5_exchange.2.2.1 b_5_exchange = true := by decide +kernel
set_option maxRecDepth 20000 in
theorem hc_5_exchange : ∀ q ∈ t_5_exchange.2.1, ∃ n Sm, dk_nth g_5_exchange q.2.2 = some (n, Sm) ∧ dk_Call y_5_exchange.cls ({ frames := 0, cells := 0, slots := 0, locals := 0 }) prog_1_method_51_code 4 q.2.1 q.1 n Sm :=
  dk_an
theorem e_5_exchange : dk_Met y_5_exchange prog_1_method_51_code 4 (some .int) ({ frames := 0, cells := 0, slots := 0, locals := 0 }) s_5_exchange := dk_met (y := y_5_exchange) (cc := prog_1_method_51_code) (maxL := 4) (ret := (some .int)) (rm := ({ frames := 0, cells := 0, slots := 0, locals := 0 })) (T := t_5_exchange) (tb := b_5_exchange) (G := g_5_exchange) (by decide +kernel) ⟨fun _ => rfl, fun z => absurd z (by decide), fun z => absurd z (by decide), fun z => absurd z (by decide)⟩ (fun _ _ _ _ _ hts hd => tok_5 hts hd) h_5_exchange k_5_exchange rfl (fun i kd j h => hc_5_exchange (i, kd, j) (dk_lk_mem h))
set_option maxRecDepth 20000 in
theorem wv_5_exchange : ∀ w ∈ [Cond.static y_5_exchange, Cond.initialized y_5_exchange.cls, Cond.code y_5_exchange prog_1_method_51_code 4 (some .int)], w ∈ dk_TB := dk_ac (dk_tb 536 rfl rfl) (dk_ac (dk_tb 57 rfl rfl) (dk_ac (dk_tb 537 rfl rfl) (dk_an)))
theorem hd_5_exchange : y_5_exchange.cls ≠ "java/lang/invoke/MethodHandle" ∧ y_5_exchange.cls ≠ "java/lang/invoke/VarHandle" ∧ (parseMethodDescriptor y_5_exchange.desc).map (fun d => d.parameters.length) = some 3 := by decide +kernel
theorem k_5_change : dk_ckT t_5_change prog_1_method_7_code 4 t_5_change.2.2.1 b_5_change = true := by decide +kernel
set_option maxRecDepth 20000 in
theorem hc_5_change : ∀ q ∈ t_5_change.2.1, ∃ n Sm, dk_nth g_5_change q.2.2 = some (n, Sm) ∧ dk_Call y_5_change.cls ({ frames := 2, cells := 0, slots := 0, locals := 43 }) prog_1_method_7_code 4 q.2.1 q.1 n Sm :=
  dk_ac ⟨2, s_0_hasRank, rfl, fun hx hb hml hown hts hF => dk_callV e_0_hasRank dk_rcV rfl (dk_ac (dk_tb 470 rfl rfl) wv_0_hasRank) ⟨rfl, rfl⟩ hd_0_hasRank ⟨by decide, by decide⟩ ⟨Nat.zero_le _, Nat.zero_le _⟩ hx hb hml hown hts hF⟩
    (dk_ac ⟨2, s_5_finding, rfl, fun hx hb hml hown hts hF => dk_callV e_5_finding dk_rcV rfl (dk_ac (dk_tb 323 rfl rfl) wv_5_finding) ⟨rfl, rfl⟩ hd_5_finding ⟨by decide, by decide⟩ ⟨Nat.zero_le _, Nat.zero_le _⟩ hx hb hml hown hts hF⟩
    (dk_ac ⟨3, s_5_isWithin, rfl, fun hx hb hml hown hts hF => dk_callS e_5_isWithin (dk_ac (dk_tb 316 rfl rfl) wv_5_isWithin) ⟨rfl, rfl⟩ hd_5_isWithin ⟨by decide, by decide⟩ ⟨Nat.zero_le _, Nat.zero_le _⟩ hx hb hml hown hts hF⟩
    (dk_ac ⟨3, s_5_exchange, rfl, fun hx hb hml hown hts hF => dk_callS e_5_exchange (dk_ac (dk_tb 535 rfl rfl) wv_5_exchange) ⟨rfl, rfl⟩ hd_5_exchange ⟨by decide, by decide⟩ ⟨Nat.zero_le _, Nat.zero_le _⟩ hx hb hml hown hts hF⟩
    (dk_ac ⟨2, s_0_wrap, rfl, fun hx hb hml hown hts hF => dk_callV e_0_wrap dk_rcV rfl (dk_ac (dk_tb 538 rfl rfl) wv_0_wrap) ⟨rfl, rfl⟩ hd_0_wrap ⟨by decide, by decide⟩ ⟨Nat.zero_le _, Nat.zero_le _⟩ hx hb hml hown hts hF⟩
    (dk_an)))))
theorem e_5_change : dk_Met y_5_change prog_1_method_7_code 4 (some .int) ({ frames := 2, cells := 0, slots := 0, locals := 43 }) s_5_change := dk_metV 5 (dk_met (y := y_5_change) (cc := prog_1_method_7_code) (maxL := 4) (ret := (some .int)) (rm := ({ frames := 2, cells := 0, slots := 0, locals := 43 })) (T := t_5_change) (tb := b_5_change) (G := g_5_change) (by decide +kernel) ⟨fun _ => rfl, fun z => absurd z (by decide), fun z => absurd z (by decide), fun z => absurd z (by decide)⟩ (fun _ _ _ _ _ hts hd => tok_5 hts hd) h_5_change k_5_change rfl (fun i kd j h => hc_5_change (i, kd, j) (dk_lk_mem h)))
set_option maxRecDepth 20000 in
theorem wv_5_change : ∀ w ∈ [Cond.instanceMethod y_5_change, Cond.selects y_5_change.cls y_5_change y_5_change, Cond.initialized y_5_change.cls, Cond.code y_5_change prog_1_method_7_code 4 (some .int)], w ∈ dk_TB := dk_ac (dk_tb 532 rfl rfl) (dk_ac (dk_tb 533 rfl rfl) (dk_ac (dk_tb 57 rfl rfl) (dk_ac (dk_tb 534 rfl rfl) (dk_an))))
theorem hd_5_change : y_5_change.cls ≠ "java/lang/invoke/MethodHandle" ∧ y_5_change.cls ≠ "java/lang/invoke/VarHandle" ∧ (parseMethodDescriptor y_5_change.desc).map (fun d => d.parameters.length) = some 3 := by decide +kernel
theorem k_5_isPlace : dk_ckT t_5_isPlace prog_1_method_46_code 1 t_5_isPlace.2.2.1 b_5_isPlace = true := by decide +kernel
set_option maxRecDepth 20000 in
theorem hc_5_isPlace : ∀ q ∈ t_5_isPlace.2.1, ∃ n Sm, dk_nth g_5_isPlace q.2.2 = some (n, Sm) ∧ dk_Call y_5_isPlace.cls ({ frames := 1, cells := 0, slots := 0, locals := 22 }) prog_1_method_46_code 1 q.2.1 q.1 n Sm :=
  dk_ac ⟨3, s_5_isWithin, rfl, fun hx hb hml hown hts hF => dk_callS e_5_isWithin (dk_ac (dk_tb 316 rfl rfl) wv_5_isWithin) ⟨rfl, rfl⟩ hd_5_isWithin ⟨by decide, by decide⟩ ⟨Nat.zero_le _, Nat.zero_le _⟩ hx hb hml hown hts hF⟩
    (dk_an)
theorem e_5_isPlace : dk_Met y_5_isPlace prog_1_method_46_code 1 (some .boolean) ({ frames := 1, cells := 0, slots := 0, locals := 22 }) s_5_isPlace := dk_met (y := y_5_isPlace) (cc := prog_1_method_46_code) (maxL := 1) (ret := (some .boolean)) (rm := ({ frames := 1, cells := 0, slots := 0, locals := 22 })) (T := t_5_isPlace) (tb := b_5_isPlace) (G := g_5_isPlace) (by decide +kernel) ⟨fun z => absurd z (by decide), fun _ => rfl, fun z => absurd z (by decide), fun z => absurd z (by decide)⟩ (fun _ _ _ _ _ hts hd => tok_5 hts hd) h_5_isPlace k_5_isPlace rfl (fun i kd j h => hc_5_isPlace (i, kd, j) (dk_lk_mem h))
set_option maxRecDepth 20000 in
theorem wv_5_isPlace : ∀ w ∈ [Cond.static y_5_isPlace, Cond.initialized y_5_isPlace.cls, Cond.code y_5_isPlace prog_1_method_46_code 1 (some .boolean)], w ∈ dk_TB := dk_ac (dk_tb 544 rfl rfl) (dk_ac (dk_tb 57 rfl rfl) (dk_ac (dk_tb 545 rfl rfl) (dk_an)))
theorem hd_5_isPlace : y_5_isPlace.cls ≠ "java/lang/invoke/MethodHandle" ∧ y_5_isPlace.cls ≠ "java/lang/invoke/VarHandle" ∧ (parseMethodDescriptor y_5_isPlace.desc).map (fun d => d.parameters.length) = some 1 := by decide +kernel
theorem k_5_drum : dk_ckT t_5_drum prog_1_method_8_code 5 t_5_drum.2.2.1 b_5_drum = true := by decide +kernel
set_option maxRecDepth 20000 in
theorem hc_5_drum : ∀ q ∈ t_5_drum.2.1, ∃ n Sm, dk_nth g_5_drum q.2.2 = some (n, Sm) ∧ dk_Call y_5_drum.cls ({ frames := 2, cells := 0, slots := 0, locals := 42 }) prog_1_method_8_code 5 q.2.1 q.1 n Sm :=
  dk_ac ⟨1, s_5_isPlace, rfl, fun hx hb hml hown hts hF => dk_callS e_5_isPlace (dk_ac (dk_tb 543 rfl rfl) wv_5_isPlace) ⟨rfl, rfl⟩ hd_5_isPlace ⟨by decide, by decide⟩ ⟨Nat.zero_le _, Nat.zero_le _⟩ hx hb hml hown hts hF⟩
    (dk_ac ⟨3, s_5_isWithin, rfl, fun hx hb hml hown hts hF => dk_callS e_5_isWithin (dk_ac (dk_tb 316 rfl rfl) wv_5_isWithin) ⟨rfl, rfl⟩ hd_5_isWithin ⟨by decide, by decide⟩ ⟨Nat.zero_le _, Nat.zero_le _⟩ hx hb hml hown hts hF⟩
    (dk_ac ⟨2, s_5_finding, rfl, fun hx hb hml hown hts hF => dk_callV e_5_finding dk_rcV rfl (dk_ac (dk_tb 323 rfl rfl) wv_5_finding) ⟨rfl, rfl⟩ hd_5_finding ⟨by decide, by decide⟩ ⟨Nat.zero_le _, Nat.zero_le _⟩ hx hb hml hown hts hF⟩
    (dk_an)))
theorem e_5_drum : dk_Met y_5_drum prog_1_method_8_code 5 (some .int) ({ frames := 2, cells := 0, slots := 0, locals := 42 }) s_5_drum := dk_metV 5 (dk_met (y := y_5_drum) (cc := prog_1_method_8_code) (maxL := 5) (ret := (some .int)) (rm := ({ frames := 2, cells := 0, slots := 0, locals := 42 })) (T := t_5_drum) (tb := b_5_drum) (G := g_5_drum) (by decide +kernel) ⟨fun _ => rfl, fun z => absurd z (by decide), fun z => absurd z (by decide), fun z => absurd z (by decide)⟩ (fun _ _ _ _ _ hts hd => tok_5 hts hd) h_5_drum k_5_drum rfl (fun i kd j h => hc_5_drum (i, kd, j) (dk_lk_mem h)))
set_option maxRecDepth 20000 in
theorem wv_5_drum : ∀ w ∈ [Cond.instanceMethod y_5_drum, Cond.selects y_5_drum.cls y_5_drum y_5_drum, Cond.initialized y_5_drum.cls, Cond.code y_5_drum prog_1_method_8_code 5 (some .int)], w ∈ dk_TB := dk_ac (dk_tb 540 rfl rfl) (dk_ac (dk_tb 541 rfl rfl) (dk_ac (dk_tb 57 rfl rfl) (dk_ac (dk_tb 542 rfl rfl) (dk_an))))
theorem hd_5_drum : y_5_drum.cls ≠ "java/lang/invoke/MethodHandle" ∧ y_5_drum.cls ≠ "java/lang/invoke/VarHandle" ∧ (parseMethodDescriptor y_5_drum.desc).map (fun d => d.parameters.length) = some 3 := by decide +kernel
theorem k_0_hasDrum : dk_ckT t_0_hasDrum prog_2_method_4_code 2 t_0_hasDrum.2.2.1 b_0_hasDrum = true := by decide +kernel
set_option maxRecDepth 20000 in
theorem hc_0_hasDrum : ∀ q ∈ t_0_hasDrum.2.1, ∃ n Sm, dk_nth g_0_hasDrum q.2.2 = some (n, Sm) ∧ dk_Call y_0_hasDrum.cls ({ frames := 0, cells := 0, slots := 0, locals := 0 }) prog_2_method_4_code 2 q.2.1 q.1 n Sm :=
  dk_an
theorem e_0_hasDrum : dk_Met y_0_hasDrum prog_2_method_4_code 2 (some .boolean) ({ frames := 0, cells := 0, slots := 0, locals := 0 }) s_0_hasDrum := dk_metV 0 (dk_met (y := y_0_hasDrum) (cc := prog_2_method_4_code) (maxL := 2) (ret := (some .boolean)) (rm := ({ frames := 0, cells := 0, slots := 0, locals := 0 })) (T := t_0_hasDrum) (tb := b_0_hasDrum) (G := g_0_hasDrum) (by decide +kernel) ⟨fun z => absurd z (by decide), fun _ => rfl, fun z => absurd z (by decide), fun z => absurd z (by decide)⟩ (fun _ _ _ _ _ hts hd => tok_0 hts hd) h_0_hasDrum k_0_hasDrum rfl (fun i kd j h => hc_0_hasDrum (i, kd, j) (dk_lk_mem h)))
set_option maxRecDepth 20000 in
theorem wv_0_hasDrum : ∀ w ∈ [Cond.instanceMethod y_0_hasDrum, Cond.selects y_0_hasDrum.cls y_0_hasDrum y_0_hasDrum, Cond.initialized y_0_hasDrum.cls, Cond.code y_0_hasDrum prog_2_method_4_code 2 (some .boolean)], w ∈ dk_TB := dk_ac (dk_tb 551 rfl rfl) (dk_ac (dk_tb 552 rfl rfl) (dk_ac (dk_tb 58 rfl rfl) (dk_ac (dk_tb 553 rfl rfl) (dk_an))))
theorem hd_0_hasDrum : y_0_hasDrum.cls ≠ "java/lang/invoke/MethodHandle" ∧ y_0_hasDrum.cls ≠ "java/lang/invoke/VarHandle" ∧ (parseMethodDescriptor y_0_hasDrum.desc).map (fun d => d.parameters.length) = some 1 := by decide +kernel
theorem k_5_drumOf : dk_ckT t_5_drumOf prog_1_method_9_code 3 t_5_drumOf.2.2.1 b_5_drumOf = true := by decide +kernel
set_option maxRecDepth 20000 in
theorem hc_5_drumOf : ∀ q ∈ t_5_drumOf.2.1, ∃ n Sm, dk_nth g_5_drumOf q.2.2 = some (n, Sm) ∧ dk_Call y_5_drumOf.cls ({ frames := 1, cells := 0, slots := 0, locals := 22 }) prog_1_method_9_code 3 q.2.1 q.1 n Sm :=
  dk_ac ⟨2, s_0_hasDrum, rfl, fun hx hb hml hown hts hF => dk_callV e_0_hasDrum dk_rcV rfl (dk_ac (dk_tb 550 rfl rfl) wv_0_hasDrum) ⟨rfl, rfl⟩ hd_0_hasDrum ⟨by decide, by decide⟩ ⟨Nat.zero_le _, Nat.zero_le _⟩ hx hb hml hown hts hF⟩
    (dk_ac ⟨3, s_5_isWithin, rfl, fun hx hb hml hown hts hF => dk_callS e_5_isWithin (dk_ac (dk_tb 316 rfl rfl) wv_5_isWithin) ⟨rfl, rfl⟩ hd_5_isWithin ⟨by decide, by decide⟩ ⟨Nat.zero_le _, Nat.zero_le _⟩ hx hb hml hown hts hF⟩
    (dk_ac ⟨2, s_5_finding, rfl, fun hx hb hml hown hts hF => dk_callV e_5_finding dk_rcV rfl (dk_ac (dk_tb 323 rfl rfl) wv_5_finding) ⟨rfl, rfl⟩ hd_5_finding ⟨by decide, by decide⟩ ⟨Nat.zero_le _, Nat.zero_le _⟩ hx hb hml hown hts hF⟩
    (dk_an)))
theorem e_5_drumOf : dk_Met y_5_drumOf prog_1_method_9_code 3 (some .int) ({ frames := 1, cells := 0, slots := 0, locals := 22 }) s_5_drumOf := dk_metV 5 (dk_met (y := y_5_drumOf) (cc := prog_1_method_9_code) (maxL := 3) (ret := (some .int)) (rm := ({ frames := 1, cells := 0, slots := 0, locals := 22 })) (T := t_5_drumOf) (tb := b_5_drumOf) (G := g_5_drumOf) (by decide +kernel) ⟨fun _ => rfl, fun z => absurd z (by decide), fun z => absurd z (by decide), fun z => absurd z (by decide)⟩ (fun _ _ _ _ _ hts hd => tok_5 hts hd) h_5_drumOf k_5_drumOf rfl (fun i kd j h => hc_5_drumOf (i, kd, j) (dk_lk_mem h)))
set_option maxRecDepth 20000 in
theorem wv_5_drumOf : ∀ w ∈ [Cond.instanceMethod y_5_drumOf, Cond.selects y_5_drumOf.cls y_5_drumOf y_5_drumOf, Cond.initialized y_5_drumOf.cls, Cond.code y_5_drumOf prog_1_method_9_code 3 (some .int)], w ∈ dk_TB := dk_ac (dk_tb 547 rfl rfl) (dk_ac (dk_tb 548 rfl rfl) (dk_ac (dk_tb 57 rfl rfl) (dk_ac (dk_tb 549 rfl rfl) (dk_an))))
theorem hd_5_drumOf : y_5_drumOf.cls ≠ "java/lang/invoke/MethodHandle" ∧ y_5_drumOf.cls ≠ "java/lang/invoke/VarHandle" ∧ (parseMethodDescriptor y_5_drumOf.desc).map (fun d => d.parameters.length) = some 2 := by decide +kernel
end
section
/-! THE METHODS: their contracts -/
theorem k_5_carry : dk_ckT t_5_carry prog_1_method_10_code 3 t_5_carry.2.2.1 b_5_carry = true := by decide +kernel
set_option maxRecDepth 20000 in
theorem hc_5_carry : ∀ q ∈ t_5_carry.2.1, ∃ n Sm, dk_nth g_5_carry q.2.2 = some (n, Sm) ∧ dk_Call y_5_carry.cls ({ frames := 2, cells := 0, slots := 0, locals := 42 }) prog_1_method_10_code 3 q.2.1 q.1 n Sm :=
  dk_ac ⟨2, s_0_hasDrum, rfl, fun hx hb hml hown hts hF => dk_callV e_0_hasDrum dk_rcV rfl (dk_ac (dk_tb 550 rfl rfl) wv_0_hasDrum) ⟨rfl, rfl⟩ hd_0_hasDrum ⟨by decide, by decide⟩ ⟨Nat.zero_le _, Nat.zero_le _⟩ hx hb hml hown hts hF⟩
    (dk_ac ⟨1, s_5_isPlace, rfl, fun hx hb hml hown hts hF => dk_callS e_5_isPlace (dk_ac (dk_tb 543 rfl rfl) wv_5_isPlace) ⟨rfl, rfl⟩ hd_5_isPlace ⟨by decide, by decide⟩ ⟨Nat.zero_le _, Nat.zero_le _⟩ hx hb hml hown hts hF⟩
    (dk_ac ⟨2, s_5_finding, rfl, fun hx hb hml hown hts hF => dk_callV e_5_finding dk_rcV rfl (dk_ac (dk_tb 323 rfl rfl) wv_5_finding) ⟨rfl, rfl⟩ hd_5_finding ⟨by decide, by decide⟩ ⟨Nat.zero_le _, Nat.zero_le _⟩ hx hb hml hown hts hF⟩
    (dk_ac ⟨3, s_5_exchange, rfl, fun hx hb hml hown hts hF => dk_callS e_5_exchange (dk_ac (dk_tb 535 rfl rfl) wv_5_exchange) ⟨rfl, rfl⟩ hd_5_exchange ⟨by decide, by decide⟩ ⟨Nat.zero_le _, Nat.zero_le _⟩ hx hb hml hown hts hF⟩
    (dk_an))))
theorem e_5_carry : dk_Met y_5_carry prog_1_method_10_code 3 (some .int) ({ frames := 2, cells := 0, slots := 0, locals := 42 }) s_5_carry := dk_metV 5 (dk_met (y := y_5_carry) (cc := prog_1_method_10_code) (maxL := 3) (ret := (some .int)) (rm := ({ frames := 2, cells := 0, slots := 0, locals := 42 })) (T := t_5_carry) (tb := b_5_carry) (G := g_5_carry) (by decide +kernel) ⟨fun _ => rfl, fun z => absurd z (by decide), fun z => absurd z (by decide), fun z => absurd z (by decide)⟩ (fun _ _ _ _ _ hts hd => tok_5 hts hd) h_5_carry k_5_carry rfl (fun i kd j h => hc_5_carry (i, kd, j) (dk_lk_mem h)))
set_option maxRecDepth 20000 in
theorem wv_5_carry : ∀ w ∈ [Cond.instanceMethod y_5_carry, Cond.selects y_5_carry.cls y_5_carry y_5_carry, Cond.initialized y_5_carry.cls, Cond.code y_5_carry prog_1_method_10_code 3 (some .int)], w ∈ dk_TB := dk_ac (dk_tb 555 rfl rfl) (dk_ac (dk_tb 556 rfl rfl) (dk_ac (dk_tb 57 rfl rfl) (dk_ac (dk_tb 557 rfl rfl) (dk_an))))
theorem hd_5_carry : y_5_carry.cls ≠ "java/lang/invoke/MethodHandle" ∧ y_5_carry.cls ≠ "java/lang/invoke/VarHandle" ∧ (parseMethodDescriptor y_5_carry.desc).map (fun d => d.parameters.length) = some 2 := by decide +kernel
theorem k_5_bend : dk_ckT t_5_bend prog_1_method_11_code 2 t_5_bend.2.2.1 b_5_bend = true := by decide +kernel
set_option maxRecDepth 20000 in
theorem hc_5_bend : ∀ q ∈ t_5_bend.2.1, ∃ n Sm, dk_nth g_5_bend q.2.2 = some (n, Sm) ∧ dk_Call y_5_bend.cls ({ frames := 2, cells := 0, slots := 0, locals := 42 }) prog_1_method_11_code 2 q.2.1 q.1 n Sm :=
  dk_ac ⟨1, s_5_isPlace, rfl, fun hx hb hml hown hts hF => dk_callS e_5_isPlace (dk_ac (dk_tb 543 rfl rfl) wv_5_isPlace) ⟨rfl, rfl⟩ hd_5_isPlace ⟨by decide, by decide⟩ ⟨Nat.zero_le _, Nat.zero_le _⟩ hx hb hml hown hts hF⟩
    (dk_ac ⟨2, s_5_finding, rfl, fun hx hb hml hown hts hF => dk_callV e_5_finding dk_rcV rfl (dk_ac (dk_tb 323 rfl rfl) wv_5_finding) ⟨rfl, rfl⟩ hd_5_finding ⟨by decide, by decide⟩ ⟨Nat.zero_le _, Nat.zero_le _⟩ hx hb hml hown hts hF⟩
    (dk_an))
theorem e_5_bend : dk_Met y_5_bend prog_1_method_11_code 2 (some .int) ({ frames := 2, cells := 0, slots := 0, locals := 42 }) s_5_bend := dk_metV 5 (dk_met (y := y_5_bend) (cc := prog_1_method_11_code) (maxL := 2) (ret := (some .int)) (rm := ({ frames := 2, cells := 0, slots := 0, locals := 42 })) (T := t_5_bend) (tb := b_5_bend) (G := g_5_bend) (by decide +kernel) ⟨fun _ => rfl, fun z => absurd z (by decide), fun z => absurd z (by decide), fun z => absurd z (by decide)⟩ (fun _ _ _ _ _ hts hd => tok_5 hts hd) h_5_bend k_5_bend rfl (fun i kd j h => hc_5_bend (i, kd, j) (dk_lk_mem h)))
set_option maxRecDepth 20000 in
theorem wv_5_bend : ∀ w ∈ [Cond.instanceMethod y_5_bend, Cond.selects y_5_bend.cls y_5_bend y_5_bend, Cond.initialized y_5_bend.cls, Cond.code y_5_bend prog_1_method_11_code 2 (some .int)], w ∈ dk_TB := dk_ac (dk_tb 559 rfl rfl) (dk_ac (dk_tb 560 rfl rfl) (dk_ac (dk_tb 57 rfl rfl) (dk_ac (dk_tb 561 rfl rfl) (dk_an))))
theorem hd_5_bend : y_5_bend.cls ≠ "java/lang/invoke/MethodHandle" ∧ y_5_bend.cls ≠ "java/lang/invoke/VarHandle" ∧ (parseMethodDescriptor y_5_bend.desc).map (fun d => d.parameters.length) = some 1 := by decide +kernel
theorem k_5_lag : dk_ckT t_5_lag prog_1_method_12_code 3 t_5_lag.2.2.1 b_5_lag = true := by decide +kernel
set_option maxRecDepth 20000 in
theorem hc_5_lag : ∀ q ∈ t_5_lag.2.1, ∃ n Sm, dk_nth g_5_lag q.2.2 = some (n, Sm) ∧ dk_Call y_5_lag.cls ({ frames := 2, cells := 0, slots := 0, locals := 42 }) prog_1_method_12_code 3 q.2.1 q.1 n Sm :=
  dk_ac ⟨1, s_5_isPlace, rfl, fun hx hb hml hown hts hF => dk_callS e_5_isPlace (dk_ac (dk_tb 543 rfl rfl) wv_5_isPlace) ⟨rfl, rfl⟩ hd_5_isPlace ⟨by decide, by decide⟩ ⟨Nat.zero_le _, Nat.zero_le _⟩ hx hb hml hown hts hF⟩
    (dk_ac ⟨2, s_5_finding, rfl, fun hx hb hml hown hts hF => dk_callV e_5_finding dk_rcV rfl (dk_ac (dk_tb 323 rfl rfl) wv_5_finding) ⟨rfl, rfl⟩ hd_5_finding ⟨by decide, by decide⟩ ⟨Nat.zero_le _, Nat.zero_le _⟩ hx hb hml hown hts hF⟩
    (dk_ac ⟨3, s_0_lagBetween, rfl, fun hx hb hml hown hts hF => dk_callV e_0_lagBetween dk_rcV rfl (dk_ac (dk_tb 566 rfl rfl) wv_0_lagBetween) ⟨rfl, rfl⟩ hd_0_lagBetween ⟨by decide, by decide⟩ ⟨Nat.zero_le _, Nat.zero_le _⟩ hx hb hml hown hts hF⟩
    (dk_an)))
theorem e_5_lag : dk_Met y_5_lag prog_1_method_12_code 3 (some .int) ({ frames := 2, cells := 0, slots := 0, locals := 42 }) s_5_lag := dk_metV 5 (dk_met (y := y_5_lag) (cc := prog_1_method_12_code) (maxL := 3) (ret := (some .int)) (rm := ({ frames := 2, cells := 0, slots := 0, locals := 42 })) (T := t_5_lag) (tb := b_5_lag) (G := g_5_lag) (by decide +kernel) ⟨fun _ => rfl, fun z => absurd z (by decide), fun z => absurd z (by decide), fun z => absurd z (by decide)⟩ (fun _ _ _ _ _ hts hd => tok_5 hts hd) h_5_lag k_5_lag rfl (fun i kd j h => hc_5_lag (i, kd, j) (dk_lk_mem h)))
set_option maxRecDepth 20000 in
theorem wv_5_lag : ∀ w ∈ [Cond.instanceMethod y_5_lag, Cond.selects y_5_lag.cls y_5_lag y_5_lag, Cond.initialized y_5_lag.cls, Cond.code y_5_lag prog_1_method_12_code 3 (some .int)], w ∈ dk_TB := dk_ac (dk_tb 563 rfl rfl) (dk_ac (dk_tb 564 rfl rfl) (dk_ac (dk_tb 57 rfl rfl) (dk_ac (dk_tb 565 rfl rfl) (dk_an))))
theorem hd_5_lag : y_5_lag.cls ≠ "java/lang/invoke/MethodHandle" ∧ y_5_lag.cls ≠ "java/lang/invoke/VarHandle" ∧ (parseMethodDescriptor y_5_lag.desc).map (fun d => d.parameters.length) = some 2 := by decide +kernel
theorem k_4_start : dk_ckT t_4_start prog_6_method_2_code 1 t_4_start.2.2.1 b_4_start = true := by decide +kernel
set_option maxRecDepth 20000 in
theorem hc_4_start : ∀ q ∈ t_4_start.2.1, ∃ n Sm, dk_nth g_4_start q.2.2 = some (n, Sm) ∧ dk_Call y_4_start.cls ({ frames := 1, cells := 0, slots := 0, locals := 64 }) prog_6_method_2_code 1 q.2.1 q.1 n Sm :=
  dk_ac ⟨5, s_ac, rfl, call_ac (own := nn_R4) (i := 31) (dk_tb 579 rfl rfl) (by decide) (by decide)⟩
    (dk_an)
theorem e_4_start : dk_Met y_4_start prog_6_method_2_code 1 none ({ frames := 1, cells := 0, slots := 0, locals := 64 }) s_4_start := dk_metV 4 (dk_met (y := y_4_start) (cc := prog_6_method_2_code) (maxL := 1) (ret := none) (rm := ({ frames := 1, cells := 0, slots := 0, locals := 64 })) (T := t_4_start) (tb := b_4_start) (G := g_4_start) (by decide +kernel) ⟨fun z => absurd z (by decide), fun z => absurd z (by decide), fun _ => rfl, fun z => absurd z (by decide)⟩ (fun _ _ _ _ _ hts hd => tok_4 hts hd) h_4_start k_4_start rfl (fun i kd j h => hc_4_start (i, kd, j) (dk_lk_mem h)))
set_option maxRecDepth 20000 in
theorem wv_4_start : ∀ w ∈ [Cond.instanceMethod y_4_start, Cond.selects y_4_start.cls y_4_start y_4_start, Cond.initialized y_4_start.cls, Cond.code y_4_start prog_6_method_2_code 1 none], w ∈ dk_TB := dk_ac (dk_tb 576 rfl rfl) (dk_ac (dk_tb 577 rfl rfl) (dk_ac (dk_tb 62 rfl rfl) (dk_ac (dk_tb 578 rfl rfl) (dk_an))))
theorem hd_4_start : y_4_start.cls ≠ "java/lang/invoke/MethodHandle" ∧ y_4_start.cls ≠ "java/lang/invoke/VarHandle" ∧ (parseMethodDescriptor y_4_start.desc).map (fun d => d.parameters.length) = some 0 := by decide +kernel
theorem k_5_setOut : dk_ckT t_5_setOut prog_1_method_55_code 1 t_5_setOut.2.2.1 b_5_setOut = true := by decide +kernel
set_option maxRecDepth 20000 in
theorem hc_5_setOut : ∀ q ∈ t_5_setOut.2.1, ∃ n Sm, dk_nth g_5_setOut q.2.2 = some (n, Sm) ∧ dk_Call y_5_setOut.cls ({ frames := 5, cells := 0, slots := 0, locals := 109 }) prog_1_method_55_code 1 q.2.1 q.1 n Sm :=
  dk_ac ⟨1, s_1_prepare, rfl, fun hx hb hml hown hts hF => dk_callV e_1_prepare dk_rcV rfl (dk_ac (dk_tb 481 rfl rfl) wv_1_prepare) ⟨rfl, rfl⟩ hd_1_prepare ⟨by decide, by decide⟩ ⟨Nat.zero_le _, Nat.zero_le _⟩ hx hb hml hown hts hF⟩
    (dk_ac ⟨1, s_4_start, rfl, fun hx hb hml hown hts hF => dk_callV e_4_start dk_rcV rfl (dk_ac (dk_tb 575 rfl rfl) wv_4_start) ⟨rfl, rfl⟩ hd_4_start ⟨by decide, by decide⟩ ⟨Nat.zero_le _, Nat.zero_le _⟩ hx hb hml hown hts hF⟩
    (dk_an))
theorem e_5_setOut : dk_Met y_5_setOut prog_1_method_55_code 1 none ({ frames := 5, cells := 0, slots := 0, locals := 109 }) s_5_setOut := dk_metV 5 (dk_met (y := y_5_setOut) (cc := prog_1_method_55_code) (maxL := 1) (ret := none) (rm := ({ frames := 5, cells := 0, slots := 0, locals := 109 })) (T := t_5_setOut) (tb := b_5_setOut) (G := g_5_setOut) (by decide +kernel) ⟨fun z => absurd z (by decide), fun z => absurd z (by decide), fun _ => rfl, fun z => absurd z (by decide)⟩ (fun _ _ _ _ _ hts hd => tok_5 hts hd) h_5_setOut k_5_setOut rfl (fun i kd j h => hc_5_setOut (i, kd, j) (dk_lk_mem h)))
set_option maxRecDepth 20000 in
theorem wv_5_setOut : ∀ w ∈ [Cond.instanceMethod y_5_setOut, Cond.selects y_5_setOut.cls y_5_setOut y_5_setOut, Cond.initialized y_5_setOut.cls, Cond.code y_5_setOut prog_1_method_55_code 1 none], w ∈ dk_TB := dk_ac (dk_tb 573 rfl rfl) (dk_ac (dk_tb 13 rfl rfl) (dk_ac (dk_tb 57 rfl rfl) (dk_ac (dk_tb 574 rfl rfl) (dk_an))))
theorem hd_5_setOut : y_5_setOut.cls ≠ "java/lang/invoke/MethodHandle" ∧ y_5_setOut.cls ≠ "java/lang/invoke/VarHandle" ∧ (parseMethodDescriptor y_5_setOut.desc).map (fun d => d.parameters.length) = some 0 := by decide +kernel
theorem k_4_step : dk_ckT t_4_step prog_6_method_3_code 3 t_4_step.2.2.1 b_4_step = true := by decide +kernel
set_option maxRecDepth 20000 in
theorem hc_4_step : ∀ q ∈ t_4_step.2.1, ∃ n Sm, dk_nth g_4_step q.2.2 = some (n, Sm) ∧ dk_Call y_4_step.cls ({ frames := 3, cells := 0, slots := 0, locals := 71 }) prog_6_method_3_code 3 q.2.1 q.1 n Sm :=
  dk_ac ⟨3, s_1_turnOf, rfl, fun hx hb hml hown hts hF => dk_callV e_1_turnOf dk_rcV rfl (dk_ac (dk_tb 590 rfl rfl) wv_1_turnOf) ⟨rfl, rfl⟩ hd_1_turnOf ⟨by decide, by decide⟩ ⟨Nat.zero_le _, Nat.zero_le _⟩ hx hb hml hown hts hF⟩
    (dk_ac ⟨2, s_5_wrapped, rfl, fun hx hb hml hown hts hF => dk_callN e_5_wrapped (List.mem_of_getElem? (i := 2) rfl) wv_5_wrapped ⟨rfl, rfl⟩ hd_5_wrapped ⟨by decide, by decide⟩ ⟨Nat.zero_le _, Nat.zero_le _⟩ hx hb hml hown hts hF⟩
    (dk_an))
theorem e_4_step : dk_Met y_4_step prog_6_method_3_code 3 (some .boolean) ({ frames := 3, cells := 0, slots := 0, locals := 71 }) s_4_step := dk_metV 4 (dk_met (y := y_4_step) (cc := prog_6_method_3_code) (maxL := 3) (ret := (some .boolean)) (rm := ({ frames := 3, cells := 0, slots := 0, locals := 71 })) (T := t_4_step) (tb := b_4_step) (G := g_4_step) (by decide +kernel) ⟨fun z => absurd z (by decide), fun _ => rfl, fun z => absurd z (by decide), fun z => absurd z (by decide)⟩ (fun _ _ _ _ _ hts hd => tok_4 hts hd) h_4_step k_4_step rfl (fun i kd j h => hc_4_step (i, kd, j) (dk_lk_mem h)))
set_option maxRecDepth 20000 in
theorem wv_4_step : ∀ w ∈ [Cond.instanceMethod y_4_step, Cond.selects y_4_step.cls y_4_step y_4_step, Cond.initialized y_4_step.cls, Cond.code y_4_step prog_6_method_3_code 3 (some .boolean)], w ∈ dk_TB := dk_ac (dk_tb 587 rfl rfl) (dk_ac (dk_tb 588 rfl rfl) (dk_ac (dk_tb 62 rfl rfl) (dk_ac (dk_tb 589 rfl rfl) (dk_an))))
theorem hd_4_step : y_4_step.cls ≠ "java/lang/invoke/MethodHandle" ∧ y_4_step.cls ≠ "java/lang/invoke/VarHandle" ∧ (parseMethodDescriptor y_4_step.desc).map (fun d => d.parameters.length) = some 0 := by decide +kernel
theorem k_4_walk : dk_ckT t_4_walk prog_6_method_4_code 4 t_4_walk.2.2.1 b_4_walk = true := by decide +kernel
set_option maxRecDepth 20000 in
theorem hc_4_walk : ∀ q ∈ t_4_walk.2.1, ∃ n Sm, dk_nth g_4_walk q.2.2 = some (n, Sm) ∧ dk_Call y_4_walk.cls ({ frames := 4, cells := 0, slots := 0, locals := 93 }) prog_6_method_4_code 4 q.2.1 q.1 n Sm :=
  dk_ac ⟨1, s_4_step, rfl, fun hx hb hml hown hts hF => dk_callV e_4_step dk_rcV rfl (dk_ac (dk_tb 586 rfl rfl) wv_4_step) ⟨rfl, rfl⟩ hd_4_step ⟨by decide, by decide⟩ ⟨Nat.zero_le _, Nat.zero_le _⟩ hx hb hml hown hts hF⟩
    (dk_an)
theorem e_4_walk : dk_Met y_4_walk prog_6_method_4_code 4 none ({ frames := 4, cells := 0, slots := 0, locals := 93 }) s_4_walk := dk_metV 4 (dk_met (y := y_4_walk) (cc := prog_6_method_4_code) (maxL := 4) (ret := none) (rm := ({ frames := 4, cells := 0, slots := 0, locals := 93 })) (T := t_4_walk) (tb := b_4_walk) (G := g_4_walk) (by decide +kernel) ⟨fun z => absurd z (by decide), fun z => absurd z (by decide), fun _ => rfl, fun z => absurd z (by decide)⟩ (fun _ _ _ _ _ hts hd => tok_4 hts hd) h_4_walk k_4_walk rfl (fun i kd j h => hc_4_walk (i, kd, j) (dk_lk_mem h)))
set_option maxRecDepth 20000 in
theorem wv_4_walk : ∀ w ∈ [Cond.instanceMethod y_4_walk, Cond.selects y_4_walk.cls y_4_walk y_4_walk, Cond.initialized y_4_walk.cls, Cond.code y_4_walk prog_6_method_4_code 4 none], w ∈ dk_TB := dk_ac (dk_tb 583 rfl rfl) (dk_ac (dk_tb 584 rfl rfl) (dk_ac (dk_tb 62 rfl rfl) (dk_ac (dk_tb 585 rfl rfl) (dk_an))))
theorem hd_4_walk : y_4_walk.cls ≠ "java/lang/invoke/MethodHandle" ∧ y_4_walk.cls ≠ "java/lang/invoke/VarHandle" ∧ (parseMethodDescriptor y_4_walk.desc).map (fun d => d.parameters.length) = some 1 := by decide +kernel
theorem k_8_max : dk_ckT t_8_max prog_10_method_65_code 2 t_8_max.2.2.1 b_8_max = true := by decide +kernel
set_option maxRecDepth 20000 in
theorem hc_8_max : ∀ q ∈ t_8_max.2.1, ∃ n Sm, dk_nth g_8_max q.2.2 = some (n, Sm) ∧ dk_Call y_8_max.cls ({ frames := 0, cells := 0, slots := 0, locals := 0 }) prog_10_method_65_code 2 q.2.1 q.1 n Sm :=
  dk_an
theorem e_8_max : dk_Met y_8_max prog_10_method_65_code 2 (some .int) ({ frames := 0, cells := 0, slots := 0, locals := 0 }) s_8_max := dk_met (y := y_8_max) (cc := prog_10_method_65_code) (maxL := 2) (ret := (some .int)) (rm := ({ frames := 0, cells := 0, slots := 0, locals := 0 })) (T := t_8_max) (tb := b_8_max) (G := g_8_max) (by decide +kernel) ⟨fun _ => rfl, fun z => absurd z (by decide), fun z => absurd z (by decide), fun z => absurd z (by decide)⟩ (fun _ _ _ _ _ _ _ => tok_n _) h_8_max k_8_max rfl (fun i kd j h => hc_8_max (i, kd, j) (dk_lk_mem h))
set_option maxRecDepth 20000 in
theorem wv_8_max : ∀ w ∈ [Cond.static y_8_max, Cond.initialized y_8_max.cls, Cond.code y_8_max prog_10_method_65_code 2 (some .int)], w ∈ dk_TB := dk_ac (dk_tb 598 rfl rfl) (dk_ac (dk_tb 65 rfl rfl) (dk_ac (dk_tb 599 rfl rfl) (dk_an)))
theorem hd_8_max : y_8_max.cls ≠ "java/lang/invoke/MethodHandle" ∧ y_8_max.cls ≠ "java/lang/invoke/VarHandle" ∧ (parseMethodDescriptor y_8_max.desc).map (fun d => d.parameters.length) = some 2 := by decide +kernel
theorem k_0_worstOf : dk_ckT t_0_worstOf prog_2_method_14_code 4 t_0_worstOf.2.2.1 b_0_worstOf = true := by decide +kernel
set_option maxRecDepth 20000 in
theorem hc_0_worstOf : ∀ q ∈ t_0_worstOf.2.1, ∃ n Sm, dk_nth g_0_worstOf q.2.2 = some (n, Sm) ∧ dk_Call y_0_worstOf.cls ({ frames := 1, cells := 0, slots := 0, locals := 21 }) prog_2_method_14_code 4 q.2.1 q.1 n Sm :=
  dk_ac ⟨1, s_8_abs, rfl, fun hx hb hml hown hts hF => dk_callS e_8_abs (dk_ac (dk_tb 478 rfl rfl) wv_8_abs) ⟨rfl, rfl⟩ hd_8_abs ⟨by decide, by decide⟩ ⟨Nat.zero_le _, Nat.zero_le _⟩ hx hb hml hown hts hF⟩
    (dk_ac ⟨2, s_8_max, rfl, fun hx hb hml hown hts hF => dk_callS e_8_max (dk_ac (dk_tb 597 rfl rfl) wv_8_max) ⟨rfl, rfl⟩ hd_8_max ⟨by decide, by decide⟩ ⟨Nat.zero_le _, Nat.zero_le _⟩ hx hb hml hown hts hF⟩
    (dk_an))
theorem e_0_worstOf : dk_Met y_0_worstOf prog_2_method_14_code 4 (some .int) ({ frames := 1, cells := 0, slots := 0, locals := 21 }) s_0_worstOf := dk_metV 0 (dk_met (y := y_0_worstOf) (cc := prog_2_method_14_code) (maxL := 4) (ret := (some .int)) (rm := ({ frames := 1, cells := 0, slots := 0, locals := 21 })) (T := t_0_worstOf) (tb := b_0_worstOf) (G := g_0_worstOf) (by decide +kernel) ⟨fun _ => rfl, fun z => absurd z (by decide), fun z => absurd z (by decide), fun z => absurd z (by decide)⟩ (fun _ _ _ _ _ hts hd => tok_0 hts hd) h_0_worstOf k_0_worstOf rfl (fun i kd j h => hc_0_worstOf (i, kd, j) (dk_lk_mem h)))
set_option maxRecDepth 20000 in
theorem wv_0_worstOf : ∀ w ∈ [Cond.instanceMethod y_0_worstOf, Cond.selects y_0_worstOf.cls y_0_worstOf y_0_worstOf, Cond.initialized y_0_worstOf.cls, Cond.code y_0_worstOf prog_2_method_14_code 4 (some .int)], w ∈ dk_TB := dk_ac (dk_tb 594 rfl rfl) (dk_ac (dk_tb 595 rfl rfl) (dk_ac (dk_tb 58 rfl rfl) (dk_ac (dk_tb 596 rfl rfl) (dk_an))))
theorem hd_0_worstOf : y_0_worstOf.cls ≠ "java/lang/invoke/MethodHandle" ∧ y_0_worstOf.cls ≠ "java/lang/invoke/VarHandle" ∧ (parseMethodDescriptor y_0_worstOf.desc).map (fun d => d.parameters.length) = some 1 := by decide +kernel
theorem k_5_tread : dk_ckT t_5_tread prog_1_method_13_code 2 t_5_tread.2.2.1 b_5_tread = true := by decide +kernel
set_option maxRecDepth 20000 in
theorem hc_5_tread : ∀ q ∈ t_5_tread.2.1, ∃ n Sm, dk_nth g_5_tread q.2.2 = some (n, Sm) ∧ dk_Call y_5_tread.cls ({ frames := 6, cells := 0, slots := 0, locals := 129 }) prog_1_method_13_code 2 q.2.1 q.1 n Sm :=
  dk_ac ⟨3, s_5_isWithin, rfl, fun hx hb hml hown hts hF => dk_callS e_5_isWithin (dk_ac (dk_tb 316 rfl rfl) wv_5_isWithin) ⟨rfl, rfl⟩ hd_5_isWithin ⟨by decide, by decide⟩ ⟨Nat.zero_le _, Nat.zero_le _⟩ hx hb hml hown hts hF⟩
    (dk_ac ⟨2, s_5_finding, rfl, fun hx hb hml hown hts hF => dk_callV e_5_finding dk_rcV rfl (dk_ac (dk_tb 323 rfl rfl) wv_5_finding) ⟨rfl, rfl⟩ hd_5_finding ⟨by decide, by decide⟩ ⟨Nat.zero_le _, Nat.zero_le _⟩ hx hb hml hown hts hF⟩
    (dk_ac ⟨1, s_5_setOut, rfl, fun hx hb hml hown hts hF => dk_callV e_5_setOut dk_rcV rfl (dk_ac (dk_tb 571 rfl rfl) wv_5_setOut) ⟨rfl, rfl⟩ hd_5_setOut ⟨by decide, by decide⟩ ⟨Nat.zero_le _, Nat.zero_le _⟩ hx hb hml hown hts hF⟩
    (dk_ac ⟨2, s_4_walk, rfl, fun hx hb hml hown hts hF => dk_callV e_4_walk dk_rcV rfl (dk_ac (dk_tb 582 rfl rfl) wv_4_walk) ⟨rfl, rfl⟩ hd_4_walk ⟨by decide, by decide⟩ ⟨Nat.zero_le _, Nat.zero_le _⟩ hx hb hml hown hts hF⟩
    (dk_ac ⟨5, s_ac, rfl, call_ac (own := nn_R5) (i := 190) (dk_tb 592 rfl rfl) (by decide) (by decide)⟩
    (dk_ac ⟨2, s_0_worstOf, rfl, fun hx hb hml hown hts hF => dk_callV e_0_worstOf dk_rcV rfl (dk_ac (dk_tb 593 rfl rfl) wv_0_worstOf) ⟨rfl, rfl⟩ hd_0_worstOf ⟨by decide, by decide⟩ ⟨Nat.zero_le _, Nat.zero_le _⟩ hx hb hml hown hts hF⟩
    (dk_an))))))
theorem e_5_tread : dk_Met y_5_tread prog_1_method_13_code 2 (some .int) ({ frames := 6, cells := 0, slots := 0, locals := 129 }) s_5_tread := dk_metV 5 (dk_met (y := y_5_tread) (cc := prog_1_method_13_code) (maxL := 2) (ret := (some .int)) (rm := ({ frames := 6, cells := 0, slots := 0, locals := 129 })) (T := t_5_tread) (tb := b_5_tread) (G := g_5_tread) (by decide +kernel) ⟨fun _ => rfl, fun z => absurd z (by decide), fun z => absurd z (by decide), fun z => absurd z (by decide)⟩ (fun _ _ _ _ _ hts hd => tok_5 hts hd) h_5_tread k_5_tread rfl (fun i kd j h => hc_5_tread (i, kd, j) (dk_lk_mem h)))
set_option maxRecDepth 20000 in
theorem wv_5_tread : ∀ w ∈ [Cond.instanceMethod y_5_tread, Cond.selects y_5_tread.cls y_5_tread y_5_tread, Cond.initialized y_5_tread.cls, Cond.code y_5_tread prog_1_method_13_code 2 (some .int)], w ∈ dk_TB := dk_ac (dk_tb 568 rfl rfl) (dk_ac (dk_tb 569 rfl rfl) (dk_ac (dk_tb 57 rfl rfl) (dk_ac (dk_tb 570 rfl rfl) (dk_an))))
theorem hd_5_tread : y_5_tread.cls ≠ "java/lang/invoke/MethodHandle" ∧ y_5_tread.cls ≠ "java/lang/invoke/VarHandle" ∧ (parseMethodDescriptor y_5_tread.desc).map (fun d => d.parameters.length) = some 1 := by decide +kernel
theorem k_5_isMarch : dk_ckT t_5_isMarch prog_1_method_47_code 1 t_5_isMarch.2.2.1 b_5_isMarch = true := by decide +kernel
set_option maxRecDepth 20000 in
theorem hc_5_isMarch : ∀ q ∈ t_5_isMarch.2.1, ∃ n Sm, dk_nth g_5_isMarch q.2.2 = some (n, Sm) ∧ dk_Call y_5_isMarch.cls ({ frames := 1, cells := 0, slots := 0, locals := 22 }) prog_1_method_47_code 1 q.2.1 q.1 n Sm :=
  dk_ac ⟨3, s_5_isWithin, rfl, fun hx hb hml hown hts hF => dk_callS e_5_isWithin (dk_ac (dk_tb 316 rfl rfl) wv_5_isWithin) ⟨rfl, rfl⟩ hd_5_isWithin ⟨by decide, by decide⟩ ⟨Nat.zero_le _, Nat.zero_le _⟩ hx hb hml hown hts hF⟩
    (dk_an)
theorem e_5_isMarch : dk_Met y_5_isMarch prog_1_method_47_code 1 (some .boolean) ({ frames := 1, cells := 0, slots := 0, locals := 22 }) s_5_isMarch := dk_met (y := y_5_isMarch) (cc := prog_1_method_47_code) (maxL := 1) (ret := (some .boolean)) (rm := ({ frames := 1, cells := 0, slots := 0, locals := 22 })) (T := t_5_isMarch) (tb := b_5_isMarch) (G := g_5_isMarch) (by decide +kernel) ⟨fun z => absurd z (by decide), fun _ => rfl, fun z => absurd z (by decide), fun z => absurd z (by decide)⟩ (fun _ _ _ _ _ hts hd => tok_5 hts hd) h_5_isMarch k_5_isMarch rfl (fun i kd j h => hc_5_isMarch (i, kd, j) (dk_lk_mem h))
set_option maxRecDepth 20000 in
theorem wv_5_isMarch : ∀ w ∈ [Cond.static y_5_isMarch, Cond.initialized y_5_isMarch.cls, Cond.code y_5_isMarch prog_1_method_47_code 1 (some .boolean)], w ∈ dk_TB := dk_ac (dk_tb 605 rfl rfl) (dk_ac (dk_tb 57 rfl rfl) (dk_ac (dk_tb 606 rfl rfl) (dk_an)))
theorem hd_5_isMarch : y_5_isMarch.cls ≠ "java/lang/invoke/MethodHandle" ∧ y_5_isMarch.cls ≠ "java/lang/invoke/VarHandle" ∧ (parseMethodDescriptor y_5_isMarch.desc).map (fun d => d.parameters.length) = some 1 := by decide +kernel
theorem k_5_march : dk_ckT t_5_march prog_1_method_14_code 3 t_5_march.2.2.1 b_5_march = true := by decide +kernel
set_option maxRecDepth 20000 in
theorem hc_5_march : ∀ q ∈ t_5_march.2.1, ∃ n Sm, dk_nth g_5_march q.2.2 = some (n, Sm) ∧ dk_Call y_5_march.cls ({ frames := 6, cells := 0, slots := 0, locals := 129 }) prog_1_method_14_code 3 q.2.1 q.1 n Sm :=
  dk_ac ⟨2, s_0_hasRank, rfl, fun hx hb hml hown hts hF => dk_callV e_0_hasRank dk_rcV rfl (dk_ac (dk_tb 470 rfl rfl) wv_0_hasRank) ⟨rfl, rfl⟩ hd_0_hasRank ⟨by decide, by decide⟩ ⟨Nat.zero_le _, Nat.zero_le _⟩ hx hb hml hown hts hF⟩
    (dk_ac ⟨1, s_5_isMarch, rfl, fun hx hb hml hown hts hF => dk_callS e_5_isMarch (dk_ac (dk_tb 604 rfl rfl) wv_5_isMarch) ⟨rfl, rfl⟩ hd_5_isMarch ⟨by decide, by decide⟩ ⟨Nat.zero_le _, Nat.zero_le _⟩ hx hb hml hown hts hF⟩
    (dk_ac ⟨2, s_5_finding, rfl, fun hx hb hml hown hts hF => dk_callV e_5_finding dk_rcV rfl (dk_ac (dk_tb 323 rfl rfl) wv_5_finding) ⟨rfl, rfl⟩ hd_5_finding ⟨by decide, by decide⟩ ⟨Nat.zero_le _, Nat.zero_le _⟩ hx hb hml hown hts hF⟩
    (dk_ac ⟨1, s_5_setOut, rfl, fun hx hb hml hown hts hF => dk_callV e_5_setOut dk_rcV rfl (dk_ac (dk_tb 571 rfl rfl) wv_5_setOut) ⟨rfl, rfl⟩ hd_5_setOut ⟨by decide, by decide⟩ ⟨Nat.zero_le _, Nat.zero_le _⟩ hx hb hml hown hts hF⟩
    (dk_ac ⟨2, s_4_walk, rfl, fun hx hb hml hown hts hF => dk_callV e_4_walk dk_rcV rfl (dk_ac (dk_tb 582 rfl rfl) wv_4_walk) ⟨rfl, rfl⟩ hd_4_walk ⟨by decide, by decide⟩ ⟨Nat.zero_le _, Nat.zero_le _⟩ hx hb hml hown hts hF⟩
    (dk_an)))))
theorem e_5_march : dk_Met y_5_march prog_1_method_14_code 3 (some .int) ({ frames := 6, cells := 0, slots := 0, locals := 129 }) s_5_march := dk_metV 5 (dk_met (y := y_5_march) (cc := prog_1_method_14_code) (maxL := 3) (ret := (some .int)) (rm := ({ frames := 6, cells := 0, slots := 0, locals := 129 })) (T := t_5_march) (tb := b_5_march) (G := g_5_march) (by decide +kernel) ⟨fun _ => rfl, fun z => absurd z (by decide), fun z => absurd z (by decide), fun z => absurd z (by decide)⟩ (fun _ _ _ _ _ hts hd => tok_5 hts hd) h_5_march k_5_march rfl (fun i kd j h => hc_5_march (i, kd, j) (dk_lk_mem h)))
set_option maxRecDepth 20000 in
theorem wv_5_march : ∀ w ∈ [Cond.instanceMethod y_5_march, Cond.selects y_5_march.cls y_5_march y_5_march, Cond.initialized y_5_march.cls, Cond.code y_5_march prog_1_method_14_code 3 (some .int)], w ∈ dk_TB := dk_ac (dk_tb 601 rfl rfl) (dk_ac (dk_tb 602 rfl rfl) (dk_ac (dk_tb 57 rfl rfl) (dk_ac (dk_tb 603 rfl rfl) (dk_an))))
theorem hd_5_march : y_5_march.cls ≠ "java/lang/invoke/MethodHandle" ∧ y_5_march.cls ≠ "java/lang/invoke/VarHandle" ∧ (parseMethodDescriptor y_5_march.desc).map (fun d => d.parameters.length) = some 2 := by decide +kernel
theorem k_5_worst : dk_ckT t_5_worst prog_1_method_15_code 2 t_5_worst.2.2.1 b_5_worst = true := by decide +kernel
set_option maxRecDepth 20000 in
theorem hc_5_worst : ∀ q ∈ t_5_worst.2.1, ∃ n Sm, dk_nth g_5_worst q.2.2 = some (n, Sm) ∧ dk_Call y_5_worst.cls ({ frames := 6, cells := 0, slots := 0, locals := 129 }) prog_1_method_15_code 2 q.2.1 q.1 n Sm :=
  dk_ac ⟨1, s_5_isMarch, rfl, fun hx hb hml hown hts hF => dk_callS e_5_isMarch (dk_ac (dk_tb 604 rfl rfl) wv_5_isMarch) ⟨rfl, rfl⟩ hd_5_isMarch ⟨by decide, by decide⟩ ⟨Nat.zero_le _, Nat.zero_le _⟩ hx hb hml hown hts hF⟩
    (dk_ac ⟨2, s_5_finding, rfl, fun hx hb hml hown hts hF => dk_callV e_5_finding dk_rcV rfl (dk_ac (dk_tb 323 rfl rfl) wv_5_finding) ⟨rfl, rfl⟩ hd_5_finding ⟨by decide, by decide⟩ ⟨Nat.zero_le _, Nat.zero_le _⟩ hx hb hml hown hts hF⟩
    (dk_ac ⟨1, s_5_setOut, rfl, fun hx hb hml hown hts hF => dk_callV e_5_setOut dk_rcV rfl (dk_ac (dk_tb 571 rfl rfl) wv_5_setOut) ⟨rfl, rfl⟩ hd_5_setOut ⟨by decide, by decide⟩ ⟨Nat.zero_le _, Nat.zero_le _⟩ hx hb hml hown hts hF⟩
    (dk_ac ⟨2, s_4_walk, rfl, fun hx hb hml hown hts hF => dk_callV e_4_walk dk_rcV rfl (dk_ac (dk_tb 582 rfl rfl) wv_4_walk) ⟨rfl, rfl⟩ hd_4_walk ⟨by decide, by decide⟩ ⟨Nat.zero_le _, Nat.zero_le _⟩ hx hb hml hown hts hF⟩
    (dk_ac ⟨2, s_0_worstOf, rfl, fun hx hb hml hown hts hF => dk_callV e_0_worstOf dk_rcV rfl (dk_ac (dk_tb 593 rfl rfl) wv_0_worstOf) ⟨rfl, rfl⟩ hd_0_worstOf ⟨by decide, by decide⟩ ⟨Nat.zero_le _, Nat.zero_le _⟩ hx hb hml hown hts hF⟩
    (dk_an)))))
theorem e_5_worst : dk_Met y_5_worst prog_1_method_15_code 2 (some .int) ({ frames := 6, cells := 0, slots := 0, locals := 129 }) s_5_worst := dk_metV 5 (dk_met (y := y_5_worst) (cc := prog_1_method_15_code) (maxL := 2) (ret := (some .int)) (rm := ({ frames := 6, cells := 0, slots := 0, locals := 129 })) (T := t_5_worst) (tb := b_5_worst) (G := g_5_worst) (by decide +kernel) ⟨fun _ => rfl, fun z => absurd z (by decide), fun z => absurd z (by decide), fun z => absurd z (by decide)⟩ (fun _ _ _ _ _ hts hd => tok_5 hts hd) h_5_worst k_5_worst rfl (fun i kd j h => hc_5_worst (i, kd, j) (dk_lk_mem h)))
set_option maxRecDepth 20000 in
theorem wv_5_worst : ∀ w ∈ [Cond.instanceMethod y_5_worst, Cond.selects y_5_worst.cls y_5_worst y_5_worst, Cond.initialized y_5_worst.cls, Cond.code y_5_worst prog_1_method_15_code 2 (some .int)], w ∈ dk_TB := dk_ac (dk_tb 608 rfl rfl) (dk_ac (dk_tb 609 rfl rfl) (dk_ac (dk_tb 57 rfl rfl) (dk_ac (dk_tb 610 rfl rfl) (dk_an))))
theorem hd_5_worst : y_5_worst.cls ≠ "java/lang/invoke/MethodHandle" ∧ y_5_worst.cls ≠ "java/lang/invoke/VarHandle" ∧ (parseMethodDescriptor y_5_worst.desc).map (fun d => d.parameters.length) = some 1 := by decide +kernel
theorem k_5_right : dk_ckT t_5_right prog_1_method_16_code 5 t_5_right.2.2.1 b_5_right = true := by decide +kernel
set_option maxRecDepth 20000 in
theorem hc_5_right : ∀ q ∈ t_5_right.2.1, ∃ n Sm, dk_nth g_5_right q.2.2 = some (n, Sm) ∧ dk_Call y_5_right.cls ({ frames := 6, cells := 0, slots := 0, locals := 129 }) prog_1_method_16_code 5 q.2.1 q.1 n Sm :=
  dk_ac ⟨3, s_5_isWithin, rfl, fun hx hb hml hown hts hF => dk_callS e_5_isWithin (dk_ac (dk_tb 316 rfl rfl) wv_5_isWithin) ⟨rfl, rfl⟩ hd_5_isWithin ⟨by decide, by decide⟩ ⟨Nat.zero_le _, Nat.zero_le _⟩ hx hb hml hown hts hF⟩
    (dk_ac ⟨1, s_5_isMarch, rfl, fun hx hb hml hown hts hF => dk_callS e_5_isMarch (dk_ac (dk_tb 604 rfl rfl) wv_5_isMarch) ⟨rfl, rfl⟩ hd_5_isMarch ⟨by decide, by decide⟩ ⟨Nat.zero_le _, Nat.zero_le _⟩ hx hb hml hown hts hF⟩
    (dk_ac ⟨2, s_5_finding, rfl, fun hx hb hml hown hts hF => dk_callV e_5_finding dk_rcV rfl (dk_ac (dk_tb 323 rfl rfl) wv_5_finding) ⟨rfl, rfl⟩ hd_5_finding ⟨by decide, by decide⟩ ⟨Nat.zero_le _, Nat.zero_le _⟩ hx hb hml hown hts hF⟩
    (dk_ac ⟨1, s_5_setOut, rfl, fun hx hb hml hown hts hF => dk_callV e_5_setOut dk_rcV rfl (dk_ac (dk_tb 571 rfl rfl) wv_5_setOut) ⟨rfl, rfl⟩ hd_5_setOut ⟨by decide, by decide⟩ ⟨Nat.zero_le _, Nat.zero_le _⟩ hx hb hml hown hts hF⟩
    (dk_ac ⟨2, s_4_walk, rfl, fun hx hb hml hown hts hF => dk_callV e_4_walk dk_rcV rfl (dk_ac (dk_tb 582 rfl rfl) wv_4_walk) ⟨rfl, rfl⟩ hd_4_walk ⟨by decide, by decide⟩ ⟨Nat.zero_le _, Nat.zero_le _⟩ hx hb hml hown hts hF⟩
    (dk_ac ⟨1, s_8_abs, rfl, fun hx hb hml hown hts hF => dk_callS e_8_abs (dk_ac (dk_tb 615 rfl rfl) wv_8_abs) ⟨rfl, rfl⟩ hd_8_abs ⟨by decide, by decide⟩ ⟨Nat.zero_le _, Nat.zero_le _⟩ hx hb hml hown hts hF⟩
    (dk_an))))))
theorem e_5_right : dk_Met y_5_right prog_1_method_16_code 5 (some .int) ({ frames := 6, cells := 0, slots := 0, locals := 129 }) s_5_right := dk_metV 5 (dk_met (y := y_5_right) (cc := prog_1_method_16_code) (maxL := 5) (ret := (some .int)) (rm := ({ frames := 6, cells := 0, slots := 0, locals := 129 })) (T := t_5_right) (tb := b_5_right) (G := g_5_right) (by decide +kernel) ⟨fun _ => rfl, fun z => absurd z (by decide), fun z => absurd z (by decide), fun z => absurd z (by decide)⟩ (fun _ _ _ _ _ hts hd => tok_5 hts hd) h_5_right k_5_right rfl (fun i kd j h => hc_5_right (i, kd, j) (dk_lk_mem h)))
set_option maxRecDepth 20000 in
theorem wv_5_right : ∀ w ∈ [Cond.instanceMethod y_5_right, Cond.selects y_5_right.cls y_5_right y_5_right, Cond.initialized y_5_right.cls, Cond.code y_5_right prog_1_method_16_code 5 (some .int)], w ∈ dk_TB := dk_ac (dk_tb 612 rfl rfl) (dk_ac (dk_tb 613 rfl rfl) (dk_ac (dk_tb 57 rfl rfl) (dk_ac (dk_tb 614 rfl rfl) (dk_an))))
theorem hd_5_right : y_5_right.cls ≠ "java/lang/invoke/MethodHandle" ∧ y_5_right.cls ≠ "java/lang/invoke/VarHandle" ∧ (parseMethodDescriptor y_5_right.desc).map (fun d => d.parameters.length) = some 2 := by decide +kernel
theorem k_5_settles : dk_ckT t_5_settles prog_1_method_17_code 2 t_5_settles.2.2.1 b_5_settles = true := by decide +kernel
set_option maxRecDepth 20000 in
theorem hc_5_settles : ∀ q ∈ t_5_settles.2.1, ∃ n Sm, dk_nth g_5_settles q.2.2 = some (n, Sm) ∧ dk_Call y_5_settles.cls ({ frames := 6, cells := 0, slots := 0, locals := 129 }) prog_1_method_17_code 2 q.2.1 q.1 n Sm :=
  dk_ac ⟨1, s_5_setOut, rfl, fun hx hb hml hown hts hF => dk_callV e_5_setOut dk_rcV rfl (dk_ac (dk_tb 571 rfl rfl) wv_5_setOut) ⟨rfl, rfl⟩ hd_5_setOut ⟨by decide, by decide⟩ ⟨Nat.zero_le _, Nat.zero_le _⟩ hx hb hml hown hts hF⟩
    (dk_ac ⟨1, s_4_step, rfl, fun hx hb hml hown hts hF => dk_callV e_4_step dk_rcV rfl (dk_ac (dk_tb 620 rfl rfl) wv_4_step) ⟨rfl, rfl⟩ hd_4_step ⟨by decide, by decide⟩ ⟨Nat.zero_le _, Nat.zero_le _⟩ hx hb hml hown hts hF⟩
    (dk_ac ⟨2, s_5_finding, rfl, fun hx hb hml hown hts hF => dk_callV e_5_finding dk_rcV rfl (dk_ac (dk_tb 323 rfl rfl) wv_5_finding) ⟨rfl, rfl⟩ hd_5_finding ⟨by decide, by decide⟩ ⟨Nat.zero_le _, Nat.zero_le _⟩ hx hb hml hown hts hF⟩
    (dk_an)))
theorem e_5_settles : dk_Met y_5_settles prog_1_method_17_code 2 (some .int) ({ frames := 6, cells := 0, slots := 0, locals := 129 }) s_5_settles := dk_metV 5 (dk_met (y := y_5_settles) (cc := prog_1_method_17_code) (maxL := 2) (ret := (some .int)) (rm := ({ frames := 6, cells := 0, slots := 0, locals := 129 })) (T := t_5_settles) (tb := b_5_settles) (G := g_5_settles) (by decide +kernel) ⟨fun _ => rfl, fun z => absurd z (by decide), fun z => absurd z (by decide), fun z => absurd z (by decide)⟩ (fun _ _ _ _ _ hts hd => tok_5 hts hd) h_5_settles k_5_settles rfl (fun i kd j h => hc_5_settles (i, kd, j) (dk_lk_mem h)))
set_option maxRecDepth 20000 in
theorem wv_5_settles : ∀ w ∈ [Cond.instanceMethod y_5_settles, Cond.selects y_5_settles.cls y_5_settles y_5_settles, Cond.initialized y_5_settles.cls, Cond.code y_5_settles prog_1_method_17_code 2 (some .int)], w ∈ dk_TB := dk_ac (dk_tb 617 rfl rfl) (dk_ac (dk_tb 618 rfl rfl) (dk_ac (dk_tb 57 rfl rfl) (dk_ac (dk_tb 619 rfl rfl) (dk_an))))
theorem hd_5_settles : y_5_settles.cls ≠ "java/lang/invoke/MethodHandle" ∧ y_5_settles.cls ≠ "java/lang/invoke/VarHandle" ∧ (parseMethodDescriptor y_5_settles.desc).map (fun d => d.parameters.length) = some 0 := by decide +kernel
theorem k_5_wasAsNow : dk_ckT t_5_wasAsNow prog_1_method_58_code 3 t_5_wasAsNow.2.2.1 b_5_wasAsNow = true := by decide +kernel
set_option maxRecDepth 20000 in
theorem hc_5_wasAsNow : ∀ q ∈ t_5_wasAsNow.2.1, ∃ n Sm, dk_nth g_5_wasAsNow q.2.2 = some (n, Sm) ∧ dk_Call y_5_wasAsNow.cls ({ frames := 0, cells := 0, slots := 0, locals := 0 }) prog_1_method_58_code 3 q.2.1 q.1 n Sm :=
  dk_an
theorem e_5_wasAsNow : dk_Met y_5_wasAsNow prog_1_method_58_code 3 (some .boolean) ({ frames := 0, cells := 0, slots := 0, locals := 0 }) s_5_wasAsNow := dk_metV 5 (dk_met (y := y_5_wasAsNow) (cc := prog_1_method_58_code) (maxL := 3) (ret := (some .boolean)) (rm := ({ frames := 0, cells := 0, slots := 0, locals := 0 })) (T := t_5_wasAsNow) (tb := b_5_wasAsNow) (G := g_5_wasAsNow) (by decide +kernel) ⟨fun z => absurd z (by decide), fun _ => rfl, fun z => absurd z (by decide), fun z => absurd z (by decide)⟩ (fun _ _ _ _ _ hts hd => tok_5 hts hd) h_5_wasAsNow k_5_wasAsNow rfl (fun i kd j h => hc_5_wasAsNow (i, kd, j) (dk_lk_mem h)))
set_option maxRecDepth 20000 in
theorem wv_5_wasAsNow : ∀ w ∈ [Cond.instanceMethod y_5_wasAsNow, Cond.selects y_5_wasAsNow.cls y_5_wasAsNow y_5_wasAsNow, Cond.initialized y_5_wasAsNow.cls, Cond.code y_5_wasAsNow prog_1_method_58_code 3 (some .boolean)], w ∈ dk_TB := dk_ac (dk_tb 631 rfl rfl) (dk_ac (dk_tb 15 rfl rfl) (dk_ac (dk_tb 57 rfl rfl) (dk_ac (dk_tb 632 rfl rfl) (dk_an))))
theorem hd_5_wasAsNow : y_5_wasAsNow.cls ≠ "java/lang/invoke/MethodHandle" ∧ y_5_wasAsNow.cls ≠ "java/lang/invoke/VarHandle" ∧ (parseMethodDescriptor y_5_wasAsNow.desc).map (fun d => d.parameters.length) = some 1 := by decide +kernel
theorem k_5_whenAsNow : dk_ckT t_5_whenAsNow prog_1_method_57_code 3 t_5_whenAsNow.2.2.1 b_5_whenAsNow = true := by decide +kernel
set_option maxRecDepth 20000 in
theorem hc_5_whenAsNow : ∀ q ∈ t_5_whenAsNow.2.1, ∃ n Sm, dk_nth g_5_whenAsNow q.2.2 = some (n, Sm) ∧ dk_Call y_5_whenAsNow.cls ({ frames := 1, cells := 0, slots := 0, locals := 22 }) prog_1_method_57_code 3 q.2.1 q.1 n Sm :=
  dk_ac ⟨2, s_5_wasAsNow, rfl, fun hx hb hml hown hts hF => dk_callV e_5_wasAsNow dk_rcV rfl (dk_ac (dk_tb 629 rfl rfl) wv_5_wasAsNow) ⟨rfl, rfl⟩ hd_5_wasAsNow ⟨by decide, by decide⟩ ⟨Nat.zero_le _, Nat.zero_le _⟩ hx hb hml hown hts hF⟩
    (dk_an)
theorem e_5_whenAsNow : dk_Met y_5_whenAsNow prog_1_method_57_code 3 (some .int) ({ frames := 1, cells := 0, slots := 0, locals := 22 }) s_5_whenAsNow := dk_metV 5 (dk_met (y := y_5_whenAsNow) (cc := prog_1_method_57_code) (maxL := 3) (ret := (some .int)) (rm := ({ frames := 1, cells := 0, slots := 0, locals := 22 })) (T := t_5_whenAsNow) (tb := b_5_whenAsNow) (G := g_5_whenAsNow) (by decide +kernel) ⟨fun _ => rfl, fun z => absurd z (by decide), fun z => absurd z (by decide), fun z => absurd z (by decide)⟩ (fun _ _ _ _ _ hts hd => tok_5 hts hd) h_5_whenAsNow k_5_whenAsNow rfl (fun i kd j h => hc_5_whenAsNow (i, kd, j) (dk_lk_mem h)))
set_option maxRecDepth 20000 in
theorem wv_5_whenAsNow : ∀ w ∈ [Cond.instanceMethod y_5_whenAsNow, Cond.selects y_5_whenAsNow.cls y_5_whenAsNow y_5_whenAsNow, Cond.initialized y_5_whenAsNow.cls, Cond.code y_5_whenAsNow prog_1_method_57_code 3 (some .int)], w ∈ dk_TB := dk_ac (dk_tb 627 rfl rfl) (dk_ac (dk_tb 14 rfl rfl) (dk_ac (dk_tb 57 rfl rfl) (dk_ac (dk_tb 628 rfl rfl) (dk_an))))
theorem hd_5_whenAsNow : y_5_whenAsNow.cls ≠ "java/lang/invoke/MethodHandle" ∧ y_5_whenAsNow.cls ≠ "java/lang/invoke/VarHandle" ∧ (parseMethodDescriptor y_5_whenAsNow.desc).map (fun d => d.parameters.length) = some 1 := by decide +kernel
theorem k_5_round : dk_ckT t_5_round prog_1_method_18_code 4 t_5_round.2.2.1 b_5_round = true := by decide +kernel
set_option maxRecDepth 20000 in
theorem hc_5_round : ∀ q ∈ t_5_round.2.1, ∃ n Sm, dk_nth g_5_round q.2.2 = some (n, Sm) ∧ dk_Call y_5_round.cls ({ frames := 6, cells := 0, slots := 0, locals := 129 }) prog_1_method_18_code 4 q.2.1 q.1 n Sm :=
  dk_ac ⟨3, s_5_isWithin, rfl, fun hx hb hml hown hts hF => dk_callS e_5_isWithin (dk_ac (dk_tb 316 rfl rfl) wv_5_isWithin) ⟨rfl, rfl⟩ hd_5_isWithin ⟨by decide, by decide⟩ ⟨Nat.zero_le _, Nat.zero_le _⟩ hx hb hml hown hts hF⟩
    (dk_ac ⟨2, s_5_finding, rfl, fun hx hb hml hown hts hF => dk_callV e_5_finding dk_rcV rfl (dk_ac (dk_tb 323 rfl rfl) wv_5_finding) ⟨rfl, rfl⟩ hd_5_finding ⟨by decide, by decide⟩ ⟨Nat.zero_le _, Nat.zero_le _⟩ hx hb hml hown hts hF⟩
    (dk_ac ⟨1, s_5_setOut, rfl, fun hx hb hml hown hts hF => dk_callV e_5_setOut dk_rcV rfl (dk_ac (dk_tb 571 rfl rfl) wv_5_setOut) ⟨rfl, rfl⟩ hd_5_setOut ⟨by decide, by decide⟩ ⟨Nat.zero_le _, Nat.zero_le _⟩ hx hb hml hown hts hF⟩
    (dk_ac ⟨2, s_5_whenAsNow, rfl, fun hx hb hml hown hts hF => dk_callV e_5_whenAsNow dk_rcV rfl (dk_ac (dk_tb 625 rfl rfl) wv_5_whenAsNow) ⟨rfl, rfl⟩ hd_5_whenAsNow ⟨by decide, by decide⟩ ⟨Nat.zero_le _, Nat.zero_le _⟩ hx hb hml hown hts hF⟩
    (dk_ac ⟨5, s_ac, rfl, call_ac (own := nn_R5) (i := 190) (dk_tb 592 rfl rfl) (by decide) (by decide)⟩
    (dk_ac ⟨1, s_4_step, rfl, fun hx hb hml hown hts hF => dk_callV e_4_step dk_rcV rfl (dk_ac (dk_tb 620 rfl rfl) wv_4_step) ⟨rfl, rfl⟩ hd_4_step ⟨by decide, by decide⟩ ⟨Nat.zero_le _, Nat.zero_le _⟩ hx hb hml hown hts hF⟩
    (dk_an))))))
theorem e_5_round : dk_Met y_5_round prog_1_method_18_code 4 (some .int) ({ frames := 6, cells := 0, slots := 0, locals := 129 }) s_5_round := dk_metV 5 (dk_met (y := y_5_round) (cc := prog_1_method_18_code) (maxL := 4) (ret := (some .int)) (rm := ({ frames := 6, cells := 0, slots := 0, locals := 129 })) (T := t_5_round) (tb := b_5_round) (G := g_5_round) (by decide +kernel) ⟨fun _ => rfl, fun z => absurd z (by decide), fun z => absurd z (by decide), fun z => absurd z (by decide)⟩ (fun _ _ _ _ _ hts hd => tok_5 hts hd) h_5_round k_5_round rfl (fun i kd j h => hc_5_round (i, kd, j) (dk_lk_mem h)))
set_option maxRecDepth 20000 in
theorem wv_5_round : ∀ w ∈ [Cond.instanceMethod y_5_round, Cond.selects y_5_round.cls y_5_round y_5_round, Cond.initialized y_5_round.cls, Cond.code y_5_round prog_1_method_18_code 4 (some .int)], w ∈ dk_TB := dk_ac (dk_tb 622 rfl rfl) (dk_ac (dk_tb 623 rfl rfl) (dk_ac (dk_tb 57 rfl rfl) (dk_ac (dk_tb 624 rfl rfl) (dk_an))))
theorem hd_5_round : y_5_round.cls ≠ "java/lang/invoke/MethodHandle" ∧ y_5_round.cls ≠ "java/lang/invoke/VarHandle" ∧ (parseMethodDescriptor y_5_round.desc).map (fun d => d.parameters.length) = some 1 := by decide +kernel
theorem k_5_better : dk_ckT t_5_better prog_1_method_19_code 6 t_5_better.2.2.1 b_5_better = true := by decide +kernel
set_option maxRecDepth 20000 in
theorem hc_5_better : ∀ q ∈ t_5_better.2.1, ∃ n Sm, dk_nth g_5_better q.2.2 = some (n, Sm) ∧ dk_Call y_5_better.cls ({ frames := 6, cells := 0, slots := 0, locals := 129 }) prog_1_method_19_code 6 q.2.1 q.1 n Sm :=
  dk_ac ⟨3, s_5_isWithin, rfl, fun hx hb hml hown hts hF => dk_callS e_5_isWithin (dk_ac (dk_tb 316 rfl rfl) wv_5_isWithin) ⟨rfl, rfl⟩ hd_5_isWithin ⟨by decide, by decide⟩ ⟨Nat.zero_le _, Nat.zero_le _⟩ hx hb hml hown hts hF⟩
    (dk_ac ⟨2, s_5_finding, rfl, fun hx hb hml hown hts hF => dk_callV e_5_finding dk_rcV rfl (dk_ac (dk_tb 323 rfl rfl) wv_5_finding) ⟨rfl, rfl⟩ hd_5_finding ⟨by decide, by decide⟩ ⟨Nat.zero_le _, Nat.zero_le _⟩ hx hb hml hown hts hF⟩
    (dk_ac ⟨1, s_5_setOut, rfl, fun hx hb hml hown hts hF => dk_callV e_5_setOut dk_rcV rfl (dk_ac (dk_tb 571 rfl rfl) wv_5_setOut) ⟨rfl, rfl⟩ hd_5_setOut ⟨by decide, by decide⟩ ⟨Nat.zero_le _, Nat.zero_le _⟩ hx hb hml hown hts hF⟩
    (dk_ac ⟨2, s_0_worstOf, rfl, fun hx hb hml hown hts hF => dk_callV e_0_worstOf dk_rcV rfl (dk_ac (dk_tb 593 rfl rfl) wv_0_worstOf) ⟨rfl, rfl⟩ hd_0_worstOf ⟨by decide, by decide⟩ ⟨Nat.zero_le _, Nat.zero_le _⟩ hx hb hml hown hts hF⟩
    (dk_ac ⟨1, s_4_step, rfl, fun hx hb hml hown hts hF => dk_callV e_4_step dk_rcV rfl (dk_ac (dk_tb 620 rfl rfl) wv_4_step) ⟨rfl, rfl⟩ hd_4_step ⟨by decide, by decide⟩ ⟨Nat.zero_le _, Nat.zero_le _⟩ hx hb hml hown hts hF⟩
    (dk_an)))))
theorem e_5_better : dk_Met y_5_better prog_1_method_19_code 6 (some .int) ({ frames := 6, cells := 0, slots := 0, locals := 129 }) s_5_better := dk_metV 5 (dk_met (y := y_5_better) (cc := prog_1_method_19_code) (maxL := 6) (ret := (some .int)) (rm := ({ frames := 6, cells := 0, slots := 0, locals := 129 })) (T := t_5_better) (tb := b_5_better) (G := g_5_better) (by decide +kernel) ⟨fun _ => rfl, fun z => absurd z (by decide), fun z => absurd z (by decide), fun z => absurd z (by decide)⟩ (fun _ _ _ _ _ hts hd => tok_5 hts hd) h_5_better k_5_better rfl (fun i kd j h => hc_5_better (i, kd, j) (dk_lk_mem h)))
set_option maxRecDepth 20000 in
theorem wv_5_better : ∀ w ∈ [Cond.instanceMethod y_5_better, Cond.selects y_5_better.cls y_5_better y_5_better, Cond.initialized y_5_better.cls, Cond.code y_5_better prog_1_method_19_code 6 (some .int)], w ∈ dk_TB := dk_ac (dk_tb 634 rfl rfl) (dk_ac (dk_tb 635 rfl rfl) (dk_ac (dk_tb 57 rfl rfl) (dk_ac (dk_tb 636 rfl rfl) (dk_an))))
theorem hd_5_better : y_5_better.cls ≠ "java/lang/invoke/MethodHandle" ∧ y_5_better.cls ≠ "java/lang/invoke/VarHandle" ∧ (parseMethodDescriptor y_5_better.desc).map (fun d => d.parameters.length) = some 1 := by decide +kernel
theorem k_5_worstWithDrumsSo : dk_ckT t_5_worstWithDrumsSo prog_1_method_56_code 2 t_5_worstWithDrumsSo.2.2.1 b_5_worstWithDrumsSo = true := by decide +kernel
set_option maxRecDepth 20000 in
theorem hc_5_worstWithDrumsSo : ∀ q ∈ t_5_worstWithDrumsSo.2.1, ∃ n Sm, dk_nth g_5_worstWithDrumsSo q.2.2 = some (n, Sm) ∧ dk_Call y_5_worstWithDrumsSo.cls ({ frames := 5, cells := 0, slots := 0, locals := 116 }) prog_1_method_56_code 2 q.2.1 q.1 n Sm :=
  dk_ac ⟨1, s_1_listen, rfl, fun hx hb hml hown hts hF => dk_callV e_1_listen dk_rcV rfl (dk_ac (dk_tb 645 rfl rfl) wv_1_listen) ⟨rfl, rfl⟩ hd_1_listen ⟨by decide, by decide⟩ ⟨Nat.zero_le _, Nat.zero_le _⟩ hx hb hml hown hts hF⟩
    (dk_ac ⟨1, s_4_start, rfl, fun hx hb hml hown hts hF => dk_callV e_4_start dk_rcV rfl (dk_ac (dk_tb 575 rfl rfl) wv_4_start) ⟨rfl, rfl⟩ hd_4_start ⟨by decide, by decide⟩ ⟨Nat.zero_le _, Nat.zero_le _⟩ hx hb hml hown hts hF⟩
    (dk_ac ⟨2, s_4_walk, rfl, fun hx hb hml hown hts hF => dk_callV e_4_walk dk_rcV rfl (dk_ac (dk_tb 582 rfl rfl) wv_4_walk) ⟨rfl, rfl⟩ hd_4_walk ⟨by decide, by decide⟩ ⟨Nat.zero_le _, Nat.zero_le _⟩ hx hb hml hown hts hF⟩
    (dk_ac ⟨2, s_0_worstOf, rfl, fun hx hb hml hown hts hF => dk_callV e_0_worstOf dk_rcV rfl (dk_ac (dk_tb 593 rfl rfl) wv_0_worstOf) ⟨rfl, rfl⟩ hd_0_worstOf ⟨by decide, by decide⟩ ⟨Nat.zero_le _, Nat.zero_le _⟩ hx hb hml hown hts hF⟩
    (dk_an))))
theorem e_5_worstWithDrumsSo : dk_Met y_5_worstWithDrumsSo prog_1_method_56_code 2 (some .int) ({ frames := 5, cells := 0, slots := 0, locals := 116 }) s_5_worstWithDrumsSo := dk_metV 5 (dk_met (y := y_5_worstWithDrumsSo) (cc := prog_1_method_56_code) (maxL := 2) (ret := (some .int)) (rm := ({ frames := 5, cells := 0, slots := 0, locals := 116 })) (T := t_5_worstWithDrumsSo) (tb := b_5_worstWithDrumsSo) (G := g_5_worstWithDrumsSo) (by decide +kernel) ⟨fun _ => rfl, fun z => absurd z (by decide), fun z => absurd z (by decide), fun z => absurd z (by decide)⟩ (fun _ _ _ _ _ hts hd => tok_5 hts hd) h_5_worstWithDrumsSo k_5_worstWithDrumsSo rfl (fun i kd j h => hc_5_worstWithDrumsSo (i, kd, j) (dk_lk_mem h)))
set_option maxRecDepth 20000 in
theorem wv_5_worstWithDrumsSo : ∀ w ∈ [Cond.instanceMethod y_5_worstWithDrumsSo, Cond.selects y_5_worstWithDrumsSo.cls y_5_worstWithDrumsSo y_5_worstWithDrumsSo, Cond.initialized y_5_worstWithDrumsSo.cls, Cond.code y_5_worstWithDrumsSo prog_1_method_56_code 2 (some .int)], w ∈ dk_TB := dk_ac (dk_tb 643 rfl rfl) (dk_ac (dk_tb 16 rfl rfl) (dk_ac (dk_tb 57 rfl rfl) (dk_ac (dk_tb 644 rfl rfl) (dk_an))))
theorem hd_5_worstWithDrumsSo : y_5_worstWithDrumsSo.cls ≠ "java/lang/invoke/MethodHandle" ∧ y_5_worstWithDrumsSo.cls ≠ "java/lang/invoke/VarHandle" ∧ (parseMethodDescriptor y_5_worstWithDrumsSo.desc).map (fun d => d.parameters.length) = some 1 := by decide +kernel
theorem k_5_place : dk_ckT t_5_place prog_1_method_20_code 8 t_5_place.2.2.1 b_5_place = true := by decide +kernel
set_option maxRecDepth 20000 in
theorem hc_5_place : ∀ q ∈ t_5_place.2.1, ∃ n Sm, dk_nth g_5_place q.2.2 = some (n, Sm) ∧ dk_Call y_5_place.cls ({ frames := 6, cells := 0, slots := 0, locals := 137 }) prog_1_method_20_code 8 q.2.1 q.1 n Sm :=
  dk_ac ⟨2, s_0_hasDrum, rfl, fun hx hb hml hown hts hF => dk_callV e_0_hasDrum dk_rcV rfl (dk_ac (dk_tb 550 rfl rfl) wv_0_hasDrum) ⟨rfl, rfl⟩ hd_0_hasDrum ⟨by decide, by decide⟩ ⟨Nat.zero_le _, Nat.zero_le _⟩ hx hb hml hown hts hF⟩
    (dk_ac ⟨3, s_5_isWithin, rfl, fun hx hb hml hown hts hF => dk_callS e_5_isWithin (dk_ac (dk_tb 316 rfl rfl) wv_5_isWithin) ⟨rfl, rfl⟩ hd_5_isWithin ⟨by decide, by decide⟩ ⟨Nat.zero_le _, Nat.zero_le _⟩ hx hb hml hown hts hF⟩
    (dk_ac ⟨2, s_5_finding, rfl, fun hx hb hml hown hts hF => dk_callV e_5_finding dk_rcV rfl (dk_ac (dk_tb 323 rfl rfl) wv_5_finding) ⟨rfl, rfl⟩ hd_5_finding ⟨by decide, by decide⟩ ⟨Nat.zero_le _, Nat.zero_le _⟩ hx hb hml hown hts hF⟩
    (dk_ac ⟨1, s_1_prepare, rfl, fun hx hb hml hown hts hF => dk_callV e_1_prepare dk_rcV rfl (dk_ac (dk_tb 481 rfl rfl) wv_1_prepare) ⟨rfl, rfl⟩ hd_1_prepare ⟨by decide, by decide⟩ ⟨Nat.zero_le _, Nat.zero_le _⟩ hx hb hml hown hts hF⟩
    (dk_ac ⟨2, s_5_worstWithDrumsSo, rfl, fun hx hb hml hown hts hF => dk_callV e_5_worstWithDrumsSo dk_rcV rfl (dk_ac (dk_tb 641 rfl rfl) wv_5_worstWithDrumsSo) ⟨rfl, rfl⟩ hd_5_worstWithDrumsSo ⟨by decide, by decide⟩ ⟨Nat.zero_le _, Nat.zero_le _⟩ hx hb hml hown hts hF⟩
    (dk_an)))))
theorem e_5_place : dk_Met y_5_place prog_1_method_20_code 8 (some .int) ({ frames := 6, cells := 0, slots := 0, locals := 137 }) s_5_place := dk_metV 5 (dk_met (y := y_5_place) (cc := prog_1_method_20_code) (maxL := 8) (ret := (some .int)) (rm := ({ frames := 6, cells := 0, slots := 0, locals := 137 })) (T := t_5_place) (tb := b_5_place) (G := g_5_place) (by decide +kernel) ⟨fun _ => rfl, fun z => absurd z (by decide), fun z => absurd z (by decide), fun z => absurd z (by decide)⟩ (fun _ _ _ _ _ hts hd => tok_5 hts hd) h_5_place k_5_place rfl (fun i kd j h => hc_5_place (i, kd, j) (dk_lk_mem h)))
set_option maxRecDepth 20000 in
theorem wv_5_place : ∀ w ∈ [Cond.instanceMethod y_5_place, Cond.selects y_5_place.cls y_5_place y_5_place, Cond.initialized y_5_place.cls, Cond.code y_5_place prog_1_method_20_code 8 (some .int)], w ∈ dk_TB := dk_ac (dk_tb 638 rfl rfl) (dk_ac (dk_tb 639 rfl rfl) (dk_ac (dk_tb 57 rfl rfl) (dk_ac (dk_tb 640 rfl rfl) (dk_an))))
theorem hd_5_place : y_5_place.cls ≠ "java/lang/invoke/MethodHandle" ∧ y_5_place.cls ≠ "java/lang/invoke/VarHandle" ∧ (parseMethodDescriptor y_5_place.desc).map (fun d => d.parameters.length) = some 2 := by decide +kernel
theorem k_5_areTwoDrums : dk_ckT t_5_areTwoDrums prog_1_method_50_code 3 t_5_areTwoDrums.2.2.1 b_5_areTwoDrums = true := by decide +kernel
set_option maxRecDepth 20000 in
theorem hc_5_areTwoDrums : ∀ q ∈ t_5_areTwoDrums.2.1, ∃ n Sm, dk_nth g_5_areTwoDrums q.2.2 = some (n, Sm) ∧ dk_Call y_5_areTwoDrums.cls ({ frames := 1, cells := 0, slots := 0, locals := 21 }) prog_1_method_50_code 3 q.2.1 q.1 n Sm :=
  dk_ac ⟨2, s_0_hasDrum, rfl, fun hx hb hml hown hts hF => dk_callV e_0_hasDrum dk_rcV rfl (dk_ac (dk_tb 550 rfl rfl) wv_0_hasDrum) ⟨rfl, rfl⟩ hd_0_hasDrum ⟨by decide, by decide⟩ ⟨Nat.zero_le _, Nat.zero_le _⟩ hx hb hml hown hts hF⟩
    (dk_an)
theorem e_5_areTwoDrums : dk_Met y_5_areTwoDrums prog_1_method_50_code 3 (some .boolean) ({ frames := 1, cells := 0, slots := 0, locals := 21 }) s_5_areTwoDrums := dk_metV 5 (dk_met (y := y_5_areTwoDrums) (cc := prog_1_method_50_code) (maxL := 3) (ret := (some .boolean)) (rm := ({ frames := 1, cells := 0, slots := 0, locals := 21 })) (T := t_5_areTwoDrums) (tb := b_5_areTwoDrums) (G := g_5_areTwoDrums) (by decide +kernel) ⟨fun z => absurd z (by decide), fun _ => rfl, fun z => absurd z (by decide), fun z => absurd z (by decide)⟩ (fun _ _ _ _ _ hts hd => tok_5 hts hd) h_5_areTwoDrums k_5_areTwoDrums rfl (fun i kd j h => hc_5_areTwoDrums (i, kd, j) (dk_lk_mem h)))
set_option maxRecDepth 20000 in
theorem wv_5_areTwoDrums : ∀ w ∈ [Cond.instanceMethod y_5_areTwoDrums, Cond.selects y_5_areTwoDrums.cls y_5_areTwoDrums y_5_areTwoDrums, Cond.initialized y_5_areTwoDrums.cls, Cond.code y_5_areTwoDrums prog_1_method_50_code 3 (some .boolean)], w ∈ dk_TB := dk_ac (dk_tb 652 rfl rfl) (dk_ac (dk_tb 17 rfl rfl) (dk_ac (dk_tb 57 rfl rfl) (dk_ac (dk_tb 653 rfl rfl) (dk_an))))
theorem hd_5_areTwoDrums : y_5_areTwoDrums.cls ≠ "java/lang/invoke/MethodHandle" ∧ y_5_areTwoDrums.cls ≠ "java/lang/invoke/VarHandle" ∧ (parseMethodDescriptor y_5_areTwoDrums.desc).map (fun d => d.parameters.length) = some 2 := by decide +kernel
theorem k_5_both : dk_ckT t_5_both prog_1_method_21_code 11 t_5_both.2.2.1 b_5_both = true := by decide +kernel
set_option maxRecDepth 20000 in
theorem hc_5_both : ∀ q ∈ t_5_both.2.1, ∃ n Sm, dk_nth g_5_both q.2.2 = some (n, Sm) ∧ dk_Call y_5_both.cls ({ frames := 6, cells := 0, slots := 0, locals := 137 }) prog_1_method_21_code 11 q.2.1 q.1 n Sm :=
  dk_ac ⟨3, s_5_areTwoDrums, rfl, fun hx hb hml hown hts hF => dk_callV e_5_areTwoDrums dk_rcV rfl (dk_ac (dk_tb 650 rfl rfl) wv_5_areTwoDrums) ⟨rfl, rfl⟩ hd_5_areTwoDrums ⟨by decide, by decide⟩ ⟨Nat.zero_le _, Nat.zero_le _⟩ hx hb hml hown hts hF⟩
    (dk_ac ⟨3, s_5_isWithin, rfl, fun hx hb hml hown hts hF => dk_callS e_5_isWithin (dk_ac (dk_tb 316 rfl rfl) wv_5_isWithin) ⟨rfl, rfl⟩ hd_5_isWithin ⟨by decide, by decide⟩ ⟨Nat.zero_le _, Nat.zero_le _⟩ hx hb hml hown hts hF⟩
    (dk_ac ⟨2, s_5_finding, rfl, fun hx hb hml hown hts hF => dk_callV e_5_finding dk_rcV rfl (dk_ac (dk_tb 323 rfl rfl) wv_5_finding) ⟨rfl, rfl⟩ hd_5_finding ⟨by decide, by decide⟩ ⟨Nat.zero_le _, Nat.zero_le _⟩ hx hb hml hown hts hF⟩
    (dk_ac ⟨1, s_1_prepare, rfl, fun hx hb hml hown hts hF => dk_callV e_1_prepare dk_rcV rfl (dk_ac (dk_tb 481 rfl rfl) wv_1_prepare) ⟨rfl, rfl⟩ hd_1_prepare ⟨by decide, by decide⟩ ⟨Nat.zero_le _, Nat.zero_le _⟩ hx hb hml hown hts hF⟩
    (dk_ac ⟨2, s_5_worstWithDrumsSo, rfl, fun hx hb hml hown hts hF => dk_callV e_5_worstWithDrumsSo dk_rcV rfl (dk_ac (dk_tb 641 rfl rfl) wv_5_worstWithDrumsSo) ⟨rfl, rfl⟩ hd_5_worstWithDrumsSo ⟨by decide, by decide⟩ ⟨Nat.zero_le _, Nat.zero_le _⟩ hx hb hml hown hts hF⟩
    (dk_an)))))
theorem e_5_both : dk_Met y_5_both prog_1_method_21_code 11 (some .int) ({ frames := 6, cells := 0, slots := 0, locals := 137 }) s_5_both := dk_metV 5 (dk_met (y := y_5_both) (cc := prog_1_method_21_code) (maxL := 11) (ret := (some .int)) (rm := ({ frames := 6, cells := 0, slots := 0, locals := 137 })) (T := t_5_both) (tb := b_5_both) (G := g_5_both) (by decide +kernel) ⟨fun _ => rfl, fun z => absurd z (by decide), fun z => absurd z (by decide), fun z => absurd z (by decide)⟩ (fun _ _ _ _ _ hts hd => tok_5 hts hd) h_5_both k_5_both rfl (fun i kd j h => hc_5_both (i, kd, j) (dk_lk_mem h)))
set_option maxRecDepth 20000 in
theorem wv_5_both : ∀ w ∈ [Cond.instanceMethod y_5_both, Cond.selects y_5_both.cls y_5_both y_5_both, Cond.initialized y_5_both.cls, Cond.code y_5_both prog_1_method_21_code 11 (some .int)], w ∈ dk_TB := dk_ac (dk_tb 647 rfl rfl) (dk_ac (dk_tb 648 rfl rfl) (dk_ac (dk_tb 57 rfl rfl) (dk_ac (dk_tb 649 rfl rfl) (dk_an))))
theorem hd_5_both : y_5_both.cls ≠ "java/lang/invoke/MethodHandle" ∧ y_5_both.cls ≠ "java/lang/invoke/VarHandle" ∧ (parseMethodDescriptor y_5_both.desc).map (fun d => d.parameters.length) = some 3 := by decide +kernel
theorem k_5_two : dk_ckT t_5_two prog_1_method_22_code 10 t_5_two.2.2.1 b_5_two = true := by decide +kernel
set_option maxRecDepth 20000 in
theorem hc_5_two : ∀ q ∈ t_5_two.2.1, ∃ n Sm, dk_nth g_5_two q.2.2 = some (n, Sm) ∧ dk_Call y_5_two.cls ({ frames := 2, cells := 0, slots := 0, locals := 43 }) prog_1_method_22_code 10 q.2.1 q.1 n Sm :=
  dk_ac ⟨3, s_5_areTwoDrums, rfl, fun hx hb hml hown hts hF => dk_callV e_5_areTwoDrums dk_rcV rfl (dk_ac (dk_tb 650 rfl rfl) wv_5_areTwoDrums) ⟨rfl, rfl⟩ hd_5_areTwoDrums ⟨by decide, by decide⟩ ⟨Nat.zero_le _, Nat.zero_le _⟩ hx hb hml hown hts hF⟩
    (dk_ac ⟨3, s_5_isWithin, rfl, fun hx hb hml hown hts hF => dk_callS e_5_isWithin (dk_ac (dk_tb 316 rfl rfl) wv_5_isWithin) ⟨rfl, rfl⟩ hd_5_isWithin ⟨by decide, by decide⟩ ⟨Nat.zero_le _, Nat.zero_le _⟩ hx hb hml hown hts hF⟩
    (dk_ac ⟨2, s_5_finding, rfl, fun hx hb hml hown hts hF => dk_callV e_5_finding dk_rcV rfl (dk_ac (dk_tb 323 rfl rfl) wv_5_finding) ⟨rfl, rfl⟩ hd_5_finding ⟨by decide, by decide⟩ ⟨Nat.zero_le _, Nat.zero_le _⟩ hx hb hml hown hts hF⟩
    (dk_ac ⟨3, s_0_lagBetween, rfl, fun hx hb hml hown hts hF => dk_callV e_0_lagBetween dk_rcV rfl (dk_ac (dk_tb 566 rfl rfl) wv_0_lagBetween) ⟨rfl, rfl⟩ hd_0_lagBetween ⟨by decide, by decide⟩ ⟨Nat.zero_le _, Nat.zero_le _⟩ hx hb hml hown hts hF⟩
    (dk_ac ⟨2, s_0_wrap, rfl, fun hx hb hml hown hts hF => dk_callV e_0_wrap dk_rcV rfl (dk_ac (dk_tb 538 rfl rfl) wv_0_wrap) ⟨rfl, rfl⟩ hd_0_wrap ⟨by decide, by decide⟩ ⟨Nat.zero_le _, Nat.zero_le _⟩ hx hb hml hown hts hF⟩
    (dk_an)))))
theorem e_5_two : dk_Met y_5_two prog_1_method_22_code 10 (some .int) ({ frames := 2, cells := 0, slots := 0, locals := 43 }) s_5_two := dk_metV 5 (dk_met (y := y_5_two) (cc := prog_1_method_22_code) (maxL := 10) (ret := (some .int)) (rm := ({ frames := 2, cells := 0, slots := 0, locals := 43 })) (T := t_5_two) (tb := b_5_two) (G := g_5_two) (by decide +kernel) ⟨fun _ => rfl, fun z => absurd z (by decide), fun z => absurd z (by decide), fun z => absurd z (by decide)⟩ (fun _ _ _ _ _ hts hd => tok_5 hts hd) h_5_two k_5_two rfl (fun i kd j h => hc_5_two (i, kd, j) (dk_lk_mem h)))
set_option maxRecDepth 20000 in
theorem wv_5_two : ∀ w ∈ [Cond.instanceMethod y_5_two, Cond.selects y_5_two.cls y_5_two y_5_two, Cond.initialized y_5_two.cls, Cond.code y_5_two prog_1_method_22_code 10 (some .int)], w ∈ dk_TB := dk_ac (dk_tb 655 rfl rfl) (dk_ac (dk_tb 656 rfl rfl) (dk_ac (dk_tb 57 rfl rfl) (dk_ac (dk_tb 657 rfl rfl) (dk_an))))
theorem hd_5_two : y_5_two.cls ≠ "java/lang/invoke/MethodHandle" ∧ y_5_two.cls ≠ "java/lang/invoke/VarHandle" ∧ (parseMethodDescriptor y_5_two.desc).map (fun d => d.parameters.length) = some 4 := by decide +kernel
theorem k_5_isOpposite : dk_ckT t_5_isOpposite prog_1_method_53_code 2 t_5_isOpposite.2.2.1 b_5_isOpposite = true := by decide +kernel
set_option maxRecDepth 20000 in
theorem hc_5_isOpposite : ∀ q ∈ t_5_isOpposite.2.1, ∃ n Sm, dk_nth g_5_isOpposite q.2.2 = some (n, Sm) ∧ dk_Call y_5_isOpposite.cls ({ frames := 1, cells := 0, slots := 0, locals := 22 }) prog_1_method_53_code 2 q.2.1 q.1 n Sm :=
  dk_ac ⟨2, s_5_wrapped, rfl, fun hx hb hml hown hts hF => dk_callS e_5_wrapped (dk_ac (dk_tb 666 rfl rfl) wv_5_wrapped) ⟨rfl, rfl⟩ hd_5_wrapped ⟨by decide, by decide⟩ ⟨Nat.zero_le _, Nat.zero_le _⟩ hx hb hml hown hts hF⟩
    (dk_ac ⟨1, s_8_abs, rfl, fun hx hb hml hown hts hF => dk_callS e_8_abs (dk_ac (dk_tb 615 rfl rfl) wv_8_abs) ⟨rfl, rfl⟩ hd_8_abs ⟨by decide, by decide⟩ ⟨Nat.zero_le _, Nat.zero_le _⟩ hx hb hml hown hts hF⟩
    (dk_an))
theorem e_5_isOpposite : dk_Met y_5_isOpposite prog_1_method_53_code 2 (some .boolean) ({ frames := 1, cells := 0, slots := 0, locals := 22 }) s_5_isOpposite := dk_met (y := y_5_isOpposite) (cc := prog_1_method_53_code) (maxL := 2) (ret := (some .boolean)) (rm := ({ frames := 1, cells := 0, slots := 0, locals := 22 })) (T := t_5_isOpposite) (tb := b_5_isOpposite) (G := g_5_isOpposite) (by decide +kernel) ⟨fun z => absurd z (by decide), fun _ => rfl, fun z => absurd z (by decide), fun z => absurd z (by decide)⟩ (fun _ _ _ _ _ hts hd => tok_5 hts hd) h_5_isOpposite k_5_isOpposite rfl (fun i kd j h => hc_5_isOpposite (i, kd, j) (dk_lk_mem h))
set_option maxRecDepth 20000 in
theorem wv_5_isOpposite : ∀ w ∈ [Cond.static y_5_isOpposite, Cond.initialized y_5_isOpposite.cls, Cond.code y_5_isOpposite prog_1_method_53_code 2 (some .boolean)], w ∈ dk_TB := dk_ac (dk_tb 664 rfl rfl) (dk_ac (dk_tb 57 rfl rfl) (dk_ac (dk_tb 665 rfl rfl) (dk_an)))
theorem hd_5_isOpposite : y_5_isOpposite.cls ≠ "java/lang/invoke/MethodHandle" ∧ y_5_isOpposite.cls ≠ "java/lang/invoke/VarHandle" ∧ (parseMethodDescriptor y_5_isOpposite.desc).map (fun d => d.parameters.length) = some 2 := by decide +kernel
theorem k_5_opposite : dk_ckT t_5_opposite prog_1_method_23_code 3 t_5_opposite.2.2.1 b_5_opposite = true := by decide +kernel
set_option maxRecDepth 20000 in
theorem hc_5_opposite : ∀ q ∈ t_5_opposite.2.1, ∃ n Sm, dk_nth g_5_opposite q.2.2 = some (n, Sm) ∧ dk_Call y_5_opposite.cls ({ frames := 2, cells := 0, slots := 0, locals := 45 }) prog_1_method_23_code 3 q.2.1 q.1 n Sm :=
  dk_ac ⟨2, s_0_hasRank, rfl, fun hx hb hml hown hts hF => dk_callV e_0_hasRank dk_rcV rfl (dk_ac (dk_tb 470 rfl rfl) wv_0_hasRank) ⟨rfl, rfl⟩ hd_0_hasRank ⟨by decide, by decide⟩ ⟨Nat.zero_le _, Nat.zero_le _⟩ hx hb hml hown hts hF⟩
    (dk_ac ⟨2, s_5_finding, rfl, fun hx hb hml hown hts hF => dk_callV e_5_finding dk_rcV rfl (dk_ac (dk_tb 323 rfl rfl) wv_5_finding) ⟨rfl, rfl⟩ hd_5_finding ⟨by decide, by decide⟩ ⟨Nat.zero_le _, Nat.zero_le _⟩ hx hb hml hown hts hF⟩
    (dk_ac ⟨2, s_0_drumFor, rfl, fun hx hb hml hown hts hF => dk_callV e_0_drumFor dk_rcV rfl (dk_ac (dk_tb 474 rfl rfl) wv_0_drumFor) ⟨rfl, rfl⟩ hd_0_drumFor ⟨by decide, by decide⟩ ⟨Nat.zero_le _, Nat.zero_le _⟩ hx hb hml hown hts hF⟩
    (dk_ac ⟨3, s_0_lagFromDrum, rfl, fun hx hb hml hown hts hF => dk_callV e_0_lagFromDrum dk_rcV rfl (dk_ac (dk_tb 662 rfl rfl) wv_0_lagFromDrum) ⟨rfl, rfl⟩ hd_0_lagFromDrum ⟨by decide, by decide⟩ ⟨Nat.zero_le _, Nat.zero_le _⟩ hx hb hml hown hts hF⟩
    (dk_ac ⟨2, s_5_isOpposite, rfl, fun hx hb hml hown hts hF => dk_callS e_5_isOpposite (dk_ac (dk_tb 663 rfl rfl) wv_5_isOpposite) ⟨rfl, rfl⟩ hd_5_isOpposite ⟨by decide, by decide⟩ ⟨Nat.zero_le _, Nat.zero_le _⟩ hx hb hml hown hts hF⟩
    (dk_an)))))
theorem e_5_opposite : dk_Met y_5_opposite prog_1_method_23_code 3 (some .int) ({ frames := 2, cells := 0, slots := 0, locals := 45 }) s_5_opposite := dk_metV 5 (dk_met (y := y_5_opposite) (cc := prog_1_method_23_code) (maxL := 3) (ret := (some .int)) (rm := ({ frames := 2, cells := 0, slots := 0, locals := 45 })) (T := t_5_opposite) (tb := b_5_opposite) (G := g_5_opposite) (by decide +kernel) ⟨fun _ => rfl, fun z => absurd z (by decide), fun z => absurd z (by decide), fun z => absurd z (by decide)⟩ (fun _ _ _ _ _ hts hd => tok_5 hts hd) h_5_opposite k_5_opposite rfl (fun i kd j h => hc_5_opposite (i, kd, j) (dk_lk_mem h)))
set_option maxRecDepth 20000 in
theorem wv_5_opposite : ∀ w ∈ [Cond.instanceMethod y_5_opposite, Cond.selects y_5_opposite.cls y_5_opposite y_5_opposite, Cond.initialized y_5_opposite.cls, Cond.code y_5_opposite prog_1_method_23_code 3 (some .int)], w ∈ dk_TB := dk_ac (dk_tb 659 rfl rfl) (dk_ac (dk_tb 660 rfl rfl) (dk_ac (dk_tb 57 rfl rfl) (dk_ac (dk_tb 661 rfl rfl) (dk_an))))
theorem hd_5_opposite : y_5_opposite.cls ≠ "java/lang/invoke/MethodHandle" ∧ y_5_opposite.cls ≠ "java/lang/invoke/VarHandle" ∧ (parseMethodDescriptor y_5_opposite.desc).map (fun d => d.parameters.length) = some 1 := by decide +kernel
theorem k_5_edges : dk_ckT t_5_edges prog_1_method_24_code 9 t_5_edges.2.2.1 b_5_edges = true := by decide +kernel
set_option maxRecDepth 20000 in
theorem hc_5_edges : ∀ q ∈ t_5_edges.2.1, ∃ n Sm, dk_nth g_5_edges q.2.2 = some (n, Sm) ∧ dk_Call y_5_edges.cls ({ frames := 2, cells := 0, slots := 0, locals := 45 }) prog_1_method_24_code 9 q.2.1 q.1 n Sm :=
  dk_ac ⟨2, s_0_hasRank, rfl, fun hx hb hml hown hts hF => dk_callV e_0_hasRank dk_rcV rfl (dk_ac (dk_tb 470 rfl rfl) wv_0_hasRank) ⟨rfl, rfl⟩ hd_0_hasRank ⟨by decide, by decide⟩ ⟨Nat.zero_le _, Nat.zero_le _⟩ hx hb hml hown hts hF⟩
    (dk_ac ⟨3, s_5_isWithin, rfl, fun hx hb hml hown hts hF => dk_callS e_5_isWithin (dk_ac (dk_tb 316 rfl rfl) wv_5_isWithin) ⟨rfl, rfl⟩ hd_5_isWithin ⟨by decide, by decide⟩ ⟨Nat.zero_le _, Nat.zero_le _⟩ hx hb hml hown hts hF⟩
    (dk_ac ⟨2, s_5_finding, rfl, fun hx hb hml hown hts hF => dk_callV e_5_finding dk_rcV rfl (dk_ac (dk_tb 323 rfl rfl) wv_5_finding) ⟨rfl, rfl⟩ hd_5_finding ⟨by decide, by decide⟩ ⟨Nat.zero_le _, Nat.zero_le _⟩ hx hb hml hown hts hF⟩
    (dk_ac ⟨2, s_0_drumFor, rfl, fun hx hb hml hown hts hF => dk_callV e_0_drumFor dk_rcV rfl (dk_ac (dk_tb 474 rfl rfl) wv_0_drumFor) ⟨rfl, rfl⟩ hd_0_drumFor ⟨by decide, by decide⟩ ⟨Nat.zero_le _, Nat.zero_le _⟩ hx hb hml hown hts hF⟩
    (dk_ac ⟨3, s_0_lagFromDrum, rfl, fun hx hb hml hown hts hF => dk_callV e_0_lagFromDrum dk_rcV rfl (dk_ac (dk_tb 662 rfl rfl) wv_0_lagFromDrum) ⟨rfl, rfl⟩ hd_0_lagFromDrum ⟨by decide, by decide⟩ ⟨Nat.zero_le _, Nat.zero_le _⟩ hx hb hml hown hts hF⟩
    (dk_ac ⟨2, s_5_isOpposite, rfl, fun hx hb hml hown hts hF => dk_callS e_5_isOpposite (dk_ac (dk_tb 663 rfl rfl) wv_5_isOpposite) ⟨rfl, rfl⟩ hd_5_isOpposite ⟨by decide, by decide⟩ ⟨Nat.zero_le _, Nat.zero_le _⟩ hx hb hml hown hts hF⟩
    (dk_an))))))
theorem e_5_edges : dk_Met y_5_edges prog_1_method_24_code 9 (some .int) ({ frames := 2, cells := 0, slots := 0, locals := 45 }) s_5_edges := dk_metV 5 (dk_met (y := y_5_edges) (cc := prog_1_method_24_code) (maxL := 9) (ret := (some .int)) (rm := ({ frames := 2, cells := 0, slots := 0, locals := 45 })) (T := t_5_edges) (tb := b_5_edges) (G := g_5_edges) (by decide +kernel) ⟨fun _ => rfl, fun z => absurd z (by decide), fun z => absurd z (by decide), fun z => absurd z (by decide)⟩ (fun _ _ _ _ _ hts hd => tok_5 hts hd) h_5_edges k_5_edges rfl (fun i kd j h => hc_5_edges (i, kd, j) (dk_lk_mem h)))
set_option maxRecDepth 20000 in
theorem wv_5_edges : ∀ w ∈ [Cond.instanceMethod y_5_edges, Cond.selects y_5_edges.cls y_5_edges y_5_edges, Cond.initialized y_5_edges.cls, Cond.code y_5_edges prog_1_method_24_code 9 (some .int)], w ∈ dk_TB := dk_ac (dk_tb 668 rfl rfl) (dk_ac (dk_tb 669 rfl rfl) (dk_ac (dk_tb 57 rfl rfl) (dk_ac (dk_tb 670 rfl rfl) (dk_an))))
theorem hd_5_edges : y_5_edges.cls ≠ "java/lang/invoke/MethodHandle" ∧ y_5_edges.cls ≠ "java/lang/invoke/VarHandle" ∧ (parseMethodDescriptor y_5_edges.desc).map (fun d => d.parameters.length) = some 4 := by decide +kernel
theorem k_5_ranksThatDiffer : dk_ckT t_5_ranksThatDiffer prog_1_method_60_code 3 t_5_ranksThatDiffer.2.2.1 b_5_ranksThatDiffer = true := by decide +kernel
set_option maxRecDepth 20000 in
theorem hc_5_ranksThatDiffer : ∀ q ∈ t_5_ranksThatDiffer.2.1, ∃ n Sm, dk_nth g_5_ranksThatDiffer q.2.2 = some (n, Sm) ∧ dk_Call y_5_ranksThatDiffer.cls ({ frames := 0, cells := 0, slots := 0, locals := 0 }) prog_1_method_60_code 3 q.2.1 q.1 n Sm :=
  dk_an
theorem e_5_ranksThatDiffer : dk_Met y_5_ranksThatDiffer prog_1_method_60_code 3 (some .int) ({ frames := 0, cells := 0, slots := 0, locals := 0 }) s_5_ranksThatDiffer := dk_metV 5 (dk_met (y := y_5_ranksThatDiffer) (cc := prog_1_method_60_code) (maxL := 3) (ret := (some .int)) (rm := ({ frames := 0, cells := 0, slots := 0, locals := 0 })) (T := t_5_ranksThatDiffer) (tb := b_5_ranksThatDiffer) (G := g_5_ranksThatDiffer) (by decide +kernel) ⟨fun _ => rfl, fun z => absurd z (by decide), fun z => absurd z (by decide), fun z => absurd z (by decide)⟩ (fun _ _ _ _ _ hts hd => tok_5 hts hd) h_5_ranksThatDiffer k_5_ranksThatDiffer rfl (fun i kd j h => hc_5_ranksThatDiffer (i, kd, j) (dk_lk_mem h)))
set_option maxRecDepth 20000 in
theorem wv_5_ranksThatDiffer : ∀ w ∈ [Cond.instanceMethod y_5_ranksThatDiffer, Cond.selects y_5_ranksThatDiffer.cls y_5_ranksThatDiffer y_5_ranksThatDiffer, Cond.initialized y_5_ranksThatDiffer.cls, Cond.code y_5_ranksThatDiffer prog_1_method_60_code 3 (some .int)], w ∈ dk_TB := dk_ac (dk_tb 681 rfl rfl) (dk_ac (dk_tb 19 rfl rfl) (dk_ac (dk_tb 57 rfl rfl) (dk_ac (dk_tb 682 rfl rfl) (dk_an))))
theorem hd_5_ranksThatDiffer : y_5_ranksThatDiffer.cls ≠ "java/lang/invoke/MethodHandle" ∧ y_5_ranksThatDiffer.cls ≠ "java/lang/invoke/VarHandle" ∧ (parseMethodDescriptor y_5_ranksThatDiffer.desc).map (fun d => d.parameters.length) = some 0 := by decide +kernel
theorem k_5_pacesUntilAlike : dk_ckT t_5_pacesUntilAlike prog_1_method_59_code 3 t_5_pacesUntilAlike.2.2.1 b_5_pacesUntilAlike = true := by decide +kernel
set_option maxRecDepth 20000 in
theorem hc_5_pacesUntilAlike : ∀ q ∈ t_5_pacesUntilAlike.2.1, ∃ n Sm, dk_nth g_5_pacesUntilAlike q.2.2 = some (n, Sm) ∧ dk_Call y_5_pacesUntilAlike.cls ({ frames := 4, cells := 0, slots := 0, locals := 93 }) prog_1_method_59_code 3 q.2.1 q.1 n Sm :=
  dk_ac ⟨1, s_5_ranksThatDiffer, rfl, fun hx hb hml hown hts hF => dk_callV e_5_ranksThatDiffer dk_rcV rfl (dk_ac (dk_tb 679 rfl rfl) wv_5_ranksThatDiffer) ⟨rfl, rfl⟩ hd_5_ranksThatDiffer ⟨by decide, by decide⟩ ⟨Nat.zero_le _, Nat.zero_le _⟩ hx hb hml hown hts hF⟩
    (dk_ac ⟨1, s_4_step, rfl, fun hx hb hml hown hts hF => dk_callV e_4_step dk_rcV rfl (dk_ac (dk_tb 620 rfl rfl) wv_4_step) ⟨rfl, rfl⟩ hd_4_step ⟨by decide, by decide⟩ ⟨Nat.zero_le _, Nat.zero_le _⟩ hx hb hml hown hts hF⟩
    (dk_an))
theorem e_5_pacesUntilAlike : dk_Met y_5_pacesUntilAlike prog_1_method_59_code 3 (some .int) ({ frames := 4, cells := 0, slots := 0, locals := 93 }) s_5_pacesUntilAlike := dk_metV 5 (dk_met (y := y_5_pacesUntilAlike) (cc := prog_1_method_59_code) (maxL := 3) (ret := (some .int)) (rm := ({ frames := 4, cells := 0, slots := 0, locals := 93 })) (T := t_5_pacesUntilAlike) (tb := b_5_pacesUntilAlike) (G := g_5_pacesUntilAlike) (by decide +kernel) ⟨fun _ => rfl, fun z => absurd z (by decide), fun z => absurd z (by decide), fun z => absurd z (by decide)⟩ (fun _ _ _ _ _ hts hd => tok_5 hts hd) h_5_pacesUntilAlike k_5_pacesUntilAlike rfl (fun i kd j h => hc_5_pacesUntilAlike (i, kd, j) (dk_lk_mem h)))
set_option maxRecDepth 20000 in
theorem wv_5_pacesUntilAlike : ∀ w ∈ [Cond.instanceMethod y_5_pacesUntilAlike, Cond.selects y_5_pacesUntilAlike.cls y_5_pacesUntilAlike y_5_pacesUntilAlike, Cond.initialized y_5_pacesUntilAlike.cls, Cond.code y_5_pacesUntilAlike prog_1_method_59_code 3 (some .int)], w ∈ dk_TB := dk_ac (dk_tb 677 rfl rfl) (dk_ac (dk_tb 18 rfl rfl) (dk_ac (dk_tb 57 rfl rfl) (dk_ac (dk_tb 678 rfl rfl) (dk_an))))
theorem hd_5_pacesUntilAlike : y_5_pacesUntilAlike.cls ≠ "java/lang/invoke/MethodHandle" ∧ y_5_pacesUntilAlike.cls ≠ "java/lang/invoke/VarHandle" ∧ (parseMethodDescriptor y_5_pacesUntilAlike.desc).map (fun d => d.parameters.length) = some 1 := by decide +kernel
theorem k_5_greatestDifference : dk_ckT t_5_greatestDifference prog_1_method_61_code 4 t_5_greatestDifference.2.2.1 b_5_greatestDifference = true := by decide +kernel
set_option maxRecDepth 20000 in
theorem hc_5_greatestDifference : ∀ q ∈ t_5_greatestDifference.2.1, ∃ n Sm, dk_nth g_5_greatestDifference q.2.2 = some (n, Sm) ∧ dk_Call y_5_greatestDifference.cls ({ frames := 2, cells := 0, slots := 0, locals := 43 }) prog_1_method_61_code 4 q.2.1 q.1 n Sm :=
  dk_ac ⟨2, s_0_wrap, rfl, fun hx hb hml hown hts hF => dk_callV e_0_wrap dk_rcV rfl (dk_ac (dk_tb 538 rfl rfl) wv_0_wrap) ⟨rfl, rfl⟩ hd_0_wrap ⟨by decide, by decide⟩ ⟨Nat.zero_le _, Nat.zero_le _⟩ hx hb hml hown hts hF⟩
    (dk_ac ⟨1, s_8_abs, rfl, fun hx hb hml hown hts hF => dk_callS e_8_abs (dk_ac (dk_tb 615 rfl rfl) wv_8_abs) ⟨rfl, rfl⟩ hd_8_abs ⟨by decide, by decide⟩ ⟨Nat.zero_le _, Nat.zero_le _⟩ hx hb hml hown hts hF⟩
    (dk_ac ⟨2, s_8_max, rfl, fun hx hb hml hown hts hF => dk_callS e_8_max (dk_ac (dk_tb 687 rfl rfl) wv_8_max) ⟨rfl, rfl⟩ hd_8_max ⟨by decide, by decide⟩ ⟨Nat.zero_le _, Nat.zero_le _⟩ hx hb hml hown hts hF⟩
    (dk_an)))
theorem e_5_greatestDifference : dk_Met y_5_greatestDifference prog_1_method_61_code 4 (some .int) ({ frames := 2, cells := 0, slots := 0, locals := 43 }) s_5_greatestDifference := dk_metV 5 (dk_met (y := y_5_greatestDifference) (cc := prog_1_method_61_code) (maxL := 4) (ret := (some .int)) (rm := ({ frames := 2, cells := 0, slots := 0, locals := 43 })) (T := t_5_greatestDifference) (tb := b_5_greatestDifference) (G := g_5_greatestDifference) (by decide +kernel) ⟨fun _ => rfl, fun z => absurd z (by decide), fun z => absurd z (by decide), fun z => absurd z (by decide)⟩ (fun _ _ _ _ _ hts hd => tok_5 hts hd) h_5_greatestDifference k_5_greatestDifference rfl (fun i kd j h => hc_5_greatestDifference (i, kd, j) (dk_lk_mem h)))
set_option maxRecDepth 20000 in
theorem wv_5_greatestDifference : ∀ w ∈ [Cond.instanceMethod y_5_greatestDifference, Cond.selects y_5_greatestDifference.cls y_5_greatestDifference y_5_greatestDifference, Cond.initialized y_5_greatestDifference.cls, Cond.code y_5_greatestDifference prog_1_method_61_code 4 (some .int)], w ∈ dk_TB := dk_ac (dk_tb 685 rfl rfl) (dk_ac (dk_tb 20 rfl rfl) (dk_ac (dk_tb 57 rfl rfl) (dk_ac (dk_tb 686 rfl rfl) (dk_an))))
theorem hd_5_greatestDifference : y_5_greatestDifference.cls ≠ "java/lang/invoke/MethodHandle" ∧ y_5_greatestDifference.cls ≠ "java/lang/invoke/VarHandle" ∧ (parseMethodDescriptor y_5_greatestDifference.desc).map (fun d => d.parameters.length) = some 0 := by decide +kernel
theorem k_5_slip : dk_ckT t_5_slip prog_1_method_25_code 6 t_5_slip.2.2.1 b_5_slip = true := by decide +kernel
set_option maxRecDepth 20000 in
theorem hc_5_slip : ∀ q ∈ t_5_slip.2.1, ∃ n Sm, dk_nth g_5_slip q.2.2 = some (n, Sm) ∧ dk_Call y_5_slip.cls ({ frames := 6, cells := 0, slots := 0, locals := 129 }) prog_1_method_25_code 6 q.2.1 q.1 n Sm :=
  dk_ac ⟨2, s_0_hasRank, rfl, fun hx hb hml hown hts hF => dk_callV e_0_hasRank dk_rcV rfl (dk_ac (dk_tb 470 rfl rfl) wv_0_hasRank) ⟨rfl, rfl⟩ hd_0_hasRank ⟨by decide, by decide⟩ ⟨Nat.zero_le _, Nat.zero_le _⟩ hx hb hml hown hts hF⟩
    (dk_ac ⟨3, s_5_isWithin, rfl, fun hx hb hml hown hts hF => dk_callS e_5_isWithin (dk_ac (dk_tb 316 rfl rfl) wv_5_isWithin) ⟨rfl, rfl⟩ hd_5_isWithin ⟨by decide, by decide⟩ ⟨Nat.zero_le _, Nat.zero_le _⟩ hx hb hml hown hts hF⟩
    (dk_ac ⟨2, s_5_finding, rfl, fun hx hb hml hown hts hF => dk_callV e_5_finding dk_rcV rfl (dk_ac (dk_tb 323 rfl rfl) wv_5_finding) ⟨rfl, rfl⟩ hd_5_finding ⟨by decide, by decide⟩ ⟨Nat.zero_le _, Nat.zero_le _⟩ hx hb hml hown hts hF⟩
    (dk_ac ⟨1, s_5_setOut, rfl, fun hx hb hml hown hts hF => dk_callV e_5_setOut dk_rcV rfl (dk_ac (dk_tb 571 rfl rfl) wv_5_setOut) ⟨rfl, rfl⟩ hd_5_setOut ⟨by decide, by decide⟩ ⟨Nat.zero_le _, Nat.zero_le _⟩ hx hb hml hown hts hF⟩
    (dk_ac ⟨1, s_4_start, rfl, fun hx hb hml hown hts hF => dk_callV e_4_start dk_rcV rfl (dk_ac (dk_tb 575 rfl rfl) wv_4_start) ⟨rfl, rfl⟩ hd_4_start ⟨by decide, by decide⟩ ⟨Nat.zero_le _, Nat.zero_le _⟩ hx hb hml hown hts hF⟩
    (dk_ac ⟨2, s_0_wrap, rfl, fun hx hb hml hown hts hF => dk_callV e_0_wrap dk_rcV rfl (dk_ac (dk_tb 538 rfl rfl) wv_0_wrap) ⟨rfl, rfl⟩ hd_0_wrap ⟨by decide, by decide⟩ ⟨Nat.zero_le _, Nat.zero_le _⟩ hx hb hml hown hts hF⟩
    (dk_ac ⟨2, s_5_pacesUntilAlike, rfl, fun hx hb hml hown hts hF => dk_callV e_5_pacesUntilAlike dk_rcV rfl (dk_ac (dk_tb 675 rfl rfl) wv_5_pacesUntilAlike) ⟨rfl, rfl⟩ hd_5_pacesUntilAlike ⟨by decide, by decide⟩ ⟨Nat.zero_le _, Nat.zero_le _⟩ hx hb hml hown hts hF⟩
    (dk_ac ⟨2, s_4_walk, rfl, fun hx hb hml hown hts hF => dk_callV e_4_walk dk_rcV rfl (dk_ac (dk_tb 582 rfl rfl) wv_4_walk) ⟨rfl, rfl⟩ hd_4_walk ⟨by decide, by decide⟩ ⟨Nat.zero_le _, Nat.zero_le _⟩ hx hb hml hown hts hF⟩
    (dk_ac ⟨1, s_5_ranksThatDiffer, rfl, fun hx hb hml hown hts hF => dk_callV e_5_ranksThatDiffer dk_rcV rfl (dk_ac (dk_tb 679 rfl rfl) wv_5_ranksThatDiffer) ⟨rfl, rfl⟩ hd_5_ranksThatDiffer ⟨by decide, by decide⟩ ⟨Nat.zero_le _, Nat.zero_le _⟩ hx hb hml hown hts hF⟩
    (dk_ac ⟨1, s_5_greatestDifference, rfl, fun hx hb hml hown hts hF => dk_callV e_5_greatestDifference dk_rcV rfl (dk_ac (dk_tb 683 rfl rfl) wv_5_greatestDifference) ⟨rfl, rfl⟩ hd_5_greatestDifference ⟨by decide, by decide⟩ ⟨Nat.zero_le _, Nat.zero_le _⟩ hx hb hml hown hts hF⟩
    (dk_an))))))))))
theorem e_5_slip : dk_Met y_5_slip prog_1_method_25_code 6 (some .int) ({ frames := 6, cells := 0, slots := 0, locals := 129 }) s_5_slip := dk_metV 5 (dk_met (y := y_5_slip) (cc := prog_1_method_25_code) (maxL := 6) (ret := (some .int)) (rm := ({ frames := 6, cells := 0, slots := 0, locals := 129 })) (T := t_5_slip) (tb := b_5_slip) (G := g_5_slip) (by decide +kernel) ⟨fun _ => rfl, fun z => absurd z (by decide), fun z => absurd z (by decide), fun z => absurd z (by decide)⟩ (fun _ _ _ _ _ hts hd => tok_5 hts hd) h_5_slip k_5_slip rfl (fun i kd j h => hc_5_slip (i, kd, j) (dk_lk_mem h)))
set_option maxRecDepth 20000 in
theorem wv_5_slip : ∀ w ∈ [Cond.instanceMethod y_5_slip, Cond.selects y_5_slip.cls y_5_slip y_5_slip, Cond.initialized y_5_slip.cls, Cond.code y_5_slip prog_1_method_25_code 6 (some .int)], w ∈ dk_TB := dk_ac (dk_tb 672 rfl rfl) (dk_ac (dk_tb 673 rfl rfl) (dk_ac (dk_tb 57 rfl rfl) (dk_ac (dk_tb 674 rfl rfl) (dk_an))))
theorem hd_5_slip : y_5_slip.cls ≠ "java/lang/invoke/MethodHandle" ∧ y_5_slip.cls ≠ "java/lang/invoke/VarHandle" ∧ (parseMethodDescriptor y_5_slip.desc).map (fun d => d.parameters.length) = some 4 := by decide +kernel
theorem k_0_passedByMouth : dk_ckT t_0_passedByMouth prog_2_method_13_code 2 t_0_passedByMouth.2.2.1 b_0_passedByMouth = true := by decide +kernel
set_option maxRecDepth 20000 in
theorem hc_0_passedByMouth : ∀ q ∈ t_0_passedByMouth.2.1, ∃ n Sm, dk_nth g_0_passedByMouth q.2.2 = some (n, Sm) ∧ dk_Call y_0_passedByMouth.cls ({ frames := 1, cells := 0, slots := 0, locals := 22 }) prog_2_method_13_code 2 q.2.1 q.1 n Sm :=
  dk_ac ⟨3, s_0_lagBetween, rfl, fun hx hb hml hown hts hF => dk_callV e_0_lagBetween dk_rcV rfl (dk_ac (dk_tb 499 rfl rfl) wv_0_lagBetween) ⟨rfl, rfl⟩ hd_0_lagBetween ⟨by decide, by decide⟩ ⟨Nat.zero_le _, Nat.zero_le _⟩ hx hb hml hown hts hF⟩
    (dk_an)
theorem e_0_passedByMouth : dk_Met y_0_passedByMouth prog_2_method_13_code 2 (some .int) ({ frames := 1, cells := 0, slots := 0, locals := 22 }) s_0_passedByMouth := dk_metV 0 (dk_met (y := y_0_passedByMouth) (cc := prog_2_method_13_code) (maxL := 2) (ret := (some .int)) (rm := ({ frames := 1, cells := 0, slots := 0, locals := 22 })) (T := t_0_passedByMouth) (tb := b_0_passedByMouth) (G := g_0_passedByMouth) (by decide +kernel) ⟨fun _ => rfl, fun z => absurd z (by decide), fun z => absurd z (by decide), fun z => absurd z (by decide)⟩ (fun _ _ _ _ _ hts hd => tok_0 hts hd) h_0_passedByMouth k_0_passedByMouth rfl (fun i kd j h => hc_0_passedByMouth (i, kd, j) (dk_lk_mem h)))
set_option maxRecDepth 20000 in
theorem wv_0_passedByMouth : ∀ w ∈ [Cond.instanceMethod y_0_passedByMouth, Cond.selects y_0_passedByMouth.cls y_0_passedByMouth y_0_passedByMouth, Cond.initialized y_0_passedByMouth.cls, Cond.code y_0_passedByMouth prog_2_method_13_code 2 (some .int)], w ∈ dk_TB := dk_ac (dk_tb 699 rfl rfl) (dk_ac (dk_tb 700 rfl rfl) (dk_ac (dk_tb 58 rfl rfl) (dk_ac (dk_tb 701 rfl rfl) (dk_an))))
theorem hd_0_passedByMouth : y_0_passedByMouth.cls ≠ "java/lang/invoke/MethodHandle" ∧ y_0_passedByMouth.cls ≠ "java/lang/invoke/VarHandle" ∧ (parseMethodDescriptor y_0_passedByMouth.desc).map (fun d => d.parameters.length) = some 1 := by decide +kernel
theorem k_5_tellBeginnings : dk_ckT t_5_tellBeginnings prog_1_method_62_code 5 t_5_tellBeginnings.2.2.1 b_5_tellBeginnings = true := by decide +kernel
set_option maxRecDepth 20000 in
theorem hc_5_tellBeginnings : ∀ q ∈ t_5_tellBeginnings.2.1, ∃ n Sm, dk_nth g_5_tellBeginnings q.2.2 = some (n, Sm) ∧ dk_Call y_5_tellBeginnings.cls ({ frames := 3, cells := 0, slots := 0, locals := 67 }) prog_1_method_62_code 5 q.2.1 q.1 n Sm :=
  dk_ac ⟨2, s_0_beatFor, rfl, fun hx hb hml hown hts hF => dk_callV e_0_beatFor dk_rcV rfl (dk_ac (dk_tb 696 rfl rfl) wv_0_beatFor) ⟨rfl, rfl⟩ hd_0_beatFor ⟨by decide, by decide⟩ ⟨Nat.zero_le _, Nat.zero_le _⟩ hx hb hml hown hts hF⟩
    (dk_ac ⟨2, s_0_isBehindBend, rfl, fun hx hb hml hown hts hF => dk_callV e_0_isBehindBend dk_rcV rfl (dk_ac (dk_tb 697 rfl rfl) wv_0_isBehindBend) ⟨rfl, rfl⟩ hd_0_isBehindBend ⟨by decide, by decide⟩ ⟨Nat.zero_le _, Nat.zero_le _⟩ hx hb hml hown hts hF⟩
    (dk_ac ⟨2, s_0_passedByMouth, rfl, fun hx hb hml hown hts hF => dk_callV e_0_passedByMouth dk_rcV rfl (dk_ac (dk_tb 698 rfl rfl) wv_0_passedByMouth) ⟨rfl, rfl⟩ hd_0_passedByMouth ⟨by decide, by decide⟩ ⟨Nat.zero_le _, Nat.zero_le _⟩ hx hb hml hown hts hF⟩
    (dk_an)))
theorem e_5_tellBeginnings : dk_Met y_5_tellBeginnings prog_1_method_62_code 5 none ({ frames := 3, cells := 0, slots := 0, locals := 67 }) s_5_tellBeginnings := dk_metV 5 (dk_met (y := y_5_tellBeginnings) (cc := prog_1_method_62_code) (maxL := 5) (ret := none) (rm := ({ frames := 3, cells := 0, slots := 0, locals := 67 })) (T := t_5_tellBeginnings) (tb := b_5_tellBeginnings) (G := g_5_tellBeginnings) (by decide +kernel) ⟨fun z => absurd z (by decide), fun z => absurd z (by decide), fun _ => rfl, fun z => absurd z (by decide)⟩ (fun _ _ _ _ _ hts hd => tok_5 hts hd) h_5_tellBeginnings k_5_tellBeginnings rfl (fun i kd j h => hc_5_tellBeginnings (i, kd, j) (dk_lk_mem h)))
set_option maxRecDepth 20000 in
theorem wv_5_tellBeginnings : ∀ w ∈ [Cond.instanceMethod y_5_tellBeginnings, Cond.selects y_5_tellBeginnings.cls y_5_tellBeginnings y_5_tellBeginnings, Cond.initialized y_5_tellBeginnings.cls, Cond.code y_5_tellBeginnings prog_1_method_62_code 5 none], w ∈ dk_TB := dk_ac (dk_tb 694 rfl rfl) (dk_ac (dk_tb 21 rfl rfl) (dk_ac (dk_tb 57 rfl rfl) (dk_ac (dk_tb 695 rfl rfl) (dk_an))))
theorem hd_5_tellBeginnings : y_5_tellBeginnings.cls ≠ "java/lang/invoke/MethodHandle" ∧ y_5_tellBeginnings.cls ≠ "java/lang/invoke/VarHandle" ∧ (parseMethodDescriptor y_5_tellBeginnings.desc).map (fun d => d.parameters.length) = some 1 := by decide +kernel
theorem k_5_begin : dk_ckT t_5_begin prog_1_method_26_code 3 t_5_begin.2.2.1 b_5_begin = true := by decide +kernel
set_option maxRecDepth 20000 in
theorem hc_5_begin : ∀ q ∈ t_5_begin.2.1, ∃ n Sm, dk_nth g_5_begin q.2.2 = some (n, Sm) ∧ dk_Call y_5_begin.cls ({ frames := 4, cells := 0, slots := 0, locals := 91 }) prog_1_method_26_code 3 q.2.1 q.1 n Sm :=
  dk_ac ⟨3, s_5_isWithin, rfl, fun hx hb hml hown hts hF => dk_callS e_5_isWithin (dk_ac (dk_tb 316 rfl rfl) wv_5_isWithin) ⟨rfl, rfl⟩ hd_5_isWithin ⟨by decide, by decide⟩ ⟨Nat.zero_le _, Nat.zero_le _⟩ hx hb hml hown hts hF⟩
    (dk_ac ⟨2, s_0_hasRank, rfl, fun hx hb hml hown hts hF => dk_callV e_0_hasRank dk_rcV rfl (dk_ac (dk_tb 470 rfl rfl) wv_0_hasRank) ⟨rfl, rfl⟩ hd_0_hasRank ⟨by decide, by decide⟩ ⟨Nat.zero_le _, Nat.zero_le _⟩ hx hb hml hown hts hF⟩
    (dk_ac ⟨2, s_5_finding, rfl, fun hx hb hml hown hts hF => dk_callV e_5_finding dk_rcV rfl (dk_ac (dk_tb 323 rfl rfl) wv_5_finding) ⟨rfl, rfl⟩ hd_5_finding ⟨by decide, by decide⟩ ⟨Nat.zero_le _, Nat.zero_le _⟩ hx hb hml hown hts hF⟩
    (dk_ac ⟨2, s_5_tellBeginnings, rfl, fun hx hb hml hown hts hF => dk_callV e_5_tellBeginnings dk_rcV rfl (dk_ac (dk_tb 692 rfl rfl) wv_5_tellBeginnings) ⟨rfl, rfl⟩ hd_5_tellBeginnings ⟨by decide, by decide⟩ ⟨Nat.zero_le _, Nat.zero_le _⟩ hx hb hml hown hts hF⟩
    (dk_an))))
theorem e_5_begin : dk_Met y_5_begin prog_1_method_26_code 3 (some .int) ({ frames := 4, cells := 0, slots := 0, locals := 91 }) s_5_begin := dk_metV 5 (dk_met (y := y_5_begin) (cc := prog_1_method_26_code) (maxL := 3) (ret := (some .int)) (rm := ({ frames := 4, cells := 0, slots := 0, locals := 91 })) (T := t_5_begin) (tb := b_5_begin) (G := g_5_begin) (by decide +kernel) ⟨fun _ => rfl, fun z => absurd z (by decide), fun z => absurd z (by decide), fun z => absurd z (by decide)⟩ (fun _ _ _ _ _ hts hd => tok_5 hts hd) h_5_begin k_5_begin rfl (fun i kd j h => hc_5_begin (i, kd, j) (dk_lk_mem h)))
set_option maxRecDepth 20000 in
theorem wv_5_begin : ∀ w ∈ [Cond.instanceMethod y_5_begin, Cond.selects y_5_begin.cls y_5_begin y_5_begin, Cond.initialized y_5_begin.cls, Cond.code y_5_begin prog_1_method_26_code 3 (some .int)], w ∈ dk_TB := dk_ac (dk_tb 689 rfl rfl) (dk_ac (dk_tb 690 rfl rfl) (dk_ac (dk_tb 57 rfl rfl) (dk_ac (dk_tb 691 rfl rfl) (dk_an))))
theorem hd_5_begin : y_5_begin.cls ≠ "java/lang/invoke/MethodHandle" ∧ y_5_begin.cls ≠ "java/lang/invoke/VarHandle" ∧ (parseMethodDescriptor y_5_begin.desc).map (fun d => d.parameters.length) = some 2 := by decide +kernel
theorem k_5_apart : dk_ckT t_5_apart prog_1_method_27_code 7 t_5_apart.2.2.1 b_5_apart = true := by decide +kernel
set_option maxRecDepth 20000 in
theorem hc_5_apart : ∀ q ∈ t_5_apart.2.1, ∃ n Sm, dk_nth g_5_apart q.2.2 = some (n, Sm) ∧ dk_Call y_5_apart.cls ({ frames := 4, cells := 0, slots := 0, locals := 91 }) prog_1_method_27_code 7 q.2.1 q.1 n Sm :=
  dk_ac ⟨3, s_5_isWithin, rfl, fun hx hb hml hown hts hF => dk_callS e_5_isWithin (dk_ac (dk_tb 316 rfl rfl) wv_5_isWithin) ⟨rfl, rfl⟩ hd_5_isWithin ⟨by decide, by decide⟩ ⟨Nat.zero_le _, Nat.zero_le _⟩ hx hb hml hown hts hF⟩
    (dk_ac ⟨2, s_5_finding, rfl, fun hx hb hml hown hts hF => dk_callV e_5_finding dk_rcV rfl (dk_ac (dk_tb 323 rfl rfl) wv_5_finding) ⟨rfl, rfl⟩ hd_5_finding ⟨by decide, by decide⟩ ⟨Nat.zero_le _, Nat.zero_le _⟩ hx hb hml hown hts hF⟩
    (dk_ac ⟨2, s_5_tellBeginnings, rfl, fun hx hb hml hown hts hF => dk_callV e_5_tellBeginnings dk_rcV rfl (dk_ac (dk_tb 692 rfl rfl) wv_5_tellBeginnings) ⟨rfl, rfl⟩ hd_5_tellBeginnings ⟨by decide, by decide⟩ ⟨Nat.zero_le _, Nat.zero_le _⟩ hx hb hml hown hts hF⟩
    (dk_ac ⟨2, s_8_min, rfl, fun hx hb hml hown hts hF => dk_callS e_8_min (dk_ac (dk_tb 707 rfl rfl) wv_8_min) ⟨rfl, rfl⟩ hd_8_min ⟨by decide, by decide⟩ ⟨Nat.zero_le _, Nat.zero_le _⟩ hx hb hml hown hts hF⟩
    (dk_ac ⟨2, s_8_max, rfl, fun hx hb hml hown hts hF => dk_callS e_8_max (dk_ac (dk_tb 687 rfl rfl) wv_8_max) ⟨rfl, rfl⟩ hd_8_max ⟨by decide, by decide⟩ ⟨Nat.zero_le _, Nat.zero_le _⟩ hx hb hml hown hts hF⟩
    (dk_an)))))
theorem e_5_apart : dk_Met y_5_apart prog_1_method_27_code 7 (some .int) ({ frames := 4, cells := 0, slots := 0, locals := 91 }) s_5_apart := dk_metV 5 (dk_met (y := y_5_apart) (cc := prog_1_method_27_code) (maxL := 7) (ret := (some .int)) (rm := ({ frames := 4, cells := 0, slots := 0, locals := 91 })) (T := t_5_apart) (tb := b_5_apart) (G := g_5_apart) (by decide +kernel) ⟨fun _ => rfl, fun z => absurd z (by decide), fun z => absurd z (by decide), fun z => absurd z (by decide)⟩ (fun _ _ _ _ _ hts hd => tok_5 hts hd) h_5_apart k_5_apart rfl (fun i kd j h => hc_5_apart (i, kd, j) (dk_lk_mem h)))
set_option maxRecDepth 20000 in
theorem wv_5_apart : ∀ w ∈ [Cond.instanceMethod y_5_apart, Cond.selects y_5_apart.cls y_5_apart y_5_apart, Cond.initialized y_5_apart.cls, Cond.code y_5_apart prog_1_method_27_code 7 (some .int)], w ∈ dk_TB := dk_ac (dk_tb 704 rfl rfl) (dk_ac (dk_tb 705 rfl rfl) (dk_ac (dk_tb 57 rfl rfl) (dk_ac (dk_tb 706 rfl rfl) (dk_an))))
theorem hd_5_apart : y_5_apart.cls ≠ "java/lang/invoke/MethodHandle" ∧ y_5_apart.cls ≠ "java/lang/invoke/VarHandle" ∧ (parseMethodDescriptor y_5_apart.desc).map (fun d => d.parameters.length) = some 1 := by decide +kernel
theorem k_5_isBridge : dk_ckT t_5_isBridge prog_1_method_48_code 3 t_5_isBridge.2.2.1 b_5_isBridge = true := by decide +kernel
set_option maxRecDepth 20000 in
theorem hc_5_isBridge : ∀ q ∈ t_5_isBridge.2.1, ∃ n Sm, dk_nth g_5_isBridge q.2.2 = some (n, Sm) ∧ dk_Call y_5_isBridge.cls ({ frames := 2, cells := 0, slots := 0, locals := 42 }) prog_1_method_48_code 3 q.2.1 q.1 n Sm :=
  dk_ac ⟨1, s_5_isPlace, rfl, fun hx hb hml hown hts hF => dk_callS e_5_isPlace (dk_ac (dk_tb 543 rfl rfl) wv_5_isPlace) ⟨rfl, rfl⟩ hd_5_isPlace ⟨by decide, by decide⟩ ⟨Nat.zero_le _, Nat.zero_le _⟩ hx hb hml hown hts hF⟩
    (dk_ac ⟨3, s_5_isWithin, rfl, fun hx hb hml hown hts hF => dk_callS e_5_isWithin (dk_ac (dk_tb 316 rfl rfl) wv_5_isWithin) ⟨rfl, rfl⟩ hd_5_isWithin ⟨by decide, by decide⟩ ⟨Nat.zero_le _, Nat.zero_le _⟩ hx hb hml hown hts hF⟩
    (dk_an))
theorem e_5_isBridge : dk_Met y_5_isBridge prog_1_method_48_code 3 (some .boolean) ({ frames := 2, cells := 0, slots := 0, locals := 42 }) s_5_isBridge := dk_met (y := y_5_isBridge) (cc := prog_1_method_48_code) (maxL := 3) (ret := (some .boolean)) (rm := ({ frames := 2, cells := 0, slots := 0, locals := 42 })) (T := t_5_isBridge) (tb := b_5_isBridge) (G := g_5_isBridge) (by decide +kernel) ⟨fun z => absurd z (by decide), fun _ => rfl, fun z => absurd z (by decide), fun z => absurd z (by decide)⟩ (fun _ _ _ _ _ hts hd => tok_5 hts hd) h_5_isBridge k_5_isBridge rfl (fun i kd j h => hc_5_isBridge (i, kd, j) (dk_lk_mem h))
set_option maxRecDepth 20000 in
theorem wv_5_isBridge : ∀ w ∈ [Cond.static y_5_isBridge, Cond.initialized y_5_isBridge.cls, Cond.code y_5_isBridge prog_1_method_48_code 3 (some .boolean)], w ∈ dk_TB := dk_ac (dk_tb 713 rfl rfl) (dk_ac (dk_tb 57 rfl rfl) (dk_ac (dk_tb 714 rfl rfl) (dk_an)))
theorem hd_5_isBridge : y_5_isBridge.cls ≠ "java/lang/invoke/MethodHandle" ∧ y_5_isBridge.cls ≠ "java/lang/invoke/VarHandle" ∧ (parseMethodDescriptor y_5_isBridge.desc).map (fun d => d.parameters.length) = some 3 := by decide +kernel
theorem k_8_floorMod : dk_ckT t_8_floorMod prog_10_method_50_code 3 t_8_floorMod.2.2.1 b_8_floorMod = true := by decide +kernel
set_option maxRecDepth 20000 in
theorem hc_8_floorMod : ∀ q ∈ t_8_floorMod.2.1, ∃ n Sm, dk_nth g_8_floorMod q.2.2 = some (n, Sm) ∧ dk_Call y_8_floorMod.cls ({ frames := 0, cells := 0, slots := 0, locals := 0 }) prog_10_method_50_code 3 q.2.1 q.1 n Sm :=
  dk_an
theorem e_8_floorMod : dk_Met y_8_floorMod prog_10_method_50_code 3 (some .int) ({ frames := 0, cells := 0, slots := 0, locals := 0 }) s_8_floorMod := dk_met (y := y_8_floorMod) (cc := prog_10_method_50_code) (maxL := 3) (ret := (some .int)) (rm := ({ frames := 0, cells := 0, slots := 0, locals := 0 })) (T := t_8_floorMod) (tb := b_8_floorMod) (G := g_8_floorMod) (by decide +kernel) ⟨fun _ => rfl, fun z => absurd z (by decide), fun z => absurd z (by decide), fun z => absurd z (by decide)⟩ (fun _ _ _ _ _ _ _ => tok_n _) h_8_floorMod k_8_floorMod rfl (fun i kd j h => hc_8_floorMod (i, kd, j) (dk_lk_mem h))
set_option maxRecDepth 20000 in
theorem wv_8_floorMod : ∀ w ∈ [Cond.static y_8_floorMod, Cond.initialized y_8_floorMod.cls, Cond.code y_8_floorMod prog_10_method_50_code 3 (some .int)], w ∈ dk_TB := dk_ac (dk_tb 724 rfl rfl) (dk_ac (dk_tb 65 rfl rfl) (dk_ac (dk_tb 725 rfl rfl) (dk_an)))
theorem hd_8_floorMod : y_8_floorMod.cls ≠ "java/lang/invoke/MethodHandle" ∧ y_8_floorMod.cls ≠ "java/lang/invoke/VarHandle" ∧ (parseMethodDescriptor y_8_floorMod.desc).map (fun d => d.parameters.length) = some 2 := by decide +kernel
theorem k_5_treadSoonBehind : dk_ckT t_5_treadSoonBehind prog_1_method_64_code 8 t_5_treadSoonBehind.2.2.1 b_5_treadSoonBehind = true := by decide +kernel
set_option maxRecDepth 20000 in
theorem hc_5_treadSoonBehind : ∀ q ∈ t_5_treadSoonBehind.2.1, ∃ n Sm, dk_nth g_5_treadSoonBehind q.2.2 = some (n, Sm) ∧ dk_Call y_5_treadSoonBehind.cls ({ frames := 1, cells := 0, slots := 0, locals := 22 }) prog_1_method_64_code 8 q.2.1 q.1 n Sm :=
  dk_ac ⟨2, s_8_floorMod, rfl, fun hx hb hml hown hts hF => dk_callS e_8_floorMod (dk_ac (dk_tb 723 rfl rfl) wv_8_floorMod) ⟨rfl, rfl⟩ hd_8_floorMod ⟨by decide, by decide⟩ ⟨Nat.zero_le _, Nat.zero_le _⟩ hx hb hml hown hts hF⟩
    (dk_ac ⟨3, s_5_isWithin, rfl, fun hx hb hml hown hts hF => dk_callS e_5_isWithin (dk_ac (dk_tb 316 rfl rfl) wv_5_isWithin) ⟨rfl, rfl⟩ hd_5_isWithin ⟨by decide, by decide⟩ ⟨Nat.zero_le _, Nat.zero_le _⟩ hx hb hml hown hts hF⟩
    (dk_an))
theorem e_5_treadSoonBehind : dk_Met y_5_treadSoonBehind prog_1_method_64_code 8 (some .int) ({ frames := 1, cells := 0, slots := 0, locals := 22 }) s_5_treadSoonBehind := dk_metV 5 (dk_met (y := y_5_treadSoonBehind) (cc := prog_1_method_64_code) (maxL := 8) (ret := (some .int)) (rm := ({ frames := 1, cells := 0, slots := 0, locals := 22 })) (T := t_5_treadSoonBehind) (tb := b_5_treadSoonBehind) (G := g_5_treadSoonBehind) (by decide +kernel) ⟨fun _ => rfl, fun z => absurd z (by decide), fun z => absurd z (by decide), fun z => absurd z (by decide)⟩ (fun _ _ _ _ _ hts hd => tok_5 hts hd) h_5_treadSoonBehind k_5_treadSoonBehind rfl (fun i kd j h => hc_5_treadSoonBehind (i, kd, j) (dk_lk_mem h)))
set_option maxRecDepth 20000 in
theorem wv_5_treadSoonBehind : ∀ w ∈ [Cond.instanceMethod y_5_treadSoonBehind, Cond.selects y_5_treadSoonBehind.cls y_5_treadSoonBehind y_5_treadSoonBehind, Cond.initialized y_5_treadSoonBehind.cls, Cond.code y_5_treadSoonBehind prog_1_method_64_code 8 (some .int)], w ∈ dk_TB := dk_ac (dk_tb 721 rfl rfl) (dk_ac (dk_tb 23 rfl rfl) (dk_ac (dk_tb 57 rfl rfl) (dk_ac (dk_tb 722 rfl rfl) (dk_an))))
theorem hd_5_treadSoonBehind : y_5_treadSoonBehind.cls ≠ "java/lang/invoke/MethodHandle" ∧ y_5_treadSoonBehind.cls ≠ "java/lang/invoke/VarHandle" ∧ (parseMethodDescriptor y_5_treadSoonBehind.desc).map (fun d => d.parameters.length) = some 4 := by decide +kernel
theorem k_5_togetherOn : dk_ckT t_5_togetherOn prog_1_method_63_code 6 t_5_togetherOn.2.2.1 b_5_togetherOn = true := by decide +kernel
set_option maxRecDepth 20000 in
theorem hc_5_togetherOn : ∀ q ∈ t_5_togetherOn.2.1, ∃ n Sm, dk_nth g_5_togetherOn q.2.2 = some (n, Sm) ∧ dk_Call y_5_togetherOn.cls ({ frames := 2, cells := 0, slots := 0, locals := 49 }) prog_1_method_63_code 6 q.2.1 q.1 n Sm :=
  dk_ac ⟨3, s_5_isWithin, rfl, fun hx hb hml hown hts hF => dk_callS e_5_isWithin (dk_ac (dk_tb 316 rfl rfl) wv_5_isWithin) ⟨rfl, rfl⟩ hd_5_isWithin ⟨by decide, by decide⟩ ⟨Nat.zero_le _, Nat.zero_le _⟩ hx hb hml hown hts hF⟩
    (dk_ac ⟨5, s_5_treadSoonBehind, rfl, fun hx hb hml hown hts hF => dk_callV e_5_treadSoonBehind dk_rcV rfl (dk_ac (dk_tb 719 rfl rfl) wv_5_treadSoonBehind) ⟨rfl, rfl⟩ hd_5_treadSoonBehind ⟨by decide, by decide⟩ ⟨Nat.zero_le _, Nat.zero_le _⟩ hx hb hml hown hts hF⟩
    (dk_ac ⟨2, s_8_max, rfl, fun hx hb hml hown hts hF => dk_callS e_8_max (dk_ac (dk_tb 687 rfl rfl) wv_8_max) ⟨rfl, rfl⟩ hd_8_max ⟨by decide, by decide⟩ ⟨Nat.zero_le _, Nat.zero_le _⟩ hx hb hml hown hts hF⟩
    (dk_an)))
theorem e_5_togetherOn : dk_Met y_5_togetherOn prog_1_method_63_code 6 (some .int) ({ frames := 2, cells := 0, slots := 0, locals := 49 }) s_5_togetherOn := dk_metV 5 (dk_met (y := y_5_togetherOn) (cc := prog_1_method_63_code) (maxL := 6) (ret := (some .int)) (rm := ({ frames := 2, cells := 0, slots := 0, locals := 49 })) (T := t_5_togetherOn) (tb := b_5_togetherOn) (G := g_5_togetherOn) (by decide +kernel) ⟨fun _ => rfl, fun z => absurd z (by decide), fun z => absurd z (by decide), fun z => absurd z (by decide)⟩ (fun _ _ _ _ _ hts hd => tok_5 hts hd) h_5_togetherOn k_5_togetherOn rfl (fun i kd j h => hc_5_togetherOn (i, kd, j) (dk_lk_mem h)))
set_option maxRecDepth 20000 in
theorem wv_5_togetherOn : ∀ w ∈ [Cond.instanceMethod y_5_togetherOn, Cond.selects y_5_togetherOn.cls y_5_togetherOn y_5_togetherOn, Cond.initialized y_5_togetherOn.cls, Cond.code y_5_togetherOn prog_1_method_63_code 6 (some .int)], w ∈ dk_TB := dk_ac (dk_tb 717 rfl rfl) (dk_ac (dk_tb 22 rfl rfl) (dk_ac (dk_tb 57 rfl rfl) (dk_ac (dk_tb 718 rfl rfl) (dk_an))))
theorem hd_5_togetherOn : y_5_togetherOn.cls ≠ "java/lang/invoke/MethodHandle" ∧ y_5_togetherOn.cls ≠ "java/lang/invoke/VarHandle" ∧ (parseMethodDescriptor y_5_togetherOn.desc).map (fun d => d.parameters.length) = some 3 := by decide +kernel
theorem k_5_bridge : dk_ckT t_5_bridge prog_1_method_28_code 5 t_5_bridge.2.2.1 b_5_bridge = true := by decide +kernel
set_option maxRecDepth 20000 in
theorem hc_5_bridge : ∀ q ∈ t_5_bridge.2.1, ∃ n Sm, dk_nth g_5_bridge q.2.2 = some (n, Sm) ∧ dk_Call y_5_bridge.cls ({ frames := 6, cells := 0, slots := 0, locals := 129 }) prog_1_method_28_code 5 q.2.1 q.1 n Sm :=
  dk_ac ⟨3, s_5_isBridge, rfl, fun hx hb hml hown hts hF => dk_callS e_5_isBridge (dk_ac (dk_tb 712 rfl rfl) wv_5_isBridge) ⟨rfl, rfl⟩ hd_5_isBridge ⟨by decide, by decide⟩ ⟨Nat.zero_le _, Nat.zero_le _⟩ hx hb hml hown hts hF⟩
    (dk_ac ⟨1, s_5_isMarch, rfl, fun hx hb hml hown hts hF => dk_callS e_5_isMarch (dk_ac (dk_tb 604 rfl rfl) wv_5_isMarch) ⟨rfl, rfl⟩ hd_5_isMarch ⟨by decide, by decide⟩ ⟨Nat.zero_le _, Nat.zero_le _⟩ hx hb hml hown hts hF⟩
    (dk_ac ⟨2, s_5_finding, rfl, fun hx hb hml hown hts hF => dk_callV e_5_finding dk_rcV rfl (dk_ac (dk_tb 323 rfl rfl) wv_5_finding) ⟨rfl, rfl⟩ hd_5_finding ⟨by decide, by decide⟩ ⟨Nat.zero_le _, Nat.zero_le _⟩ hx hb hml hown hts hF⟩
    (dk_ac ⟨1, s_5_setOut, rfl, fun hx hb hml hown hts hF => dk_callV e_5_setOut dk_rcV rfl (dk_ac (dk_tb 571 rfl rfl) wv_5_setOut) ⟨rfl, rfl⟩ hd_5_setOut ⟨by decide, by decide⟩ ⟨Nat.zero_le _, Nat.zero_le _⟩ hx hb hml hown hts hF⟩
    (dk_ac ⟨2, s_4_walk, rfl, fun hx hb hml hown hts hF => dk_callV e_4_walk dk_rcV rfl (dk_ac (dk_tb 582 rfl rfl) wv_4_walk) ⟨rfl, rfl⟩ hd_4_walk ⟨by decide, by decide⟩ ⟨Nat.zero_le _, Nat.zero_le _⟩ hx hb hml hown hts hF⟩
    (dk_ac ⟨4, s_5_togetherOn, rfl, fun hx hb hml hown hts hF => dk_callV e_5_togetherOn dk_rcV rfl (dk_ac (dk_tb 715 rfl rfl) wv_5_togetherOn) ⟨rfl, rfl⟩ hd_5_togetherOn ⟨by decide, by decide⟩ ⟨Nat.zero_le _, Nat.zero_le _⟩ hx hb hml hown hts hF⟩
    (dk_an))))))
theorem e_5_bridge : dk_Met y_5_bridge prog_1_method_28_code 5 (some .int) ({ frames := 6, cells := 0, slots := 0, locals := 129 }) s_5_bridge := dk_metV 5 (dk_met (y := y_5_bridge) (cc := prog_1_method_28_code) (maxL := 5) (ret := (some .int)) (rm := ({ frames := 6, cells := 0, slots := 0, locals := 129 })) (T := t_5_bridge) (tb := b_5_bridge) (G := g_5_bridge) (by decide +kernel) ⟨fun _ => rfl, fun z => absurd z (by decide), fun z => absurd z (by decide), fun z => absurd z (by decide)⟩ (fun _ _ _ _ _ hts hd => tok_5 hts hd) h_5_bridge k_5_bridge rfl (fun i kd j h => hc_5_bridge (i, kd, j) (dk_lk_mem h)))
set_option maxRecDepth 20000 in
theorem wv_5_bridge : ∀ w ∈ [Cond.instanceMethod y_5_bridge, Cond.selects y_5_bridge.cls y_5_bridge y_5_bridge, Cond.initialized y_5_bridge.cls, Cond.code y_5_bridge prog_1_method_28_code 5 (some .int)], w ∈ dk_TB := dk_ac (dk_tb 709 rfl rfl) (dk_ac (dk_tb 710 rfl rfl) (dk_ac (dk_tb 57 rfl rfl) (dk_ac (dk_tb 711 rfl rfl) (dk_an))))
theorem hd_5_bridge : y_5_bridge.cls ≠ "java/lang/invoke/MethodHandle" ∧ y_5_bridge.cls ≠ "java/lang/invoke/VarHandle" ∧ (parseMethodDescriptor y_5_bridge.desc).map (fun d => d.parameters.length) = some 4 := by decide +kernel
theorem k_5_broken : dk_ckT t_5_broken prog_1_method_29_code 6 t_5_broken.2.2.1 b_5_broken = true := by decide +kernel
set_option maxRecDepth 20000 in
theorem hc_5_broken : ∀ q ∈ t_5_broken.2.1, ∃ n Sm, dk_nth g_5_broken q.2.2 = some (n, Sm) ∧ dk_Call y_5_broken.cls ({ frames := 6, cells := 0, slots := 0, locals := 129 }) prog_1_method_29_code 6 q.2.1 q.1 n Sm :=
  dk_ac ⟨3, s_5_isBridge, rfl, fun hx hb hml hown hts hF => dk_callS e_5_isBridge (dk_ac (dk_tb 712 rfl rfl) wv_5_isBridge) ⟨rfl, rfl⟩ hd_5_isBridge ⟨by decide, by decide⟩ ⟨Nat.zero_le _, Nat.zero_le _⟩ hx hb hml hown hts hF⟩
    (dk_ac ⟨3, s_5_isWithin, rfl, fun hx hb hml hown hts hF => dk_callS e_5_isWithin (dk_ac (dk_tb 316 rfl rfl) wv_5_isWithin) ⟨rfl, rfl⟩ hd_5_isWithin ⟨by decide, by decide⟩ ⟨Nat.zero_le _, Nat.zero_le _⟩ hx hb hml hown hts hF⟩
    (dk_ac ⟨2, s_5_finding, rfl, fun hx hb hml hown hts hF => dk_callV e_5_finding dk_rcV rfl (dk_ac (dk_tb 323 rfl rfl) wv_5_finding) ⟨rfl, rfl⟩ hd_5_finding ⟨by decide, by decide⟩ ⟨Nat.zero_le _, Nat.zero_le _⟩ hx hb hml hown hts hF⟩
    (dk_ac ⟨1, s_5_setOut, rfl, fun hx hb hml hown hts hF => dk_callV e_5_setOut dk_rcV rfl (dk_ac (dk_tb 571 rfl rfl) wv_5_setOut) ⟨rfl, rfl⟩ hd_5_setOut ⟨by decide, by decide⟩ ⟨Nat.zero_le _, Nat.zero_le _⟩ hx hb hml hown hts hF⟩
    (dk_ac ⟨4, s_5_togetherOn, rfl, fun hx hb hml hown hts hF => dk_callV e_5_togetherOn dk_rcV rfl (dk_ac (dk_tb 715 rfl rfl) wv_5_togetherOn) ⟨rfl, rfl⟩ hd_5_togetherOn ⟨by decide, by decide⟩ ⟨Nat.zero_le _, Nat.zero_le _⟩ hx hb hml hown hts hF⟩
    (dk_ac ⟨1, s_4_step, rfl, fun hx hb hml hown hts hF => dk_callV e_4_step dk_rcV rfl (dk_ac (dk_tb 620 rfl rfl) wv_4_step) ⟨rfl, rfl⟩ hd_4_step ⟨by decide, by decide⟩ ⟨Nat.zero_le _, Nat.zero_le _⟩ hx hb hml hown hts hF⟩
    (dk_an))))))
theorem e_5_broken : dk_Met y_5_broken prog_1_method_29_code 6 (some .int) ({ frames := 6, cells := 0, slots := 0, locals := 129 }) s_5_broken := dk_metV 5 (dk_met (y := y_5_broken) (cc := prog_1_method_29_code) (maxL := 6) (ret := (some .int)) (rm := ({ frames := 6, cells := 0, slots := 0, locals := 129 })) (T := t_5_broken) (tb := b_5_broken) (G := g_5_broken) (by decide +kernel) ⟨fun _ => rfl, fun z => absurd z (by decide), fun z => absurd z (by decide), fun z => absurd z (by decide)⟩ (fun _ _ _ _ _ hts hd => tok_5 hts hd) h_5_broken k_5_broken rfl (fun i kd j h => hc_5_broken (i, kd, j) (dk_lk_mem h)))
set_option maxRecDepth 20000 in
theorem wv_5_broken : ∀ w ∈ [Cond.instanceMethod y_5_broken, Cond.selects y_5_broken.cls y_5_broken y_5_broken, Cond.initialized y_5_broken.cls, Cond.code y_5_broken prog_1_method_29_code 6 (some .int)], w ∈ dk_TB := dk_ac (dk_tb 727 rfl rfl) (dk_ac (dk_tb 728 rfl rfl) (dk_ac (dk_tb 57 rfl rfl) (dk_ac (dk_tb 729 rfl rfl) (dk_an))))
theorem hd_5_broken : y_5_broken.cls ≠ "java/lang/invoke/MethodHandle" ∧ y_5_broken.cls ≠ "java/lang/invoke/VarHandle" ∧ (parseMethodDescriptor y_5_broken.desc).map (fun d => d.parameters.length) = some 4 := by decide +kernel
theorem k_5_seed : dk_ckT t_5_seed prog_1_method_30_code 3 t_5_seed.2.2.1 b_5_seed = true := by decide +kernel
set_option maxRecDepth 20000 in
theorem hc_5_seed : ∀ q ∈ t_5_seed.2.1, ∃ n Sm, dk_nth g_5_seed q.2.2 = some (n, Sm) ∧ dk_Call y_5_seed.cls ({ frames := 0, cells := 0, slots := 0, locals := 0 }) prog_1_method_30_code 3 q.2.1 q.1 n Sm :=
  dk_an
theorem e_5_seed : dk_Met y_5_seed prog_1_method_30_code 3 (some .int) ({ frames := 0, cells := 0, slots := 0, locals := 0 }) s_5_seed := dk_metV 5 (dk_met (y := y_5_seed) (cc := prog_1_method_30_code) (maxL := 3) (ret := (some .int)) (rm := ({ frames := 0, cells := 0, slots := 0, locals := 0 })) (T := t_5_seed) (tb := b_5_seed) (G := g_5_seed) (by decide +kernel) ⟨fun _ => rfl, fun z => absurd z (by decide), fun z => absurd z (by decide), fun z => absurd z (by decide)⟩ (fun _ _ _ _ _ hts hd => tok_5 hts hd) h_5_seed k_5_seed rfl (fun i kd j h => hc_5_seed (i, kd, j) (dk_lk_mem h)))
set_option maxRecDepth 20000 in
theorem wv_5_seed : ∀ w ∈ [Cond.instanceMethod y_5_seed, Cond.selects y_5_seed.cls y_5_seed y_5_seed, Cond.initialized y_5_seed.cls, Cond.code y_5_seed prog_1_method_30_code 3 (some .int)], w ∈ dk_TB := dk_ac (dk_tb 731 rfl rfl) (dk_ac (dk_tb 732 rfl rfl) (dk_ac (dk_tb 57 rfl rfl) (dk_ac (dk_tb 733 rfl rfl) (dk_an))))
theorem hd_5_seed : y_5_seed.cls ≠ "java/lang/invoke/MethodHandle" ∧ y_5_seed.cls ≠ "java/lang/invoke/VarHandle" ∧ (parseMethodDescriptor y_5_seed.desc).map (fun d => d.parameters.length) = some 1 := by decide +kernel
theorem k_0_draw : dk_ckT t_0_draw prog_2_method_15_code 1 t_0_draw.2.2.1 b_0_draw = true := by decide +kernel
set_option maxRecDepth 20000 in
theorem hc_0_draw : ∀ q ∈ t_0_draw.2.1, ∃ n Sm, dk_nth g_0_draw q.2.2 = some (n, Sm) ∧ dk_Call y_0_draw.cls ({ frames := 0, cells := 0, slots := 0, locals := 0 }) prog_2_method_15_code 1 q.2.1 q.1 n Sm :=
  dk_an
theorem e_0_draw : dk_Met y_0_draw prog_2_method_15_code 1 (some .int) ({ frames := 0, cells := 0, slots := 0, locals := 0 }) s_0_draw := dk_metV 0 (dk_met (y := y_0_draw) (cc := prog_2_method_15_code) (maxL := 1) (ret := (some .int)) (rm := ({ frames := 0, cells := 0, slots := 0, locals := 0 })) (T := t_0_draw) (tb := b_0_draw) (G := g_0_draw) (by decide +kernel) ⟨fun _ => rfl, fun z => absurd z (by decide), fun z => absurd z (by decide), fun z => absurd z (by decide)⟩ (fun _ _ _ _ _ hts hd => tok_0 hts hd) h_0_draw k_0_draw rfl (fun i kd j h => hc_0_draw (i, kd, j) (dk_lk_mem h)))
set_option maxRecDepth 20000 in
theorem wv_0_draw : ∀ w ∈ [Cond.instanceMethod y_0_draw, Cond.selects y_0_draw.cls y_0_draw y_0_draw, Cond.initialized y_0_draw.cls, Cond.code y_0_draw prog_2_method_15_code 1 (some .int)], w ∈ dk_TB := dk_ac (dk_tb 739 rfl rfl) (dk_ac (dk_tb 740 rfl rfl) (dk_ac (dk_tb 58 rfl rfl) (dk_ac (dk_tb 741 rfl rfl) (dk_an))))
theorem hd_0_draw : y_0_draw.cls ≠ "java/lang/invoke/MethodHandle" ∧ y_0_draw.cls ≠ "java/lang/invoke/VarHandle" ∧ (parseMethodDescriptor y_0_draw.desc).map (fun d => d.parameters.length) = some 0 := by decide +kernel
theorem k_5_shake : dk_ckT t_5_shake prog_1_method_31_code 3 t_5_shake.2.2.1 b_5_shake = true := by decide +kernel
set_option maxRecDepth 20000 in
theorem hc_5_shake : ∀ q ∈ t_5_shake.2.1, ∃ n Sm, dk_nth g_5_shake q.2.2 = some (n, Sm) ∧ dk_Call y_5_shake.cls ({ frames := 2, cells := 0, slots := 0, locals := 44 }) prog_1_method_31_code 3 q.2.1 q.1 n Sm :=
  dk_ac ⟨3, s_5_isWithin, rfl, fun hx hb hml hown hts hF => dk_callS e_5_isWithin (dk_ac (dk_tb 316 rfl rfl) wv_5_isWithin) ⟨rfl, rfl⟩ hd_5_isWithin ⟨by decide, by decide⟩ ⟨Nat.zero_le _, Nat.zero_le _⟩ hx hb hml hown hts hF⟩
    (dk_ac ⟨2, s_5_finding, rfl, fun hx hb hml hown hts hF => dk_callV e_5_finding dk_rcV rfl (dk_ac (dk_tb 323 rfl rfl) wv_5_finding) ⟨rfl, rfl⟩ hd_5_finding ⟨by decide, by decide⟩ ⟨Nat.zero_le _, Nat.zero_le _⟩ hx hb hml hown hts hF⟩
    (dk_ac ⟨1, s_0_draw, rfl, fun hx hb hml hown hts hF => dk_callV e_0_draw dk_rcV rfl (dk_ac (dk_tb 738 rfl rfl) wv_0_draw) ⟨rfl, rfl⟩ hd_0_draw ⟨by decide, by decide⟩ ⟨Nat.zero_le _, Nat.zero_le _⟩ hx hb hml hown hts hF⟩
    (dk_ac ⟨2, s_0_wrap, rfl, fun hx hb hml hown hts hF => dk_callV e_0_wrap dk_rcV rfl (dk_ac (dk_tb 538 rfl rfl) wv_0_wrap) ⟨rfl, rfl⟩ hd_0_wrap ⟨by decide, by decide⟩ ⟨Nat.zero_le _, Nat.zero_le _⟩ hx hb hml hown hts hF⟩
    (dk_ac ⟨2, s_0_worstOf, rfl, fun hx hb hml hown hts hF => dk_callV e_0_worstOf dk_rcV rfl (dk_ac (dk_tb 593 rfl rfl) wv_0_worstOf) ⟨rfl, rfl⟩ hd_0_worstOf ⟨by decide, by decide⟩ ⟨Nat.zero_le _, Nat.zero_le _⟩ hx hb hml hown hts hF⟩
    (dk_an)))))
theorem e_5_shake : dk_Met y_5_shake prog_1_method_31_code 3 (some .int) ({ frames := 2, cells := 0, slots := 0, locals := 44 }) s_5_shake := dk_metV 5 (dk_met (y := y_5_shake) (cc := prog_1_method_31_code) (maxL := 3) (ret := (some .int)) (rm := ({ frames := 2, cells := 0, slots := 0, locals := 44 })) (T := t_5_shake) (tb := b_5_shake) (G := g_5_shake) (by decide +kernel) ⟨fun _ => rfl, fun z => absurd z (by decide), fun z => absurd z (by decide), fun z => absurd z (by decide)⟩ (fun _ _ _ _ _ hts hd => tok_5 hts hd) h_5_shake k_5_shake rfl (fun i kd j h => hc_5_shake (i, kd, j) (dk_lk_mem h)))
set_option maxRecDepth 20000 in
theorem wv_5_shake : ∀ w ∈ [Cond.instanceMethod y_5_shake, Cond.selects y_5_shake.cls y_5_shake y_5_shake, Cond.initialized y_5_shake.cls, Cond.code y_5_shake prog_1_method_31_code 3 (some .int)], w ∈ dk_TB := dk_ac (dk_tb 735 rfl rfl) (dk_ac (dk_tb 736 rfl rfl) (dk_ac (dk_tb 57 rfl rfl) (dk_ac (dk_tb 737 rfl rfl) (dk_an))))
theorem hd_5_shake : y_5_shake.cls ≠ "java/lang/invoke/MethodHandle" ∧ y_5_shake.cls ≠ "java/lang/invoke/VarHandle" ∧ (parseMethodDescriptor y_5_shake.desc).map (fun d => d.parameters.length) = some 1 := by decide +kernel
theorem k_5_hold : dk_ckT t_5_hold prog_1_method_32_code 3 t_5_hold.2.2.1 b_5_hold = true := by decide +kernel
set_option maxRecDepth 20000 in
theorem hc_5_hold : ∀ q ∈ t_5_hold.2.1, ∃ n Sm, dk_nth g_5_hold q.2.2 = some (n, Sm) ∧ dk_Call y_5_hold.cls ({ frames := 1, cells := 0, slots := 0, locals := 22 }) prog_1_method_32_code 3 q.2.1 q.1 n Sm :=
  dk_ac ⟨3, s_5_isWithin, rfl, fun hx hb hml hown hts hF => dk_callS e_5_isWithin (dk_ac (dk_tb 316 rfl rfl) wv_5_isWithin) ⟨rfl, rfl⟩ hd_5_isWithin ⟨by decide, by decide⟩ ⟨Nat.zero_le _, Nat.zero_le _⟩ hx hb hml hown hts hF⟩
    (dk_ac ⟨2, s_0_hasRank, rfl, fun hx hb hml hown hts hF => dk_callV e_0_hasRank dk_rcV rfl (dk_ac (dk_tb 470 rfl rfl) wv_0_hasRank) ⟨rfl, rfl⟩ hd_0_hasRank ⟨by decide, by decide⟩ ⟨Nat.zero_le _, Nat.zero_le _⟩ hx hb hml hown hts hF⟩
    (dk_ac ⟨2, s_5_finding, rfl, fun hx hb hml hown hts hF => dk_callV e_5_finding dk_rcV rfl (dk_ac (dk_tb 323 rfl rfl) wv_5_finding) ⟨rfl, rfl⟩ hd_5_finding ⟨by decide, by decide⟩ ⟨Nat.zero_le _, Nat.zero_le _⟩ hx hb hml hown hts hF⟩
    (dk_an)))
theorem e_5_hold : dk_Met y_5_hold prog_1_method_32_code 3 (some .int) ({ frames := 1, cells := 0, slots := 0, locals := 22 }) s_5_hold := dk_metV 5 (dk_met (y := y_5_hold) (cc := prog_1_method_32_code) (maxL := 3) (ret := (some .int)) (rm := ({ frames := 1, cells := 0, slots := 0, locals := 22 })) (T := t_5_hold) (tb := b_5_hold) (G := g_5_hold) (by decide +kernel) ⟨fun _ => rfl, fun z => absurd z (by decide), fun z => absurd z (by decide), fun z => absurd z (by decide)⟩ (fun _ _ _ _ _ hts hd => tok_5 hts hd) h_5_hold k_5_hold rfl (fun i kd j h => hc_5_hold (i, kd, j) (dk_lk_mem h)))
set_option maxRecDepth 20000 in
theorem wv_5_hold : ∀ w ∈ [Cond.instanceMethod y_5_hold, Cond.selects y_5_hold.cls y_5_hold y_5_hold, Cond.initialized y_5_hold.cls, Cond.code y_5_hold prog_1_method_32_code 3 (some .int)], w ∈ dk_TB := dk_ac (dk_tb 744 rfl rfl) (dk_ac (dk_tb 745 rfl rfl) (dk_ac (dk_tb 57 rfl rfl) (dk_ac (dk_tb 746 rfl rfl) (dk_an))))
theorem hd_5_hold : y_5_hold.cls ≠ "java/lang/invoke/MethodHandle" ∧ y_5_hold.cls ≠ "java/lang/invoke/VarHandle" ∧ (parseMethodDescriptor y_5_hold.desc).map (fun d => d.parameters.length) = some 2 := by decide +kernel
end
section
/-! THE METHODS: their contracts -/
theorem k_5_isUnder : dk_ckT t_5_isUnder prog_1_method_54_code 4 t_5_isUnder.2.2.1 b_5_isUnder = true := by decide +kernel
set_option maxRecDepth 20000 in
theorem hc_5_isUnder : ∀ q ∈ t_5_isUnder.2.1, ∃ n Sm, dk_nth g_5_isUnder q.2.2 = some (n, Sm) ∧ dk_Call y_5_isUnder.cls ({ frames := 0, cells := 0, slots := 0, locals := 0 }) prog_1_method_54_code 4 q.2.1 q.1 n Sm :=
  dk_an
theorem e_5_isUnder : dk_Met y_5_isUnder prog_1_method_54_code 4 (some .boolean) ({ frames := 0, cells := 0, slots := 0, locals := 0 }) s_5_isUnder := dk_met (y := y_5_isUnder) (cc := prog_1_method_54_code) (maxL := 4) (ret := (some .boolean)) (rm := ({ frames := 0, cells := 0, slots := 0, locals := 0 })) (T := t_5_isUnder) (tb := b_5_isUnder) (G := g_5_isUnder) (by decide +kernel) ⟨fun z => absurd z (by decide), fun _ => rfl, fun z => absurd z (by decide), fun z => absurd z (by decide)⟩ (fun _ _ _ _ _ hts hd => tok_5 hts hd) h_5_isUnder k_5_isUnder rfl (fun i kd j h => hc_5_isUnder (i, kd, j) (dk_lk_mem h))
set_option maxRecDepth 20000 in
theorem wv_5_isUnder : ∀ w ∈ [Cond.static y_5_isUnder, Cond.initialized y_5_isUnder.cls, Cond.code y_5_isUnder prog_1_method_54_code 4 (some .boolean)], w ∈ dk_TB := dk_ac (dk_tb 752 rfl rfl) (dk_ac (dk_tb 57 rfl rfl) (dk_ac (dk_tb 753 rfl rfl) (dk_an)))
theorem hd_5_isUnder : y_5_isUnder.cls ≠ "java/lang/invoke/MethodHandle" ∧ y_5_isUnder.cls ≠ "java/lang/invoke/VarHandle" ∧ (parseMethodDescriptor y_5_isUnder.desc).map (fun d => d.parameters.length) = some 2 := by decide +kernel
theorem k_5_as : dk_ckT t_5_as prog_1_method_33_code 4 t_5_as.2.2.1 b_5_as = true := by decide +kernel
set_option maxRecDepth 20000 in
theorem hc_5_as : ∀ q ∈ t_5_as.2.1, ∃ n Sm, dk_nth g_5_as q.2.2 = some (n, Sm) ∧ dk_Call y_5_as.cls ({ frames := 1, cells := 0, slots := 0, locals := 23 }) prog_1_method_33_code 4 q.2.1 q.1 n Sm :=
  dk_ac ⟨3, s_5_isWithin, rfl, fun hx hb hml hown hts hF => dk_callS e_5_isWithin (dk_ac (dk_tb 316 rfl rfl) wv_5_isWithin) ⟨rfl, rfl⟩ hd_5_isWithin ⟨by decide, by decide⟩ ⟨Nat.zero_le _, Nat.zero_le _⟩ hx hb hml hown hts hF⟩
    (dk_ac ⟨2, s_5_finding, rfl, fun hx hb hml hown hts hF => dk_callV e_5_finding dk_rcV rfl (dk_ac (dk_tb 323 rfl rfl) wv_5_finding) ⟨rfl, rfl⟩ hd_5_finding ⟨by decide, by decide⟩ ⟨Nat.zero_le _, Nat.zero_le _⟩ hx hb hml hown hts hF⟩
    (dk_ac ⟨2, s_0_hasRank, rfl, fun hx hb hml hown hts hF => dk_callV e_0_hasRank dk_rcV rfl (dk_ac (dk_tb 470 rfl rfl) wv_0_hasRank) ⟨rfl, rfl⟩ hd_0_hasRank ⟨by decide, by decide⟩ ⟨Nat.zero_le _, Nat.zero_le _⟩ hx hb hml hown hts hF⟩
    (dk_ac ⟨2, s_5_isUnder, rfl, fun hx hb hml hown hts hF => dk_callS e_5_isUnder (dk_ac (dk_tb 751 rfl rfl) wv_5_isUnder) ⟨rfl, rfl⟩ hd_5_isUnder ⟨by decide, by decide⟩ ⟨Nat.zero_le _, Nat.zero_le _⟩ hx hb hml hown hts hF⟩
    (dk_an))))
theorem e_5_as : dk_Met y_5_as prog_1_method_33_code 4 (some .int) ({ frames := 1, cells := 0, slots := 0, locals := 23 }) s_5_as := dk_metV 5 (dk_met (y := y_5_as) (cc := prog_1_method_33_code) (maxL := 4) (ret := (some .int)) (rm := ({ frames := 1, cells := 0, slots := 0, locals := 23 })) (T := t_5_as) (tb := b_5_as) (G := g_5_as) (by decide +kernel) ⟨fun _ => rfl, fun z => absurd z (by decide), fun z => absurd z (by decide), fun z => absurd z (by decide)⟩ (fun _ _ _ _ _ hts hd => tok_5 hts hd) h_5_as k_5_as rfl (fun i kd j h => hc_5_as (i, kd, j) (dk_lk_mem h)))
set_option maxRecDepth 20000 in
theorem wv_5_as : ∀ w ∈ [Cond.instanceMethod y_5_as, Cond.selects y_5_as.cls y_5_as y_5_as, Cond.initialized y_5_as.cls, Cond.code y_5_as prog_1_method_33_code 4 (some .int)], w ∈ dk_TB := dk_ac (dk_tb 748 rfl rfl) (dk_ac (dk_tb 749 rfl rfl) (dk_ac (dk_tb 57 rfl rfl) (dk_ac (dk_tb 750 rfl rfl) (dk_an))))
theorem hd_5_as : y_5_as.cls ≠ "java/lang/invoke/MethodHandle" ∧ y_5_as.cls ≠ "java/lang/invoke/VarHandle" ∧ (parseMethodDescriptor y_5_as.desc).map (fun d => d.parameters.length) = some 2 := by decide +kernel
theorem k_5_isSheet : dk_ckT t_5_isSheet prog_1_method_49_code 1 t_5_isSheet.2.2.1 b_5_isSheet = true := by decide +kernel
set_option maxRecDepth 20000 in
theorem hc_5_isSheet : ∀ q ∈ t_5_isSheet.2.1, ∃ n Sm, dk_nth g_5_isSheet q.2.2 = some (n, Sm) ∧ dk_Call y_5_isSheet.cls ({ frames := 1, cells := 0, slots := 0, locals := 22 }) prog_1_method_49_code 1 q.2.1 q.1 n Sm :=
  dk_ac ⟨3, s_5_isWithin, rfl, fun hx hb hml hown hts hF => dk_callS e_5_isWithin (dk_ac (dk_tb 316 rfl rfl) wv_5_isWithin) ⟨rfl, rfl⟩ hd_5_isWithin ⟨by decide, by decide⟩ ⟨Nat.zero_le _, Nat.zero_le _⟩ hx hb hml hown hts hF⟩
    (dk_an)
theorem e_5_isSheet : dk_Met y_5_isSheet prog_1_method_49_code 1 (some .boolean) ({ frames := 1, cells := 0, slots := 0, locals := 22 }) s_5_isSheet := dk_met (y := y_5_isSheet) (cc := prog_1_method_49_code) (maxL := 1) (ret := (some .boolean)) (rm := ({ frames := 1, cells := 0, slots := 0, locals := 22 })) (T := t_5_isSheet) (tb := b_5_isSheet) (G := g_5_isSheet) (by decide +kernel) ⟨fun z => absurd z (by decide), fun _ => rfl, fun z => absurd z (by decide), fun z => absurd z (by decide)⟩ (fun _ _ _ _ _ hts hd => tok_5 hts hd) h_5_isSheet k_5_isSheet rfl (fun i kd j h => hc_5_isSheet (i, kd, j) (dk_lk_mem h))
set_option maxRecDepth 20000 in
theorem wv_5_isSheet : ∀ w ∈ [Cond.static y_5_isSheet, Cond.initialized y_5_isSheet.cls, Cond.code y_5_isSheet prog_1_method_49_code 1 (some .boolean)], w ∈ dk_TB := dk_ac (dk_tb 761 rfl rfl) (dk_ac (dk_tb 57 rfl rfl) (dk_ac (dk_tb 762 rfl rfl) (dk_an)))
theorem hd_5_isSheet : y_5_isSheet.cls ≠ "java/lang/invoke/MethodHandle" ∧ y_5_isSheet.cls ≠ "java/lang/invoke/VarHandle" ∧ (parseMethodDescriptor y_5_isSheet.desc).map (fun d => d.parameters.length) = some 1 := by decide +kernel
theorem k_2_makeAnew : dk_ckT t_2_makeAnew prog_4_method_3_code 3 t_2_makeAnew.2.2.1 b_2_makeAnew = true := by decide +kernel
set_option maxRecDepth 20000 in
theorem hc_2_makeAnew : ∀ q ∈ t_2_makeAnew.2.1, ∃ n Sm, dk_nth g_2_makeAnew q.2.2 = some (n, Sm) ∧ dk_Call y_2_makeAnew.cls ({ frames := 1, cells := 0, slots := 0, locals := 23 }) prog_4_method_3_code 3 q.2.1 q.1 n Sm :=
  dk_ac ⟨2, s_9_fill, rfl, fun hx hb hml hown hts hF => dk_callS e_9_fill (dk_ac (dk_tb 767 rfl rfl) wv_9_fill) ⟨rfl, rfl⟩ hd_9_fill ⟨by decide, by decide⟩ ⟨Nat.zero_le _, Nat.zero_le _⟩ hx hb hml hown hts hF⟩
    (dk_an)
theorem e_2_makeAnew : dk_Met y_2_makeAnew prog_4_method_3_code 3 none ({ frames := 1, cells := 0, slots := 0, locals := 23 }) s_2_makeAnew := dk_metV 2 (dk_met (y := y_2_makeAnew) (cc := prog_4_method_3_code) (maxL := 3) (ret := none) (rm := ({ frames := 1, cells := 0, slots := 0, locals := 23 })) (T := t_2_makeAnew) (tb := b_2_makeAnew) (G := g_2_makeAnew) (by decide +kernel) ⟨fun z => absurd z (by decide), fun z => absurd z (by decide), fun _ => rfl, fun z => absurd z (by decide)⟩ (fun _ _ _ _ _ hts hd => tok_2 hts hd) h_2_makeAnew k_2_makeAnew rfl (fun i kd j h => hc_2_makeAnew (i, kd, j) (dk_lk_mem h)))
set_option maxRecDepth 20000 in
theorem wv_2_makeAnew : ∀ w ∈ [Cond.instanceMethod y_2_makeAnew, Cond.selects y_2_makeAnew.cls y_2_makeAnew y_2_makeAnew, Cond.initialized y_2_makeAnew.cls, Cond.code y_2_makeAnew prog_4_method_3_code 3 none], w ∈ dk_TB := dk_ac (dk_tb 764 rfl rfl) (dk_ac (dk_tb 765 rfl rfl) (dk_ac (dk_tb 63 rfl rfl) (dk_ac (dk_tb 766 rfl rfl) (dk_an))))
theorem hd_2_makeAnew : y_2_makeAnew.cls ≠ "java/lang/invoke/MethodHandle" ∧ y_2_makeAnew.cls ≠ "java/lang/invoke/VarHandle" ∧ (parseMethodDescriptor y_2_makeAnew.desc).map (fun d => d.parameters.length) = some 2 := by decide +kernel
theorem k_5_sheet : dk_ckT t_5_sheet prog_1_method_34_code 4 t_5_sheet.2.2.1 b_5_sheet = true := by decide +kernel
set_option maxRecDepth 20000 in
theorem hc_5_sheet : ∀ q ∈ t_5_sheet.2.1, ∃ n Sm, dk_nth g_5_sheet q.2.2 = some (n, Sm) ∧ dk_Call y_5_sheet.cls ({ frames := 2, cells := 0, slots := 0, locals := 45 }) prog_1_method_34_code 4 q.2.1 q.1 n Sm :=
  dk_ac ⟨1, s_5_isSheet, rfl, fun hx hb hml hown hts hF => dk_callS e_5_isSheet (dk_ac (dk_tb 760 rfl rfl) wv_5_isSheet) ⟨rfl, rfl⟩ hd_5_isSheet ⟨by decide, by decide⟩ ⟨Nat.zero_le _, Nat.zero_le _⟩ hx hb hml hown hts hF⟩
    (dk_ac ⟨2, s_5_finding, rfl, fun hx hb hml hown hts hF => dk_callV e_5_finding dk_rcV rfl (dk_ac (dk_tb 323 rfl rfl) wv_5_finding) ⟨rfl, rfl⟩ hd_5_finding ⟨by decide, by decide⟩ ⟨Nat.zero_le _, Nat.zero_le _⟩ hx hb hml hown hts hF⟩
    (dk_ac ⟨3, s_2_makeAnew, rfl, fun hx hb hml hown hts hF => dk_callV e_2_makeAnew dk_rcV rfl (dk_ac (dk_tb 763 rfl rfl) wv_2_makeAnew) ⟨rfl, rfl⟩ hd_2_makeAnew ⟨by decide, by decide⟩ ⟨Nat.zero_le _, Nat.zero_le _⟩ hx hb hml hown hts hF⟩
    (dk_an)))
theorem e_5_sheet : dk_Met y_5_sheet prog_1_method_34_code 4 (some .int) ({ frames := 2, cells := 0, slots := 0, locals := 45 }) s_5_sheet := dk_metV 5 (dk_met (y := y_5_sheet) (cc := prog_1_method_34_code) (maxL := 4) (ret := (some .int)) (rm := ({ frames := 2, cells := 0, slots := 0, locals := 45 })) (T := t_5_sheet) (tb := b_5_sheet) (G := g_5_sheet) (by decide +kernel) ⟨fun _ => rfl, fun z => absurd z (by decide), fun z => absurd z (by decide), fun z => absurd z (by decide)⟩ (fun _ _ _ _ _ hts hd => tok_5 hts hd) h_5_sheet k_5_sheet rfl (fun i kd j h => hc_5_sheet (i, kd, j) (dk_lk_mem h)))
set_option maxRecDepth 20000 in
theorem wv_5_sheet : ∀ w ∈ [Cond.instanceMethod y_5_sheet, Cond.selects y_5_sheet.cls y_5_sheet y_5_sheet, Cond.initialized y_5_sheet.cls, Cond.code y_5_sheet prog_1_method_34_code 4 (some .int)], w ∈ dk_TB := dk_ac (dk_tb 757 rfl rfl) (dk_ac (dk_tb 758 rfl rfl) (dk_ac (dk_tb 57 rfl rfl) (dk_ac (dk_tb 759 rfl rfl) (dk_an))))
theorem hd_5_sheet : y_5_sheet.cls ≠ "java/lang/invoke/MethodHandle" ∧ y_5_sheet.cls ≠ "java/lang/invoke/VarHandle" ∧ (parseMethodDescriptor y_5_sheet.desc).map (fun d => d.parameters.length) = some 3 := by decide +kernel
theorem k_2_isMissing : dk_ckT t_2_isMissing prog_4_method_2_code 1 t_2_isMissing.2.2.1 b_2_isMissing = true := by decide +kernel
set_option maxRecDepth 20000 in
theorem hc_2_isMissing : ∀ q ∈ t_2_isMissing.2.1, ∃ n Sm, dk_nth g_2_isMissing q.2.2 = some (n, Sm) ∧ dk_Call y_2_isMissing.cls ({ frames := 0, cells := 0, slots := 0, locals := 0 }) prog_4_method_2_code 1 q.2.1 q.1 n Sm :=
  dk_an
theorem e_2_isMissing : dk_Met y_2_isMissing prog_4_method_2_code 1 (some .boolean) ({ frames := 0, cells := 0, slots := 0, locals := 0 }) s_2_isMissing := dk_metV 2 (dk_met (y := y_2_isMissing) (cc := prog_4_method_2_code) (maxL := 1) (ret := (some .boolean)) (rm := ({ frames := 0, cells := 0, slots := 0, locals := 0 })) (T := t_2_isMissing) (tb := b_2_isMissing) (G := g_2_isMissing) (by decide +kernel) ⟨fun z => absurd z (by decide), fun _ => rfl, fun z => absurd z (by decide), fun z => absurd z (by decide)⟩ (fun _ _ _ _ _ hts hd => tok_2 hts hd) h_2_isMissing k_2_isMissing rfl (fun i kd j h => hc_2_isMissing (i, kd, j) (dk_lk_mem h)))
set_option maxRecDepth 20000 in
theorem wv_2_isMissing : ∀ w ∈ [Cond.instanceMethod y_2_isMissing, Cond.selects y_2_isMissing.cls y_2_isMissing y_2_isMissing, Cond.initialized y_2_isMissing.cls, Cond.code y_2_isMissing prog_4_method_2_code 1 (some .boolean)], w ∈ dk_TB := dk_ac (dk_tb 773 rfl rfl) (dk_ac (dk_tb 774 rfl rfl) (dk_ac (dk_tb 63 rfl rfl) (dk_ac (dk_tb 775 rfl rfl) (dk_an))))
theorem hd_2_isMissing : y_2_isMissing.cls ≠ "java/lang/invoke/MethodHandle" ∧ y_2_isMissing.cls ≠ "java/lang/invoke/VarHandle" ∧ (parseMethodDescriptor y_2_isMissing.desc).map (fun d => d.parameters.length) = some 0 := by decide +kernel
theorem k_2_put : dk_ckT t_2_put prog_4_method_4_code 3 t_2_put.2.2.1 b_2_put = true := by decide +kernel
set_option maxRecDepth 20000 in
theorem hc_2_put : ∀ q ∈ t_2_put.2.1, ∃ n Sm, dk_nth g_2_put q.2.2 = some (n, Sm) ∧ dk_Call y_2_put.cls ({ frames := 0, cells := 0, slots := 0, locals := 0 }) prog_4_method_4_code 3 q.2.1 q.1 n Sm :=
  dk_an
theorem e_2_put : dk_Met y_2_put prog_4_method_4_code 3 none ({ frames := 0, cells := 0, slots := 0, locals := 0 }) s_2_put := dk_metV 2 (dk_met (y := y_2_put) (cc := prog_4_method_4_code) (maxL := 3) (ret := none) (rm := ({ frames := 0, cells := 0, slots := 0, locals := 0 })) (T := t_2_put) (tb := b_2_put) (G := g_2_put) (by decide +kernel) ⟨fun z => absurd z (by decide), fun z => absurd z (by decide), fun _ => rfl, fun z => absurd z (by decide)⟩ (fun _ _ _ _ _ hts hd => tok_2 hts hd) h_2_put k_2_put rfl (fun i kd j h => hc_2_put (i, kd, j) (dk_lk_mem h)))
set_option maxRecDepth 20000 in
theorem wv_2_put : ∀ w ∈ [Cond.instanceMethod y_2_put, Cond.selects y_2_put.cls y_2_put y_2_put, Cond.initialized y_2_put.cls, Cond.code y_2_put prog_4_method_4_code 3 none], w ∈ dk_TB := dk_ac (dk_tb 777 rfl rfl) (dk_ac (dk_tb 778 rfl rfl) (dk_ac (dk_tb 63 rfl rfl) (dk_ac (dk_tb 779 rfl rfl) (dk_an))))
theorem hd_2_put : y_2_put.cls ≠ "java/lang/invoke/MethodHandle" ∧ y_2_put.cls ≠ "java/lang/invoke/VarHandle" ∧ (parseMethodDescriptor y_2_put.desc).map (fun d => d.parameters.length) = some 2 := by decide +kernel
theorem k_5_write : dk_ckT t_5_write prog_1_method_35_code 4 t_5_write.2.2.1 b_5_write = true := by decide +kernel
set_option maxRecDepth 20000 in
theorem hc_5_write : ∀ q ∈ t_5_write.2.1, ∃ n Sm, dk_nth g_5_write q.2.2 = some (n, Sm) ∧ dk_Call y_5_write.cls ({ frames := 2, cells := 0, slots := 0, locals := 42 }) prog_1_method_35_code 4 q.2.1 q.1 n Sm :=
  dk_ac ⟨1, s_5_isSheet, rfl, fun hx hb hml hown hts hF => dk_callS e_5_isSheet (dk_ac (dk_tb 760 rfl rfl) wv_5_isSheet) ⟨rfl, rfl⟩ hd_5_isSheet ⟨by decide, by decide⟩ ⟨Nat.zero_le _, Nat.zero_le _⟩ hx hb hml hown hts hF⟩
    (dk_ac ⟨2, s_5_finding, rfl, fun hx hb hml hown hts hF => dk_callV e_5_finding dk_rcV rfl (dk_ac (dk_tb 323 rfl rfl) wv_5_finding) ⟨rfl, rfl⟩ hd_5_finding ⟨by decide, by decide⟩ ⟨Nat.zero_le _, Nat.zero_le _⟩ hx hb hml hown hts hF⟩
    (dk_ac ⟨1, s_2_isMissing, rfl, fun hx hb hml hown hts hF => dk_callV e_2_isMissing dk_rcV rfl (dk_ac (dk_tb 772 rfl rfl) wv_2_isMissing) ⟨rfl, rfl⟩ hd_2_isMissing ⟨by decide, by decide⟩ ⟨Nat.zero_le _, Nat.zero_le _⟩ hx hb hml hown hts hF⟩
    (dk_ac ⟨3, s_5_isWithin, rfl, fun hx hb hml hown hts hF => dk_callS e_5_isWithin (dk_ac (dk_tb 316 rfl rfl) wv_5_isWithin) ⟨rfl, rfl⟩ hd_5_isWithin ⟨by decide, by decide⟩ ⟨Nat.zero_le _, Nat.zero_le _⟩ hx hb hml hown hts hF⟩
    (dk_ac ⟨3, s_2_put, rfl, fun hx hb hml hown hts hF => dk_callV e_2_put dk_rcV rfl (dk_ac (dk_tb 776 rfl rfl) wv_2_put) ⟨rfl, rfl⟩ hd_2_put ⟨by decide, by decide⟩ ⟨Nat.zero_le _, Nat.zero_le _⟩ hx hb hml hown hts hF⟩
    (dk_an)))))
theorem e_5_write : dk_Met y_5_write prog_1_method_35_code 4 (some .int) ({ frames := 2, cells := 0, slots := 0, locals := 42 }) s_5_write := dk_metV 5 (dk_met (y := y_5_write) (cc := prog_1_method_35_code) (maxL := 4) (ret := (some .int)) (rm := ({ frames := 2, cells := 0, slots := 0, locals := 42 })) (T := t_5_write) (tb := b_5_write) (G := g_5_write) (by decide +kernel) ⟨fun _ => rfl, fun z => absurd z (by decide), fun z => absurd z (by decide), fun z => absurd z (by decide)⟩ (fun _ _ _ _ _ hts hd => tok_5 hts hd) h_5_write k_5_write rfl (fun i kd j h => hc_5_write (i, kd, j) (dk_lk_mem h)))
set_option maxRecDepth 20000 in
theorem wv_5_write : ∀ w ∈ [Cond.instanceMethod y_5_write, Cond.selects y_5_write.cls y_5_write y_5_write, Cond.initialized y_5_write.cls, Cond.code y_5_write prog_1_method_35_code 4 (some .int)], w ∈ dk_TB := dk_ac (dk_tb 769 rfl rfl) (dk_ac (dk_tb 770 rfl rfl) (dk_ac (dk_tb 57 rfl rfl) (dk_ac (dk_tb 771 rfl rfl) (dk_an))))
theorem hd_5_write : y_5_write.cls ≠ "java/lang/invoke/MethodHandle" ∧ y_5_write.cls ≠ "java/lang/invoke/VarHandle" ∧ (parseMethodDescriptor y_5_write.desc).map (fun d => d.parameters.length) = some 3 := by decide +kernel
theorem k_2_hasFrom : dk_ckT t_2_hasFrom prog_4_method_5_code 3 t_2_hasFrom.2.2.1 b_2_hasFrom = true := by decide +kernel
set_option maxRecDepth 20000 in
theorem hc_2_hasFrom : ∀ q ∈ t_2_hasFrom.2.1, ∃ n Sm, dk_nth g_2_hasFrom q.2.2 = some (n, Sm) ∧ dk_Call y_2_hasFrom.cls ({ frames := 0, cells := 0, slots := 0, locals := 0 }) prog_4_method_5_code 3 q.2.1 q.1 n Sm :=
  dk_an
theorem e_2_hasFrom : dk_Met y_2_hasFrom prog_4_method_5_code 3 (some .boolean) ({ frames := 0, cells := 0, slots := 0, locals := 0 }) s_2_hasFrom := dk_metV 2 (dk_met (y := y_2_hasFrom) (cc := prog_4_method_5_code) (maxL := 3) (ret := (some .boolean)) (rm := ({ frames := 0, cells := 0, slots := 0, locals := 0 })) (T := t_2_hasFrom) (tb := b_2_hasFrom) (G := g_2_hasFrom) (by decide +kernel) ⟨fun z => absurd z (by decide), fun _ => rfl, fun z => absurd z (by decide), fun z => absurd z (by decide)⟩ (fun _ _ _ _ _ hts hd => tok_2 hts hd) h_2_hasFrom k_2_hasFrom rfl (fun i kd j h => hc_2_hasFrom (i, kd, j) (dk_lk_mem h)))
set_option maxRecDepth 20000 in
theorem wv_2_hasFrom : ∀ w ∈ [Cond.instanceMethod y_2_hasFrom, Cond.selects y_2_hasFrom.cls y_2_hasFrom y_2_hasFrom, Cond.initialized y_2_hasFrom.cls, Cond.code y_2_hasFrom prog_4_method_5_code 3 (some .boolean)], w ∈ dk_TB := dk_ac (dk_tb 785 rfl rfl) (dk_ac (dk_tb 786 rfl rfl) (dk_ac (dk_tb 63 rfl rfl) (dk_ac (dk_tb 787 rfl rfl) (dk_an))))
theorem hd_2_hasFrom : y_2_hasFrom.cls ≠ "java/lang/invoke/MethodHandle" ∧ y_2_hasFrom.cls ≠ "java/lang/invoke/VarHandle" ∧ (parseMethodDescriptor y_2_hasFrom.desc).map (fun d => d.parameters.length) = some 2 := by decide +kernel
theorem k_5_copy : dk_ckT t_5_copy prog_1_method_36_code 8 t_5_copy.2.2.1 b_5_copy = true := by decide +kernel
set_option maxRecDepth 20000 in
theorem hc_5_copy : ∀ q ∈ t_5_copy.2.1, ∃ n Sm, dk_nth g_5_copy q.2.2 = some (n, Sm) ∧ dk_Call y_5_copy.cls ({ frames := 2, cells := 0, slots := 0, locals := 64 }) prog_1_method_36_code 8 q.2.1 q.1 n Sm :=
  dk_ac ⟨1, s_5_isSheet, rfl, fun hx hb hml hown hts hF => dk_callS e_5_isSheet (dk_ac (dk_tb 760 rfl rfl) wv_5_isSheet) ⟨rfl, rfl⟩ hd_5_isSheet ⟨by decide, by decide⟩ ⟨Nat.zero_le _, Nat.zero_le _⟩ hx hb hml hown hts hF⟩
    (dk_ac ⟨2, s_5_finding, rfl, fun hx hb hml hown hts hF => dk_callV e_5_finding dk_rcV rfl (dk_ac (dk_tb 323 rfl rfl) wv_5_finding) ⟨rfl, rfl⟩ hd_5_finding ⟨by decide, by decide⟩ ⟨Nat.zero_le _, Nat.zero_le _⟩ hx hb hml hown hts hF⟩
    (dk_ac ⟨1, s_2_isMissing, rfl, fun hx hb hml hown hts hF => dk_callV e_2_isMissing dk_rcV rfl (dk_ac (dk_tb 772 rfl rfl) wv_2_isMissing) ⟨rfl, rfl⟩ hd_2_isMissing ⟨by decide, by decide⟩ ⟨Nat.zero_le _, Nat.zero_le _⟩ hx hb hml hown hts hF⟩
    (dk_ac ⟨3, s_2_hasFrom, rfl, fun hx hb hml hown hts hF => dk_callV e_2_hasFrom dk_rcV rfl (dk_ac (dk_tb 784 rfl rfl) wv_2_hasFrom) ⟨rfl, rfl⟩ hd_2_hasFrom ⟨by decide, by decide⟩ ⟨Nat.zero_le _, Nat.zero_le _⟩ hx hb hml hown hts hF⟩
    (dk_ac ⟨5, s_ac, rfl, call_ac (own := nn_R5) (i := 190) (dk_tb 592 rfl rfl) (by decide) (by decide)⟩
    (dk_an)))))
theorem e_5_copy : dk_Met y_5_copy prog_1_method_36_code 8 (some .int) ({ frames := 2, cells := 0, slots := 0, locals := 64 }) s_5_copy := dk_metV 5 (dk_met (y := y_5_copy) (cc := prog_1_method_36_code) (maxL := 8) (ret := (some .int)) (rm := ({ frames := 2, cells := 0, slots := 0, locals := 64 })) (T := t_5_copy) (tb := b_5_copy) (G := g_5_copy) (by decide +kernel) ⟨fun _ => rfl, fun z => absurd z (by decide), fun z => absurd z (by decide), fun z => absurd z (by decide)⟩ (fun _ _ _ _ _ hts hd => tok_5 hts hd) h_5_copy k_5_copy rfl (fun i kd j h => hc_5_copy (i, kd, j) (dk_lk_mem h)))
set_option maxRecDepth 20000 in
theorem wv_5_copy : ∀ w ∈ [Cond.instanceMethod y_5_copy, Cond.selects y_5_copy.cls y_5_copy y_5_copy, Cond.initialized y_5_copy.cls, Cond.code y_5_copy prog_1_method_36_code 8 (some .int)], w ∈ dk_TB := dk_ac (dk_tb 781 rfl rfl) (dk_ac (dk_tb 782 rfl rfl) (dk_ac (dk_tb 57 rfl rfl) (dk_ac (dk_tb 783 rfl rfl) (dk_an))))
theorem hd_5_copy : y_5_copy.cls ≠ "java/lang/invoke/MethodHandle" ∧ y_5_copy.cls ≠ "java/lang/invoke/VarHandle" ∧ (parseMethodDescriptor y_5_copy.desc).map (fun d => d.parameters.length) = some 5 := by decide +kernel
theorem k_5_load : dk_ckT t_5_load prog_1_method_37_code 4 t_5_load.2.2.1 b_5_load = true := by decide +kernel
set_option maxRecDepth 20000 in
theorem hc_5_load : ∀ q ∈ t_5_load.2.1, ∃ n Sm, dk_nth g_5_load q.2.2 = some (n, Sm) ∧ dk_Call y_5_load.cls ({ frames := 2, cells := 0, slots := 0, locals := 43 }) prog_1_method_37_code 4 q.2.1 q.1 n Sm :=
  dk_ac ⟨1, s_5_isSheet, rfl, fun hx hb hml hown hts hF => dk_callS e_5_isSheet (dk_ac (dk_tb 760 rfl rfl) wv_5_isSheet) ⟨rfl, rfl⟩ hd_5_isSheet ⟨by decide, by decide⟩ ⟨Nat.zero_le _, Nat.zero_le _⟩ hx hb hml hown hts hF⟩
    (dk_ac ⟨2, s_5_finding, rfl, fun hx hb hml hown hts hF => dk_callV e_5_finding dk_rcV rfl (dk_ac (dk_tb 323 rfl rfl) wv_5_finding) ⟨rfl, rfl⟩ hd_5_finding ⟨by decide, by decide⟩ ⟨Nat.zero_le _, Nat.zero_le _⟩ hx hb hml hown hts hF⟩
    (dk_ac ⟨1, s_2_isMissing, rfl, fun hx hb hml hown hts hF => dk_callV e_2_isMissing dk_rcV rfl (dk_ac (dk_tb 772 rfl rfl) wv_2_isMissing) ⟨rfl, rfl⟩ hd_2_isMissing ⟨by decide, by decide⟩ ⟨Nat.zero_le _, Nat.zero_le _⟩ hx hb hml hown hts hF⟩
    (dk_ac ⟨2, s_8_min, rfl, fun hx hb hml hown hts hF => dk_callS e_8_min (dk_ac (dk_tb 707 rfl rfl) wv_8_min) ⟨rfl, rfl⟩ hd_8_min ⟨by decide, by decide⟩ ⟨Nat.zero_le _, Nat.zero_le _⟩ hx hb hml hown hts hF⟩
    (dk_ac ⟨2, s_0_wrap, rfl, fun hx hb hml hown hts hF => dk_callV e_0_wrap dk_rcV rfl (dk_ac (dk_tb 538 rfl rfl) wv_0_wrap) ⟨rfl, rfl⟩ hd_0_wrap ⟨by decide, by decide⟩ ⟨Nat.zero_le _, Nat.zero_le _⟩ hx hb hml hown hts hF⟩
    (dk_an)))))
theorem e_5_load : dk_Met y_5_load prog_1_method_37_code 4 (some .int) ({ frames := 2, cells := 0, slots := 0, locals := 43 }) s_5_load := dk_metV 5 (dk_met (y := y_5_load) (cc := prog_1_method_37_code) (maxL := 4) (ret := (some .int)) (rm := ({ frames := 2, cells := 0, slots := 0, locals := 43 })) (T := t_5_load) (tb := b_5_load) (G := g_5_load) (by decide +kernel) ⟨fun _ => rfl, fun z => absurd z (by decide), fun z => absurd z (by decide), fun z => absurd z (by decide)⟩ (fun _ _ _ _ _ hts hd => tok_5 hts hd) h_5_load k_5_load rfl (fun i kd j h => hc_5_load (i, kd, j) (dk_lk_mem h)))
set_option maxRecDepth 20000 in
theorem wv_5_load : ∀ w ∈ [Cond.instanceMethod y_5_load, Cond.selects y_5_load.cls y_5_load y_5_load, Cond.initialized y_5_load.cls, Cond.code y_5_load prog_1_method_37_code 4 (some .int)], w ∈ dk_TB := dk_ac (dk_tb 789 rfl rfl) (dk_ac (dk_tb 790 rfl rfl) (dk_ac (dk_tb 57 rfl rfl) (dk_ac (dk_tb 791 rfl rfl) (dk_an))))
theorem hd_5_load : y_5_load.cls ≠ "java/lang/invoke/MethodHandle" ∧ y_5_load.cls ≠ "java/lang/invoke/VarHandle" ∧ (parseMethodDescriptor y_5_load.desc).map (fun d => d.parameters.length) = some 1 := by decide +kernel
theorem k_5_judge : dk_ckT t_5_judge prog_1_method_38_code 3 t_5_judge.2.2.1 b_5_judge = true := by decide +kernel
set_option maxRecDepth 20000 in
theorem hc_5_judge : ∀ q ∈ t_5_judge.2.1, ∃ n Sm, dk_nth g_5_judge q.2.2 = some (n, Sm) ∧ dk_Call y_5_judge.cls ({ frames := 6, cells := 0, slots := 0, locals := 129 }) prog_1_method_38_code 3 q.2.1 q.1 n Sm :=
  dk_ac ⟨1, s_5_isSheet, rfl, fun hx hb hml hown hts hF => dk_callS e_5_isSheet (dk_ac (dk_tb 760 rfl rfl) wv_5_isSheet) ⟨rfl, rfl⟩ hd_5_isSheet ⟨by decide, by decide⟩ ⟨Nat.zero_le _, Nat.zero_le _⟩ hx hb hml hown hts hF⟩
    (dk_ac ⟨2, s_5_finding, rfl, fun hx hb hml hown hts hF => dk_callV e_5_finding dk_rcV rfl (dk_ac (dk_tb 323 rfl rfl) wv_5_finding) ⟨rfl, rfl⟩ hd_5_finding ⟨by decide, by decide⟩ ⟨Nat.zero_le _, Nat.zero_le _⟩ hx hb hml hown hts hF⟩
    (dk_ac ⟨1, s_2_isMissing, rfl, fun hx hb hml hown hts hF => dk_callV e_2_isMissing dk_rcV rfl (dk_ac (dk_tb 772 rfl rfl) wv_2_isMissing) ⟨rfl, rfl⟩ hd_2_isMissing ⟨by decide, by decide⟩ ⟨Nat.zero_le _, Nat.zero_le _⟩ hx hb hml hown hts hF⟩
    (dk_ac ⟨1, s_5_setOut, rfl, fun hx hb hml hown hts hF => dk_callV e_5_setOut dk_rcV rfl (dk_ac (dk_tb 571 rfl rfl) wv_5_setOut) ⟨rfl, rfl⟩ hd_5_setOut ⟨by decide, by decide⟩ ⟨Nat.zero_le _, Nat.zero_le _⟩ hx hb hml hown hts hF⟩
    (dk_ac ⟨1, s_4_step, rfl, fun hx hb hml hown hts hF => dk_callV e_4_step dk_rcV rfl (dk_ac (dk_tb 620 rfl rfl) wv_4_step) ⟨rfl, rfl⟩ hd_4_step ⟨by decide, by decide⟩ ⟨Nat.zero_le _, Nat.zero_le _⟩ hx hb hml hown hts hF⟩
    (dk_ac ⟨2, s_0_worstOf, rfl, fun hx hb hml hown hts hF => dk_callV e_0_worstOf dk_rcV rfl (dk_ac (dk_tb 593 rfl rfl) wv_0_worstOf) ⟨rfl, rfl⟩ hd_0_worstOf ⟨by decide, by decide⟩ ⟨Nat.zero_le _, Nat.zero_le _⟩ hx hb hml hown hts hF⟩
    (dk_an))))))
theorem e_5_judge : dk_Met y_5_judge prog_1_method_38_code 3 (some .int) ({ frames := 6, cells := 0, slots := 0, locals := 129 }) s_5_judge := dk_metV 5 (dk_met (y := y_5_judge) (cc := prog_1_method_38_code) (maxL := 3) (ret := (some .int)) (rm := ({ frames := 6, cells := 0, slots := 0, locals := 129 })) (T := t_5_judge) (tb := b_5_judge) (G := g_5_judge) (by decide +kernel) ⟨fun _ => rfl, fun z => absurd z (by decide), fun z => absurd z (by decide), fun z => absurd z (by decide)⟩ (fun _ _ _ _ _ hts hd => tok_5 hts hd) h_5_judge k_5_judge rfl (fun i kd j h => hc_5_judge (i, kd, j) (dk_lk_mem h)))
set_option maxRecDepth 20000 in
theorem wv_5_judge : ∀ w ∈ [Cond.instanceMethod y_5_judge, Cond.selects y_5_judge.cls y_5_judge y_5_judge, Cond.initialized y_5_judge.cls, Cond.code y_5_judge prog_1_method_38_code 3 (some .int)], w ∈ dk_TB := dk_ac (dk_tb 793 rfl rfl) (dk_ac (dk_tb 794 rfl rfl) (dk_ac (dk_tb 57 rfl rfl) (dk_ac (dk_tb 795 rfl rfl) (dk_an))))
theorem hd_5_judge : y_5_judge.cls ≠ "java/lang/invoke/MethodHandle" ∧ y_5_judge.cls ≠ "java/lang/invoke/VarHandle" ∧ (parseMethodDescriptor y_5_judge.desc).map (fun d => d.parameters.length) = some 1 := by decide +kernel
theorem k_0_becomeAs : dk_ckT t_0_becomeAs prog_2_method_2_code 2 t_0_becomeAs.2.2.1 b_0_becomeAs = true := by decide +kernel
set_option maxRecDepth 20000 in
theorem hc_0_becomeAs : ∀ q ∈ t_0_becomeAs.2.1, ∃ n Sm, dk_nth g_0_becomeAs q.2.2 = some (n, Sm) ∧ dk_Call y_0_becomeAs.cls ({ frames := 1, cells := 0, slots := 0, locals := 64 }) prog_2_method_2_code 2 q.2.1 q.1 n Sm :=
  dk_ac ⟨5, s_ac, rfl, call_ac (own := nn_R0) (i := 75) (dk_tb 804 rfl rfl) (by decide) (by decide)⟩
    (dk_an)
theorem e_0_becomeAs : dk_Met y_0_becomeAs prog_2_method_2_code 2 none ({ frames := 1, cells := 0, slots := 0, locals := 64 }) s_0_becomeAs := dk_metV 0 (dk_met (y := y_0_becomeAs) (cc := prog_2_method_2_code) (maxL := 2) (ret := none) (rm := ({ frames := 1, cells := 0, slots := 0, locals := 64 })) (T := t_0_becomeAs) (tb := b_0_becomeAs) (G := g_0_becomeAs) (by decide +kernel) ⟨fun z => absurd z (by decide), fun z => absurd z (by decide), fun _ => rfl, fun z => absurd z (by decide)⟩ (fun _ _ _ _ _ hts hd => tok_0 hts hd) h_0_becomeAs k_0_becomeAs rfl (fun i kd j h => hc_0_becomeAs (i, kd, j) (dk_lk_mem h)))
set_option maxRecDepth 20000 in
theorem wv_0_becomeAs : ∀ w ∈ [Cond.instanceMethod y_0_becomeAs, Cond.selects y_0_becomeAs.cls y_0_becomeAs y_0_becomeAs, Cond.initialized y_0_becomeAs.cls, Cond.code y_0_becomeAs prog_2_method_2_code 2 none], w ∈ dk_TB := dk_ac (dk_tb 801 rfl rfl) (dk_ac (dk_tb 802 rfl rfl) (dk_ac (dk_tb 58 rfl rfl) (dk_ac (dk_tb 803 rfl rfl) (dk_an))))
theorem hd_0_becomeAs : y_0_becomeAs.cls ≠ "java/lang/invoke/MethodHandle" ∧ y_0_becomeAs.cls ≠ "java/lang/invoke/VarHandle" ∧ (parseMethodDescriptor y_0_becomeAs.desc).map (fun d => d.parameters.length) = some 1 := by decide +kernel
theorem k_5_image : dk_ckT t_5_image prog_1_method_39_code 1 t_5_image.2.2.1 b_5_image = true := by decide +kernel
set_option maxRecDepth 20000 in
theorem hc_5_image : ∀ q ∈ t_5_image.2.1, ∃ n Sm, dk_nth g_5_image q.2.2 = some (n, Sm) ∧ dk_Call y_5_image.cls ({ frames := 2, cells := 0, slots := 0, locals := 85 }) prog_1_method_39_code 1 q.2.1 q.1 n Sm :=
  dk_ac ⟨2, s_0_becomeAs, rfl, fun hx hb hml hown hts hF => dk_callV e_0_becomeAs dk_rcV rfl (dk_ac (dk_tb 800 rfl rfl) wv_0_becomeAs) ⟨rfl, rfl⟩ hd_0_becomeAs ⟨by decide, by decide⟩ ⟨Nat.zero_le _, Nat.zero_le _⟩ hx hb hml hown hts hF⟩
    (dk_an)
theorem e_5_image : dk_Met y_5_image prog_1_method_39_code 1 (some .int) ({ frames := 2, cells := 0, slots := 0, locals := 85 }) s_5_image := dk_metV 5 (dk_met (y := y_5_image) (cc := prog_1_method_39_code) (maxL := 1) (ret := (some .int)) (rm := ({ frames := 2, cells := 0, slots := 0, locals := 85 })) (T := t_5_image) (tb := b_5_image) (G := g_5_image) (by decide +kernel) ⟨fun _ => rfl, fun z => absurd z (by decide), fun z => absurd z (by decide), fun z => absurd z (by decide)⟩ (fun _ _ _ _ _ hts hd => tok_5 hts hd) h_5_image k_5_image rfl (fun i kd j h => hc_5_image (i, kd, j) (dk_lk_mem h)))
set_option maxRecDepth 20000 in
theorem wv_5_image : ∀ w ∈ [Cond.instanceMethod y_5_image, Cond.selects y_5_image.cls y_5_image y_5_image, Cond.initialized y_5_image.cls, Cond.code y_5_image prog_1_method_39_code 1 (some .int)], w ∈ dk_TB := dk_ac (dk_tb 797 rfl rfl) (dk_ac (dk_tb 798 rfl rfl) (dk_ac (dk_tb 57 rfl rfl) (dk_ac (dk_tb 799 rfl rfl) (dk_an))))
theorem hd_5_image : y_5_image.cls ≠ "java/lang/invoke/MethodHandle" ∧ y_5_image.cls ≠ "java/lang/invoke/VarHandle" ∧ (parseMethodDescriptor y_5_image.desc).map (fun d => d.parameters.length) = some 0 := by decide +kernel
theorem k_5_undo : dk_ckT t_5_undo prog_1_method_40_code 1 t_5_undo.2.2.1 b_5_undo = true := by decide +kernel
set_option maxRecDepth 20000 in
theorem hc_5_undo : ∀ q ∈ t_5_undo.2.1, ∃ n Sm, dk_nth g_5_undo q.2.2 = some (n, Sm) ∧ dk_Call y_5_undo.cls ({ frames := 2, cells := 0, slots := 0, locals := 85 }) prog_1_method_40_code 1 q.2.1 q.1 n Sm :=
  dk_ac ⟨2, s_5_finding, rfl, fun hx hb hml hown hts hF => dk_callV e_5_finding dk_rcV rfl (dk_ac (dk_tb 323 rfl rfl) wv_5_finding) ⟨rfl, rfl⟩ hd_5_finding ⟨by decide, by decide⟩ ⟨Nat.zero_le _, Nat.zero_le _⟩ hx hb hml hown hts hF⟩
    (dk_ac ⟨2, s_0_becomeAs, rfl, fun hx hb hml hown hts hF => dk_callV e_0_becomeAs dk_rcV rfl (dk_ac (dk_tb 800 rfl rfl) wv_0_becomeAs) ⟨rfl, rfl⟩ hd_0_becomeAs ⟨by decide, by decide⟩ ⟨Nat.zero_le _, Nat.zero_le _⟩ hx hb hml hown hts hF⟩
    (dk_an))
theorem e_5_undo : dk_Met y_5_undo prog_1_method_40_code 1 (some .int) ({ frames := 2, cells := 0, slots := 0, locals := 85 }) s_5_undo := dk_metV 5 (dk_met (y := y_5_undo) (cc := prog_1_method_40_code) (maxL := 1) (ret := (some .int)) (rm := ({ frames := 2, cells := 0, slots := 0, locals := 85 })) (T := t_5_undo) (tb := b_5_undo) (G := g_5_undo) (by decide +kernel) ⟨fun _ => rfl, fun z => absurd z (by decide), fun z => absurd z (by decide), fun z => absurd z (by decide)⟩ (fun _ _ _ _ _ hts hd => tok_5 hts hd) h_5_undo k_5_undo rfl (fun i kd j h => hc_5_undo (i, kd, j) (dk_lk_mem h)))
set_option maxRecDepth 20000 in
theorem wv_5_undo : ∀ w ∈ [Cond.instanceMethod y_5_undo, Cond.selects y_5_undo.cls y_5_undo y_5_undo, Cond.initialized y_5_undo.cls, Cond.code y_5_undo prog_1_method_40_code 1 (some .int)], w ∈ dk_TB := dk_ac (dk_tb 806 rfl rfl) (dk_ac (dk_tb 807 rfl rfl) (dk_ac (dk_tb 57 rfl rfl) (dk_ac (dk_tb 808 rfl rfl) (dk_an))))
theorem hd_5_undo : y_5_undo.cls ≠ "java/lang/invoke/MethodHandle" ∧ y_5_undo.cls ≠ "java/lang/invoke/VarHandle" ∧ (parseMethodDescriptor y_5_undo.desc).map (fun d => d.parameters.length) = some 0 := by decide +kernel
theorem k_5_tear : dk_ckT t_5_tear prog_1_method_41_code 2 t_5_tear.2.2.1 b_5_tear = true := by decide +kernel
set_option maxRecDepth 20000 in
theorem hc_5_tear : ∀ q ∈ t_5_tear.2.1, ∃ n Sm, dk_nth g_5_tear q.2.2 = some (n, Sm) ∧ dk_Call y_5_tear.cls ({ frames := 0, cells := 0, slots := 0, locals := 0 }) prog_1_method_41_code 2 q.2.1 q.1 n Sm :=
  dk_an
theorem e_5_tear : dk_Met y_5_tear prog_1_method_41_code 2 (some .int) ({ frames := 0, cells := 0, slots := 0, locals := 0 }) s_5_tear := dk_metV 5 (dk_met (y := y_5_tear) (cc := prog_1_method_41_code) (maxL := 2) (ret := (some .int)) (rm := ({ frames := 0, cells := 0, slots := 0, locals := 0 })) (T := t_5_tear) (tb := b_5_tear) (G := g_5_tear) (by decide +kernel) ⟨fun _ => rfl, fun z => absurd z (by decide), fun z => absurd z (by decide), fun z => absurd z (by decide)⟩ (fun _ _ _ _ _ hts hd => tok_5 hts hd) h_5_tear k_5_tear rfl (fun i kd j h => hc_5_tear (i, kd, j) (dk_lk_mem h)))
set_option maxRecDepth 20000 in
theorem wv_5_tear : ∀ w ∈ [Cond.instanceMethod y_5_tear, Cond.selects y_5_tear.cls y_5_tear y_5_tear, Cond.initialized y_5_tear.cls, Cond.code y_5_tear prog_1_method_41_code 2 (some .int)], w ∈ dk_TB := dk_ac (dk_tb 810 rfl rfl) (dk_ac (dk_tb 811 rfl rfl) (dk_ac (dk_tb 57 rfl rfl) (dk_ac (dk_tb 812 rfl rfl) (dk_an))))
theorem hd_5_tear : y_5_tear.cls ≠ "java/lang/invoke/MethodHandle" ∧ y_5_tear.cls ≠ "java/lang/invoke/VarHandle" ∧ (parseMethodDescriptor y_5_tear.desc).map (fun d => d.parameters.length) = some 0 := by decide +kernel
theorem k_0_spotsHeld : dk_ckT t_0_spotsHeld prog_2_method_16_code 3 t_0_spotsHeld.2.2.1 b_0_spotsHeld = true := by decide +kernel
set_option maxRecDepth 20000 in
theorem hc_0_spotsHeld : ∀ q ∈ t_0_spotsHeld.2.1, ∃ n Sm, dk_nth g_0_spotsHeld q.2.2 = some (n, Sm) ∧ dk_Call y_0_spotsHeld.cls ({ frames := 0, cells := 0, slots := 0, locals := 0 }) prog_2_method_16_code 3 q.2.1 q.1 n Sm :=
  dk_an
theorem e_0_spotsHeld : dk_Met y_0_spotsHeld prog_2_method_16_code 3 (some .int) ({ frames := 0, cells := 0, slots := 0, locals := 0 }) s_0_spotsHeld := dk_metV 0 (dk_met (y := y_0_spotsHeld) (cc := prog_2_method_16_code) (maxL := 3) (ret := (some .int)) (rm := ({ frames := 0, cells := 0, slots := 0, locals := 0 })) (T := t_0_spotsHeld) (tb := b_0_spotsHeld) (G := g_0_spotsHeld) (by decide +kernel) ⟨fun _ => rfl, fun z => absurd z (by decide), fun z => absurd z (by decide), fun z => absurd z (by decide)⟩ (fun _ _ _ _ _ hts hd => tok_0 hts hd) h_0_spotsHeld k_0_spotsHeld rfl (fun i kd j h => hc_0_spotsHeld (i, kd, j) (dk_lk_mem h)))
set_option maxRecDepth 20000 in
theorem wv_0_spotsHeld : ∀ w ∈ [Cond.instanceMethod y_0_spotsHeld, Cond.selects y_0_spotsHeld.cls y_0_spotsHeld y_0_spotsHeld, Cond.initialized y_0_spotsHeld.cls, Cond.code y_0_spotsHeld prog_2_method_16_code 3 (some .int)], w ∈ dk_TB := dk_ac (dk_tb 818 rfl rfl) (dk_ac (dk_tb 819 rfl rfl) (dk_ac (dk_tb 58 rfl rfl) (dk_ac (dk_tb 820 rfl rfl) (dk_an))))
theorem hd_0_spotsHeld : y_0_spotsHeld.cls ≠ "java/lang/invoke/MethodHandle" ∧ y_0_spotsHeld.cls ≠ "java/lang/invoke/VarHandle" ∧ (parseMethodDescriptor y_0_spotsHeld.desc).map (fun d => d.parameters.length) = some 0 := by decide +kernel
theorem k_5_count : dk_ckT t_5_count prog_1_method_42_code 2 t_5_count.2.2.1 b_5_count = true := by decide +kernel
set_option maxRecDepth 20000 in
theorem hc_5_count : ∀ q ∈ t_5_count.2.1, ∃ n Sm, dk_nth g_5_count q.2.2 = some (n, Sm) ∧ dk_Call y_5_count.cls ({ frames := 1, cells := 0, slots := 0, locals := 22 }) prog_1_method_42_code 2 q.2.1 q.1 n Sm :=
  dk_ac ⟨1, s_0_spotsHeld, rfl, fun hx hb hml hown hts hF => dk_callV e_0_spotsHeld dk_rcV rfl (dk_ac (dk_tb 817 rfl rfl) wv_0_spotsHeld) ⟨rfl, rfl⟩ hd_0_spotsHeld ⟨by decide, by decide⟩ ⟨Nat.zero_le _, Nat.zero_le _⟩ hx hb hml hown hts hF⟩
    (dk_ac ⟨2, s_5_finding, rfl, fun hx hb hml hown hts hF => dk_callV e_5_finding dk_rcV rfl (dk_ac (dk_tb 323 rfl rfl) wv_5_finding) ⟨rfl, rfl⟩ hd_5_finding ⟨by decide, by decide⟩ ⟨Nat.zero_le _, Nat.zero_le _⟩ hx hb hml hown hts hF⟩
    (dk_an))
theorem e_5_count : dk_Met y_5_count prog_1_method_42_code 2 (some .int) ({ frames := 1, cells := 0, slots := 0, locals := 22 }) s_5_count := dk_metV 5 (dk_met (y := y_5_count) (cc := prog_1_method_42_code) (maxL := 2) (ret := (some .int)) (rm := ({ frames := 1, cells := 0, slots := 0, locals := 22 })) (T := t_5_count) (tb := b_5_count) (G := g_5_count) (by decide +kernel) ⟨fun _ => rfl, fun z => absurd z (by decide), fun z => absurd z (by decide), fun z => absurd z (by decide)⟩ (fun _ _ _ _ _ hts hd => tok_5 hts hd) h_5_count k_5_count rfl (fun i kd j h => hc_5_count (i, kd, j) (dk_lk_mem h)))
set_option maxRecDepth 20000 in
theorem wv_5_count : ∀ w ∈ [Cond.instanceMethod y_5_count, Cond.selects y_5_count.cls y_5_count y_5_count, Cond.initialized y_5_count.cls, Cond.code y_5_count prog_1_method_42_code 2 (some .int)], w ∈ dk_TB := dk_ac (dk_tb 814 rfl rfl) (dk_ac (dk_tb 815 rfl rfl) (dk_ac (dk_tb 57 rfl rfl) (dk_ac (dk_tb 816 rfl rfl) (dk_an))))
theorem hd_5_count : y_5_count.cls ≠ "java/lang/invoke/MethodHandle" ∧ y_5_count.cls ≠ "java/lang/invoke/VarHandle" ∧ (parseMethodDescriptor y_5_count.desc).map (fun d => d.parameters.length) = some 1 := by decide +kernel
theorem k_5_status : dk_ckT t_5_status prog_1_method_43_code 4 t_5_status.2.2.1 b_5_status = true := by decide +kernel
set_option maxRecDepth 20000 in
theorem hc_5_status : ∀ q ∈ t_5_status.2.1, ∃ n Sm, dk_nth g_5_status q.2.2 = some (n, Sm) ∧ dk_Call y_5_status.cls ({ frames := 1, cells := 0, slots := 0, locals := 22 }) prog_1_method_43_code 4 q.2.1 q.1 n Sm :=
  dk_ac ⟨3, s_5_isWithin, rfl, fun hx hb hml hown hts hF => dk_callS e_5_isWithin (dk_ac (dk_tb 316 rfl rfl) wv_5_isWithin) ⟨rfl, rfl⟩ hd_5_isWithin ⟨by decide, by decide⟩ ⟨Nat.zero_le _, Nat.zero_le _⟩ hx hb hml hown hts hF⟩
    (dk_ac ⟨2, s_5_finding, rfl, fun hx hb hml hown hts hF => dk_callV e_5_finding dk_rcV rfl (dk_ac (dk_tb 323 rfl rfl) wv_5_finding) ⟨rfl, rfl⟩ hd_5_finding ⟨by decide, by decide⟩ ⟨Nat.zero_le _, Nat.zero_le _⟩ hx hb hml hown hts hF⟩
    (dk_an))
theorem e_5_status : dk_Met y_5_status prog_1_method_43_code 4 (some .int) ({ frames := 1, cells := 0, slots := 0, locals := 22 }) s_5_status := dk_metV 5 (dk_met (y := y_5_status) (cc := prog_1_method_43_code) (maxL := 4) (ret := (some .int)) (rm := ({ frames := 1, cells := 0, slots := 0, locals := 22 })) (T := t_5_status) (tb := b_5_status) (G := g_5_status) (by decide +kernel) ⟨fun _ => rfl, fun z => absurd z (by decide), fun z => absurd z (by decide), fun z => absurd z (by decide)⟩ (fun _ _ _ _ _ hts hd => tok_5 hts hd) h_5_status k_5_status rfl (fun i kd j h => hc_5_status (i, kd, j) (dk_lk_mem h)))
set_option maxRecDepth 20000 in
theorem wv_5_status : ∀ w ∈ [Cond.instanceMethod y_5_status, Cond.selects y_5_status.cls y_5_status y_5_status, Cond.initialized y_5_status.cls, Cond.code y_5_status prog_1_method_43_code 4 (some .int)], w ∈ dk_TB := dk_ac (dk_tb 822 rfl rfl) (dk_ac (dk_tb 823 rfl rfl) (dk_ac (dk_tb 57 rfl rfl) (dk_ac (dk_tb 824 rfl rfl) (dk_an))))
theorem hd_5_status : y_5_status.cls ≠ "java/lang/invoke/MethodHandle" ∧ y_5_status.cls ≠ "java/lang/invoke/VarHandle" ∧ (parseMethodDescriptor y_5_status.desc).map (fun d => d.parameters.length) = some 1 := by decide +kernel
theorem k_6_in : dk_ckT t_6_in prog_8_method_2_code 3 t_6_in.2.2.1 b_6_in = true := by decide +kernel
set_option maxRecDepth 20000 in
theorem hc_6_in : ∀ q ∈ t_6_in.2.1, ∃ n Sm, dk_nth g_6_in q.2.2 = some (n, Sm) ∧ dk_Call y_6_in.cls ({ frames := 0, cells := 0, slots := 0, locals := 0 }) prog_8_method_2_code 3 q.2.1 q.1 n Sm :=
  dk_an
theorem e_6_in : dk_Met y_6_in prog_8_method_2_code 3 (some .boolean) ({ frames := 0, cells := 0, slots := 0, locals := 0 }) s_6_in := dk_met (y := y_6_in) (cc := prog_8_method_2_code) (maxL := 3) (ret := (some .boolean)) (rm := ({ frames := 0, cells := 0, slots := 0, locals := 0 })) (T := t_6_in) (tb := b_6_in) (G := g_6_in) (by decide +kernel) ⟨fun z => absurd z (by decide), fun _ => rfl, fun z => absurd z (by decide), fun z => absurd z (by decide)⟩ (fun _ _ _ _ _ hts hd => tok_6 hts hd) h_6_in k_6_in rfl (fun i kd j h => hc_6_in (i, kd, j) (dk_lk_mem h))
set_option maxRecDepth 20000 in
theorem wv_6_in : ∀ w ∈ [Cond.static y_6_in, Cond.initialized y_6_in.cls, Cond.code y_6_in prog_8_method_2_code 3 (some .boolean)], w ∈ dk_TB := dk_ac (dk_tb 948 rfl rfl) (dk_ac (dk_tb 64 rfl rfl) (dk_ac (dk_tb 949 rfl rfl) (dk_an)))
theorem hd_6_in : y_6_in.cls ≠ "java/lang/invoke/MethodHandle" ∧ y_6_in.cls ≠ "java/lang/invoke/VarHandle" ∧ (parseMethodDescriptor y_6_in.desc).map (fun d => d.parameters.length) = some 3 := by decide +kernel
theorem k_6_finds : dk_ckT t_6_finds prog_8_method_3_code 2 t_6_finds.2.2.1 b_6_finds = true := by decide +kernel
set_option maxRecDepth 20000 in
theorem hc_6_finds : ∀ q ∈ t_6_finds.2.1, ∃ n Sm, dk_nth g_6_finds q.2.2 = some (n, Sm) ∧ dk_Call y_6_finds.cls ({ frames := 0, cells := 0, slots := 0, locals := 0 }) prog_8_method_3_code 2 q.2.1 q.1 n Sm :=
  dk_an
theorem e_6_finds : dk_Met y_6_finds prog_8_method_3_code 2 (some .int) ({ frames := 0, cells := 0, slots := 0, locals := 0 }) s_6_finds := dk_metV 6 (dk_met (y := y_6_finds) (cc := prog_8_method_3_code) (maxL := 2) (ret := (some .int)) (rm := ({ frames := 0, cells := 0, slots := 0, locals := 0 })) (T := t_6_finds) (tb := b_6_finds) (G := g_6_finds) (by decide +kernel) ⟨fun _ => rfl, fun z => absurd z (by decide), fun z => absurd z (by decide), fun z => absurd z (by decide)⟩ (fun _ _ _ _ _ hts hd => tok_6 hts hd) h_6_finds k_6_finds rfl (fun i kd j h => hc_6_finds (i, kd, j) (dk_lk_mem h)))
set_option maxRecDepth 20000 in
theorem wv_6_finds : ∀ w ∈ [Cond.instanceMethod y_6_finds, Cond.selects y_6_finds.cls y_6_finds y_6_finds, Cond.initialized y_6_finds.cls, Cond.code y_6_finds prog_8_method_3_code 2 (some .int)], w ∈ dk_TB := dk_ac (dk_tb 952 rfl rfl) (dk_ac (dk_tb 24 rfl rfl) (dk_ac (dk_tb 64 rfl rfl) (dk_ac (dk_tb 953 rfl rfl) (dk_an))))
theorem hd_6_finds : y_6_finds.cls ≠ "java/lang/invoke/MethodHandle" ∧ y_6_finds.cls ≠ "java/lang/invoke/VarHandle" ∧ (parseMethodDescriptor y_6_finds.desc).map (fun d => d.parameters.length) = some 1 := by decide +kernel
theorem k_6_wrappedBy : dk_ckT t_6_wrappedBy prog_8_method_8_code 5 t_6_wrappedBy.2.2.1 b_6_wrappedBy = true := by decide +kernel
set_option maxRecDepth 20000 in
theorem hc_6_wrappedBy : ∀ q ∈ t_6_wrappedBy.2.1, ∃ n Sm, dk_nth g_6_wrappedBy q.2.2 = some (n, Sm) ∧ dk_Call y_6_wrappedBy.cls ({ frames := 0, cells := 0, slots := 0, locals := 0 }) prog_8_method_8_code 5 q.2.1 q.1 n Sm :=
  dk_an
theorem e_6_wrappedBy : dk_Met y_6_wrappedBy prog_8_method_8_code 5 (some .int) ({ frames := 0, cells := 0, slots := 0, locals := 0 }) s_6_wrappedBy := dk_met (y := y_6_wrappedBy) (cc := prog_8_method_8_code) (maxL := 5) (ret := (some .int)) (rm := ({ frames := 0, cells := 0, slots := 0, locals := 0 })) (T := t_6_wrappedBy) (tb := b_6_wrappedBy) (G := g_6_wrappedBy) (by decide +kernel) ⟨fun _ => rfl, fun z => absurd z (by decide), fun z => absurd z (by decide), fun z => absurd z (by decide)⟩ (fun _ _ _ _ _ hts hd => tok_6 hts hd) h_6_wrappedBy k_6_wrappedBy rfl (fun i kd j h => hc_6_wrappedBy (i, kd, j) (dk_lk_mem h))
set_option maxRecDepth 20000 in
theorem wv_6_wrappedBy : ∀ w ∈ [Cond.static y_6_wrappedBy, Cond.initialized y_6_wrappedBy.cls, Cond.code y_6_wrappedBy prog_8_method_8_code 5 (some .int)], w ∈ dk_TB := dk_ac (dk_tb 960 rfl rfl) (dk_ac (dk_tb 64 rfl rfl) (dk_ac (dk_tb 961 rfl rfl) (dk_an)))
theorem hd_6_wrappedBy : y_6_wrappedBy.cls ≠ "java/lang/invoke/MethodHandle" ∧ y_6_wrappedBy.cls ≠ "java/lang/invoke/VarHandle" ∧ (parseMethodDescriptor y_6_wrappedBy.desc).map (fun d => d.parameters.length) = some 2 := by decide +kernel
theorem k_6_wrapped : dk_ckT t_6_wrapped prog_8_method_9_code 3 t_6_wrapped.2.2.1 b_6_wrapped = true := by decide +kernel
set_option maxRecDepth 20000 in
theorem hc_6_wrapped : ∀ q ∈ t_6_wrapped.2.1, ∃ n Sm, dk_nth g_6_wrapped q.2.2 = some (n, Sm) ∧ dk_Call y_6_wrapped.cls ({ frames := 1, cells := 0, slots := 0, locals := 24 }) prog_8_method_9_code 3 q.2.1 q.1 n Sm :=
  dk_ac ⟨2, s_6_wrappedBy, rfl, fun hx hb hml hown hts hF => dk_callS e_6_wrappedBy (dk_ac (dk_tb 959 rfl rfl) wv_6_wrappedBy) ⟨rfl, rfl⟩ hd_6_wrappedBy ⟨by decide, by decide⟩ ⟨Nat.zero_le _, Nat.zero_le _⟩ hx hb hml hown hts hF⟩
    (dk_an)
theorem e_6_wrapped : dk_Met y_6_wrapped prog_8_method_9_code 3 (some .int) ({ frames := 1, cells := 0, slots := 0, locals := 24 }) s_6_wrapped := dk_metV 6 (dk_met (y := y_6_wrapped) (cc := prog_8_method_9_code) (maxL := 3) (ret := (some .int)) (rm := ({ frames := 1, cells := 0, slots := 0, locals := 24 })) (T := t_6_wrapped) (tb := b_6_wrapped) (G := g_6_wrapped) (by decide +kernel) ⟨fun _ => rfl, fun z => absurd z (by decide), fun z => absurd z (by decide), fun z => absurd z (by decide)⟩ (fun _ _ _ _ _ hts hd => tok_6 hts hd) h_6_wrapped k_6_wrapped rfl (fun i kd j h => hc_6_wrapped (i, kd, j) (dk_lk_mem h)))
set_option maxRecDepth 20000 in
theorem wv_6_wrapped : ∀ w ∈ [Cond.instanceMethod y_6_wrapped, Cond.selects y_6_wrapped.cls y_6_wrapped y_6_wrapped, Cond.initialized y_6_wrapped.cls, Cond.code y_6_wrapped prog_8_method_9_code 3 (some .int)], w ∈ dk_TB := dk_ac (dk_tb 957 rfl rfl) (dk_ac (dk_tb 25 rfl rfl) (dk_ac (dk_tb 64 rfl rfl) (dk_ac (dk_tb 958 rfl rfl) (dk_an))))
theorem hd_6_wrapped : y_6_wrapped.cls ≠ "java/lang/invoke/MethodHandle" ∧ y_6_wrapped.cls ≠ "java/lang/invoke/VarHandle" ∧ (parseMethodDescriptor y_6_wrapped.desc).map (fun d => d.parameters.length) = some 1 := by decide +kernel
theorem k_6_rule : dk_ckT t_6_rule prog_8_method_10_code 5 t_6_rule.2.2.1 b_6_rule = true := by decide +kernel
set_option maxRecDepth 20000 in
theorem hc_6_rule : ∀ q ∈ t_6_rule.2.1, ∃ n Sm, dk_nth g_6_rule q.2.2 = some (n, Sm) ∧ dk_Call y_6_rule.cls ({ frames := 2, cells := 0, slots := 0, locals := 46 }) prog_8_method_10_code 5 q.2.1 q.1 n Sm :=
  dk_ac ⟨3, s_6_in, rfl, fun hx hb hml hown hts hF => dk_callS e_6_in (dk_ac (dk_tb 947 rfl rfl) wv_6_in) ⟨rfl, rfl⟩ hd_6_in ⟨by decide, by decide⟩ ⟨Nat.zero_le _, Nat.zero_le _⟩ hx hb hml hown hts hF⟩
    (dk_ac ⟨2, s_6_finds, rfl, fun hx hb hml hown hts hF => dk_callV e_6_finds dk_rcV rfl (dk_ac (dk_tb 950 rfl rfl) wv_6_finds) ⟨rfl, rfl⟩ hd_6_finds ⟨by decide, by decide⟩ ⟨Nat.zero_le _, Nat.zero_le _⟩ hx hb hml hown hts hF⟩
    (dk_ac ⟨2, s_6_wrapped, rfl, fun hx hb hml hown hts hF => dk_callV e_6_wrapped dk_rcV rfl (dk_ac (dk_tb 955 rfl rfl) wv_6_wrapped) ⟨rfl, rfl⟩ hd_6_wrapped ⟨by decide, by decide⟩ ⟨Nat.zero_le _, Nat.zero_le _⟩ hx hb hml hown hts hF⟩
    (dk_an)))
theorem e_6_rule : dk_Met y_6_rule prog_8_method_10_code 5 (some .int) ({ frames := 2, cells := 0, slots := 0, locals := 46 }) s_6_rule := dk_metV 6 (dk_met (y := y_6_rule) (cc := prog_8_method_10_code) (maxL := 5) (ret := (some .int)) (rm := ({ frames := 2, cells := 0, slots := 0, locals := 46 })) (T := t_6_rule) (tb := b_6_rule) (G := g_6_rule) (by decide +kernel) ⟨fun _ => rfl, fun z => absurd z (by decide), fun z => absurd z (by decide), fun z => absurd z (by decide)⟩ (fun _ _ _ _ _ hts hd => tok_6 hts hd) h_6_rule k_6_rule rfl (fun i kd j h => hc_6_rule (i, kd, j) (dk_lk_mem h)))
set_option maxRecDepth 20000 in
theorem wv_6_rule : ∀ w ∈ [Cond.instanceMethod y_6_rule, Cond.selects y_6_rule.cls y_6_rule y_6_rule, Cond.initialized y_6_rule.cls, Cond.code y_6_rule prog_8_method_10_code 5 (some .int)], w ∈ dk_TB := dk_ac (dk_tb 944 rfl rfl) (dk_ac (dk_tb 945 rfl rfl) (dk_ac (dk_tb 64 rfl rfl) (dk_ac (dk_tb 946 rfl rfl) (dk_an))))
theorem hd_6_rule : y_6_rule.cls ≠ "java/lang/invoke/MethodHandle" ∧ y_6_rule.cls ≠ "java/lang/invoke/VarHandle" ∧ (parseMethodDescriptor y_6_rule.desc).map (fun d => d.parameters.length) = some 2 := by decide +kernel
theorem k_6_feed : dk_ckT t_6_feed prog_8_method_12_code 4 t_6_feed.2.2.1 b_6_feed = true := by decide +kernel
set_option maxRecDepth 20000 in
theorem hc_6_feed : ∀ q ∈ t_6_feed.2.1, ∃ n Sm, dk_nth g_6_feed q.2.2 = some (n, Sm) ∧ dk_Call y_6_feed.cls ({ frames := 1, cells := 0, slots := 0, locals := 22 }) prog_8_method_12_code 4 q.2.1 q.1 n Sm :=
  dk_ac ⟨3, s_6_in, rfl, fun hx hb hml hown hts hF => dk_callS e_6_in (dk_ac (dk_tb 947 rfl rfl) wv_6_in) ⟨rfl, rfl⟩ hd_6_in ⟨by decide, by decide⟩ ⟨Nat.zero_le _, Nat.zero_le _⟩ hx hb hml hown hts hF⟩
    (dk_ac ⟨2, s_6_finds, rfl, fun hx hb hml hown hts hF => dk_callV e_6_finds dk_rcV rfl (dk_ac (dk_tb 950 rfl rfl) wv_6_finds) ⟨rfl, rfl⟩ hd_6_finds ⟨by decide, by decide⟩ ⟨Nat.zero_le _, Nat.zero_le _⟩ hx hb hml hown hts hF⟩
    (dk_an))
theorem e_6_feed : dk_Met y_6_feed prog_8_method_12_code 4 (some .int) ({ frames := 1, cells := 0, slots := 0, locals := 22 }) s_6_feed := dk_metV 6 (dk_met (y := y_6_feed) (cc := prog_8_method_12_code) (maxL := 4) (ret := (some .int)) (rm := ({ frames := 1, cells := 0, slots := 0, locals := 22 })) (T := t_6_feed) (tb := b_6_feed) (G := g_6_feed) (by decide +kernel) ⟨fun _ => rfl, fun z => absurd z (by decide), fun z => absurd z (by decide), fun z => absurd z (by decide)⟩ (fun _ _ _ _ _ hts hd => tok_6 hts hd) h_6_feed k_6_feed rfl (fun i kd j h => hc_6_feed (i, kd, j) (dk_lk_mem h)))
set_option maxRecDepth 20000 in
theorem wv_6_feed : ∀ w ∈ [Cond.instanceMethod y_6_feed, Cond.selects y_6_feed.cls y_6_feed y_6_feed, Cond.initialized y_6_feed.cls, Cond.code y_6_feed prog_8_method_12_code 4 (some .int)], w ∈ dk_TB := dk_ac (dk_tb 964 rfl rfl) (dk_ac (dk_tb 965 rfl rfl) (dk_ac (dk_tb 64 rfl rfl) (dk_ac (dk_tb 966 rfl rfl) (dk_an))))
theorem hd_6_feed : y_6_feed.cls ≠ "java/lang/invoke/MethodHandle" ∧ y_6_feed.cls ≠ "java/lang/invoke/VarHandle" ∧ (parseMethodDescriptor y_6_feed.desc).map (fun d => d.parameters.length) = some 2 := by decide +kernel
theorem k_6_wipe : dk_ckT t_6_wipe prog_8_method_13_code 2 t_6_wipe.2.2.1 b_6_wipe = true := by decide +kernel
set_option maxRecDepth 20000 in
theorem hc_6_wipe : ∀ q ∈ t_6_wipe.2.1, ∃ n Sm, dk_nth g_6_wipe q.2.2 = some (n, Sm) ∧ dk_Call y_6_wipe.cls ({ frames := 0, cells := 0, slots := 0, locals := 0 }) prog_8_method_13_code 2 q.2.1 q.1 n Sm :=
  dk_an
theorem e_6_wipe : dk_Met y_6_wipe prog_8_method_13_code 2 (some .int) ({ frames := 0, cells := 0, slots := 0, locals := 0 }) s_6_wipe := dk_metV 6 (dk_met (y := y_6_wipe) (cc := prog_8_method_13_code) (maxL := 2) (ret := (some .int)) (rm := ({ frames := 0, cells := 0, slots := 0, locals := 0 })) (T := t_6_wipe) (tb := b_6_wipe) (G := g_6_wipe) (by decide +kernel) ⟨fun _ => rfl, fun z => absurd z (by decide), fun z => absurd z (by decide), fun z => absurd z (by decide)⟩ (fun _ _ _ _ _ hts hd => tok_6 hts hd) h_6_wipe k_6_wipe rfl (fun i kd j h => hc_6_wipe (i, kd, j) (dk_lk_mem h)))
set_option maxRecDepth 20000 in
theorem wv_6_wipe : ∀ w ∈ [Cond.instanceMethod y_6_wipe, Cond.selects y_6_wipe.cls y_6_wipe y_6_wipe, Cond.initialized y_6_wipe.cls, Cond.code y_6_wipe prog_8_method_13_code 2 (some .int)], w ∈ dk_TB := dk_ac (dk_tb 968 rfl rfl) (dk_ac (dk_tb 969 rfl rfl) (dk_ac (dk_tb 64 rfl rfl) (dk_ac (dk_tb 970 rfl rfl) (dk_an))))
theorem hd_6_wipe : y_6_wipe.cls ≠ "java/lang/invoke/MethodHandle" ∧ y_6_wipe.cls ≠ "java/lang/invoke/VarHandle" ∧ (parseMethodDescriptor y_6_wipe.desc).map (fun d => d.parameters.length) = some 0 := by decide +kernel
theorem k_6_byteAt : dk_ckT t_6_byteAt prog_8_method_14_code 2 t_6_byteAt.2.2.1 b_6_byteAt = true := by decide +kernel
set_option maxRecDepth 20000 in
theorem hc_6_byteAt : ∀ q ∈ t_6_byteAt.2.1, ∃ n Sm, dk_nth g_6_byteAt q.2.2 = some (n, Sm) ∧ dk_Call y_6_byteAt.cls ({ frames := 0, cells := 0, slots := 0, locals := 0 }) prog_8_method_14_code 2 q.2.1 q.1 n Sm :=
  dk_an
theorem e_6_byteAt : dk_Met y_6_byteAt prog_8_method_14_code 2 (some .int) ({ frames := 0, cells := 0, slots := 0, locals := 0 }) s_6_byteAt := dk_metV 6 (dk_met (y := y_6_byteAt) (cc := prog_8_method_14_code) (maxL := 2) (ret := (some .int)) (rm := ({ frames := 0, cells := 0, slots := 0, locals := 0 })) (T := t_6_byteAt) (tb := b_6_byteAt) (G := g_6_byteAt) (by decide +kernel) ⟨fun _ => rfl, fun z => absurd z (by decide), fun z => absurd z (by decide), fun z => absurd z (by decide)⟩ (fun _ _ _ _ _ hts hd => tok_6 hts hd) h_6_byteAt k_6_byteAt rfl (fun i kd j h => hc_6_byteAt (i, kd, j) (dk_lk_mem h)))
set_option maxRecDepth 20000 in
theorem wv_6_byteAt : ∀ w ∈ [Cond.instanceMethod y_6_byteAt, Cond.selects y_6_byteAt.cls y_6_byteAt y_6_byteAt, Cond.initialized y_6_byteAt.cls, Cond.code y_6_byteAt prog_8_method_14_code 2 (some .int)], w ∈ dk_TB := dk_ac (dk_tb 981 rfl rfl) (dk_ac (dk_tb 27 rfl rfl) (dk_ac (dk_tb 64 rfl rfl) (dk_ac (dk_tb 982 rfl rfl) (dk_an))))
theorem hd_6_byteAt : y_6_byteAt.cls ≠ "java/lang/invoke/MethodHandle" ∧ y_6_byteAt.cls ≠ "java/lang/invoke/VarHandle" ∧ (parseMethodDescriptor y_6_byteAt.desc).map (fun d => d.parameters.length) = some 1 := by decide +kernel
theorem k_6_isLetter : dk_ckT t_6_isLetter prog_8_method_15_code 1 t_6_isLetter.2.2.1 b_6_isLetter = true := by decide +kernel
set_option maxRecDepth 20000 in
theorem hc_6_isLetter : ∀ q ∈ t_6_isLetter.2.1, ∃ n Sm, dk_nth g_6_isLetter q.2.2 = some (n, Sm) ∧ dk_Call y_6_isLetter.cls ({ frames := 1, cells := 0, slots := 0, locals := 22 }) prog_8_method_15_code 1 q.2.1 q.1 n Sm :=
  dk_ac ⟨3, s_6_in, rfl, fun hx hb hml hown hts hF => dk_callS e_6_in (dk_ac (dk_tb 947 rfl rfl) wv_6_in) ⟨rfl, rfl⟩ hd_6_in ⟨by decide, by decide⟩ ⟨Nat.zero_le _, Nat.zero_le _⟩ hx hb hml hown hts hF⟩
    (dk_an)
theorem e_6_isLetter : dk_Met y_6_isLetter prog_8_method_15_code 1 (some .boolean) ({ frames := 1, cells := 0, slots := 0, locals := 22 }) s_6_isLetter := dk_met (y := y_6_isLetter) (cc := prog_8_method_15_code) (maxL := 1) (ret := (some .boolean)) (rm := ({ frames := 1, cells := 0, slots := 0, locals := 22 })) (T := t_6_isLetter) (tb := b_6_isLetter) (G := g_6_isLetter) (by decide +kernel) ⟨fun z => absurd z (by decide), fun _ => rfl, fun z => absurd z (by decide), fun z => absurd z (by decide)⟩ (fun _ _ _ _ _ hts hd => tok_6 hts hd) h_6_isLetter k_6_isLetter rfl (fun i kd j h => hc_6_isLetter (i, kd, j) (dk_lk_mem h))
set_option maxRecDepth 20000 in
theorem wv_6_isLetter : ∀ w ∈ [Cond.static y_6_isLetter, Cond.initialized y_6_isLetter.cls, Cond.code y_6_isLetter prog_8_method_15_code 1 (some .boolean)], w ∈ dk_TB := dk_ac (dk_tb 984 rfl rfl) (dk_ac (dk_tb 64 rfl rfl) (dk_ac (dk_tb 985 rfl rfl) (dk_an)))
theorem hd_6_isLetter : y_6_isLetter.cls ≠ "java/lang/invoke/MethodHandle" ∧ y_6_isLetter.cls ≠ "java/lang/invoke/VarHandle" ∧ (parseMethodDescriptor y_6_isLetter.desc).map (fun d => d.parameters.length) = some 1 := by decide +kernel
theorem k_6_isDigit : dk_ckT t_6_isDigit prog_8_method_16_code 1 t_6_isDigit.2.2.1 b_6_isDigit = true := by decide +kernel
set_option maxRecDepth 20000 in
theorem hc_6_isDigit : ∀ q ∈ t_6_isDigit.2.1, ∃ n Sm, dk_nth g_6_isDigit q.2.2 = some (n, Sm) ∧ dk_Call y_6_isDigit.cls ({ frames := 1, cells := 0, slots := 0, locals := 22 }) prog_8_method_16_code 1 q.2.1 q.1 n Sm :=
  dk_ac ⟨3, s_6_in, rfl, fun hx hb hml hown hts hF => dk_callS e_6_in (dk_ac (dk_tb 947 rfl rfl) wv_6_in) ⟨rfl, rfl⟩ hd_6_in ⟨by decide, by decide⟩ ⟨Nat.zero_le _, Nat.zero_le _⟩ hx hb hml hown hts hF⟩
    (dk_an)
theorem e_6_isDigit : dk_Met y_6_isDigit prog_8_method_16_code 1 (some .boolean) ({ frames := 1, cells := 0, slots := 0, locals := 22 }) s_6_isDigit := dk_met (y := y_6_isDigit) (cc := prog_8_method_16_code) (maxL := 1) (ret := (some .boolean)) (rm := ({ frames := 1, cells := 0, slots := 0, locals := 22 })) (T := t_6_isDigit) (tb := b_6_isDigit) (G := g_6_isDigit) (by decide +kernel) ⟨fun z => absurd z (by decide), fun _ => rfl, fun z => absurd z (by decide), fun z => absurd z (by decide)⟩ (fun _ _ _ _ _ hts hd => tok_6 hts hd) h_6_isDigit k_6_isDigit rfl (fun i kd j h => hc_6_isDigit (i, kd, j) (dk_lk_mem h))
set_option maxRecDepth 20000 in
theorem wv_6_isDigit : ∀ w ∈ [Cond.static y_6_isDigit, Cond.initialized y_6_isDigit.cls, Cond.code y_6_isDigit prog_8_method_16_code 1 (some .boolean)], w ∈ dk_TB := dk_ac (dk_tb 987 rfl rfl) (dk_ac (dk_tb 64 rfl rfl) (dk_ac (dk_tb 988 rfl rfl) (dk_an)))
theorem hd_6_isDigit : y_6_isDigit.cls ≠ "java/lang/invoke/MethodHandle" ∧ y_6_isDigit.cls ≠ "java/lang/invoke/VarHandle" ∧ (parseMethodDescriptor y_6_isDigit.desc).map (fun d => d.parameters.length) = some 1 := by decide +kernel
theorem k_6_advance : dk_ckT t_6_advance prog_8_method_17_code 2 t_6_advance.2.2.1 b_6_advance = true := by decide +kernel
set_option maxRecDepth 20000 in
theorem hc_6_advance : ∀ q ∈ t_6_advance.2.1, ∃ n Sm, dk_nth g_6_advance q.2.2 = some (n, Sm) ∧ dk_Call y_6_advance.cls ({ frames := 2, cells := 0, slots := 0, locals := 42 }) prog_8_method_17_code 2 q.2.1 q.1 n Sm :=
  dk_ac ⟨2, s_6_byteAt, rfl, fun hx hb hml hown hts hF => dk_callV e_6_byteAt dk_rcV rfl (dk_ac (dk_tb 979 rfl rfl) wv_6_byteAt) ⟨rfl, rfl⟩ hd_6_byteAt ⟨by decide, by decide⟩ ⟨Nat.zero_le _, Nat.zero_le _⟩ hx hb hml hown hts hF⟩
    (dk_ac ⟨1, s_6_isLetter, rfl, fun hx hb hml hown hts hF => dk_callS e_6_isLetter (dk_ac (dk_tb 983 rfl rfl) wv_6_isLetter) ⟨rfl, rfl⟩ hd_6_isLetter ⟨by decide, by decide⟩ ⟨Nat.zero_le _, Nat.zero_le _⟩ hx hb hml hown hts hF⟩
    (dk_ac ⟨1, s_6_isDigit, rfl, fun hx hb hml hown hts hF => dk_callS e_6_isDigit (dk_ac (dk_tb 986 rfl rfl) wv_6_isDigit) ⟨rfl, rfl⟩ hd_6_isDigit ⟨by decide, by decide⟩ ⟨Nat.zero_le _, Nat.zero_le _⟩ hx hb hml hown hts hF⟩
    (dk_an)))
theorem e_6_advance : dk_Met y_6_advance prog_8_method_17_code 2 none ({ frames := 2, cells := 0, slots := 0, locals := 42 }) s_6_advance := dk_metV 6 (dk_met (y := y_6_advance) (cc := prog_8_method_17_code) (maxL := 2) (ret := none) (rm := ({ frames := 2, cells := 0, slots := 0, locals := 42 })) (T := t_6_advance) (tb := b_6_advance) (G := g_6_advance) (by decide +kernel) ⟨fun z => absurd z (by decide), fun z => absurd z (by decide), fun _ => rfl, fun z => absurd z (by decide)⟩ (fun _ _ _ _ _ hts hd => tok_6 hts hd) h_6_advance k_6_advance rfl (fun i kd j h => hc_6_advance (i, kd, j) (dk_lk_mem h)))
set_option maxRecDepth 20000 in
theorem wv_6_advance : ∀ w ∈ [Cond.instanceMethod y_6_advance, Cond.selects y_6_advance.cls y_6_advance y_6_advance, Cond.initialized y_6_advance.cls, Cond.code y_6_advance prog_8_method_17_code 2 none], w ∈ dk_TB := dk_ac (dk_tb 977 rfl rfl) (dk_ac (dk_tb 26 rfl rfl) (dk_ac (dk_tb 64 rfl rfl) (dk_ac (dk_tb 978 rfl rfl) (dk_an))))
theorem hd_6_advance : y_6_advance.cls ≠ "java/lang/invoke/MethodHandle" ∧ y_6_advance.cls ≠ "java/lang/invoke/VarHandle" ∧ (parseMethodDescriptor y_6_advance.desc).map (fun d => d.parameters.length) = some 0 := by decide +kernel
theorem k_6_isWord : dk_ckT t_6_isWord prog_8_method_18_code 3 t_6_isWord.2.2.1 b_6_isWord = true := by decide +kernel
set_option maxRecDepth 20000 in
theorem hc_6_isWord : ∀ q ∈ t_6_isWord.2.1, ∃ n Sm, dk_nth g_6_isWord q.2.2 = some (n, Sm) ∧ dk_Call y_6_isWord.cls ({ frames := 0, cells := 0, slots := 0, locals := 0 }) prog_8_method_18_code 3 q.2.1 q.1 n Sm :=
  dk_an
theorem e_6_isWord : dk_Met y_6_isWord prog_8_method_18_code 3 (some .boolean) ({ frames := 0, cells := 0, slots := 0, locals := 0 }) s_6_isWord := dk_metV 6 (dk_met (y := y_6_isWord) (cc := prog_8_method_18_code) (maxL := 3) (ret := (some .boolean)) (rm := ({ frames := 0, cells := 0, slots := 0, locals := 0 })) (T := t_6_isWord) (tb := b_6_isWord) (G := g_6_isWord) (by decide +kernel) ⟨fun z => absurd z (by decide), fun _ => rfl, fun z => absurd z (by decide), fun z => absurd z (by decide)⟩ (fun _ _ _ _ _ hts hd => tok_6 hts hd) h_6_isWord k_6_isWord rfl (fun i kd j h => hc_6_isWord (i, kd, j) (dk_lk_mem h)))
set_option maxRecDepth 20000 in
theorem wv_6_isWord : ∀ w ∈ [Cond.instanceMethod y_6_isWord, Cond.selects y_6_isWord.cls y_6_isWord y_6_isWord, Cond.initialized y_6_isWord.cls, Cond.code y_6_isWord prog_8_method_18_code 3 (some .boolean)], w ∈ dk_TB := dk_ac (dk_tb 1003 rfl rfl) (dk_ac (dk_tb 30 rfl rfl) (dk_ac (dk_tb 64 rfl rfl) (dk_ac (dk_tb 1004 rfl rfl) (dk_an))))
theorem hd_6_isWord : y_6_isWord.cls ≠ "java/lang/invoke/MethodHandle" ∧ y_6_isWord.cls ≠ "java/lang/invoke/VarHandle" ∧ (parseMethodDescriptor y_6_isWord.desc).map (fun d => d.parameters.length) = some 1 := by decide +kernel
theorem k_6_kindHere : dk_ckT t_6_kindHere prog_8_method_19_code 1 t_6_kindHere.2.2.1 b_6_kindHere = true := by decide +kernel
set_option maxRecDepth 20000 in
theorem hc_6_kindHere : ∀ q ∈ t_6_kindHere.2.1, ∃ n Sm, dk_nth g_6_kindHere q.2.2 = some (n, Sm) ∧ dk_Call y_6_kindHere.cls ({ frames := 1, cells := 0, slots := 0, locals := 22 }) prog_8_method_19_code 1 q.2.1 q.1 n Sm :=
  dk_ac ⟨2, s_6_isWord, rfl, fun hx hb hml hown hts hF => dk_callV e_6_isWord dk_rcV rfl (dk_ac (dk_tb 1001 rfl rfl) wv_6_isWord) ⟨rfl, rfl⟩ hd_6_isWord ⟨by decide, by decide⟩ ⟨Nat.zero_le _, Nat.zero_le _⟩ hx hb hml hown hts hF⟩
    (dk_an)
theorem e_6_kindHere : dk_Met y_6_kindHere prog_8_method_19_code 1 (some .int) ({ frames := 1, cells := 0, slots := 0, locals := 22 }) s_6_kindHere := dk_metV 6 (dk_met (y := y_6_kindHere) (cc := prog_8_method_19_code) (maxL := 1) (ret := (some .int)) (rm := ({ frames := 1, cells := 0, slots := 0, locals := 22 })) (T := t_6_kindHere) (tb := b_6_kindHere) (G := g_6_kindHere) (by decide +kernel) ⟨fun _ => rfl, fun z => absurd z (by decide), fun z => absurd z (by decide), fun z => absurd z (by decide)⟩ (fun _ _ _ _ _ hts hd => tok_6 hts hd) h_6_kindHere k_6_kindHere rfl (fun i kd j h => hc_6_kindHere (i, kd, j) (dk_lk_mem h)))
set_option maxRecDepth 20000 in
theorem wv_6_kindHere : ∀ w ∈ [Cond.instanceMethod y_6_kindHere, Cond.selects y_6_kindHere.cls y_6_kindHere y_6_kindHere, Cond.initialized y_6_kindHere.cls, Cond.code y_6_kindHere prog_8_method_19_code 1 (some .int)], w ∈ dk_TB := dk_ac (dk_tb 998 rfl rfl) (dk_ac (dk_tb 29 rfl rfl) (dk_ac (dk_tb 64 rfl rfl) (dk_ac (dk_tb 999 rfl rfl) (dk_an))))
theorem hd_6_kindHere : y_6_kindHere.cls ≠ "java/lang/invoke/MethodHandle" ∧ y_6_kindHere.cls ≠ "java/lang/invoke/VarHandle" ∧ (parseMethodDescriptor y_6_kindHere.desc).map (fun d => d.parameters.length) = some 0 := by decide +kernel
theorem k_6_wantNumber : dk_ckT t_6_wantNumber prog_8_method_21_code 4 t_6_wantNumber.2.2.1 b_6_wantNumber = true := by decide +kernel
set_option maxRecDepth 20000 in
theorem hc_6_wantNumber : ∀ q ∈ t_6_wantNumber.2.1, ∃ n Sm, dk_nth g_6_wantNumber q.2.2 = some (n, Sm) ∧ dk_Call y_6_wantNumber.cls ({ frames := 3, cells := 0, slots := 0, locals := 63 }) prog_8_method_21_code 4 q.2.1 q.1 n Sm :=
  dk_ac ⟨3, s_6_in, rfl, fun hx hb hml hown hts hF => dk_callS e_6_in (dk_ac (dk_tb 947 rfl rfl) wv_6_in) ⟨rfl, rfl⟩ hd_6_in ⟨by decide, by decide⟩ ⟨Nat.zero_le _, Nat.zero_le _⟩ hx hb hml hown hts hF⟩
    (dk_ac ⟨1, s_6_advance, rfl, fun hx hb hml hown hts hF => dk_callV e_6_advance dk_rcV rfl (dk_ac (dk_tb 975 rfl rfl) wv_6_advance) ⟨rfl, rfl⟩ hd_6_advance ⟨by decide, by decide⟩ ⟨Nat.zero_le _, Nat.zero_le _⟩ hx hb hml hown hts hF⟩
    (dk_an))
theorem e_6_wantNumber : dk_Met y_6_wantNumber prog_8_method_21_code 4 (some .int) ({ frames := 3, cells := 0, slots := 0, locals := 63 }) s_6_wantNumber := dk_metV 6 (dk_met (y := y_6_wantNumber) (cc := prog_8_method_21_code) (maxL := 4) (ret := (some .int)) (rm := ({ frames := 3, cells := 0, slots := 0, locals := 63 })) (T := t_6_wantNumber) (tb := b_6_wantNumber) (G := g_6_wantNumber) (by decide +kernel) ⟨fun _ => rfl, fun z => absurd z (by decide), fun z => absurd z (by decide), fun z => absurd z (by decide)⟩ (fun _ _ _ _ _ hts hd => tok_6 hts hd) h_6_wantNumber k_6_wantNumber rfl (fun i kd j h => hc_6_wantNumber (i, kd, j) (dk_lk_mem h)))
set_option maxRecDepth 20000 in
theorem wv_6_wantNumber : ∀ w ∈ [Cond.instanceMethod y_6_wantNumber, Cond.selects y_6_wantNumber.cls y_6_wantNumber y_6_wantNumber, Cond.initialized y_6_wantNumber.cls, Cond.code y_6_wantNumber prog_8_method_21_code 4 (some .int)], w ∈ dk_TB := dk_ac (dk_tb 1013 rfl rfl) (dk_ac (dk_tb 31 rfl rfl) (dk_ac (dk_tb 64 rfl rfl) (dk_ac (dk_tb 1014 rfl rfl) (dk_an))))
theorem hd_6_wantNumber : y_6_wantNumber.cls ≠ "java/lang/invoke/MethodHandle" ∧ y_6_wantNumber.cls ≠ "java/lang/invoke/VarHandle" ∧ (parseMethodDescriptor y_6_wantNumber.desc).map (fun d => d.parameters.length) = some 2 := by decide +kernel
theorem k_6_moreHere : dk_ckT t_6_moreHere prog_8_method_20_code 1 t_6_moreHere.2.2.1 b_6_moreHere = true := by decide +kernel
set_option maxRecDepth 20000 in
theorem hc_6_moreHere : ∀ q ∈ t_6_moreHere.2.1, ∃ n Sm, dk_nth g_6_moreHere q.2.2 = some (n, Sm) ∧ dk_Call y_6_moreHere.cls ({ frames := 1, cells := 0, slots := 0, locals := 22 }) prog_8_method_20_code 1 q.2.1 q.1 n Sm :=
  dk_ac ⟨2, s_6_isWord, rfl, fun hx hb hml hown hts hF => dk_callV e_6_isWord dk_rcV rfl (dk_ac (dk_tb 1001 rfl rfl) wv_6_isWord) ⟨rfl, rfl⟩ hd_6_isWord ⟨by decide, by decide⟩ ⟨Nat.zero_le _, Nat.zero_le _⟩ hx hb hml hown hts hF⟩
    (dk_an)
theorem e_6_moreHere : dk_Met y_6_moreHere prog_8_method_20_code 1 (some .int) ({ frames := 1, cells := 0, slots := 0, locals := 22 }) s_6_moreHere := dk_metV 6 (dk_met (y := y_6_moreHere) (cc := prog_8_method_20_code) (maxL := 1) (ret := (some .int)) (rm := ({ frames := 1, cells := 0, slots := 0, locals := 22 })) (T := t_6_moreHere) (tb := b_6_moreHere) (G := g_6_moreHere) (by decide +kernel) ⟨fun _ => rfl, fun z => absurd z (by decide), fun z => absurd z (by decide), fun z => absurd z (by decide)⟩ (fun _ _ _ _ _ hts hd => tok_6 hts hd) h_6_moreHere k_6_moreHere rfl (fun i kd j h => hc_6_moreHere (i, kd, j) (dk_lk_mem h)))
set_option maxRecDepth 20000 in
theorem wv_6_moreHere : ∀ w ∈ [Cond.instanceMethod y_6_moreHere, Cond.selects y_6_moreHere.cls y_6_moreHere y_6_moreHere, Cond.initialized y_6_moreHere.cls, Cond.code y_6_moreHere prog_8_method_20_code 1 (some .int)], w ∈ dk_TB := dk_ac (dk_tb 1018 rfl rfl) (dk_ac (dk_tb 32 rfl rfl) (dk_ac (dk_tb 64 rfl rfl) (dk_ac (dk_tb 1019 rfl rfl) (dk_an))))
theorem hd_6_moreHere : y_6_moreHere.cls ≠ "java/lang/invoke/MethodHandle" ∧ y_6_moreHere.cls ≠ "java/lang/invoke/VarHandle" ∧ (parseMethodDescriptor y_6_moreHere.desc).map (fun d => d.parameters.length) = some 0 := by decide +kernel
theorem k_6_wantGroup : dk_ckT t_6_wantGroup prog_8_method_22_code 4 t_6_wantGroup.2.2.1 b_6_wantGroup = true := by decide +kernel
set_option maxRecDepth 20000 in
theorem hc_6_wantGroup : ∀ q ∈ t_6_wantGroup.2.1, ∃ n Sm, dk_nth g_6_wantGroup q.2.2 = some (n, Sm) ∧ dk_Call y_6_wantGroup.cls ({ frames := 4, cells := 0, slots := 0, locals := 86 }) prog_8_method_22_code 4 q.2.1 q.1 n Sm :=
  dk_ac ⟨1, s_6_kindHere, rfl, fun hx hb hml hown hts hF => dk_callV e_6_kindHere dk_rcV rfl (dk_ac (dk_tb 996 rfl rfl) wv_6_kindHere) ⟨rfl, rfl⟩ hd_6_kindHere ⟨by decide, by decide⟩ ⟨Nat.zero_le _, Nat.zero_le _⟩ hx hb hml hown hts hF⟩
    (dk_ac ⟨1, s_6_advance, rfl, fun hx hb hml hown hts hF => dk_callV e_6_advance dk_rcV rfl (dk_ac (dk_tb 975 rfl rfl) wv_6_advance) ⟨rfl, rfl⟩ hd_6_advance ⟨by decide, by decide⟩ ⟨Nat.zero_le _, Nat.zero_le _⟩ hx hb hml hown hts hF⟩
    (dk_ac ⟨3, s_6_wantNumber, rfl, fun hx hb hml hown hts hF => dk_callV e_6_wantNumber dk_rcV rfl (dk_ac (dk_tb 1011 rfl rfl) wv_6_wantNumber) ⟨rfl, rfl⟩ hd_6_wantNumber ⟨by decide, by decide⟩ ⟨Nat.zero_le _, Nat.zero_le _⟩ hx hb hml hown hts hF⟩
    (dk_ac ⟨2, s_6_isWord, rfl, fun hx hb hml hown hts hF => dk_callV e_6_isWord dk_rcV rfl (dk_ac (dk_tb 1001 rfl rfl) wv_6_isWord) ⟨rfl, rfl⟩ hd_6_isWord ⟨by decide, by decide⟩ ⟨Nat.zero_le _, Nat.zero_le _⟩ hx hb hml hown hts hF⟩
    (dk_ac ⟨1, s_6_moreHere, rfl, fun hx hb hml hown hts hF => dk_callV e_6_moreHere dk_rcV rfl (dk_ac (dk_tb 1016 rfl rfl) wv_6_moreHere) ⟨rfl, rfl⟩ hd_6_moreHere ⟨by decide, by decide⟩ ⟨Nat.zero_le _, Nat.zero_le _⟩ hx hb hml hown hts hF⟩
    (dk_an)))))
theorem e_6_wantGroup : dk_Met y_6_wantGroup prog_8_method_22_code 4 none ({ frames := 4, cells := 0, slots := 0, locals := 86 }) s_6_wantGroup := dk_metV 6 (dk_met (y := y_6_wantGroup) (cc := prog_8_method_22_code) (maxL := 4) (ret := none) (rm := ({ frames := 4, cells := 0, slots := 0, locals := 86 })) (T := t_6_wantGroup) (tb := b_6_wantGroup) (G := g_6_wantGroup) (by decide +kernel) ⟨fun z => absurd z (by decide), fun z => absurd z (by decide), fun _ => rfl, fun z => absurd z (by decide)⟩ (fun _ _ _ _ _ hts hd => tok_6 hts hd) h_6_wantGroup k_6_wantGroup rfl (fun i kd j h => hc_6_wantGroup (i, kd, j) (dk_lk_mem h)))
set_option maxRecDepth 20000 in
theorem wv_6_wantGroup : ∀ w ∈ [Cond.instanceMethod y_6_wantGroup, Cond.selects y_6_wantGroup.cls y_6_wantGroup y_6_wantGroup, Cond.initialized y_6_wantGroup.cls, Cond.code y_6_wantGroup prog_8_method_22_code 4 none], w ∈ dk_TB := dk_ac (dk_tb 994 rfl rfl) (dk_ac (dk_tb 28 rfl rfl) (dk_ac (dk_tb 64 rfl rfl) (dk_ac (dk_tb 995 rfl rfl) (dk_an))))
theorem hd_6_wantGroup : y_6_wantGroup.cls ≠ "java/lang/invoke/MethodHandle" ∧ y_6_wantGroup.cls ≠ "java/lang/invoke/VarHandle" ∧ (parseMethodDescriptor y_6_wantGroup.desc).map (fun d => d.parameters.length) = some 0 := by decide +kernel
theorem k_6_its : dk_ckT t_6_its prog_8_method_11_code 3 t_6_its.2.2.1 b_6_its = true := by decide +kernel
set_option maxRecDepth 20000 in
theorem hc_6_its : ∀ q ∈ t_6_its.2.1, ∃ n Sm, dk_nth g_6_its q.2.2 = some (n, Sm) ∧ dk_Call y_6_its.cls ({ frames := 0, cells := 0, slots := 0, locals := 0 }) prog_8_method_11_code 3 q.2.1 q.1 n Sm :=
  dk_an
theorem e_6_its : dk_Met y_6_its prog_8_method_11_code 3 (some .int) ({ frames := 0, cells := 0, slots := 0, locals := 0 }) s_6_its := dk_metV 6 (dk_met (y := y_6_its) (cc := prog_8_method_11_code) (maxL := 3) (ret := (some .int)) (rm := ({ frames := 0, cells := 0, slots := 0, locals := 0 })) (T := t_6_its) (tb := b_6_its) (G := g_6_its) (by decide +kernel) ⟨fun _ => rfl, fun z => absurd z (by decide), fun z => absurd z (by decide), fun z => absurd z (by decide)⟩ (fun _ _ _ _ _ hts hd => tok_6 hts hd) h_6_its k_6_its rfl (fun i kd j h => hc_6_its (i, kd, j) (dk_lk_mem h)))
set_option maxRecDepth 20000 in
theorem wv_6_its : ∀ w ∈ [Cond.instanceMethod y_6_its, Cond.selects y_6_its.cls y_6_its y_6_its, Cond.initialized y_6_its.cls, Cond.code y_6_its prog_8_method_11_code 3 (some .int)], w ∈ dk_TB := dk_ac (dk_tb 1025 rfl rfl) (dk_ac (dk_tb 33 rfl rfl) (dk_ac (dk_tb 64 rfl rfl) (dk_ac (dk_tb 1026 rfl rfl) (dk_an))))
theorem hd_6_its : y_6_its.cls ≠ "java/lang/invoke/MethodHandle" ∧ y_6_its.cls ≠ "java/lang/invoke/VarHandle" ∧ (parseMethodDescriptor y_6_its.desc).map (fun d => d.parameters.length) = some 2 := by decide +kernel
theorem k_6_column : dk_ckT t_6_column prog_8_method_23_code 4 t_6_column.2.2.1 b_6_column = true := by decide +kernel
set_option maxRecDepth 20000 in
theorem hc_6_column : ∀ q ∈ t_6_column.2.1, ∃ n Sm, dk_nth g_6_column q.2.2 = some (n, Sm) ∧ dk_Call y_6_column.cls ({ frames := 5, cells := 0, slots := 0, locals := 109 }) prog_8_method_23_code 4 q.2.1 q.1 n Sm :=
  dk_ac ⟨1, s_6_advance, rfl, fun hx hb hml hown hts hF => dk_callV e_6_advance dk_rcV rfl (dk_ac (dk_tb 975 rfl rfl) wv_6_advance) ⟨rfl, rfl⟩ hd_6_advance ⟨by decide, by decide⟩ ⟨Nat.zero_le _, Nat.zero_le _⟩ hx hb hml hown hts hF⟩
    (dk_ac ⟨1, s_6_wantGroup, rfl, fun hx hb hml hown hts hF => dk_callV e_6_wantGroup dk_rcV rfl (dk_ac (dk_tb 992 rfl rfl) wv_6_wantGroup) ⟨rfl, rfl⟩ hd_6_wantGroup ⟨by decide, by decide⟩ ⟨Nat.zero_le _, Nat.zero_le _⟩ hx hb hml hown hts hF⟩
    (dk_ac ⟨2, s_6_finds, rfl, fun hx hb hml hown hts hF => dk_callV e_6_finds dk_rcV rfl (dk_ac (dk_tb 950 rfl rfl) wv_6_finds) ⟨rfl, rfl⟩ hd_6_finds ⟨by decide, by decide⟩ ⟨Nat.zero_le _, Nat.zero_le _⟩ hx hb hml hown hts hF⟩
    (dk_ac ⟨3, s_6_its, rfl, fun hx hb hml hown hts hF => dk_callV e_6_its dk_rcV rfl (dk_ac (dk_tb 1023 rfl rfl) wv_6_its) ⟨rfl, rfl⟩ hd_6_its ⟨by decide, by decide⟩ ⟨Nat.zero_le _, Nat.zero_le _⟩ hx hb hml hown hts hF⟩
    (dk_an))))
theorem e_6_column : dk_Met y_6_column prog_8_method_23_code 4 (some .int) ({ frames := 5, cells := 0, slots := 0, locals := 109 }) s_6_column := dk_metV 6 (dk_met (y := y_6_column) (cc := prog_8_method_23_code) (maxL := 4) (ret := (some .int)) (rm := ({ frames := 5, cells := 0, slots := 0, locals := 109 })) (T := t_6_column) (tb := b_6_column) (G := g_6_column) (by decide +kernel) ⟨fun _ => rfl, fun z => absurd z (by decide), fun z => absurd z (by decide), fun z => absurd z (by decide)⟩ (fun _ _ _ _ _ hts hd => tok_6 hts hd) h_6_column k_6_column rfl (fun i kd j h => hc_6_column (i, kd, j) (dk_lk_mem h)))
set_option maxRecDepth 20000 in
theorem wv_6_column : ∀ w ∈ [Cond.instanceMethod y_6_column, Cond.selects y_6_column.cls y_6_column y_6_column, Cond.initialized y_6_column.cls, Cond.code y_6_column prog_8_method_23_code 4 (some .int)], w ∈ dk_TB := dk_ac (dk_tb 972 rfl rfl) (dk_ac (dk_tb 973 rfl rfl) (dk_ac (dk_tb 64 rfl rfl) (dk_ac (dk_tb 974 rfl rfl) (dk_an))))
theorem hd_6_column : y_6_column.cls ≠ "java/lang/invoke/MethodHandle" ∧ y_6_column.cls ≠ "java/lang/invoke/VarHandle" ∧ (parseMethodDescriptor y_6_column.desc).map (fun d => d.parameters.length) = some 0 := by decide +kernel
theorem k_6_isPlace : dk_ckT t_6_isPlace prog_8_method_6_code 1 t_6_isPlace.2.2.1 b_6_isPlace = true := by decide +kernel
set_option maxRecDepth 20000 in
theorem hc_6_isPlace : ∀ q ∈ t_6_isPlace.2.1, ∃ n Sm, dk_nth g_6_isPlace q.2.2 = some (n, Sm) ∧ dk_Call y_6_isPlace.cls ({ frames := 1, cells := 0, slots := 0, locals := 22 }) prog_8_method_6_code 1 q.2.1 q.1 n Sm :=
  dk_ac ⟨3, s_6_in, rfl, fun hx hb hml hown hts hF => dk_callS e_6_in (dk_ac (dk_tb 947 rfl rfl) wv_6_in) ⟨rfl, rfl⟩ hd_6_in ⟨by decide, by decide⟩ ⟨Nat.zero_le _, Nat.zero_le _⟩ hx hb hml hown hts hF⟩
    (dk_an)
theorem e_6_isPlace : dk_Met y_6_isPlace prog_8_method_6_code 1 (some .boolean) ({ frames := 1, cells := 0, slots := 0, locals := 22 }) s_6_isPlace := dk_met (y := y_6_isPlace) (cc := prog_8_method_6_code) (maxL := 1) (ret := (some .boolean)) (rm := ({ frames := 1, cells := 0, slots := 0, locals := 22 })) (T := t_6_isPlace) (tb := b_6_isPlace) (G := g_6_isPlace) (by decide +kernel) ⟨fun z => absurd z (by decide), fun _ => rfl, fun z => absurd z (by decide), fun z => absurd z (by decide)⟩ (fun _ _ _ _ _ hts hd => tok_6 hts hd) h_6_isPlace k_6_isPlace rfl (fun i kd j h => hc_6_isPlace (i, kd, j) (dk_lk_mem h))
set_option maxRecDepth 20000 in
theorem wv_6_isPlace : ∀ w ∈ [Cond.static y_6_isPlace, Cond.initialized y_6_isPlace.cls, Cond.code y_6_isPlace prog_8_method_6_code 1 (some .boolean)], w ∈ dk_TB := dk_ac (dk_tb 1032 rfl rfl) (dk_ac (dk_tb 64 rfl rfl) (dk_ac (dk_tb 1033 rfl rfl) (dk_an)))
theorem hd_6_isPlace : y_6_isPlace.cls ≠ "java/lang/invoke/MethodHandle" ∧ y_6_isPlace.cls ≠ "java/lang/invoke/VarHandle" ∧ (parseMethodDescriptor y_6_isPlace.desc).map (fun d => d.parameters.length) = some 1 := by decide +kernel
theorem k_6_lagOf : dk_ckT t_6_lagOf prog_8_method_24_code 3 t_6_lagOf.2.2.1 b_6_lagOf = true := by decide +kernel
set_option maxRecDepth 20000 in
theorem hc_6_lagOf : ∀ q ∈ t_6_lagOf.2.1, ∃ n Sm, dk_nth g_6_lagOf q.2.2 = some (n, Sm) ∧ dk_Call y_6_lagOf.cls ({ frames := 0, cells := 0, slots := 0, locals := 0 }) prog_8_method_24_code 3 q.2.1 q.1 n Sm :=
  dk_an
theorem e_6_lagOf : dk_Met y_6_lagOf prog_8_method_24_code 3 (some .int) ({ frames := 0, cells := 0, slots := 0, locals := 0 }) s_6_lagOf := dk_metV 6 (dk_met (y := y_6_lagOf) (cc := prog_8_method_24_code) (maxL := 3) (ret := (some .int)) (rm := ({ frames := 0, cells := 0, slots := 0, locals := 0 })) (T := t_6_lagOf) (tb := b_6_lagOf) (G := g_6_lagOf) (by decide +kernel) ⟨fun _ => rfl, fun z => absurd z (by decide), fun z => absurd z (by decide), fun z => absurd z (by decide)⟩ (fun _ _ _ _ _ hts hd => tok_6 hts hd) h_6_lagOf k_6_lagOf rfl (fun i kd j h => hc_6_lagOf (i, kd, j) (dk_lk_mem h)))
set_option maxRecDepth 20000 in
theorem wv_6_lagOf : ∀ w ∈ [Cond.instanceMethod y_6_lagOf, Cond.selects y_6_lagOf.cls y_6_lagOf y_6_lagOf, Cond.initialized y_6_lagOf.cls, Cond.code y_6_lagOf prog_8_method_24_code 3 (some .int)], w ∈ dk_TB := dk_ac (dk_tb 1036 rfl rfl) (dk_ac (dk_tb 34 rfl rfl) (dk_ac (dk_tb 64 rfl rfl) (dk_ac (dk_tb 1037 rfl rfl) (dk_an))))
theorem hd_6_lagOf : y_6_lagOf.cls ≠ "java/lang/invoke/MethodHandle" ∧ y_6_lagOf.cls ≠ "java/lang/invoke/VarHandle" ∧ (parseMethodDescriptor y_6_lagOf.desc).map (fun d => d.parameters.length) = some 2 := by decide +kernel
theorem k_6_lag : dk_ckT t_6_lag prog_8_method_25_code 3 t_6_lag.2.2.1 b_6_lag = true := by decide +kernel
set_option maxRecDepth 20000 in
theorem hc_6_lag : ∀ q ∈ t_6_lag.2.1, ∃ n Sm, dk_nth g_6_lag q.2.2 = some (n, Sm) ∧ dk_Call y_6_lag.cls ({ frames := 2, cells := 0, slots := 0, locals := 42 }) prog_8_method_25_code 3 q.2.1 q.1 n Sm :=
  dk_ac ⟨1, s_6_isPlace, rfl, fun hx hb hml hown hts hF => dk_callS e_6_isPlace (dk_ac (dk_tb 1031 rfl rfl) wv_6_isPlace) ⟨rfl, rfl⟩ hd_6_isPlace ⟨by decide, by decide⟩ ⟨Nat.zero_le _, Nat.zero_le _⟩ hx hb hml hown hts hF⟩
    (dk_ac ⟨3, s_6_lagOf, rfl, fun hx hb hml hown hts hF => dk_callV e_6_lagOf dk_rcV rfl (dk_ac (dk_tb 1034 rfl rfl) wv_6_lagOf) ⟨rfl, rfl⟩ hd_6_lagOf ⟨by decide, by decide⟩ ⟨Nat.zero_le _, Nat.zero_le _⟩ hx hb hml hown hts hF⟩
    (dk_ac ⟨2, s_6_finds, rfl, fun hx hb hml hown hts hF => dk_callV e_6_finds dk_rcV rfl (dk_ac (dk_tb 950 rfl rfl) wv_6_finds) ⟨rfl, rfl⟩ hd_6_finds ⟨by decide, by decide⟩ ⟨Nat.zero_le _, Nat.zero_le _⟩ hx hb hml hown hts hF⟩
    (dk_an)))
theorem e_6_lag : dk_Met y_6_lag prog_8_method_25_code 3 (some .int) ({ frames := 2, cells := 0, slots := 0, locals := 42 }) s_6_lag := dk_metV 6 (dk_met (y := y_6_lag) (cc := prog_8_method_25_code) (maxL := 3) (ret := (some .int)) (rm := ({ frames := 2, cells := 0, slots := 0, locals := 42 })) (T := t_6_lag) (tb := b_6_lag) (G := g_6_lag) (by decide +kernel) ⟨fun _ => rfl, fun z => absurd z (by decide), fun z => absurd z (by decide), fun z => absurd z (by decide)⟩ (fun _ _ _ _ _ hts hd => tok_6 hts hd) h_6_lag k_6_lag rfl (fun i kd j h => hc_6_lag (i, kd, j) (dk_lk_mem h)))
set_option maxRecDepth 20000 in
theorem wv_6_lag : ∀ w ∈ [Cond.instanceMethod y_6_lag, Cond.selects y_6_lag.cls y_6_lag y_6_lag, Cond.initialized y_6_lag.cls, Cond.code y_6_lag prog_8_method_25_code 3 (some .int)], w ∈ dk_TB := dk_ac (dk_tb 1028 rfl rfl) (dk_ac (dk_tb 1029 rfl rfl) (dk_ac (dk_tb 64 rfl rfl) (dk_ac (dk_tb 1030 rfl rfl) (dk_an))))
theorem hd_6_lag : y_6_lag.cls ≠ "java/lang/invoke/MethodHandle" ∧ y_6_lag.cls ≠ "java/lang/invoke/VarHandle" ∧ (parseMethodDescriptor y_6_lag.desc).map (fun d => d.parameters.length) = some 2 := by decide +kernel
theorem k_6_isRank : dk_ckT t_6_isRank prog_8_method_4_code 2 t_6_isRank.2.2.1 b_6_isRank = true := by decide +kernel
set_option maxRecDepth 20000 in
theorem hc_6_isRank : ∀ q ∈ t_6_isRank.2.1, ∃ n Sm, dk_nth g_6_isRank q.2.2 = some (n, Sm) ∧ dk_Call y_6_isRank.cls ({ frames := 1, cells := 0, slots := 0, locals := 22 }) prog_8_method_4_code 2 q.2.1 q.1 n Sm :=
  dk_ac ⟨3, s_6_in, rfl, fun hx hb hml hown hts hF => dk_callS e_6_in (dk_ac (dk_tb 947 rfl rfl) wv_6_in) ⟨rfl, rfl⟩ hd_6_in ⟨by decide, by decide⟩ ⟨Nat.zero_le _, Nat.zero_le _⟩ hx hb hml hown hts hF⟩
    (dk_an)
theorem e_6_isRank : dk_Met y_6_isRank prog_8_method_4_code 2 (some .boolean) ({ frames := 1, cells := 0, slots := 0, locals := 22 }) s_6_isRank := dk_metV 6 (dk_met (y := y_6_isRank) (cc := prog_8_method_4_code) (maxL := 2) (ret := (some .boolean)) (rm := ({ frames := 1, cells := 0, slots := 0, locals := 22 })) (T := t_6_isRank) (tb := b_6_isRank) (G := g_6_isRank) (by decide +kernel) ⟨fun z => absurd z (by decide), fun _ => rfl, fun z => absurd z (by decide), fun z => absurd z (by decide)⟩ (fun _ _ _ _ _ hts hd => tok_6 hts hd) h_6_isRank k_6_isRank rfl (fun i kd j h => hc_6_isRank (i, kd, j) (dk_lk_mem h)))
set_option maxRecDepth 20000 in
theorem wv_6_isRank : ∀ w ∈ [Cond.instanceMethod y_6_isRank, Cond.selects y_6_isRank.cls y_6_isRank y_6_isRank, Cond.initialized y_6_isRank.cls, Cond.code y_6_isRank prog_8_method_4_code 2 (some .boolean)], w ∈ dk_TB := dk_ac (dk_tb 1044 rfl rfl) (dk_ac (dk_tb 35 rfl rfl) (dk_ac (dk_tb 64 rfl rfl) (dk_ac (dk_tb 1045 rfl rfl) (dk_an))))
theorem hd_6_isRank : y_6_isRank.cls ≠ "java/lang/invoke/MethodHandle" ∧ y_6_isRank.cls ≠ "java/lang/invoke/VarHandle" ∧ (parseMethodDescriptor y_6_isRank.desc).map (fun d => d.parameters.length) = some 1 := by decide +kernel
theorem k_6_beginMarch : dk_ckT t_6_beginMarch prog_8_method_33_code 2 t_6_beginMarch.2.2.1 b_6_beginMarch = true := by decide +kernel
set_option maxRecDepth 20000 in
theorem hc_6_beginMarch : ∀ q ∈ t_6_beginMarch.2.1, ∃ n Sm, dk_nth g_6_beginMarch q.2.2 = some (n, Sm) ∧ dk_Call y_6_beginMarch.cls ({ frames := 0, cells := 0, slots := 0, locals := 0 }) prog_8_method_33_code 2 q.2.1 q.1 n Sm :=
  dk_an
theorem e_6_beginMarch : dk_Met y_6_beginMarch prog_8_method_33_code 2 none ({ frames := 0, cells := 0, slots := 0, locals := 0 }) s_6_beginMarch := dk_metV 6 (dk_met (y := y_6_beginMarch) (cc := prog_8_method_33_code) (maxL := 2) (ret := none) (rm := ({ frames := 0, cells := 0, slots := 0, locals := 0 })) (T := t_6_beginMarch) (tb := b_6_beginMarch) (G := g_6_beginMarch) (by decide +kernel) ⟨fun z => absurd z (by decide), fun z => absurd z (by decide), fun _ => rfl, fun z => absurd z (by decide)⟩ (fun _ _ _ _ _ hts hd => tok_6 hts hd) h_6_beginMarch k_6_beginMarch rfl (fun i kd j h => hc_6_beginMarch (i, kd, j) (dk_lk_mem h)))
set_option maxRecDepth 20000 in
theorem wv_6_beginMarch : ∀ w ∈ [Cond.instanceMethod y_6_beginMarch, Cond.selects y_6_beginMarch.cls y_6_beginMarch y_6_beginMarch, Cond.initialized y_6_beginMarch.cls, Cond.code y_6_beginMarch prog_8_method_33_code 2 none], w ∈ dk_TB := dk_ac (dk_tb 1048 rfl rfl) (dk_ac (dk_tb 36 rfl rfl) (dk_ac (dk_tb 64 rfl rfl) (dk_ac (dk_tb 1049 rfl rfl) (dk_an))))
theorem hd_6_beginMarch : y_6_beginMarch.cls ≠ "java/lang/invoke/MethodHandle" ∧ y_6_beginMarch.cls ≠ "java/lang/invoke/VarHandle" ∧ (parseMethodDescriptor y_6_beginMarch.desc).map (fun d => d.parameters.length) = some 0 := by decide +kernel
theorem k_6_size : dk_ckT t_6_size prog_8_method_7_code 1 t_6_size.2.2.1 b_6_size = true := by decide +kernel
set_option maxRecDepth 20000 in
theorem hc_6_size : ∀ q ∈ t_6_size.2.1, ∃ n Sm, dk_nth g_6_size q.2.2 = some (n, Sm) ∧ dk_Call y_6_size.cls ({ frames := 0, cells := 0, slots := 0, locals := 0 }) prog_8_method_7_code 1 q.2.1 q.1 n Sm :=
  dk_an
theorem e_6_size : dk_Met y_6_size prog_8_method_7_code 1 (some .int) ({ frames := 0, cells := 0, slots := 0, locals := 0 }) s_6_size := dk_met (y := y_6_size) (cc := prog_8_method_7_code) (maxL := 1) (ret := (some .int)) (rm := ({ frames := 0, cells := 0, slots := 0, locals := 0 })) (T := t_6_size) (tb := b_6_size) (G := g_6_size) (by decide +kernel) ⟨fun _ => rfl, fun z => absurd z (by decide), fun z => absurd z (by decide), fun z => absurd z (by decide)⟩ (fun _ _ _ _ _ hts hd => tok_6 hts hd) h_6_size k_6_size rfl (fun i kd j h => hc_6_size (i, kd, j) (dk_lk_mem h))
set_option maxRecDepth 20000 in
theorem wv_6_size : ∀ w ∈ [Cond.static y_6_size, Cond.initialized y_6_size.cls, Cond.code y_6_size prog_8_method_7_code 1 (some .int)], w ∈ dk_TB := dk_ac (dk_tb 1055 rfl rfl) (dk_ac (dk_tb 64 rfl rfl) (dk_ac (dk_tb 1056 rfl rfl) (dk_an)))
theorem hd_6_size : y_6_size.cls ≠ "java/lang/invoke/MethodHandle" ∧ y_6_size.cls ≠ "java/lang/invoke/VarHandle" ∧ (parseMethodDescriptor y_6_size.desc).map (fun d => d.parameters.length) = some 1 := by decide +kernel
theorem k_6_drumFor : dk_ckT t_6_drumFor prog_8_method_26_code 6 t_6_drumFor.2.2.1 b_6_drumFor = true := by decide +kernel
set_option maxRecDepth 20000 in
theorem hc_6_drumFor : ∀ q ∈ t_6_drumFor.2.1, ∃ n Sm, dk_nth g_6_drumFor q.2.2 = some (n, Sm) ∧ dk_Call y_6_drumFor.cls ({ frames := 1, cells := 0, slots := 0, locals := 22 }) prog_8_method_26_code 6 q.2.1 q.1 n Sm :=
  dk_ac ⟨3, s_6_its, rfl, fun hx hb hml hown hts hF => dk_callV e_6_its dk_rcV rfl (dk_ac (dk_tb 1023 rfl rfl) wv_6_its) ⟨rfl, rfl⟩ hd_6_its ⟨by decide, by decide⟩ ⟨Nat.zero_le _, Nat.zero_le _⟩ hx hb hml hown hts hF⟩
    (dk_ac ⟨1, s_6_size, rfl, fun hx hb hml hown hts hF => dk_callS e_6_size (dk_ac (dk_tb 1054 rfl rfl) wv_6_size) ⟨rfl, rfl⟩ hd_6_size ⟨by decide, by decide⟩ ⟨Nat.zero_le _, Nat.zero_le _⟩ hx hb hml hown hts hF⟩
    (dk_an))
theorem e_6_drumFor : dk_Met y_6_drumFor prog_8_method_26_code 6 (some .int) ({ frames := 1, cells := 0, slots := 0, locals := 22 }) s_6_drumFor := dk_metV 6 (dk_met (y := y_6_drumFor) (cc := prog_8_method_26_code) (maxL := 6) (ret := (some .int)) (rm := ({ frames := 1, cells := 0, slots := 0, locals := 22 })) (T := t_6_drumFor) (tb := b_6_drumFor) (G := g_6_drumFor) (by decide +kernel) ⟨fun _ => rfl, fun z => absurd z (by decide), fun z => absurd z (by decide), fun z => absurd z (by decide)⟩ (fun _ _ _ _ _ hts hd => tok_6 hts hd) h_6_drumFor k_6_drumFor rfl (fun i kd j h => hc_6_drumFor (i, kd, j) (dk_lk_mem h)))
set_option maxRecDepth 20000 in
theorem wv_6_drumFor : ∀ w ∈ [Cond.instanceMethod y_6_drumFor, Cond.selects y_6_drumFor.cls y_6_drumFor y_6_drumFor, Cond.initialized y_6_drumFor.cls, Cond.code y_6_drumFor prog_8_method_26_code 6 (some .int)], w ∈ dk_TB := dk_ac (dk_tb 1052 rfl rfl) (dk_ac (dk_tb 37 rfl rfl) (dk_ac (dk_tb 64 rfl rfl) (dk_ac (dk_tb 1053 rfl rfl) (dk_an))))
theorem hd_6_drumFor : y_6_drumFor.cls ≠ "java/lang/invoke/MethodHandle" ∧ y_6_drumFor.cls ≠ "java/lang/invoke/VarHandle" ∧ (parseMethodDescriptor y_6_drumFor.desc).map (fun d => d.parameters.length) = some 1 := by decide +kernel
theorem k_6_byEar : dk_ckT t_6_byEar prog_8_method_28_code 3 t_6_byEar.2.2.1 b_6_byEar = true := by decide +kernel
set_option maxRecDepth 20000 in
theorem hc_6_byEar : ∀ q ∈ t_6_byEar.2.1, ∃ n Sm, dk_nth g_6_byEar q.2.2 = some (n, Sm) ∧ dk_Call y_6_byEar.cls ({ frames := 2, cells := 0, slots := 0, locals := 47 }) prog_8_method_28_code 3 q.2.1 q.1 n Sm :=
  dk_ac ⟨2, s_6_drumFor, rfl, fun hx hb hml hown hts hF => dk_callV e_6_drumFor dk_rcV rfl (dk_ac (dk_tb 1050 rfl rfl) wv_6_drumFor) ⟨rfl, rfl⟩ hd_6_drumFor ⟨by decide, by decide⟩ ⟨Nat.zero_le _, Nat.zero_le _⟩ hx hb hml hown hts hF⟩
    (dk_ac ⟨3, s_6_its, rfl, fun hx hb hml hown hts hF => dk_callV e_6_its dk_rcV rfl (dk_ac (dk_tb 1023 rfl rfl) wv_6_its) ⟨rfl, rfl⟩ hd_6_its ⟨by decide, by decide⟩ ⟨Nat.zero_le _, Nat.zero_le _⟩ hx hb hml hown hts hF⟩
    (dk_ac ⟨3, s_6_lagOf, rfl, fun hx hb hml hown hts hF => dk_callV e_6_lagOf dk_rcV rfl (dk_ac (dk_tb 1034 rfl rfl) wv_6_lagOf) ⟨rfl, rfl⟩ hd_6_lagOf ⟨by decide, by decide⟩ ⟨Nat.zero_le _, Nat.zero_le _⟩ hx hb hml hown hts hF⟩
    (dk_ac ⟨2, s_6_wrapped, rfl, fun hx hb hml hown hts hF => dk_callV e_6_wrapped dk_rcV rfl (dk_ac (dk_tb 955 rfl rfl) wv_6_wrapped) ⟨rfl, rfl⟩ hd_6_wrapped ⟨by decide, by decide⟩ ⟨Nat.zero_le _, Nat.zero_le _⟩ hx hb hml hown hts hF⟩
    (dk_an))))
theorem e_6_byEar : dk_Met y_6_byEar prog_8_method_28_code 3 (some .int) ({ frames := 2, cells := 0, slots := 0, locals := 47 }) s_6_byEar := dk_metV 6 (dk_met (y := y_6_byEar) (cc := prog_8_method_28_code) (maxL := 3) (ret := (some .int)) (rm := ({ frames := 2, cells := 0, slots := 0, locals := 47 })) (T := t_6_byEar) (tb := b_6_byEar) (G := g_6_byEar) (by decide +kernel) ⟨fun _ => rfl, fun z => absurd z (by decide), fun z => absurd z (by decide), fun z => absurd z (by decide)⟩ (fun _ _ _ _ _ hts hd => tok_6 hts hd) h_6_byEar k_6_byEar rfl (fun i kd j h => hc_6_byEar (i, kd, j) (dk_lk_mem h)))
set_option maxRecDepth 20000 in
theorem wv_6_byEar : ∀ w ∈ [Cond.instanceMethod y_6_byEar, Cond.selects y_6_byEar.cls y_6_byEar y_6_byEar, Cond.initialized y_6_byEar.cls, Cond.code y_6_byEar prog_8_method_28_code 3 (some .int)], w ∈ dk_TB := dk_ac (dk_tb 1063 rfl rfl) (dk_ac (dk_tb 39 rfl rfl) (dk_ac (dk_tb 64 rfl rfl) (dk_ac (dk_tb 1064 rfl rfl) (dk_an))))
theorem hd_6_byEar : y_6_byEar.cls ≠ "java/lang/invoke/MethodHandle" ∧ y_6_byEar.cls ≠ "java/lang/invoke/VarHandle" ∧ (parseMethodDescriptor y_6_byEar.desc).map (fun d => d.parameters.length) = some 1 := by decide +kernel
end
section
/-! THE METHODS: their contracts -/
theorem k_6_isBent : dk_ckT t_6_isBent prog_8_method_27_code 3 t_6_isBent.2.2.1 b_6_isBent = true := by decide +kernel
set_option maxRecDepth 20000 in
theorem hc_6_isBent : ∀ q ∈ t_6_isBent.2.1, ∃ n Sm, dk_nth g_6_isBent q.2.2 = some (n, Sm) ∧ dk_Call y_6_isBent.cls ({ frames := 1, cells := 0, slots := 0, locals := 22 }) prog_8_method_27_code 3 q.2.1 q.1 n Sm :=
  dk_ac ⟨3, s_6_its, rfl, fun hx hb hml hown hts hF => dk_callV e_6_its dk_rcV rfl (dk_ac (dk_tb 1023 rfl rfl) wv_6_its) ⟨rfl, rfl⟩ hd_6_its ⟨by decide, by decide⟩ ⟨Nat.zero_le _, Nat.zero_le _⟩ hx hb hml hown hts hF⟩
    (dk_an)
theorem e_6_isBent : dk_Met y_6_isBent prog_8_method_27_code 3 (some .boolean) ({ frames := 1, cells := 0, slots := 0, locals := 22 }) s_6_isBent := dk_metV 6 (dk_met (y := y_6_isBent) (cc := prog_8_method_27_code) (maxL := 3) (ret := (some .boolean)) (rm := ({ frames := 1, cells := 0, slots := 0, locals := 22 })) (T := t_6_isBent) (tb := b_6_isBent) (G := g_6_isBent) (by decide +kernel) ⟨fun z => absurd z (by decide), fun _ => rfl, fun z => absurd z (by decide), fun z => absurd z (by decide)⟩ (fun _ _ _ _ _ hts hd => tok_6 hts hd) h_6_isBent k_6_isBent rfl (fun i kd j h => hc_6_isBent (i, kd, j) (dk_lk_mem h)))
set_option maxRecDepth 20000 in
theorem wv_6_isBent : ∀ w ∈ [Cond.instanceMethod y_6_isBent, Cond.selects y_6_isBent.cls y_6_isBent y_6_isBent, Cond.initialized y_6_isBent.cls, Cond.code y_6_isBent prog_8_method_27_code 3 (some .boolean)], w ∈ dk_TB := dk_ac (dk_tb 1071 rfl rfl) (dk_ac (dk_tb 41 rfl rfl) (dk_ac (dk_tb 64 rfl rfl) (dk_ac (dk_tb 1072 rfl rfl) (dk_an))))
theorem hd_6_isBent : y_6_isBent.cls ≠ "java/lang/invoke/MethodHandle" ∧ y_6_isBent.cls ≠ "java/lang/invoke/VarHandle" ∧ (parseMethodDescriptor y_6_isBent.desc).map (fun d => d.parameters.length) = some 1 := by decide +kernel
theorem k_6_byEye : dk_ckT t_6_byEye prog_8_method_29_code 2 t_6_byEye.2.2.1 b_6_byEye = true := by decide +kernel
set_option maxRecDepth 20000 in
theorem hc_6_byEye : ∀ q ∈ t_6_byEye.2.1, ∃ n Sm, dk_nth g_6_byEye q.2.2 = some (n, Sm) ∧ dk_Call y_6_byEye.cls ({ frames := 2, cells := 0, slots := 0, locals := 46 }) prog_8_method_29_code 2 q.2.1 q.1 n Sm :=
  dk_ac ⟨2, s_6_isBent, rfl, fun hx hb hml hown hts hF => dk_callV e_6_isBent dk_rcV rfl (dk_ac (dk_tb 1069 rfl rfl) wv_6_isBent) ⟨rfl, rfl⟩ hd_6_isBent ⟨by decide, by decide⟩ ⟨Nat.zero_le _, Nat.zero_le _⟩ hx hb hml hown hts hF⟩
    (dk_ac ⟨2, s_6_wrapped, rfl, fun hx hb hml hown hts hF => dk_callV e_6_wrapped dk_rcV rfl (dk_ac (dk_tb 955 rfl rfl) wv_6_wrapped) ⟨rfl, rfl⟩ hd_6_wrapped ⟨by decide, by decide⟩ ⟨Nat.zero_le _, Nat.zero_le _⟩ hx hb hml hown hts hF⟩
    (dk_ac ⟨3, s_6_its, rfl, fun hx hb hml hown hts hF => dk_callV e_6_its dk_rcV rfl (dk_ac (dk_tb 1023 rfl rfl) wv_6_its) ⟨rfl, rfl⟩ hd_6_its ⟨by decide, by decide⟩ ⟨Nat.zero_le _, Nat.zero_le _⟩ hx hb hml hown hts hF⟩
    (dk_an)))
theorem e_6_byEye : dk_Met y_6_byEye prog_8_method_29_code 2 (some .int) ({ frames := 2, cells := 0, slots := 0, locals := 46 }) s_6_byEye := dk_metV 6 (dk_met (y := y_6_byEye) (cc := prog_8_method_29_code) (maxL := 2) (ret := (some .int)) (rm := ({ frames := 2, cells := 0, slots := 0, locals := 46 })) (T := t_6_byEye) (tb := b_6_byEye) (G := g_6_byEye) (by decide +kernel) ⟨fun _ => rfl, fun z => absurd z (by decide), fun z => absurd z (by decide), fun z => absurd z (by decide)⟩ (fun _ _ _ _ _ hts hd => tok_6 hts hd) h_6_byEye k_6_byEye rfl (fun i kd j h => hc_6_byEye (i, kd, j) (dk_lk_mem h)))
set_option maxRecDepth 20000 in
theorem wv_6_byEye : ∀ w ∈ [Cond.instanceMethod y_6_byEye, Cond.selects y_6_byEye.cls y_6_byEye y_6_byEye, Cond.initialized y_6_byEye.cls, Cond.code y_6_byEye prog_8_method_29_code 2 (some .int)], w ∈ dk_TB := dk_ac (dk_tb 1067 rfl rfl) (dk_ac (dk_tb 40 rfl rfl) (dk_ac (dk_tb 64 rfl rfl) (dk_ac (dk_tb 1068 rfl rfl) (dk_an))))
theorem hd_6_byEye : y_6_byEye.cls ≠ "java/lang/invoke/MethodHandle" ∧ y_6_byEye.cls ≠ "java/lang/invoke/VarHandle" ∧ (parseMethodDescriptor y_6_byEye.desc).map (fun d => d.parameters.length) = some 1 := by decide +kernel
theorem k_6_byFeet : dk_ckT t_6_byFeet prog_8_method_30_code 5 t_6_byFeet.2.2.1 b_6_byFeet = true := by decide +kernel
set_option maxRecDepth 20000 in
theorem hc_6_byFeet : ∀ q ∈ t_6_byFeet.2.1, ∃ n Sm, dk_nth g_6_byFeet q.2.2 = some (n, Sm) ∧ dk_Call y_6_byFeet.cls ({ frames := 3, cells := 0, slots := 0, locals := 69 }) prog_8_method_30_code 5 q.2.1 q.1 n Sm :=
  dk_ac ⟨3, s_6_its, rfl, fun hx hb hml hown hts hF => dk_callV e_6_its dk_rcV rfl (dk_ac (dk_tb 1023 rfl rfl) wv_6_its) ⟨rfl, rfl⟩ hd_6_its ⟨by decide, by decide⟩ ⟨Nat.zero_le _, Nat.zero_le _⟩ hx hb hml hown hts hF⟩
    (dk_ac ⟨1, s_6_size, rfl, fun hx hb hml hown hts hF => dk_callS e_6_size (dk_ac (dk_tb 1054 rfl rfl) wv_6_size) ⟨rfl, rfl⟩ hd_6_size ⟨by decide, by decide⟩ ⟨Nat.zero_le _, Nat.zero_le _⟩ hx hb hml hown hts hF⟩
    (dk_ac ⟨3, s_6_lagOf, rfl, fun hx hb hml hown hts hF => dk_callV e_6_lagOf dk_rcV rfl (dk_ac (dk_tb 1034 rfl rfl) wv_6_lagOf) ⟨rfl, rfl⟩ hd_6_lagOf ⟨by decide, by decide⟩ ⟨Nat.zero_le _, Nat.zero_le _⟩ hx hb hml hown hts hF⟩
    (dk_ac ⟨2, s_6_wrapped, rfl, fun hx hb hml hown hts hF => dk_callV e_6_wrapped dk_rcV rfl (dk_ac (dk_tb 955 rfl rfl) wv_6_wrapped) ⟨rfl, rfl⟩ hd_6_wrapped ⟨by decide, by decide⟩ ⟨Nat.zero_le _, Nat.zero_le _⟩ hx hb hml hown hts hF⟩
    (dk_ac ⟨2, s_6_byEar, rfl, fun hx hb hml hown hts hF => dk_callV e_6_byEar dk_rcV rfl (dk_ac (dk_tb 1061 rfl rfl) wv_6_byEar) ⟨rfl, rfl⟩ hd_6_byEar ⟨by decide, by decide⟩ ⟨Nat.zero_le _, Nat.zero_le _⟩ hx hb hml hown hts hF⟩
    (dk_an)))))
theorem e_6_byFeet : dk_Met y_6_byFeet prog_8_method_30_code 5 (some .int) ({ frames := 3, cells := 0, slots := 0, locals := 69 }) s_6_byFeet := dk_metV 6 (dk_met (y := y_6_byFeet) (cc := prog_8_method_30_code) (maxL := 5) (ret := (some .int)) (rm := ({ frames := 3, cells := 0, slots := 0, locals := 69 })) (T := t_6_byFeet) (tb := b_6_byFeet) (G := g_6_byFeet) (by decide +kernel) ⟨fun _ => rfl, fun z => absurd z (by decide), fun z => absurd z (by decide), fun z => absurd z (by decide)⟩ (fun _ _ _ _ _ hts hd => tok_6 hts hd) h_6_byFeet k_6_byFeet rfl (fun i kd j h => hc_6_byFeet (i, kd, j) (dk_lk_mem h)))
set_option maxRecDepth 20000 in
theorem wv_6_byFeet : ∀ w ∈ [Cond.instanceMethod y_6_byFeet, Cond.selects y_6_byFeet.cls y_6_byFeet y_6_byFeet, Cond.initialized y_6_byFeet.cls, Cond.code y_6_byFeet prog_8_method_30_code 5 (some .int)], w ∈ dk_TB := dk_ac (dk_tb 1075 rfl rfl) (dk_ac (dk_tb 42 rfl rfl) (dk_ac (dk_tb 64 rfl rfl) (dk_ac (dk_tb 1076 rfl rfl) (dk_an))))
theorem hd_6_byFeet : y_6_byFeet.cls ≠ "java/lang/invoke/MethodHandle" ∧ y_6_byFeet.cls ≠ "java/lang/invoke/VarHandle" ∧ (parseMethodDescriptor y_6_byFeet.desc).map (fun d => d.parameters.length) = some 1 := by decide +kernel
theorem k_6_turn : dk_ckT t_6_turn prog_8_method_31_code 2 t_6_turn.2.2.1 b_6_turn = true := by decide +kernel
set_option maxRecDepth 20000 in
theorem hc_6_turn : ∀ q ∈ t_6_turn.2.1, ∃ n Sm, dk_nth g_6_turn q.2.2 = some (n, Sm) ∧ dk_Call y_6_turn.cls ({ frames := 4, cells := 0, slots := 0, locals := 93 }) prog_8_method_31_code 2 q.2.1 q.1 n Sm :=
  dk_ac ⟨3, s_6_its, rfl, fun hx hb hml hown hts hF => dk_callV e_6_its dk_rcV rfl (dk_ac (dk_tb 1023 rfl rfl) wv_6_its) ⟨rfl, rfl⟩ hd_6_its ⟨by decide, by decide⟩ ⟨Nat.zero_le _, Nat.zero_le _⟩ hx hb hml hown hts hF⟩
    (dk_ac ⟨2, s_6_byEar, rfl, fun hx hb hml hown hts hF => dk_callV e_6_byEar dk_rcV rfl (dk_ac (dk_tb 1061 rfl rfl) wv_6_byEar) ⟨rfl, rfl⟩ hd_6_byEar ⟨by decide, by decide⟩ ⟨Nat.zero_le _, Nat.zero_le _⟩ hx hb hml hown hts hF⟩
    (dk_ac ⟨2, s_6_byEye, rfl, fun hx hb hml hown hts hF => dk_callV e_6_byEye dk_rcV rfl (dk_ac (dk_tb 1065 rfl rfl) wv_6_byEye) ⟨rfl, rfl⟩ hd_6_byEye ⟨by decide, by decide⟩ ⟨Nat.zero_le _, Nat.zero_le _⟩ hx hb hml hown hts hF⟩
    (dk_ac ⟨2, s_6_byFeet, rfl, fun hx hb hml hown hts hF => dk_callV e_6_byFeet dk_rcV rfl (dk_ac (dk_tb 1073 rfl rfl) wv_6_byFeet) ⟨rfl, rfl⟩ hd_6_byFeet ⟨by decide, by decide⟩ ⟨Nat.zero_le _, Nat.zero_le _⟩ hx hb hml hown hts hF⟩
    (dk_ac ⟨2, s_6_wrapped, rfl, fun hx hb hml hown hts hF => dk_callV e_6_wrapped dk_rcV rfl (dk_ac (dk_tb 955 rfl rfl) wv_6_wrapped) ⟨rfl, rfl⟩ hd_6_wrapped ⟨by decide, by decide⟩ ⟨Nat.zero_le _, Nat.zero_le _⟩ hx hb hml hown hts hF⟩
    (dk_an)))))
theorem e_6_turn : dk_Met y_6_turn prog_8_method_31_code 2 (some .int) ({ frames := 4, cells := 0, slots := 0, locals := 93 }) s_6_turn := dk_metV 6 (dk_met (y := y_6_turn) (cc := prog_8_method_31_code) (maxL := 2) (ret := (some .int)) (rm := ({ frames := 4, cells := 0, slots := 0, locals := 93 })) (T := t_6_turn) (tb := b_6_turn) (G := g_6_turn) (by decide +kernel) ⟨fun _ => rfl, fun z => absurd z (by decide), fun z => absurd z (by decide), fun z => absurd z (by decide)⟩ (fun _ _ _ _ _ hts hd => tok_6 hts hd) h_6_turn k_6_turn rfl (fun i kd j h => hc_6_turn (i, kd, j) (dk_lk_mem h)))
set_option maxRecDepth 20000 in
theorem wv_6_turn : ∀ w ∈ [Cond.instanceMethod y_6_turn, Cond.selects y_6_turn.cls y_6_turn y_6_turn, Cond.initialized y_6_turn.cls, Cond.code y_6_turn prog_8_method_31_code 2 (some .int)], w ∈ dk_TB := dk_ac (dk_tb 1059 rfl rfl) (dk_ac (dk_tb 38 rfl rfl) (dk_ac (dk_tb 64 rfl rfl) (dk_ac (dk_tb 1060 rfl rfl) (dk_an))))
theorem hd_6_turn : y_6_turn.cls ≠ "java/lang/invoke/MethodHandle" ∧ y_6_turn.cls ≠ "java/lang/invoke/VarHandle" ∧ (parseMethodDescriptor y_6_turn.desc).map (fun d => d.parameters.length) = some 1 := by decide +kernel
theorem k_6_rankOf : dk_ckT t_6_rankOf prog_8_method_37_code 3 t_6_rankOf.2.2.1 b_6_rankOf = true := by decide +kernel
set_option maxRecDepth 20000 in
theorem hc_6_rankOf : ∀ q ∈ t_6_rankOf.2.1, ∃ n Sm, dk_nth g_6_rankOf q.2.2 = some (n, Sm) ∧ dk_Call y_6_rankOf.cls ({ frames := 5, cells := 0, slots := 0, locals := 114 }) prog_8_method_37_code 3 q.2.1 q.1 n Sm :=
  dk_ac ⟨2, s_6_isRank, rfl, fun hx hb hml hown hts hF => dk_callV e_6_isRank dk_rcV rfl (dk_ac (dk_tb 1042 rfl rfl) wv_6_isRank) ⟨rfl, rfl⟩ hd_6_isRank ⟨by decide, by decide⟩ ⟨Nat.zero_le _, Nat.zero_le _⟩ hx hb hml hown hts hF⟩
    (dk_ac ⟨3, s_6_in, rfl, fun hx hb hml hown hts hF => dk_callS e_6_in (dk_ac (dk_tb 947 rfl rfl) wv_6_in) ⟨rfl, rfl⟩ hd_6_in ⟨by decide, by decide⟩ ⟨Nat.zero_le _, Nat.zero_le _⟩ hx hb hml hown hts hF⟩
    (dk_ac ⟨2, s_6_finds, rfl, fun hx hb hml hown hts hF => dk_callV e_6_finds dk_rcV rfl (dk_ac (dk_tb 950 rfl rfl) wv_6_finds) ⟨rfl, rfl⟩ hd_6_finds ⟨by decide, by decide⟩ ⟨Nat.zero_le _, Nat.zero_le _⟩ hx hb hml hown hts hF⟩
    (dk_ac ⟨3, s_6_its, rfl, fun hx hb hml hown hts hF => dk_callV e_6_its dk_rcV rfl (dk_ac (dk_tb 1023 rfl rfl) wv_6_its) ⟨rfl, rfl⟩ hd_6_its ⟨by decide, by decide⟩ ⟨Nat.zero_le _, Nat.zero_le _⟩ hx hb hml hown hts hF⟩
    (dk_ac ⟨1, s_6_beginMarch, rfl, fun hx hb hml hown hts hF => dk_callV e_6_beginMarch dk_rcV rfl (dk_ac (dk_tb 1046 rfl rfl) wv_6_beginMarch) ⟨rfl, rfl⟩ hd_6_beginMarch ⟨by decide, by decide⟩ ⟨Nat.zero_le _, Nat.zero_le _⟩ hx hb hml hown hts hF⟩
    (dk_ac ⟨2, s_6_drumFor, rfl, fun hx hb hml hown hts hF => dk_callV e_6_drumFor dk_rcV rfl (dk_ac (dk_tb 1050 rfl rfl) wv_6_drumFor) ⟨rfl, rfl⟩ hd_6_drumFor ⟨by decide, by decide⟩ ⟨Nat.zero_le _, Nat.zero_le _⟩ hx hb hml hown hts hF⟩
    (dk_ac ⟨2, s_6_turn, rfl, fun hx hb hml hown hts hF => dk_callV e_6_turn dk_rcV rfl (dk_ac (dk_tb 1057 rfl rfl) wv_6_turn) ⟨rfl, rfl⟩ hd_6_turn ⟨by decide, by decide⟩ ⟨Nat.zero_le _, Nat.zero_le _⟩ hx hb hml hown hts hF⟩
    (dk_an)))))))
theorem e_6_rankOf : dk_Met y_6_rankOf prog_8_method_37_code 3 (some .int) ({ frames := 5, cells := 0, slots := 0, locals := 114 }) s_6_rankOf := dk_metV 6 (dk_met (y := y_6_rankOf) (cc := prog_8_method_37_code) (maxL := 3) (ret := (some .int)) (rm := ({ frames := 5, cells := 0, slots := 0, locals := 114 })) (T := t_6_rankOf) (tb := b_6_rankOf) (G := g_6_rankOf) (by decide +kernel) ⟨fun _ => rfl, fun z => absurd z (by decide), fun z => absurd z (by decide), fun z => absurd z (by decide)⟩ (fun _ _ _ _ _ hts hd => tok_6 hts hd) h_6_rankOf k_6_rankOf rfl (fun i kd j h => hc_6_rankOf (i, kd, j) (dk_lk_mem h)))
set_option maxRecDepth 20000 in
theorem wv_6_rankOf : ∀ w ∈ [Cond.instanceMethod y_6_rankOf, Cond.selects y_6_rankOf.cls y_6_rankOf y_6_rankOf, Cond.initialized y_6_rankOf.cls, Cond.code y_6_rankOf prog_8_method_37_code 3 (some .int)], w ∈ dk_TB := dk_ac (dk_tb 1039 rfl rfl) (dk_ac (dk_tb 1040 rfl rfl) (dk_ac (dk_tb 64 rfl rfl) (dk_ac (dk_tb 1041 rfl rfl) (dk_an))))
theorem hd_6_rankOf : y_6_rankOf.cls ≠ "java/lang/invoke/MethodHandle" ∧ y_6_rankOf.cls ≠ "java/lang/invoke/VarHandle" ∧ (parseMethodDescriptor y_6_rankOf.desc).map (fun d => d.parameters.length) = some 2 := by decide +kernel
theorem k_6_change : dk_ckT t_6_change prog_8_method_38_code 6 t_6_change.2.2.1 b_6_change = true := by decide +kernel
set_option maxRecDepth 20000 in
theorem hc_6_change : ∀ q ∈ t_6_change.2.1, ∃ n Sm, dk_nth g_6_change q.2.2 = some (n, Sm) ∧ dk_Call y_6_change.cls ({ frames := 2, cells := 0, slots := 0, locals := 46 }) prog_8_method_38_code 6 q.2.1 q.1 n Sm :=
  dk_ac ⟨3, s_6_in, rfl, fun hx hb hml hown hts hF => dk_callS e_6_in (dk_ac (dk_tb 947 rfl rfl) wv_6_in) ⟨rfl, rfl⟩ hd_6_in ⟨by decide, by decide⟩ ⟨Nat.zero_le _, Nat.zero_le _⟩ hx hb hml hown hts hF⟩
    (dk_ac ⟨2, s_6_isRank, rfl, fun hx hb hml hown hts hF => dk_callV e_6_isRank dk_rcV rfl (dk_ac (dk_tb 1042 rfl rfl) wv_6_isRank) ⟨rfl, rfl⟩ hd_6_isRank ⟨by decide, by decide⟩ ⟨Nat.zero_le _, Nat.zero_le _⟩ hx hb hml hown hts hF⟩
    (dk_ac ⟨2, s_6_finds, rfl, fun hx hb hml hown hts hF => dk_callV e_6_finds dk_rcV rfl (dk_ac (dk_tb 950 rfl rfl) wv_6_finds) ⟨rfl, rfl⟩ hd_6_finds ⟨by decide, by decide⟩ ⟨Nat.zero_le _, Nat.zero_le _⟩ hx hb hml hown hts hF⟩
    (dk_ac ⟨3, s_6_its, rfl, fun hx hb hml hown hts hF => dk_callV e_6_its dk_rcV rfl (dk_ac (dk_tb 1023 rfl rfl) wv_6_its) ⟨rfl, rfl⟩ hd_6_its ⟨by decide, by decide⟩ ⟨Nat.zero_le _, Nat.zero_le _⟩ hx hb hml hown hts hF⟩
    (dk_ac ⟨2, s_6_wrapped, rfl, fun hx hb hml hown hts hF => dk_callV e_6_wrapped dk_rcV rfl (dk_ac (dk_tb 955 rfl rfl) wv_6_wrapped) ⟨rfl, rfl⟩ hd_6_wrapped ⟨by decide, by decide⟩ ⟨Nat.zero_le _, Nat.zero_le _⟩ hx hb hml hown hts hF⟩
    (dk_an)))))
theorem e_6_change : dk_Met y_6_change prog_8_method_38_code 6 (some .int) ({ frames := 2, cells := 0, slots := 0, locals := 46 }) s_6_change := dk_metV 6 (dk_met (y := y_6_change) (cc := prog_8_method_38_code) (maxL := 6) (ret := (some .int)) (rm := ({ frames := 2, cells := 0, slots := 0, locals := 46 })) (T := t_6_change) (tb := b_6_change) (G := g_6_change) (by decide +kernel) ⟨fun _ => rfl, fun z => absurd z (by decide), fun z => absurd z (by decide), fun z => absurd z (by decide)⟩ (fun _ _ _ _ _ hts hd => tok_6 hts hd) h_6_change k_6_change rfl (fun i kd j h => hc_6_change (i, kd, j) (dk_lk_mem h)))
set_option maxRecDepth 20000 in
theorem wv_6_change : ∀ w ∈ [Cond.instanceMethod y_6_change, Cond.selects y_6_change.cls y_6_change y_6_change, Cond.initialized y_6_change.cls, Cond.code y_6_change prog_8_method_38_code 6 (some .int)], w ∈ dk_TB := dk_ac (dk_tb 1078 rfl rfl) (dk_ac (dk_tb 1079 rfl rfl) (dk_ac (dk_tb 64 rfl rfl) (dk_ac (dk_tb 1080 rfl rfl) (dk_an))))
theorem hd_6_change : y_6_change.cls ≠ "java/lang/invoke/MethodHandle" ∧ y_6_change.cls ≠ "java/lang/invoke/VarHandle" ∧ (parseMethodDescriptor y_6_change.desc).map (fun d => d.parameters.length) = some 3 := by decide +kernel
theorem k_6_drum : dk_ckT t_6_drum prog_8_method_39_code 4 t_6_drum.2.2.1 b_6_drum = true := by decide +kernel
set_option maxRecDepth 20000 in
theorem hc_6_drum : ∀ q ∈ t_6_drum.2.1, ∃ n Sm, dk_nth g_6_drum q.2.2 = some (n, Sm) ∧ dk_Call y_6_drum.cls ({ frames := 2, cells := 0, slots := 0, locals := 42 }) prog_8_method_39_code 4 q.2.1 q.1 n Sm :=
  dk_ac ⟨1, s_6_isPlace, rfl, fun hx hb hml hown hts hF => dk_callS e_6_isPlace (dk_ac (dk_tb 1031 rfl rfl) wv_6_isPlace) ⟨rfl, rfl⟩ hd_6_isPlace ⟨by decide, by decide⟩ ⟨Nat.zero_le _, Nat.zero_le _⟩ hx hb hml hown hts hF⟩
    (dk_ac ⟨3, s_6_in, rfl, fun hx hb hml hown hts hF => dk_callS e_6_in (dk_ac (dk_tb 947 rfl rfl) wv_6_in) ⟨rfl, rfl⟩ hd_6_in ⟨by decide, by decide⟩ ⟨Nat.zero_le _, Nat.zero_le _⟩ hx hb hml hown hts hF⟩
    (dk_ac ⟨2, s_6_finds, rfl, fun hx hb hml hown hts hF => dk_callV e_6_finds dk_rcV rfl (dk_ac (dk_tb 950 rfl rfl) wv_6_finds) ⟨rfl, rfl⟩ hd_6_finds ⟨by decide, by decide⟩ ⟨Nat.zero_le _, Nat.zero_le _⟩ hx hb hml hown hts hF⟩
    (dk_an)))
theorem e_6_drum : dk_Met y_6_drum prog_8_method_39_code 4 (some .int) ({ frames := 2, cells := 0, slots := 0, locals := 42 }) s_6_drum := dk_metV 6 (dk_met (y := y_6_drum) (cc := prog_8_method_39_code) (maxL := 4) (ret := (some .int)) (rm := ({ frames := 2, cells := 0, slots := 0, locals := 42 })) (T := t_6_drum) (tb := b_6_drum) (G := g_6_drum) (by decide +kernel) ⟨fun _ => rfl, fun z => absurd z (by decide), fun z => absurd z (by decide), fun z => absurd z (by decide)⟩ (fun _ _ _ _ _ hts hd => tok_6 hts hd) h_6_drum k_6_drum rfl (fun i kd j h => hc_6_drum (i, kd, j) (dk_lk_mem h)))
set_option maxRecDepth 20000 in
theorem wv_6_drum : ∀ w ∈ [Cond.instanceMethod y_6_drum, Cond.selects y_6_drum.cls y_6_drum y_6_drum, Cond.initialized y_6_drum.cls, Cond.code y_6_drum prog_8_method_39_code 4 (some .int)], w ∈ dk_TB := dk_ac (dk_tb 1082 rfl rfl) (dk_ac (dk_tb 1083 rfl rfl) (dk_ac (dk_tb 64 rfl rfl) (dk_ac (dk_tb 1084 rfl rfl) (dk_an))))
theorem hd_6_drum : y_6_drum.cls ≠ "java/lang/invoke/MethodHandle" ∧ y_6_drum.cls ≠ "java/lang/invoke/VarHandle" ∧ (parseMethodDescriptor y_6_drum.desc).map (fun d => d.parameters.length) = some 3 := by decide +kernel
theorem k_6_isDrum : dk_ckT t_6_isDrum prog_8_method_5_code 2 t_6_isDrum.2.2.1 b_6_isDrum = true := by decide +kernel
set_option maxRecDepth 20000 in
theorem hc_6_isDrum : ∀ q ∈ t_6_isDrum.2.1, ∃ n Sm, dk_nth g_6_isDrum q.2.2 = some (n, Sm) ∧ dk_Call y_6_isDrum.cls ({ frames := 1, cells := 0, slots := 0, locals := 22 }) prog_8_method_5_code 2 q.2.1 q.1 n Sm :=
  dk_ac ⟨3, s_6_in, rfl, fun hx hb hml hown hts hF => dk_callS e_6_in (dk_ac (dk_tb 947 rfl rfl) wv_6_in) ⟨rfl, rfl⟩ hd_6_in ⟨by decide, by decide⟩ ⟨Nat.zero_le _, Nat.zero_le _⟩ hx hb hml hown hts hF⟩
    (dk_an)
theorem e_6_isDrum : dk_Met y_6_isDrum prog_8_method_5_code 2 (some .boolean) ({ frames := 1, cells := 0, slots := 0, locals := 22 }) s_6_isDrum := dk_metV 6 (dk_met (y := y_6_isDrum) (cc := prog_8_method_5_code) (maxL := 2) (ret := (some .boolean)) (rm := ({ frames := 1, cells := 0, slots := 0, locals := 22 })) (T := t_6_isDrum) (tb := b_6_isDrum) (G := g_6_isDrum) (by decide +kernel) ⟨fun z => absurd z (by decide), fun _ => rfl, fun z => absurd z (by decide), fun z => absurd z (by decide)⟩ (fun _ _ _ _ _ hts hd => tok_6 hts hd) h_6_isDrum k_6_isDrum rfl (fun i kd j h => hc_6_isDrum (i, kd, j) (dk_lk_mem h)))
set_option maxRecDepth 20000 in
theorem wv_6_isDrum : ∀ w ∈ [Cond.instanceMethod y_6_isDrum, Cond.selects y_6_isDrum.cls y_6_isDrum y_6_isDrum, Cond.initialized y_6_isDrum.cls, Cond.code y_6_isDrum prog_8_method_5_code 2 (some .boolean)], w ∈ dk_TB := dk_ac (dk_tb 1091 rfl rfl) (dk_ac (dk_tb 43 rfl rfl) (dk_ac (dk_tb 64 rfl rfl) (dk_ac (dk_tb 1092 rfl rfl) (dk_an))))
theorem hd_6_isDrum : y_6_isDrum.cls ≠ "java/lang/invoke/MethodHandle" ∧ y_6_isDrum.cls ≠ "java/lang/invoke/VarHandle" ∧ (parseMethodDescriptor y_6_isDrum.desc).map (fun d => d.parameters.length) = some 1 := by decide +kernel
theorem k_6_drumOf : dk_ckT t_6_drumOf prog_8_method_40_code 3 t_6_drumOf.2.2.1 b_6_drumOf = true := by decide +kernel
set_option maxRecDepth 20000 in
theorem hc_6_drumOf : ∀ q ∈ t_6_drumOf.2.1, ∃ n Sm, dk_nth g_6_drumOf q.2.2 = some (n, Sm) ∧ dk_Call y_6_drumOf.cls ({ frames := 2, cells := 0, slots := 0, locals := 43 }) prog_8_method_40_code 3 q.2.1 q.1 n Sm :=
  dk_ac ⟨2, s_6_isDrum, rfl, fun hx hb hml hown hts hF => dk_callV e_6_isDrum dk_rcV rfl (dk_ac (dk_tb 1089 rfl rfl) wv_6_isDrum) ⟨rfl, rfl⟩ hd_6_isDrum ⟨by decide, by decide⟩ ⟨Nat.zero_le _, Nat.zero_le _⟩ hx hb hml hown hts hF⟩
    (dk_ac ⟨3, s_6_in, rfl, fun hx hb hml hown hts hF => dk_callS e_6_in (dk_ac (dk_tb 947 rfl rfl) wv_6_in) ⟨rfl, rfl⟩ hd_6_in ⟨by decide, by decide⟩ ⟨Nat.zero_le _, Nat.zero_le _⟩ hx hb hml hown hts hF⟩
    (dk_ac ⟨2, s_6_finds, rfl, fun hx hb hml hown hts hF => dk_callV e_6_finds dk_rcV rfl (dk_ac (dk_tb 950 rfl rfl) wv_6_finds) ⟨rfl, rfl⟩ hd_6_finds ⟨by decide, by decide⟩ ⟨Nat.zero_le _, Nat.zero_le _⟩ hx hb hml hown hts hF⟩
    (dk_an)))
theorem e_6_drumOf : dk_Met y_6_drumOf prog_8_method_40_code 3 (some .int) ({ frames := 2, cells := 0, slots := 0, locals := 43 }) s_6_drumOf := dk_metV 6 (dk_met (y := y_6_drumOf) (cc := prog_8_method_40_code) (maxL := 3) (ret := (some .int)) (rm := ({ frames := 2, cells := 0, slots := 0, locals := 43 })) (T := t_6_drumOf) (tb := b_6_drumOf) (G := g_6_drumOf) (by decide +kernel) ⟨fun _ => rfl, fun z => absurd z (by decide), fun z => absurd z (by decide), fun z => absurd z (by decide)⟩ (fun _ _ _ _ _ hts hd => tok_6 hts hd) h_6_drumOf k_6_drumOf rfl (fun i kd j h => hc_6_drumOf (i, kd, j) (dk_lk_mem h)))
set_option maxRecDepth 20000 in
theorem wv_6_drumOf : ∀ w ∈ [Cond.instanceMethod y_6_drumOf, Cond.selects y_6_drumOf.cls y_6_drumOf y_6_drumOf, Cond.initialized y_6_drumOf.cls, Cond.code y_6_drumOf prog_8_method_40_code 3 (some .int)], w ∈ dk_TB := dk_ac (dk_tb 1086 rfl rfl) (dk_ac (dk_tb 1087 rfl rfl) (dk_ac (dk_tb 64 rfl rfl) (dk_ac (dk_tb 1088 rfl rfl) (dk_an))))
theorem hd_6_drumOf : y_6_drumOf.cls ≠ "java/lang/invoke/MethodHandle" ∧ y_6_drumOf.cls ≠ "java/lang/invoke/VarHandle" ∧ (parseMethodDescriptor y_6_drumOf.desc).map (fun d => d.parameters.length) = some 2 := by decide +kernel
theorem k_6_carry : dk_ckT t_6_carry prog_8_method_41_code 4 t_6_carry.2.2.1 b_6_carry = true := by decide +kernel
set_option maxRecDepth 20000 in
theorem hc_6_carry : ∀ q ∈ t_6_carry.2.1, ∃ n Sm, dk_nth g_6_carry q.2.2 = some (n, Sm) ∧ dk_Call y_6_carry.cls ({ frames := 2, cells := 0, slots := 0, locals := 43 }) prog_8_method_41_code 4 q.2.1 q.1 n Sm :=
  dk_ac ⟨2, s_6_isDrum, rfl, fun hx hb hml hown hts hF => dk_callV e_6_isDrum dk_rcV rfl (dk_ac (dk_tb 1089 rfl rfl) wv_6_isDrum) ⟨rfl, rfl⟩ hd_6_isDrum ⟨by decide, by decide⟩ ⟨Nat.zero_le _, Nat.zero_le _⟩ hx hb hml hown hts hF⟩
    (dk_ac ⟨1, s_6_isPlace, rfl, fun hx hb hml hown hts hF => dk_callS e_6_isPlace (dk_ac (dk_tb 1031 rfl rfl) wv_6_isPlace) ⟨rfl, rfl⟩ hd_6_isPlace ⟨by decide, by decide⟩ ⟨Nat.zero_le _, Nat.zero_le _⟩ hx hb hml hown hts hF⟩
    (dk_ac ⟨2, s_6_finds, rfl, fun hx hb hml hown hts hF => dk_callV e_6_finds dk_rcV rfl (dk_ac (dk_tb 950 rfl rfl) wv_6_finds) ⟨rfl, rfl⟩ hd_6_finds ⟨by decide, by decide⟩ ⟨Nat.zero_le _, Nat.zero_le _⟩ hx hb hml hown hts hF⟩
    (dk_an)))
theorem e_6_carry : dk_Met y_6_carry prog_8_method_41_code 4 (some .int) ({ frames := 2, cells := 0, slots := 0, locals := 43 }) s_6_carry := dk_metV 6 (dk_met (y := y_6_carry) (cc := prog_8_method_41_code) (maxL := 4) (ret := (some .int)) (rm := ({ frames := 2, cells := 0, slots := 0, locals := 43 })) (T := t_6_carry) (tb := b_6_carry) (G := g_6_carry) (by decide +kernel) ⟨fun _ => rfl, fun z => absurd z (by decide), fun z => absurd z (by decide), fun z => absurd z (by decide)⟩ (fun _ _ _ _ _ hts hd => tok_6 hts hd) h_6_carry k_6_carry rfl (fun i kd j h => hc_6_carry (i, kd, j) (dk_lk_mem h)))
set_option maxRecDepth 20000 in
theorem wv_6_carry : ∀ w ∈ [Cond.instanceMethod y_6_carry, Cond.selects y_6_carry.cls y_6_carry y_6_carry, Cond.initialized y_6_carry.cls, Cond.code y_6_carry prog_8_method_41_code 4 (some .int)], w ∈ dk_TB := dk_ac (dk_tb 1094 rfl rfl) (dk_ac (dk_tb 1095 rfl rfl) (dk_ac (dk_tb 64 rfl rfl) (dk_ac (dk_tb 1096 rfl rfl) (dk_an))))
theorem hd_6_carry : y_6_carry.cls ≠ "java/lang/invoke/MethodHandle" ∧ y_6_carry.cls ≠ "java/lang/invoke/VarHandle" ∧ (parseMethodDescriptor y_6_carry.desc).map (fun d => d.parameters.length) = some 2 := by decide +kernel
theorem k_6_bend : dk_ckT t_6_bend prog_8_method_42_code 2 t_6_bend.2.2.1 b_6_bend = true := by decide +kernel
set_option maxRecDepth 20000 in
theorem hc_6_bend : ∀ q ∈ t_6_bend.2.1, ∃ n Sm, dk_nth g_6_bend q.2.2 = some (n, Sm) ∧ dk_Call y_6_bend.cls ({ frames := 2, cells := 0, slots := 0, locals := 42 }) prog_8_method_42_code 2 q.2.1 q.1 n Sm :=
  dk_ac ⟨1, s_6_isPlace, rfl, fun hx hb hml hown hts hF => dk_callS e_6_isPlace (dk_ac (dk_tb 1031 rfl rfl) wv_6_isPlace) ⟨rfl, rfl⟩ hd_6_isPlace ⟨by decide, by decide⟩ ⟨Nat.zero_le _, Nat.zero_le _⟩ hx hb hml hown hts hF⟩
    (dk_ac ⟨2, s_6_finds, rfl, fun hx hb hml hown hts hF => dk_callV e_6_finds dk_rcV rfl (dk_ac (dk_tb 950 rfl rfl) wv_6_finds) ⟨rfl, rfl⟩ hd_6_finds ⟨by decide, by decide⟩ ⟨Nat.zero_le _, Nat.zero_le _⟩ hx hb hml hown hts hF⟩
    (dk_an))
theorem e_6_bend : dk_Met y_6_bend prog_8_method_42_code 2 (some .int) ({ frames := 2, cells := 0, slots := 0, locals := 42 }) s_6_bend := dk_metV 6 (dk_met (y := y_6_bend) (cc := prog_8_method_42_code) (maxL := 2) (ret := (some .int)) (rm := ({ frames := 2, cells := 0, slots := 0, locals := 42 })) (T := t_6_bend) (tb := b_6_bend) (G := g_6_bend) (by decide +kernel) ⟨fun _ => rfl, fun z => absurd z (by decide), fun z => absurd z (by decide), fun z => absurd z (by decide)⟩ (fun _ _ _ _ _ hts hd => tok_6 hts hd) h_6_bend k_6_bend rfl (fun i kd j h => hc_6_bend (i, kd, j) (dk_lk_mem h)))
set_option maxRecDepth 20000 in
theorem wv_6_bend : ∀ w ∈ [Cond.instanceMethod y_6_bend, Cond.selects y_6_bend.cls y_6_bend y_6_bend, Cond.initialized y_6_bend.cls, Cond.code y_6_bend prog_8_method_42_code 2 (some .int)], w ∈ dk_TB := dk_ac (dk_tb 1098 rfl rfl) (dk_ac (dk_tb 1099 rfl rfl) (dk_ac (dk_tb 64 rfl rfl) (dk_ac (dk_tb 1100 rfl rfl) (dk_an))))
theorem hd_6_bend : y_6_bend.cls ≠ "java/lang/invoke/MethodHandle" ∧ y_6_bend.cls ≠ "java/lang/invoke/VarHandle" ∧ (parseMethodDescriptor y_6_bend.desc).map (fun d => d.parameters.length) = some 1 := by decide +kernel
theorem k_6_goes : dk_ckT t_6_goes prog_8_method_32_code 2 t_6_goes.2.2.1 b_6_goes = true := by decide +kernel
set_option maxRecDepth 20000 in
theorem hc_6_goes : ∀ q ∈ t_6_goes.2.1, ∃ n Sm, dk_nth g_6_goes q.2.2 = some (n, Sm) ∧ dk_Call y_6_goes.cls ({ frames := 5, cells := 0, slots := 0, locals := 114 }) prog_8_method_32_code 2 q.2.1 q.1 n Sm :=
  dk_ac ⟨2, s_6_turn, rfl, fun hx hb hml hown hts hF => dk_callV e_6_turn dk_rcV rfl (dk_ac (dk_tb 1057 rfl rfl) wv_6_turn) ⟨rfl, rfl⟩ hd_6_turn ⟨by decide, by decide⟩ ⟨Nat.zero_le _, Nat.zero_le _⟩ hx hb hml hown hts hF⟩
    (dk_ac ⟨2, s_6_wrapped, rfl, fun hx hb hml hown hts hF => dk_callV e_6_wrapped dk_rcV rfl (dk_ac (dk_tb 955 rfl rfl) wv_6_wrapped) ⟨rfl, rfl⟩ hd_6_wrapped ⟨by decide, by decide⟩ ⟨Nat.zero_le _, Nat.zero_le _⟩ hx hb hml hown hts hF⟩
    (dk_an))
theorem e_6_goes : dk_Met y_6_goes prog_8_method_32_code 2 none ({ frames := 5, cells := 0, slots := 0, locals := 114 }) s_6_goes := dk_metV 6 (dk_met (y := y_6_goes) (cc := prog_8_method_32_code) (maxL := 2) (ret := none) (rm := ({ frames := 5, cells := 0, slots := 0, locals := 114 })) (T := t_6_goes) (tb := b_6_goes) (G := g_6_goes) (by decide +kernel) ⟨fun z => absurd z (by decide), fun z => absurd z (by decide), fun _ => rfl, fun z => absurd z (by decide)⟩ (fun _ _ _ _ _ hts hd => tok_6 hts hd) h_6_goes k_6_goes rfl (fun i kd j h => hc_6_goes (i, kd, j) (dk_lk_mem h)))
set_option maxRecDepth 20000 in
theorem wv_6_goes : ∀ w ∈ [Cond.instanceMethod y_6_goes, Cond.selects y_6_goes.cls y_6_goes y_6_goes, Cond.initialized y_6_goes.cls, Cond.code y_6_goes prog_8_method_32_code 2 none], w ∈ dk_TB := dk_ac (dk_tb 1115 rfl rfl) (dk_ac (dk_tb 46 rfl rfl) (dk_ac (dk_tb 64 rfl rfl) (dk_ac (dk_tb 1116 rfl rfl) (dk_an))))
theorem hd_6_goes : y_6_goes.cls ≠ "java/lang/invoke/MethodHandle" ∧ y_6_goes.cls ≠ "java/lang/invoke/VarHandle" ∧ (parseMethodDescriptor y_6_goes.desc).map (fun d => d.parameters.length) = some 0 := by decide +kernel
theorem k_6_goesOn : dk_ckT t_6_goesOn prog_8_method_34_code 3 t_6_goesOn.2.2.1 b_6_goesOn = true := by decide +kernel
set_option maxRecDepth 20000 in
theorem hc_6_goesOn : ∀ q ∈ t_6_goesOn.2.1, ∃ n Sm, dk_nth g_6_goesOn q.2.2 = some (n, Sm) ∧ dk_Call y_6_goesOn.cls ({ frames := 6, cells := 0, slots := 0, locals := 135 }) prog_8_method_34_code 3 q.2.1 q.1 n Sm :=
  dk_ac ⟨1, s_6_goes, rfl, fun hx hb hml hown hts hF => dk_callV e_6_goes dk_rcV rfl (dk_ac (dk_tb 1113 rfl rfl) wv_6_goes) ⟨rfl, rfl⟩ hd_6_goes ⟨by decide, by decide⟩ ⟨Nat.zero_le _, Nat.zero_le _⟩ hx hb hml hown hts hF⟩
    (dk_an)
theorem e_6_goesOn : dk_Met y_6_goesOn prog_8_method_34_code 3 none ({ frames := 6, cells := 0, slots := 0, locals := 135 }) s_6_goesOn := dk_metV 6 (dk_met (y := y_6_goesOn) (cc := prog_8_method_34_code) (maxL := 3) (ret := none) (rm := ({ frames := 6, cells := 0, slots := 0, locals := 135 })) (T := t_6_goesOn) (tb := b_6_goesOn) (G := g_6_goesOn) (by decide +kernel) ⟨fun z => absurd z (by decide), fun z => absurd z (by decide), fun _ => rfl, fun z => absurd z (by decide)⟩ (fun _ _ _ _ _ hts hd => tok_6 hts hd) h_6_goesOn k_6_goesOn rfl (fun i kd j h => hc_6_goesOn (i, kd, j) (dk_lk_mem h)))
set_option maxRecDepth 20000 in
theorem wv_6_goesOn : ∀ w ∈ [Cond.instanceMethod y_6_goesOn, Cond.selects y_6_goesOn.cls y_6_goesOn y_6_goesOn, Cond.initialized y_6_goesOn.cls, Cond.code y_6_goesOn prog_8_method_34_code 3 none], w ∈ dk_TB := dk_ac (dk_tb 1111 rfl rfl) (dk_ac (dk_tb 45 rfl rfl) (dk_ac (dk_tb 64 rfl rfl) (dk_ac (dk_tb 1112 rfl rfl) (dk_an))))
theorem hd_6_goesOn : y_6_goesOn.cls ≠ "java/lang/invoke/MethodHandle" ∧ y_6_goesOn.cls ≠ "java/lang/invoke/VarHandle" ∧ (parseMethodDescriptor y_6_goesOn.desc).map (fun d => d.parameters.length) = some 1 := by decide +kernel
theorem k_6_worstNow : dk_ckT t_6_worstNow prog_8_method_35_code 3 t_6_worstNow.2.2.1 b_6_worstNow = true := by decide +kernel
set_option maxRecDepth 20000 in
theorem hc_6_worstNow : ∀ q ∈ t_6_worstNow.2.1, ∃ n Sm, dk_nth g_6_worstNow q.2.2 = some (n, Sm) ∧ dk_Call y_6_worstNow.cls ({ frames := 1, cells := 0, slots := 0, locals := 20 }) prog_8_method_35_code 3 q.2.1 q.1 n Sm :=
  dk_ac ⟨1, s_6_size, rfl, fun hx hb hml hown hts hF => dk_callS e_6_size (dk_ac (dk_tb 1054 rfl rfl) wv_6_size) ⟨rfl, rfl⟩ hd_6_size ⟨by decide, by decide⟩ ⟨Nat.zero_le _, Nat.zero_le _⟩ hx hb hml hown hts hF⟩
    (dk_an)
theorem e_6_worstNow : dk_Met y_6_worstNow prog_8_method_35_code 3 (some .int) ({ frames := 1, cells := 0, slots := 0, locals := 20 }) s_6_worstNow := dk_metV 6 (dk_met (y := y_6_worstNow) (cc := prog_8_method_35_code) (maxL := 3) (ret := (some .int)) (rm := ({ frames := 1, cells := 0, slots := 0, locals := 20 })) (T := t_6_worstNow) (tb := b_6_worstNow) (G := g_6_worstNow) (by decide +kernel) ⟨fun _ => rfl, fun z => absurd z (by decide), fun z => absurd z (by decide), fun z => absurd z (by decide)⟩ (fun _ _ _ _ _ hts hd => tok_6 hts hd) h_6_worstNow k_6_worstNow rfl (fun i kd j h => hc_6_worstNow (i, kd, j) (dk_lk_mem h)))
set_option maxRecDepth 20000 in
theorem wv_6_worstNow : ∀ w ∈ [Cond.instanceMethod y_6_worstNow, Cond.selects y_6_worstNow.cls y_6_worstNow y_6_worstNow, Cond.initialized y_6_worstNow.cls, Cond.code y_6_worstNow prog_8_method_35_code 3 (some .int)], w ∈ dk_TB := dk_ac (dk_tb 1119 rfl rfl) (dk_ac (dk_tb 47 rfl rfl) (dk_ac (dk_tb 64 rfl rfl) (dk_ac (dk_tb 1120 rfl rfl) (dk_an))))
theorem hd_6_worstNow : y_6_worstNow.cls ≠ "java/lang/invoke/MethodHandle" ∧ y_6_worstNow.cls ≠ "java/lang/invoke/VarHandle" ∧ (parseMethodDescriptor y_6_worstNow.desc).map (fun d => d.parameters.length) = some 0 := by decide +kernel
theorem k_6_worstBehind : dk_ckT t_6_worstBehind prog_8_method_36_code 2 t_6_worstBehind.2.2.1 b_6_worstBehind = true := by decide +kernel
set_option maxRecDepth 20000 in
theorem hc_6_worstBehind : ∀ q ∈ t_6_worstBehind.2.1, ∃ n Sm, dk_nth g_6_worstBehind q.2.2 = some (n, Sm) ∧ dk_Call y_6_worstBehind.cls ({ frames := 7, cells := 0, slots := 0, locals := 157 }) prog_8_method_36_code 2 q.2.1 q.1 n Sm :=
  dk_ac ⟨1, s_6_beginMarch, rfl, fun hx hb hml hown hts hF => dk_callV e_6_beginMarch dk_rcV rfl (dk_ac (dk_tb 1046 rfl rfl) wv_6_beginMarch) ⟨rfl, rfl⟩ hd_6_beginMarch ⟨by decide, by decide⟩ ⟨Nat.zero_le _, Nat.zero_le _⟩ hx hb hml hown hts hF⟩
    (dk_ac ⟨2, s_6_goesOn, rfl, fun hx hb hml hown hts hF => dk_callV e_6_goesOn dk_rcV rfl (dk_ac (dk_tb 1109 rfl rfl) wv_6_goesOn) ⟨rfl, rfl⟩ hd_6_goesOn ⟨by decide, by decide⟩ ⟨Nat.zero_le _, Nat.zero_le _⟩ hx hb hml hown hts hF⟩
    (dk_ac ⟨1, s_6_worstNow, rfl, fun hx hb hml hown hts hF => dk_callV e_6_worstNow dk_rcV rfl (dk_ac (dk_tb 1117 rfl rfl) wv_6_worstNow) ⟨rfl, rfl⟩ hd_6_worstNow ⟨by decide, by decide⟩ ⟨Nat.zero_le _, Nat.zero_le _⟩ hx hb hml hown hts hF⟩
    (dk_an)))
theorem e_6_worstBehind : dk_Met y_6_worstBehind prog_8_method_36_code 2 (some .int) ({ frames := 7, cells := 0, slots := 0, locals := 157 }) s_6_worstBehind := dk_metV 6 (dk_met (y := y_6_worstBehind) (cc := prog_8_method_36_code) (maxL := 2) (ret := (some .int)) (rm := ({ frames := 7, cells := 0, slots := 0, locals := 157 })) (T := t_6_worstBehind) (tb := b_6_worstBehind) (G := g_6_worstBehind) (by decide +kernel) ⟨fun _ => rfl, fun z => absurd z (by decide), fun z => absurd z (by decide), fun z => absurd z (by decide)⟩ (fun _ _ _ _ _ hts hd => tok_6 hts hd) h_6_worstBehind k_6_worstBehind rfl (fun i kd j h => hc_6_worstBehind (i, kd, j) (dk_lk_mem h)))
set_option maxRecDepth 20000 in
theorem wv_6_worstBehind : ∀ w ∈ [Cond.instanceMethod y_6_worstBehind, Cond.selects y_6_worstBehind.cls y_6_worstBehind y_6_worstBehind, Cond.initialized y_6_worstBehind.cls, Cond.code y_6_worstBehind prog_8_method_36_code 2 (some .int)], w ∈ dk_TB := dk_ac (dk_tb 1107 rfl rfl) (dk_ac (dk_tb 44 rfl rfl) (dk_ac (dk_tb 64 rfl rfl) (dk_ac (dk_tb 1108 rfl rfl) (dk_an))))
theorem hd_6_worstBehind : y_6_worstBehind.cls ≠ "java/lang/invoke/MethodHandle" ∧ y_6_worstBehind.cls ≠ "java/lang/invoke/VarHandle" ∧ (parseMethodDescriptor y_6_worstBehind.desc).map (fun d => d.parameters.length) = some 1 := by decide +kernel
theorem k_6_tread : dk_ckT t_6_tread prog_8_method_43_code 4 t_6_tread.2.2.1 b_6_tread = true := by decide +kernel
set_option maxRecDepth 20000 in
theorem hc_6_tread : ∀ q ∈ t_6_tread.2.1, ∃ n Sm, dk_nth g_6_tread q.2.2 = some (n, Sm) ∧ dk_Call y_6_tread.cls ({ frames := 8, cells := 0, slots := 0, locals := 178 }) prog_8_method_43_code 4 q.2.1 q.1 n Sm :=
  dk_ac ⟨3, s_6_in, rfl, fun hx hb hml hown hts hF => dk_callS e_6_in (dk_ac (dk_tb 947 rfl rfl) wv_6_in) ⟨rfl, rfl⟩ hd_6_in ⟨by decide, by decide⟩ ⟨Nat.zero_le _, Nat.zero_le _⟩ hx hb hml hown hts hF⟩
    (dk_ac ⟨2, s_6_finds, rfl, fun hx hb hml hown hts hF => dk_callV e_6_finds dk_rcV rfl (dk_ac (dk_tb 950 rfl rfl) wv_6_finds) ⟨rfl, rfl⟩ hd_6_finds ⟨by decide, by decide⟩ ⟨Nat.zero_le _, Nat.zero_le _⟩ hx hb hml hown hts hF⟩
    (dk_ac ⟨2, s_6_worstBehind, rfl, fun hx hb hml hown hts hF => dk_callV e_6_worstBehind dk_rcV rfl (dk_ac (dk_tb 1105 rfl rfl) wv_6_worstBehind) ⟨rfl, rfl⟩ hd_6_worstBehind ⟨by decide, by decide⟩ ⟨Nat.zero_le _, Nat.zero_le _⟩ hx hb hml hown hts hF⟩
    (dk_an)))
theorem e_6_tread : dk_Met y_6_tread prog_8_method_43_code 4 (some .int) ({ frames := 8, cells := 0, slots := 0, locals := 178 }) s_6_tread := dk_metV 6 (dk_met (y := y_6_tread) (cc := prog_8_method_43_code) (maxL := 4) (ret := (some .int)) (rm := ({ frames := 8, cells := 0, slots := 0, locals := 178 })) (T := t_6_tread) (tb := b_6_tread) (G := g_6_tread) (by decide +kernel) ⟨fun _ => rfl, fun z => absurd z (by decide), fun z => absurd z (by decide), fun z => absurd z (by decide)⟩ (fun _ _ _ _ _ hts hd => tok_6 hts hd) h_6_tread k_6_tread rfl (fun i kd j h => hc_6_tread (i, kd, j) (dk_lk_mem h)))
set_option maxRecDepth 20000 in
theorem wv_6_tread : ∀ w ∈ [Cond.instanceMethod y_6_tread, Cond.selects y_6_tread.cls y_6_tread y_6_tread, Cond.initialized y_6_tread.cls, Cond.code y_6_tread prog_8_method_43_code 4 (some .int)], w ∈ dk_TB := dk_ac (dk_tb 1102 rfl rfl) (dk_ac (dk_tb 1103 rfl rfl) (dk_ac (dk_tb 64 rfl rfl) (dk_ac (dk_tb 1104 rfl rfl) (dk_an))))
theorem hd_6_tread : y_6_tread.cls ≠ "java/lang/invoke/MethodHandle" ∧ y_6_tread.cls ≠ "java/lang/invoke/VarHandle" ∧ (parseMethodDescriptor y_6_tread.desc).map (fun d => d.parameters.length) = some 1 := by decide +kernel
theorem k_6_march : dk_ckT t_6_march prog_8_method_44_code 3 t_6_march.2.2.1 b_6_march = true := by decide +kernel
set_option maxRecDepth 20000 in
theorem hc_6_march : ∀ q ∈ t_6_march.2.1, ∃ n Sm, dk_nth g_6_march q.2.2 = some (n, Sm) ∧ dk_Call y_6_march.cls ({ frames := 7, cells := 0, slots := 0, locals := 157 }) prog_8_method_44_code 3 q.2.1 q.1 n Sm :=
  dk_ac ⟨2, s_6_isRank, rfl, fun hx hb hml hown hts hF => dk_callV e_6_isRank dk_rcV rfl (dk_ac (dk_tb 1042 rfl rfl) wv_6_isRank) ⟨rfl, rfl⟩ hd_6_isRank ⟨by decide, by decide⟩ ⟨Nat.zero_le _, Nat.zero_le _⟩ hx hb hml hown hts hF⟩
    (dk_ac ⟨3, s_6_in, rfl, fun hx hb hml hown hts hF => dk_callS e_6_in (dk_ac (dk_tb 947 rfl rfl) wv_6_in) ⟨rfl, rfl⟩ hd_6_in ⟨by decide, by decide⟩ ⟨Nat.zero_le _, Nat.zero_le _⟩ hx hb hml hown hts hF⟩
    (dk_ac ⟨2, s_6_finds, rfl, fun hx hb hml hown hts hF => dk_callV e_6_finds dk_rcV rfl (dk_ac (dk_tb 950 rfl rfl) wv_6_finds) ⟨rfl, rfl⟩ hd_6_finds ⟨by decide, by decide⟩ ⟨Nat.zero_le _, Nat.zero_le _⟩ hx hb hml hown hts hF⟩
    (dk_ac ⟨1, s_6_beginMarch, rfl, fun hx hb hml hown hts hF => dk_callV e_6_beginMarch dk_rcV rfl (dk_ac (dk_tb 1046 rfl rfl) wv_6_beginMarch) ⟨rfl, rfl⟩ hd_6_beginMarch ⟨by decide, by decide⟩ ⟨Nat.zero_le _, Nat.zero_le _⟩ hx hb hml hown hts hF⟩
    (dk_ac ⟨2, s_6_goesOn, rfl, fun hx hb hml hown hts hF => dk_callV e_6_goesOn dk_rcV rfl (dk_ac (dk_tb 1109 rfl rfl) wv_6_goesOn) ⟨rfl, rfl⟩ hd_6_goesOn ⟨by decide, by decide⟩ ⟨Nat.zero_le _, Nat.zero_le _⟩ hx hb hml hown hts hF⟩
    (dk_an)))))
theorem e_6_march : dk_Met y_6_march prog_8_method_44_code 3 (some .int) ({ frames := 7, cells := 0, slots := 0, locals := 157 }) s_6_march := dk_metV 6 (dk_met (y := y_6_march) (cc := prog_8_method_44_code) (maxL := 3) (ret := (some .int)) (rm := ({ frames := 7, cells := 0, slots := 0, locals := 157 })) (T := t_6_march) (tb := b_6_march) (G := g_6_march) (by decide +kernel) ⟨fun _ => rfl, fun z => absurd z (by decide), fun z => absurd z (by decide), fun z => absurd z (by decide)⟩ (fun _ _ _ _ _ hts hd => tok_6 hts hd) h_6_march k_6_march rfl (fun i kd j h => hc_6_march (i, kd, j) (dk_lk_mem h)))
set_option maxRecDepth 20000 in
theorem wv_6_march : ∀ w ∈ [Cond.instanceMethod y_6_march, Cond.selects y_6_march.cls y_6_march y_6_march, Cond.initialized y_6_march.cls, Cond.code y_6_march prog_8_method_44_code 3 (some .int)], w ∈ dk_TB := dk_ac (dk_tb 1122 rfl rfl) (dk_ac (dk_tb 1123 rfl rfl) (dk_ac (dk_tb 64 rfl rfl) (dk_ac (dk_tb 1124 rfl rfl) (dk_an))))
theorem hd_6_march : y_6_march.cls ≠ "java/lang/invoke/MethodHandle" ∧ y_6_march.cls ≠ "java/lang/invoke/VarHandle" ∧ (parseMethodDescriptor y_6_march.desc).map (fun d => d.parameters.length) = some 2 := by decide +kernel
theorem k_6_worst : dk_ckT t_6_worst prog_8_method_45_code 2 t_6_worst.2.2.1 b_6_worst = true := by decide +kernel
set_option maxRecDepth 20000 in
theorem hc_6_worst : ∀ q ∈ t_6_worst.2.1, ∃ n Sm, dk_nth g_6_worst q.2.2 = some (n, Sm) ∧ dk_Call y_6_worst.cls ({ frames := 8, cells := 0, slots := 0, locals := 178 }) prog_8_method_45_code 2 q.2.1 q.1 n Sm :=
  dk_ac ⟨3, s_6_in, rfl, fun hx hb hml hown hts hF => dk_callS e_6_in (dk_ac (dk_tb 947 rfl rfl) wv_6_in) ⟨rfl, rfl⟩ hd_6_in ⟨by decide, by decide⟩ ⟨Nat.zero_le _, Nat.zero_le _⟩ hx hb hml hown hts hF⟩
    (dk_ac ⟨2, s_6_finds, rfl, fun hx hb hml hown hts hF => dk_callV e_6_finds dk_rcV rfl (dk_ac (dk_tb 950 rfl rfl) wv_6_finds) ⟨rfl, rfl⟩ hd_6_finds ⟨by decide, by decide⟩ ⟨Nat.zero_le _, Nat.zero_le _⟩ hx hb hml hown hts hF⟩
    (dk_ac ⟨2, s_6_worstBehind, rfl, fun hx hb hml hown hts hF => dk_callV e_6_worstBehind dk_rcV rfl (dk_ac (dk_tb 1105 rfl rfl) wv_6_worstBehind) ⟨rfl, rfl⟩ hd_6_worstBehind ⟨by decide, by decide⟩ ⟨Nat.zero_le _, Nat.zero_le _⟩ hx hb hml hown hts hF⟩
    (dk_an)))
theorem e_6_worst : dk_Met y_6_worst prog_8_method_45_code 2 (some .int) ({ frames := 8, cells := 0, slots := 0, locals := 178 }) s_6_worst := dk_metV 6 (dk_met (y := y_6_worst) (cc := prog_8_method_45_code) (maxL := 2) (ret := (some .int)) (rm := ({ frames := 8, cells := 0, slots := 0, locals := 178 })) (T := t_6_worst) (tb := b_6_worst) (G := g_6_worst) (by decide +kernel) ⟨fun _ => rfl, fun z => absurd z (by decide), fun z => absurd z (by decide), fun z => absurd z (by decide)⟩ (fun _ _ _ _ _ hts hd => tok_6 hts hd) h_6_worst k_6_worst rfl (fun i kd j h => hc_6_worst (i, kd, j) (dk_lk_mem h)))
set_option maxRecDepth 20000 in
theorem wv_6_worst : ∀ w ∈ [Cond.instanceMethod y_6_worst, Cond.selects y_6_worst.cls y_6_worst y_6_worst, Cond.initialized y_6_worst.cls, Cond.code y_6_worst prog_8_method_45_code 2 (some .int)], w ∈ dk_TB := dk_ac (dk_tb 1126 rfl rfl) (dk_ac (dk_tb 1127 rfl rfl) (dk_ac (dk_tb 64 rfl rfl) (dk_ac (dk_tb 1128 rfl rfl) (dk_an))))
theorem hd_6_worst : y_6_worst.cls ≠ "java/lang/invoke/MethodHandle" ∧ y_6_worst.cls ≠ "java/lang/invoke/VarHandle" ∧ (parseMethodDescriptor y_6_worst.desc).map (fun d => d.parameters.length) = some 1 := by decide +kernel
theorem k_6_right : dk_ckT t_6_right prog_8_method_46_code 5 t_6_right.2.2.1 b_6_right = true := by decide +kernel
set_option maxRecDepth 20000 in
theorem hc_6_right : ∀ q ∈ t_6_right.2.1, ∃ n Sm, dk_nth g_6_right q.2.2 = some (n, Sm) ∧ dk_Call y_6_right.cls ({ frames := 7, cells := 0, slots := 0, locals := 157 }) prog_8_method_46_code 5 q.2.1 q.1 n Sm :=
  dk_ac ⟨3, s_6_in, rfl, fun hx hb hml hown hts hF => dk_callS e_6_in (dk_ac (dk_tb 947 rfl rfl) wv_6_in) ⟨rfl, rfl⟩ hd_6_in ⟨by decide, by decide⟩ ⟨Nat.zero_le _, Nat.zero_le _⟩ hx hb hml hown hts hF⟩
    (dk_ac ⟨2, s_6_finds, rfl, fun hx hb hml hown hts hF => dk_callV e_6_finds dk_rcV rfl (dk_ac (dk_tb 950 rfl rfl) wv_6_finds) ⟨rfl, rfl⟩ hd_6_finds ⟨by decide, by decide⟩ ⟨Nat.zero_le _, Nat.zero_le _⟩ hx hb hml hown hts hF⟩
    (dk_ac ⟨1, s_6_beginMarch, rfl, fun hx hb hml hown hts hF => dk_callV e_6_beginMarch dk_rcV rfl (dk_ac (dk_tb 1046 rfl rfl) wv_6_beginMarch) ⟨rfl, rfl⟩ hd_6_beginMarch ⟨by decide, by decide⟩ ⟨Nat.zero_le _, Nat.zero_le _⟩ hx hb hml hown hts hF⟩
    (dk_ac ⟨2, s_6_goesOn, rfl, fun hx hb hml hown hts hF => dk_callV e_6_goesOn dk_rcV rfl (dk_ac (dk_tb 1109 rfl rfl) wv_6_goesOn) ⟨rfl, rfl⟩ hd_6_goesOn ⟨by decide, by decide⟩ ⟨Nat.zero_le _, Nat.zero_le _⟩ hx hb hml hown hts hF⟩
    (dk_ac ⟨1, s_6_size, rfl, fun hx hb hml hown hts hF => dk_callS e_6_size (dk_ac (dk_tb 1054 rfl rfl) wv_6_size) ⟨rfl, rfl⟩ hd_6_size ⟨by decide, by decide⟩ ⟨Nat.zero_le _, Nat.zero_le _⟩ hx hb hml hown hts hF⟩
    (dk_an)))))
theorem e_6_right : dk_Met y_6_right prog_8_method_46_code 5 (some .int) ({ frames := 7, cells := 0, slots := 0, locals := 157 }) s_6_right := dk_metV 6 (dk_met (y := y_6_right) (cc := prog_8_method_46_code) (maxL := 5) (ret := (some .int)) (rm := ({ frames := 7, cells := 0, slots := 0, locals := 157 })) (T := t_6_right) (tb := b_6_right) (G := g_6_right) (by decide +kernel) ⟨fun _ => rfl, fun z => absurd z (by decide), fun z => absurd z (by decide), fun z => absurd z (by decide)⟩ (fun _ _ _ _ _ hts hd => tok_6 hts hd) h_6_right k_6_right rfl (fun i kd j h => hc_6_right (i, kd, j) (dk_lk_mem h)))
set_option maxRecDepth 20000 in
theorem wv_6_right : ∀ w ∈ [Cond.instanceMethod y_6_right, Cond.selects y_6_right.cls y_6_right y_6_right, Cond.initialized y_6_right.cls, Cond.code y_6_right prog_8_method_46_code 5 (some .int)], w ∈ dk_TB := dk_ac (dk_tb 1130 rfl rfl) (dk_ac (dk_tb 1131 rfl rfl) (dk_ac (dk_tb 64 rfl rfl) (dk_ac (dk_tb 1132 rfl rfl) (dk_an))))
theorem hd_6_right : y_6_right.cls ≠ "java/lang/invoke/MethodHandle" ∧ y_6_right.cls ≠ "java/lang/invoke/VarHandle" ∧ (parseMethodDescriptor y_6_right.desc).map (fun d => d.parameters.length) = some 2 := by decide +kernel
theorem k_6_tellMarch : dk_ckT t_6_tellMarch prog_8_method_47_code 4 t_6_tellMarch.2.2.1 b_6_tellMarch = true := by decide +kernel
set_option maxRecDepth 20000 in
theorem hc_6_tellMarch : ∀ q ∈ t_6_tellMarch.2.1, ∃ n Sm, dk_nth g_6_tellMarch q.2.2 = some (n, Sm) ∧ dk_Call y_6_tellMarch.cls ({ frames := 6, cells := 0, slots := 0, locals := 135 }) prog_8_method_47_code 4 q.2.1 q.1 n Sm :=
  dk_ac ⟨1, s_6_beginMarch, rfl, fun hx hb hml hown hts hF => dk_callV e_6_beginMarch dk_rcV rfl (dk_ac (dk_tb 1046 rfl rfl) wv_6_beginMarch) ⟨rfl, rfl⟩ hd_6_beginMarch ⟨by decide, by decide⟩ ⟨Nat.zero_le _, Nat.zero_le _⟩ hx hb hml hown hts hF⟩
    (dk_ac ⟨1, s_6_goes, rfl, fun hx hb hml hown hts hF => dk_callV e_6_goes dk_rcV rfl (dk_ac (dk_tb 1113 rfl rfl) wv_6_goes) ⟨rfl, rfl⟩ hd_6_goes ⟨by decide, by decide⟩ ⟨Nat.zero_le _, Nat.zero_le _⟩ hx hb hml hown hts hF⟩
    (dk_an))
theorem e_6_tellMarch : dk_Met y_6_tellMarch prog_8_method_47_code 4 none ({ frames := 6, cells := 0, slots := 0, locals := 135 }) s_6_tellMarch := dk_metV 6 (dk_met (y := y_6_tellMarch) (cc := prog_8_method_47_code) (maxL := 4) (ret := none) (rm := ({ frames := 6, cells := 0, slots := 0, locals := 135 })) (T := t_6_tellMarch) (tb := b_6_tellMarch) (G := g_6_tellMarch) (by decide +kernel) ⟨fun z => absurd z (by decide), fun z => absurd z (by decide), fun _ => rfl, fun z => absurd z (by decide)⟩ (fun _ _ _ _ _ hts hd => tok_6 hts hd) h_6_tellMarch k_6_tellMarch rfl (fun i kd j h => hc_6_tellMarch (i, kd, j) (dk_lk_mem h)))
set_option maxRecDepth 20000 in
theorem wv_6_tellMarch : ∀ w ∈ [Cond.instanceMethod y_6_tellMarch, Cond.selects y_6_tellMarch.cls y_6_tellMarch y_6_tellMarch, Cond.initialized y_6_tellMarch.cls, Cond.code y_6_tellMarch prog_8_method_47_code 4 none], w ∈ dk_TB := dk_ac (dk_tb 1139 rfl rfl) (dk_ac (dk_tb 48 rfl rfl) (dk_ac (dk_tb 64 rfl rfl) (dk_ac (dk_tb 1140 rfl rfl) (dk_an))))
theorem hd_6_tellMarch : y_6_tellMarch.cls ≠ "java/lang/invoke/MethodHandle" ∧ y_6_tellMarch.cls ≠ "java/lang/invoke/VarHandle" ∧ (parseMethodDescriptor y_6_tellMarch.desc).map (fun d => d.parameters.length) = some 1 := by decide +kernel
theorem k_6_isAlike : dk_ckT t_6_isAlike prog_8_method_48_code 4 t_6_isAlike.2.2.1 b_6_isAlike = true := by decide +kernel
set_option maxRecDepth 20000 in
theorem hc_6_isAlike : ∀ q ∈ t_6_isAlike.2.1, ∃ n Sm, dk_nth g_6_isAlike q.2.2 = some (n, Sm) ∧ dk_Call y_6_isAlike.cls ({ frames := 0, cells := 0, slots := 0, locals := 0 }) prog_8_method_48_code 4 q.2.1 q.1 n Sm :=
  dk_an
theorem e_6_isAlike : dk_Met y_6_isAlike prog_8_method_48_code 4 (some .boolean) ({ frames := 0, cells := 0, slots := 0, locals := 0 }) s_6_isAlike := dk_metV 6 (dk_met (y := y_6_isAlike) (cc := prog_8_method_48_code) (maxL := 4) (ret := (some .boolean)) (rm := ({ frames := 0, cells := 0, slots := 0, locals := 0 })) (T := t_6_isAlike) (tb := b_6_isAlike) (G := g_6_isAlike) (by decide +kernel) ⟨fun z => absurd z (by decide), fun _ => rfl, fun z => absurd z (by decide), fun z => absurd z (by decide)⟩ (fun _ _ _ _ _ hts hd => tok_6 hts hd) h_6_isAlike k_6_isAlike rfl (fun i kd j h => hc_6_isAlike (i, kd, j) (dk_lk_mem h)))
set_option maxRecDepth 20000 in
theorem wv_6_isAlike : ∀ w ∈ [Cond.instanceMethod y_6_isAlike, Cond.selects y_6_isAlike.cls y_6_isAlike y_6_isAlike, Cond.initialized y_6_isAlike.cls, Cond.code y_6_isAlike prog_8_method_48_code 4 (some .boolean)], w ∈ dk_TB := dk_ac (dk_tb 1143 rfl rfl) (dk_ac (dk_tb 49 rfl rfl) (dk_ac (dk_tb 64 rfl rfl) (dk_ac (dk_tb 1144 rfl rfl) (dk_an))))
theorem hd_6_isAlike : y_6_isAlike.cls ≠ "java/lang/invoke/MethodHandle" ∧ y_6_isAlike.cls ≠ "java/lang/invoke/VarHandle" ∧ (parseMethodDescriptor y_6_isAlike.desc).map (fun d => d.parameters.length) = some 2 := by decide +kernel
theorem k_6_settles : dk_ckT t_6_settles prog_8_method_49_code 2 t_6_settles.2.2.1 b_6_settles = true := by decide +kernel
set_option maxRecDepth 20000 in
theorem hc_6_settles : ∀ q ∈ t_6_settles.2.1, ∃ n Sm, dk_nth g_6_settles q.2.2 = some (n, Sm) ∧ dk_Call y_6_settles.cls ({ frames := 7, cells := 0, slots := 0, locals := 158 }) prog_8_method_49_code 2 q.2.1 q.1 n Sm :=
  dk_ac ⟨2, s_6_tellMarch, rfl, fun hx hb hml hown hts hF => dk_callV e_6_tellMarch dk_rcV rfl (dk_ac (dk_tb 1137 rfl rfl) wv_6_tellMarch) ⟨rfl, rfl⟩ hd_6_tellMarch ⟨by decide, by decide⟩ ⟨Nat.zero_le _, Nat.zero_le _⟩ hx hb hml hown hts hF⟩
    (dk_ac ⟨3, s_6_isAlike, rfl, fun hx hb hml hown hts hF => dk_callV e_6_isAlike dk_rcV rfl (dk_ac (dk_tb 1141 rfl rfl) wv_6_isAlike) ⟨rfl, rfl⟩ hd_6_isAlike ⟨by decide, by decide⟩ ⟨Nat.zero_le _, Nat.zero_le _⟩ hx hb hml hown hts hF⟩
    (dk_ac ⟨2, s_6_finds, rfl, fun hx hb hml hown hts hF => dk_callV e_6_finds dk_rcV rfl (dk_ac (dk_tb 950 rfl rfl) wv_6_finds) ⟨rfl, rfl⟩ hd_6_finds ⟨by decide, by decide⟩ ⟨Nat.zero_le _, Nat.zero_le _⟩ hx hb hml hown hts hF⟩
    (dk_an)))
theorem e_6_settles : dk_Met y_6_settles prog_8_method_49_code 2 (some .int) ({ frames := 7, cells := 0, slots := 0, locals := 158 }) s_6_settles := dk_metV 6 (dk_met (y := y_6_settles) (cc := prog_8_method_49_code) (maxL := 2) (ret := (some .int)) (rm := ({ frames := 7, cells := 0, slots := 0, locals := 158 })) (T := t_6_settles) (tb := b_6_settles) (G := g_6_settles) (by decide +kernel) ⟨fun _ => rfl, fun z => absurd z (by decide), fun z => absurd z (by decide), fun z => absurd z (by decide)⟩ (fun _ _ _ _ _ hts hd => tok_6 hts hd) h_6_settles k_6_settles rfl (fun i kd j h => hc_6_settles (i, kd, j) (dk_lk_mem h)))
set_option maxRecDepth 20000 in
theorem wv_6_settles : ∀ w ∈ [Cond.instanceMethod y_6_settles, Cond.selects y_6_settles.cls y_6_settles y_6_settles, Cond.initialized y_6_settles.cls, Cond.code y_6_settles prog_8_method_49_code 2 (some .int)], w ∈ dk_TB := dk_ac (dk_tb 1134 rfl rfl) (dk_ac (dk_tb 1135 rfl rfl) (dk_ac (dk_tb 64 rfl rfl) (dk_ac (dk_tb 1136 rfl rfl) (dk_an))))
theorem hd_6_settles : y_6_settles.cls ≠ "java/lang/invoke/MethodHandle" ∧ y_6_settles.cls ≠ "java/lang/invoke/VarHandle" ∧ (parseMethodDescriptor y_6_settles.desc).map (fun d => d.parameters.length) = some 0 := by decide +kernel
theorem k_6_round : dk_ckT t_6_round prog_8_method_50_code 4 t_6_round.2.2.1 b_6_round = true := by decide +kernel
set_option maxRecDepth 20000 in
theorem hc_6_round : ∀ q ∈ t_6_round.2.1, ∃ n Sm, dk_nth g_6_round q.2.2 = some (n, Sm) ∧ dk_Call y_6_round.cls ({ frames := 7, cells := 0, slots := 0, locals := 158 }) prog_8_method_50_code 4 q.2.1 q.1 n Sm :=
  dk_ac ⟨3, s_6_in, rfl, fun hx hb hml hown hts hF => dk_callS e_6_in (dk_ac (dk_tb 947 rfl rfl) wv_6_in) ⟨rfl, rfl⟩ hd_6_in ⟨by decide, by decide⟩ ⟨Nat.zero_le _, Nat.zero_le _⟩ hx hb hml hown hts hF⟩
    (dk_ac ⟨2, s_6_finds, rfl, fun hx hb hml hown hts hF => dk_callV e_6_finds dk_rcV rfl (dk_ac (dk_tb 950 rfl rfl) wv_6_finds) ⟨rfl, rfl⟩ hd_6_finds ⟨by decide, by decide⟩ ⟨Nat.zero_le _, Nat.zero_le _⟩ hx hb hml hown hts hF⟩
    (dk_ac ⟨2, s_6_tellMarch, rfl, fun hx hb hml hown hts hF => dk_callV e_6_tellMarch dk_rcV rfl (dk_ac (dk_tb 1137 rfl rfl) wv_6_tellMarch) ⟨rfl, rfl⟩ hd_6_tellMarch ⟨by decide, by decide⟩ ⟨Nat.zero_le _, Nat.zero_le _⟩ hx hb hml hown hts hF⟩
    (dk_ac ⟨3, s_6_isAlike, rfl, fun hx hb hml hown hts hF => dk_callV e_6_isAlike dk_rcV rfl (dk_ac (dk_tb 1141 rfl rfl) wv_6_isAlike) ⟨rfl, rfl⟩ hd_6_isAlike ⟨by decide, by decide⟩ ⟨Nat.zero_le _, Nat.zero_le _⟩ hx hb hml hown hts hF⟩
    (dk_an))))
theorem e_6_round : dk_Met y_6_round prog_8_method_50_code 4 (some .int) ({ frames := 7, cells := 0, slots := 0, locals := 158 }) s_6_round := dk_metV 6 (dk_met (y := y_6_round) (cc := prog_8_method_50_code) (maxL := 4) (ret := (some .int)) (rm := ({ frames := 7, cells := 0, slots := 0, locals := 158 })) (T := t_6_round) (tb := b_6_round) (G := g_6_round) (by decide +kernel) ⟨fun _ => rfl, fun z => absurd z (by decide), fun z => absurd z (by decide), fun z => absurd z (by decide)⟩ (fun _ _ _ _ _ hts hd => tok_6 hts hd) h_6_round k_6_round rfl (fun i kd j h => hc_6_round (i, kd, j) (dk_lk_mem h)))
set_option maxRecDepth 20000 in
theorem wv_6_round : ∀ w ∈ [Cond.instanceMethod y_6_round, Cond.selects y_6_round.cls y_6_round y_6_round, Cond.initialized y_6_round.cls, Cond.code y_6_round prog_8_method_50_code 4 (some .int)], w ∈ dk_TB := dk_ac (dk_tb 1146 rfl rfl) (dk_ac (dk_tb 1147 rfl rfl) (dk_ac (dk_tb 64 rfl rfl) (dk_ac (dk_tb 1148 rfl rfl) (dk_an))))
theorem hd_6_round : y_6_round.cls ≠ "java/lang/invoke/MethodHandle" ∧ y_6_round.cls ≠ "java/lang/invoke/VarHandle" ∧ (parseMethodDescriptor y_6_round.desc).map (fun d => d.parameters.length) = some 1 := by decide +kernel
theorem k_6_better : dk_ckT t_6_better prog_8_method_51_code 6 t_6_better.2.2.1 b_6_better = true := by decide +kernel
set_option maxRecDepth 20000 in
theorem hc_6_better : ∀ q ∈ t_6_better.2.1, ∃ n Sm, dk_nth g_6_better q.2.2 = some (n, Sm) ∧ dk_Call y_6_better.cls ({ frames := 6, cells := 0, slots := 0, locals := 135 }) prog_8_method_51_code 6 q.2.1 q.1 n Sm :=
  dk_ac ⟨3, s_6_in, rfl, fun hx hb hml hown hts hF => dk_callS e_6_in (dk_ac (dk_tb 947 rfl rfl) wv_6_in) ⟨rfl, rfl⟩ hd_6_in ⟨by decide, by decide⟩ ⟨Nat.zero_le _, Nat.zero_le _⟩ hx hb hml hown hts hF⟩
    (dk_ac ⟨2, s_6_finds, rfl, fun hx hb hml hown hts hF => dk_callV e_6_finds dk_rcV rfl (dk_ac (dk_tb 950 rfl rfl) wv_6_finds) ⟨rfl, rfl⟩ hd_6_finds ⟨by decide, by decide⟩ ⟨Nat.zero_le _, Nat.zero_le _⟩ hx hb hml hown hts hF⟩
    (dk_ac ⟨1, s_6_beginMarch, rfl, fun hx hb hml hown hts hF => dk_callV e_6_beginMarch dk_rcV rfl (dk_ac (dk_tb 1046 rfl rfl) wv_6_beginMarch) ⟨rfl, rfl⟩ hd_6_beginMarch ⟨by decide, by decide⟩ ⟨Nat.zero_le _, Nat.zero_le _⟩ hx hb hml hown hts hF⟩
    (dk_ac ⟨1, s_6_worstNow, rfl, fun hx hb hml hown hts hF => dk_callV e_6_worstNow dk_rcV rfl (dk_ac (dk_tb 1117 rfl rfl) wv_6_worstNow) ⟨rfl, rfl⟩ hd_6_worstNow ⟨by decide, by decide⟩ ⟨Nat.zero_le _, Nat.zero_le _⟩ hx hb hml hown hts hF⟩
    (dk_ac ⟨1, s_6_goes, rfl, fun hx hb hml hown hts hF => dk_callV e_6_goes dk_rcV rfl (dk_ac (dk_tb 1113 rfl rfl) wv_6_goes) ⟨rfl, rfl⟩ hd_6_goes ⟨by decide, by decide⟩ ⟨Nat.zero_le _, Nat.zero_le _⟩ hx hb hml hown hts hF⟩
    (dk_an)))))
theorem e_6_better : dk_Met y_6_better prog_8_method_51_code 6 (some .int) ({ frames := 6, cells := 0, slots := 0, locals := 135 }) s_6_better := dk_metV 6 (dk_met (y := y_6_better) (cc := prog_8_method_51_code) (maxL := 6) (ret := (some .int)) (rm := ({ frames := 6, cells := 0, slots := 0, locals := 135 })) (T := t_6_better) (tb := b_6_better) (G := g_6_better) (by decide +kernel) ⟨fun _ => rfl, fun z => absurd z (by decide), fun z => absurd z (by decide), fun z => absurd z (by decide)⟩ (fun _ _ _ _ _ hts hd => tok_6 hts hd) h_6_better k_6_better rfl (fun i kd j h => hc_6_better (i, kd, j) (dk_lk_mem h)))
set_option maxRecDepth 20000 in
theorem wv_6_better : ∀ w ∈ [Cond.instanceMethod y_6_better, Cond.selects y_6_better.cls y_6_better y_6_better, Cond.initialized y_6_better.cls, Cond.code y_6_better prog_8_method_51_code 6 (some .int)], w ∈ dk_TB := dk_ac (dk_tb 1150 rfl rfl) (dk_ac (dk_tb 1151 rfl rfl) (dk_ac (dk_tb 64 rfl rfl) (dk_ac (dk_tb 1152 rfl rfl) (dk_an))))
theorem hd_6_better : y_6_better.cls ≠ "java/lang/invoke/MethodHandle" ∧ y_6_better.cls ≠ "java/lang/invoke/VarHandle" ∧ (parseMethodDescriptor y_6_better.desc).map (fun d => d.parameters.length) = some 1 := by decide +kernel
theorem k_6_place : dk_ckT t_6_place prog_8_method_52_code 8 t_6_place.2.2.1 b_6_place = true := by decide +kernel
set_option maxRecDepth 20000 in
theorem hc_6_place : ∀ q ∈ t_6_place.2.1, ∃ n Sm, dk_nth g_6_place q.2.2 = some (n, Sm) ∧ dk_Call y_6_place.cls ({ frames := 8, cells := 0, slots := 0, locals := 178 }) prog_8_method_52_code 8 q.2.1 q.1 n Sm :=
  dk_ac ⟨2, s_6_isDrum, rfl, fun hx hb hml hown hts hF => dk_callV e_6_isDrum dk_rcV rfl (dk_ac (dk_tb 1089 rfl rfl) wv_6_isDrum) ⟨rfl, rfl⟩ hd_6_isDrum ⟨by decide, by decide⟩ ⟨Nat.zero_le _, Nat.zero_le _⟩ hx hb hml hown hts hF⟩
    (dk_ac ⟨3, s_6_in, rfl, fun hx hb hml hown hts hF => dk_callS e_6_in (dk_ac (dk_tb 947 rfl rfl) wv_6_in) ⟨rfl, rfl⟩ hd_6_in ⟨by decide, by decide⟩ ⟨Nat.zero_le _, Nat.zero_le _⟩ hx hb hml hown hts hF⟩
    (dk_ac ⟨2, s_6_finds, rfl, fun hx hb hml hown hts hF => dk_callV e_6_finds dk_rcV rfl (dk_ac (dk_tb 950 rfl rfl) wv_6_finds) ⟨rfl, rfl⟩ hd_6_finds ⟨by decide, by decide⟩ ⟨Nat.zero_le _, Nat.zero_le _⟩ hx hb hml hown hts hF⟩
    (dk_ac ⟨3, s_6_its, rfl, fun hx hb hml hown hts hF => dk_callV e_6_its dk_rcV rfl (dk_ac (dk_tb 1023 rfl rfl) wv_6_its) ⟨rfl, rfl⟩ hd_6_its ⟨by decide, by decide⟩ ⟨Nat.zero_le _, Nat.zero_le _⟩ hx hb hml hown hts hF⟩
    (dk_ac ⟨2, s_6_worstBehind, rfl, fun hx hb hml hown hts hF => dk_callV e_6_worstBehind dk_rcV rfl (dk_ac (dk_tb 1105 rfl rfl) wv_6_worstBehind) ⟨rfl, rfl⟩ hd_6_worstBehind ⟨by decide, by decide⟩ ⟨Nat.zero_le _, Nat.zero_le _⟩ hx hb hml hown hts hF⟩
    (dk_an)))))
theorem e_6_place : dk_Met y_6_place prog_8_method_52_code 8 (some .int) ({ frames := 8, cells := 0, slots := 0, locals := 178 }) s_6_place := dk_metV 6 (dk_met (y := y_6_place) (cc := prog_8_method_52_code) (maxL := 8) (ret := (some .int)) (rm := ({ frames := 8, cells := 0, slots := 0, locals := 178 })) (T := t_6_place) (tb := b_6_place) (G := g_6_place) (by decide +kernel) ⟨fun _ => rfl, fun z => absurd z (by decide), fun z => absurd z (by decide), fun z => absurd z (by decide)⟩ (fun _ _ _ _ _ hts hd => tok_6 hts hd) h_6_place k_6_place rfl (fun i kd j h => hc_6_place (i, kd, j) (dk_lk_mem h)))
set_option maxRecDepth 20000 in
theorem wv_6_place : ∀ w ∈ [Cond.instanceMethod y_6_place, Cond.selects y_6_place.cls y_6_place y_6_place, Cond.initialized y_6_place.cls, Cond.code y_6_place prog_8_method_52_code 8 (some .int)], w ∈ dk_TB := dk_ac (dk_tb 1154 rfl rfl) (dk_ac (dk_tb 1155 rfl rfl) (dk_ac (dk_tb 64 rfl rfl) (dk_ac (dk_tb 1156 rfl rfl) (dk_an))))
theorem hd_6_place : y_6_place.cls ≠ "java/lang/invoke/MethodHandle" ∧ y_6_place.cls ≠ "java/lang/invoke/VarHandle" ∧ (parseMethodDescriptor y_6_place.desc).map (fun d => d.parameters.length) = some 2 := by decide +kernel
theorem k_6_areTwo : dk_ckT t_6_areTwo prog_8_method_53_code 3 t_6_areTwo.2.2.1 b_6_areTwo = true := by decide +kernel
set_option maxRecDepth 20000 in
theorem hc_6_areTwo : ∀ q ∈ t_6_areTwo.2.1, ∃ n Sm, dk_nth g_6_areTwo q.2.2 = some (n, Sm) ∧ dk_Call y_6_areTwo.cls ({ frames := 2, cells := 0, slots := 0, locals := 43 }) prog_8_method_53_code 3 q.2.1 q.1 n Sm :=
  dk_ac ⟨2, s_6_isDrum, rfl, fun hx hb hml hown hts hF => dk_callV e_6_isDrum dk_rcV rfl (dk_ac (dk_tb 1089 rfl rfl) wv_6_isDrum) ⟨rfl, rfl⟩ hd_6_isDrum ⟨by decide, by decide⟩ ⟨Nat.zero_le _, Nat.zero_le _⟩ hx hb hml hown hts hF⟩
    (dk_an)
theorem e_6_areTwo : dk_Met y_6_areTwo prog_8_method_53_code 3 (some .boolean) ({ frames := 2, cells := 0, slots := 0, locals := 43 }) s_6_areTwo := dk_metV 6 (dk_met (y := y_6_areTwo) (cc := prog_8_method_53_code) (maxL := 3) (ret := (some .boolean)) (rm := ({ frames := 2, cells := 0, slots := 0, locals := 43 })) (T := t_6_areTwo) (tb := b_6_areTwo) (G := g_6_areTwo) (by decide +kernel) ⟨fun z => absurd z (by decide), fun _ => rfl, fun z => absurd z (by decide), fun z => absurd z (by decide)⟩ (fun _ _ _ _ _ hts hd => tok_6 hts hd) h_6_areTwo k_6_areTwo rfl (fun i kd j h => hc_6_areTwo (i, kd, j) (dk_lk_mem h)))
set_option maxRecDepth 20000 in
theorem wv_6_areTwo : ∀ w ∈ [Cond.instanceMethod y_6_areTwo, Cond.selects y_6_areTwo.cls y_6_areTwo y_6_areTwo, Cond.initialized y_6_areTwo.cls, Cond.code y_6_areTwo prog_8_method_53_code 3 (some .boolean)], w ∈ dk_TB := dk_ac (dk_tb 1163 rfl rfl) (dk_ac (dk_tb 50 rfl rfl) (dk_ac (dk_tb 64 rfl rfl) (dk_ac (dk_tb 1164 rfl rfl) (dk_an))))
theorem hd_6_areTwo : y_6_areTwo.cls ≠ "java/lang/invoke/MethodHandle" ∧ y_6_areTwo.cls ≠ "java/lang/invoke/VarHandle" ∧ (parseMethodDescriptor y_6_areTwo.desc).map (fun d => d.parameters.length) = some 2 := by decide +kernel
theorem k_6_both : dk_ckT t_6_both prog_8_method_54_code 11 t_6_both.2.2.1 b_6_both = true := by decide +kernel
set_option maxRecDepth 20000 in
theorem hc_6_both : ∀ q ∈ t_6_both.2.1, ∃ n Sm, dk_nth g_6_both q.2.2 = some (n, Sm) ∧ dk_Call y_6_both.cls ({ frames := 8, cells := 0, slots := 0, locals := 178 }) prog_8_method_54_code 11 q.2.1 q.1 n Sm :=
  dk_ac ⟨3, s_6_areTwo, rfl, fun hx hb hml hown hts hF => dk_callV e_6_areTwo dk_rcV rfl (dk_ac (dk_tb 1161 rfl rfl) wv_6_areTwo) ⟨rfl, rfl⟩ hd_6_areTwo ⟨by decide, by decide⟩ ⟨Nat.zero_le _, Nat.zero_le _⟩ hx hb hml hown hts hF⟩
    (dk_ac ⟨3, s_6_in, rfl, fun hx hb hml hown hts hF => dk_callS e_6_in (dk_ac (dk_tb 947 rfl rfl) wv_6_in) ⟨rfl, rfl⟩ hd_6_in ⟨by decide, by decide⟩ ⟨Nat.zero_le _, Nat.zero_le _⟩ hx hb hml hown hts hF⟩
    (dk_ac ⟨2, s_6_finds, rfl, fun hx hb hml hown hts hF => dk_callV e_6_finds dk_rcV rfl (dk_ac (dk_tb 950 rfl rfl) wv_6_finds) ⟨rfl, rfl⟩ hd_6_finds ⟨by decide, by decide⟩ ⟨Nat.zero_le _, Nat.zero_le _⟩ hx hb hml hown hts hF⟩
    (dk_ac ⟨3, s_6_its, rfl, fun hx hb hml hown hts hF => dk_callV e_6_its dk_rcV rfl (dk_ac (dk_tb 1023 rfl rfl) wv_6_its) ⟨rfl, rfl⟩ hd_6_its ⟨by decide, by decide⟩ ⟨Nat.zero_le _, Nat.zero_le _⟩ hx hb hml hown hts hF⟩
    (dk_ac ⟨2, s_6_worstBehind, rfl, fun hx hb hml hown hts hF => dk_callV e_6_worstBehind dk_rcV rfl (dk_ac (dk_tb 1105 rfl rfl) wv_6_worstBehind) ⟨rfl, rfl⟩ hd_6_worstBehind ⟨by decide, by decide⟩ ⟨Nat.zero_le _, Nat.zero_le _⟩ hx hb hml hown hts hF⟩
    (dk_an)))))
theorem e_6_both : dk_Met y_6_both prog_8_method_54_code 11 (some .int) ({ frames := 8, cells := 0, slots := 0, locals := 178 }) s_6_both := dk_metV 6 (dk_met (y := y_6_both) (cc := prog_8_method_54_code) (maxL := 11) (ret := (some .int)) (rm := ({ frames := 8, cells := 0, slots := 0, locals := 178 })) (T := t_6_both) (tb := b_6_both) (G := g_6_both) (by decide +kernel) ⟨fun _ => rfl, fun z => absurd z (by decide), fun z => absurd z (by decide), fun z => absurd z (by decide)⟩ (fun _ _ _ _ _ hts hd => tok_6 hts hd) h_6_both k_6_both rfl (fun i kd j h => hc_6_both (i, kd, j) (dk_lk_mem h)))
set_option maxRecDepth 20000 in
theorem wv_6_both : ∀ w ∈ [Cond.instanceMethod y_6_both, Cond.selects y_6_both.cls y_6_both y_6_both, Cond.initialized y_6_both.cls, Cond.code y_6_both prog_8_method_54_code 11 (some .int)], w ∈ dk_TB := dk_ac (dk_tb 1158 rfl rfl) (dk_ac (dk_tb 1159 rfl rfl) (dk_ac (dk_tb 64 rfl rfl) (dk_ac (dk_tb 1160 rfl rfl) (dk_an))))
theorem hd_6_both : y_6_both.cls ≠ "java/lang/invoke/MethodHandle" ∧ y_6_both.cls ≠ "java/lang/invoke/VarHandle" ∧ (parseMethodDescriptor y_6_both.desc).map (fun d => d.parameters.length) = some 3 := by decide +kernel
theorem k_6_two : dk_ckT t_6_two prog_8_method_55_code 10 t_6_two.2.2.1 b_6_two = true := by decide +kernel
set_option maxRecDepth 20000 in
theorem hc_6_two : ∀ q ∈ t_6_two.2.1, ∃ n Sm, dk_nth g_6_two q.2.2 = some (n, Sm) ∧ dk_Call y_6_two.cls ({ frames := 3, cells := 0, slots := 0, locals := 65 }) prog_8_method_55_code 10 q.2.1 q.1 n Sm :=
  dk_ac ⟨3, s_6_areTwo, rfl, fun hx hb hml hown hts hF => dk_callV e_6_areTwo dk_rcV rfl (dk_ac (dk_tb 1161 rfl rfl) wv_6_areTwo) ⟨rfl, rfl⟩ hd_6_areTwo ⟨by decide, by decide⟩ ⟨Nat.zero_le _, Nat.zero_le _⟩ hx hb hml hown hts hF⟩
    (dk_ac ⟨3, s_6_in, rfl, fun hx hb hml hown hts hF => dk_callS e_6_in (dk_ac (dk_tb 947 rfl rfl) wv_6_in) ⟨rfl, rfl⟩ hd_6_in ⟨by decide, by decide⟩ ⟨Nat.zero_le _, Nat.zero_le _⟩ hx hb hml hown hts hF⟩
    (dk_ac ⟨2, s_6_finds, rfl, fun hx hb hml hown hts hF => dk_callV e_6_finds dk_rcV rfl (dk_ac (dk_tb 950 rfl rfl) wv_6_finds) ⟨rfl, rfl⟩ hd_6_finds ⟨by decide, by decide⟩ ⟨Nat.zero_le _, Nat.zero_le _⟩ hx hb hml hown hts hF⟩
    (dk_ac ⟨3, s_6_lagOf, rfl, fun hx hb hml hown hts hF => dk_callV e_6_lagOf dk_rcV rfl (dk_ac (dk_tb 1034 rfl rfl) wv_6_lagOf) ⟨rfl, rfl⟩ hd_6_lagOf ⟨by decide, by decide⟩ ⟨Nat.zero_le _, Nat.zero_le _⟩ hx hb hml hown hts hF⟩
    (dk_ac ⟨2, s_6_wrapped, rfl, fun hx hb hml hown hts hF => dk_callV e_6_wrapped dk_rcV rfl (dk_ac (dk_tb 955 rfl rfl) wv_6_wrapped) ⟨rfl, rfl⟩ hd_6_wrapped ⟨by decide, by decide⟩ ⟨Nat.zero_le _, Nat.zero_le _⟩ hx hb hml hown hts hF⟩
    (dk_an)))))
theorem e_6_two : dk_Met y_6_two prog_8_method_55_code 10 (some .int) ({ frames := 3, cells := 0, slots := 0, locals := 65 }) s_6_two := dk_metV 6 (dk_met (y := y_6_two) (cc := prog_8_method_55_code) (maxL := 10) (ret := (some .int)) (rm := ({ frames := 3, cells := 0, slots := 0, locals := 65 })) (T := t_6_two) (tb := b_6_two) (G := g_6_two) (by decide +kernel) ⟨fun _ => rfl, fun z => absurd z (by decide), fun z => absurd z (by decide), fun z => absurd z (by decide)⟩ (fun _ _ _ _ _ hts hd => tok_6 hts hd) h_6_two k_6_two rfl (fun i kd j h => hc_6_two (i, kd, j) (dk_lk_mem h)))
set_option maxRecDepth 20000 in
theorem wv_6_two : ∀ w ∈ [Cond.instanceMethod y_6_two, Cond.selects y_6_two.cls y_6_two y_6_two, Cond.initialized y_6_two.cls, Cond.code y_6_two prog_8_method_55_code 10 (some .int)], w ∈ dk_TB := dk_ac (dk_tb 1166 rfl rfl) (dk_ac (dk_tb 1167 rfl rfl) (dk_ac (dk_tb 64 rfl rfl) (dk_ac (dk_tb 1168 rfl rfl) (dk_an))))
theorem hd_6_two : y_6_two.cls ≠ "java/lang/invoke/MethodHandle" ∧ y_6_two.cls ≠ "java/lang/invoke/VarHandle" ∧ (parseMethodDescriptor y_6_two.desc).map (fun d => d.parameters.length) = some 4 := by decide +kernel
theorem k_6_isOpposite : dk_ckT t_6_isOpposite prog_8_method_56_code 3 t_6_isOpposite.2.2.1 b_6_isOpposite = true := by decide +kernel
set_option maxRecDepth 20000 in
theorem hc_6_isOpposite : ∀ q ∈ t_6_isOpposite.2.1, ∃ n Sm, dk_nth g_6_isOpposite q.2.2 = some (n, Sm) ∧ dk_Call y_6_isOpposite.cls ({ frames := 1, cells := 0, slots := 0, locals := 24 }) prog_8_method_56_code 3 q.2.1 q.1 n Sm :=
  dk_ac ⟨2, s_6_wrappedBy, rfl, fun hx hb hml hown hts hF => dk_callS e_6_wrappedBy (dk_ac (dk_tb 959 rfl rfl) wv_6_wrappedBy) ⟨rfl, rfl⟩ hd_6_wrappedBy ⟨by decide, by decide⟩ ⟨Nat.zero_le _, Nat.zero_le _⟩ hx hb hml hown hts hF⟩
    (dk_ac ⟨1, s_6_size, rfl, fun hx hb hml hown hts hF => dk_callS e_6_size (dk_ac (dk_tb 1054 rfl rfl) wv_6_size) ⟨rfl, rfl⟩ hd_6_size ⟨by decide, by decide⟩ ⟨Nat.zero_le _, Nat.zero_le _⟩ hx hb hml hown hts hF⟩
    (dk_an))
theorem e_6_isOpposite : dk_Met y_6_isOpposite prog_8_method_56_code 3 (some .boolean) ({ frames := 1, cells := 0, slots := 0, locals := 24 }) s_6_isOpposite := dk_metV 6 (dk_met (y := y_6_isOpposite) (cc := prog_8_method_56_code) (maxL := 3) (ret := (some .boolean)) (rm := ({ frames := 1, cells := 0, slots := 0, locals := 24 })) (T := t_6_isOpposite) (tb := b_6_isOpposite) (G := g_6_isOpposite) (by decide +kernel) ⟨fun z => absurd z (by decide), fun _ => rfl, fun z => absurd z (by decide), fun z => absurd z (by decide)⟩ (fun _ _ _ _ _ hts hd => tok_6 hts hd) h_6_isOpposite k_6_isOpposite rfl (fun i kd j h => hc_6_isOpposite (i, kd, j) (dk_lk_mem h)))
set_option maxRecDepth 20000 in
theorem wv_6_isOpposite : ∀ w ∈ [Cond.instanceMethod y_6_isOpposite, Cond.selects y_6_isOpposite.cls y_6_isOpposite y_6_isOpposite, Cond.initialized y_6_isOpposite.cls, Cond.code y_6_isOpposite prog_8_method_56_code 3 (some .boolean)], w ∈ dk_TB := dk_ac (dk_tb 1175 rfl rfl) (dk_ac (dk_tb 51 rfl rfl) (dk_ac (dk_tb 64 rfl rfl) (dk_ac (dk_tb 1176 rfl rfl) (dk_an))))
theorem hd_6_isOpposite : y_6_isOpposite.cls ≠ "java/lang/invoke/MethodHandle" ∧ y_6_isOpposite.cls ≠ "java/lang/invoke/VarHandle" ∧ (parseMethodDescriptor y_6_isOpposite.desc).map (fun d => d.parameters.length) = some 2 := by decide +kernel
theorem k_6_opposite : dk_ckT t_6_opposite prog_8_method_57_code 3 t_6_opposite.2.2.1 b_6_opposite = true := by decide +kernel
set_option maxRecDepth 20000 in
theorem hc_6_opposite : ∀ q ∈ t_6_opposite.2.1, ∃ n Sm, dk_nth g_6_opposite q.2.2 = some (n, Sm) ∧ dk_Call y_6_opposite.cls ({ frames := 2, cells := 0, slots := 0, locals := 47 }) prog_8_method_57_code 3 q.2.1 q.1 n Sm :=
  dk_ac ⟨2, s_6_isRank, rfl, fun hx hb hml hown hts hF => dk_callV e_6_isRank dk_rcV rfl (dk_ac (dk_tb 1042 rfl rfl) wv_6_isRank) ⟨rfl, rfl⟩ hd_6_isRank ⟨by decide, by decide⟩ ⟨Nat.zero_le _, Nat.zero_le _⟩ hx hb hml hown hts hF⟩
    (dk_ac ⟨2, s_6_finds, rfl, fun hx hb hml hown hts hF => dk_callV e_6_finds dk_rcV rfl (dk_ac (dk_tb 950 rfl rfl) wv_6_finds) ⟨rfl, rfl⟩ hd_6_finds ⟨by decide, by decide⟩ ⟨Nat.zero_le _, Nat.zero_le _⟩ hx hb hml hown hts hF⟩
    (dk_ac ⟨2, s_6_drumFor, rfl, fun hx hb hml hown hts hF => dk_callV e_6_drumFor dk_rcV rfl (dk_ac (dk_tb 1050 rfl rfl) wv_6_drumFor) ⟨rfl, rfl⟩ hd_6_drumFor ⟨by decide, by decide⟩ ⟨Nat.zero_le _, Nat.zero_le _⟩ hx hb hml hown hts hF⟩
    (dk_ac ⟨3, s_6_its, rfl, fun hx hb hml hown hts hF => dk_callV e_6_its dk_rcV rfl (dk_ac (dk_tb 1023 rfl rfl) wv_6_its) ⟨rfl, rfl⟩ hd_6_its ⟨by decide, by decide⟩ ⟨Nat.zero_le _, Nat.zero_le _⟩ hx hb hml hown hts hF⟩
    (dk_ac ⟨3, s_6_lagOf, rfl, fun hx hb hml hown hts hF => dk_callV e_6_lagOf dk_rcV rfl (dk_ac (dk_tb 1034 rfl rfl) wv_6_lagOf) ⟨rfl, rfl⟩ hd_6_lagOf ⟨by decide, by decide⟩ ⟨Nat.zero_le _, Nat.zero_le _⟩ hx hb hml hown hts hF⟩
    (dk_ac ⟨3, s_6_isOpposite, rfl, fun hx hb hml hown hts hF => dk_callV e_6_isOpposite dk_rcV rfl (dk_ac (dk_tb 1173 rfl rfl) wv_6_isOpposite) ⟨rfl, rfl⟩ hd_6_isOpposite ⟨by decide, by decide⟩ ⟨Nat.zero_le _, Nat.zero_le _⟩ hx hb hml hown hts hF⟩
    (dk_an))))))
theorem e_6_opposite : dk_Met y_6_opposite prog_8_method_57_code 3 (some .int) ({ frames := 2, cells := 0, slots := 0, locals := 47 }) s_6_opposite := dk_metV 6 (dk_met (y := y_6_opposite) (cc := prog_8_method_57_code) (maxL := 3) (ret := (some .int)) (rm := ({ frames := 2, cells := 0, slots := 0, locals := 47 })) (T := t_6_opposite) (tb := b_6_opposite) (G := g_6_opposite) (by decide +kernel) ⟨fun _ => rfl, fun z => absurd z (by decide), fun z => absurd z (by decide), fun z => absurd z (by decide)⟩ (fun _ _ _ _ _ hts hd => tok_6 hts hd) h_6_opposite k_6_opposite rfl (fun i kd j h => hc_6_opposite (i, kd, j) (dk_lk_mem h)))
set_option maxRecDepth 20000 in
theorem wv_6_opposite : ∀ w ∈ [Cond.instanceMethod y_6_opposite, Cond.selects y_6_opposite.cls y_6_opposite y_6_opposite, Cond.initialized y_6_opposite.cls, Cond.code y_6_opposite prog_8_method_57_code 3 (some .int)], w ∈ dk_TB := dk_ac (dk_tb 1170 rfl rfl) (dk_ac (dk_tb 1171 rfl rfl) (dk_ac (dk_tb 64 rfl rfl) (dk_ac (dk_tb 1172 rfl rfl) (dk_an))))
theorem hd_6_opposite : y_6_opposite.cls ≠ "java/lang/invoke/MethodHandle" ∧ y_6_opposite.cls ≠ "java/lang/invoke/VarHandle" ∧ (parseMethodDescriptor y_6_opposite.desc).map (fun d => d.parameters.length) = some 1 := by decide +kernel
theorem k_6_edges : dk_ckT t_6_edges prog_8_method_58_code 11 t_6_edges.2.2.1 b_6_edges = true := by decide +kernel
set_option maxRecDepth 20000 in
theorem hc_6_edges : ∀ q ∈ t_6_edges.2.1, ∃ n Sm, dk_nth g_6_edges q.2.2 = some (n, Sm) ∧ dk_Call y_6_edges.cls ({ frames := 2, cells := 0, slots := 0, locals := 47 }) prog_8_method_58_code 11 q.2.1 q.1 n Sm :=
  dk_ac ⟨2, s_6_isRank, rfl, fun hx hb hml hown hts hF => dk_callV e_6_isRank dk_rcV rfl (dk_ac (dk_tb 1042 rfl rfl) wv_6_isRank) ⟨rfl, rfl⟩ hd_6_isRank ⟨by decide, by decide⟩ ⟨Nat.zero_le _, Nat.zero_le _⟩ hx hb hml hown hts hF⟩
    (dk_ac ⟨3, s_6_in, rfl, fun hx hb hml hown hts hF => dk_callS e_6_in (dk_ac (dk_tb 947 rfl rfl) wv_6_in) ⟨rfl, rfl⟩ hd_6_in ⟨by decide, by decide⟩ ⟨Nat.zero_le _, Nat.zero_le _⟩ hx hb hml hown hts hF⟩
    (dk_ac ⟨2, s_6_finds, rfl, fun hx hb hml hown hts hF => dk_callV e_6_finds dk_rcV rfl (dk_ac (dk_tb 950 rfl rfl) wv_6_finds) ⟨rfl, rfl⟩ hd_6_finds ⟨by decide, by decide⟩ ⟨Nat.zero_le _, Nat.zero_le _⟩ hx hb hml hown hts hF⟩
    (dk_ac ⟨2, s_6_drumFor, rfl, fun hx hb hml hown hts hF => dk_callV e_6_drumFor dk_rcV rfl (dk_ac (dk_tb 1050 rfl rfl) wv_6_drumFor) ⟨rfl, rfl⟩ hd_6_drumFor ⟨by decide, by decide⟩ ⟨Nat.zero_le _, Nat.zero_le _⟩ hx hb hml hown hts hF⟩
    (dk_ac ⟨3, s_6_its, rfl, fun hx hb hml hown hts hF => dk_callV e_6_its dk_rcV rfl (dk_ac (dk_tb 1023 rfl rfl) wv_6_its) ⟨rfl, rfl⟩ hd_6_its ⟨by decide, by decide⟩ ⟨Nat.zero_le _, Nat.zero_le _⟩ hx hb hml hown hts hF⟩
    (dk_ac ⟨3, s_6_lagOf, rfl, fun hx hb hml hown hts hF => dk_callV e_6_lagOf dk_rcV rfl (dk_ac (dk_tb 1034 rfl rfl) wv_6_lagOf) ⟨rfl, rfl⟩ hd_6_lagOf ⟨by decide, by decide⟩ ⟨Nat.zero_le _, Nat.zero_le _⟩ hx hb hml hown hts hF⟩
    (dk_ac ⟨3, s_6_isOpposite, rfl, fun hx hb hml hown hts hF => dk_callV e_6_isOpposite dk_rcV rfl (dk_ac (dk_tb 1173 rfl rfl) wv_6_isOpposite) ⟨rfl, rfl⟩ hd_6_isOpposite ⟨by decide, by decide⟩ ⟨Nat.zero_le _, Nat.zero_le _⟩ hx hb hml hown hts hF⟩
    (dk_an)))))))
theorem e_6_edges : dk_Met y_6_edges prog_8_method_58_code 11 (some .int) ({ frames := 2, cells := 0, slots := 0, locals := 47 }) s_6_edges := dk_metV 6 (dk_met (y := y_6_edges) (cc := prog_8_method_58_code) (maxL := 11) (ret := (some .int)) (rm := ({ frames := 2, cells := 0, slots := 0, locals := 47 })) (T := t_6_edges) (tb := b_6_edges) (G := g_6_edges) (by decide +kernel) ⟨fun _ => rfl, fun z => absurd z (by decide), fun z => absurd z (by decide), fun z => absurd z (by decide)⟩ (fun _ _ _ _ _ hts hd => tok_6 hts hd) h_6_edges k_6_edges rfl (fun i kd j h => hc_6_edges (i, kd, j) (dk_lk_mem h)))
set_option maxRecDepth 20000 in
theorem wv_6_edges : ∀ w ∈ [Cond.instanceMethod y_6_edges, Cond.selects y_6_edges.cls y_6_edges y_6_edges, Cond.initialized y_6_edges.cls, Cond.code y_6_edges prog_8_method_58_code 11 (some .int)], w ∈ dk_TB := dk_ac (dk_tb 1178 rfl rfl) (dk_ac (dk_tb 1179 rfl rfl) (dk_ac (dk_tb 64 rfl rfl) (dk_ac (dk_tb 1180 rfl rfl) (dk_an))))
theorem hd_6_edges : y_6_edges.cls ≠ "java/lang/invoke/MethodHandle" ∧ y_6_edges.cls ≠ "java/lang/invoke/VarHandle" ∧ (parseMethodDescriptor y_6_edges.desc).map (fun d => d.parameters.length) = some 4 := by decide +kernel
theorem k_6_slip : dk_ckT t_6_slip prog_8_method_59_code 11 t_6_slip.2.2.1 b_6_slip = true := by decide +kernel
set_option maxRecDepth 20000 in
theorem hc_6_slip : ∀ q ∈ t_6_slip.2.1, ∃ n Sm, dk_nth g_6_slip q.2.2 = some (n, Sm) ∧ dk_Call y_6_slip.cls ({ frames := 6, cells := 0, slots := 0, locals := 135 }) prog_8_method_59_code 11 q.2.1 q.1 n Sm :=
  dk_ac ⟨2, s_6_isRank, rfl, fun hx hb hml hown hts hF => dk_callV e_6_isRank dk_rcV rfl (dk_ac (dk_tb 1042 rfl rfl) wv_6_isRank) ⟨rfl, rfl⟩ hd_6_isRank ⟨by decide, by decide⟩ ⟨Nat.zero_le _, Nat.zero_le _⟩ hx hb hml hown hts hF⟩
    (dk_ac ⟨3, s_6_in, rfl, fun hx hb hml hown hts hF => dk_callS e_6_in (dk_ac (dk_tb 947 rfl rfl) wv_6_in) ⟨rfl, rfl⟩ hd_6_in ⟨by decide, by decide⟩ ⟨Nat.zero_le _, Nat.zero_le _⟩ hx hb hml hown hts hF⟩
    (dk_ac ⟨2, s_6_finds, rfl, fun hx hb hml hown hts hF => dk_callV e_6_finds dk_rcV rfl (dk_ac (dk_tb 950 rfl rfl) wv_6_finds) ⟨rfl, rfl⟩ hd_6_finds ⟨by decide, by decide⟩ ⟨Nat.zero_le _, Nat.zero_le _⟩ hx hb hml hown hts hF⟩
    (dk_ac ⟨1, s_6_beginMarch, rfl, fun hx hb hml hown hts hF => dk_callV e_6_beginMarch dk_rcV rfl (dk_ac (dk_tb 1046 rfl rfl) wv_6_beginMarch) ⟨rfl, rfl⟩ hd_6_beginMarch ⟨by decide, by decide⟩ ⟨Nat.zero_le _, Nat.zero_le _⟩ hx hb hml hown hts hF⟩
    (dk_ac ⟨1, s_6_goes, rfl, fun hx hb hml hown hts hF => dk_callV e_6_goes dk_rcV rfl (dk_ac (dk_tb 1113 rfl rfl) wv_6_goes) ⟨rfl, rfl⟩ hd_6_goes ⟨by decide, by decide⟩ ⟨Nat.zero_le _, Nat.zero_le _⟩ hx hb hml hown hts hF⟩
    (dk_ac ⟨2, s_6_wrapped, rfl, fun hx hb hml hown hts hF => dk_callV e_6_wrapped dk_rcV rfl (dk_ac (dk_tb 955 rfl rfl) wv_6_wrapped) ⟨rfl, rfl⟩ hd_6_wrapped ⟨by decide, by decide⟩ ⟨Nat.zero_le _, Nat.zero_le _⟩ hx hb hml hown hts hF⟩
    (dk_ac ⟨1, s_6_size, rfl, fun hx hb hml hown hts hF => dk_callS e_6_size (dk_ac (dk_tb 1054 rfl rfl) wv_6_size) ⟨rfl, rfl⟩ hd_6_size ⟨by decide, by decide⟩ ⟨Nat.zero_le _, Nat.zero_le _⟩ hx hb hml hown hts hF⟩
    (dk_an)))))))
theorem e_6_slip : dk_Met y_6_slip prog_8_method_59_code 11 (some .int) ({ frames := 6, cells := 0, slots := 0, locals := 135 }) s_6_slip := dk_metV 6 (dk_met (y := y_6_slip) (cc := prog_8_method_59_code) (maxL := 11) (ret := (some .int)) (rm := ({ frames := 6, cells := 0, slots := 0, locals := 135 })) (T := t_6_slip) (tb := b_6_slip) (G := g_6_slip) (by decide +kernel) ⟨fun _ => rfl, fun z => absurd z (by decide), fun z => absurd z (by decide), fun z => absurd z (by decide)⟩ (fun _ _ _ _ _ hts hd => tok_6 hts hd) h_6_slip k_6_slip rfl (fun i kd j h => hc_6_slip (i, kd, j) (dk_lk_mem h)))
set_option maxRecDepth 20000 in
theorem wv_6_slip : ∀ w ∈ [Cond.instanceMethod y_6_slip, Cond.selects y_6_slip.cls y_6_slip y_6_slip, Cond.initialized y_6_slip.cls, Cond.code y_6_slip prog_8_method_59_code 11 (some .int)], w ∈ dk_TB := dk_ac (dk_tb 1182 rfl rfl) (dk_ac (dk_tb 1183 rfl rfl) (dk_ac (dk_tb 64 rfl rfl) (dk_ac (dk_tb 1184 rfl rfl) (dk_an))))
theorem hd_6_slip : y_6_slip.cls ≠ "java/lang/invoke/MethodHandle" ∧ y_6_slip.cls ≠ "java/lang/invoke/VarHandle" ∧ (parseMethodDescriptor y_6_slip.desc).map (fun d => d.parameters.length) = some 4 := by decide +kernel
theorem k_6_findBegun : dk_ckT t_6_findBegun prog_8_method_60_code 5 t_6_findBegun.2.2.1 b_6_findBegun = true := by decide +kernel
set_option maxRecDepth 20000 in
theorem hc_6_findBegun : ∀ q ∈ t_6_findBegun.2.1, ∃ n Sm, dk_nth g_6_findBegun q.2.2 = some (n, Sm) ∧ dk_Call y_6_findBegun.cls ({ frames := 2, cells := 0, slots := 0, locals := 47 }) prog_8_method_60_code 5 q.2.1 q.1 n Sm :=
  dk_ac ⟨2, s_6_drumFor, rfl, fun hx hb hml hown hts hF => dk_callV e_6_drumFor dk_rcV rfl (dk_ac (dk_tb 1050 rfl rfl) wv_6_drumFor) ⟨rfl, rfl⟩ hd_6_drumFor ⟨by decide, by decide⟩ ⟨Nat.zero_le _, Nat.zero_le _⟩ hx hb hml hown hts hF⟩
    (dk_ac ⟨3, s_6_its, rfl, fun hx hb hml hown hts hF => dk_callV e_6_its dk_rcV rfl (dk_ac (dk_tb 1023 rfl rfl) wv_6_its) ⟨rfl, rfl⟩ hd_6_its ⟨by decide, by decide⟩ ⟨Nat.zero_le _, Nat.zero_le _⟩ hx hb hml hown hts hF⟩
    (dk_ac ⟨3, s_6_lagOf, rfl, fun hx hb hml hown hts hF => dk_callV e_6_lagOf dk_rcV rfl (dk_ac (dk_tb 1034 rfl rfl) wv_6_lagOf) ⟨rfl, rfl⟩ hd_6_lagOf ⟨by decide, by decide⟩ ⟨Nat.zero_le _, Nat.zero_le _⟩ hx hb hml hown hts hF⟩
    (dk_ac ⟨2, s_6_isBent, rfl, fun hx hb hml hown hts hF => dk_callV e_6_isBent dk_rcV rfl (dk_ac (dk_tb 1069 rfl rfl) wv_6_isBent) ⟨rfl, rfl⟩ hd_6_isBent ⟨by decide, by decide⟩ ⟨Nat.zero_le _, Nat.zero_le _⟩ hx hb hml hown hts hF⟩
    (dk_an))))
theorem e_6_findBegun : dk_Met y_6_findBegun prog_8_method_60_code 5 none ({ frames := 2, cells := 0, slots := 0, locals := 47 }) s_6_findBegun := dk_metV 6 (dk_met (y := y_6_findBegun) (cc := prog_8_method_60_code) (maxL := 5) (ret := none) (rm := ({ frames := 2, cells := 0, slots := 0, locals := 47 })) (T := t_6_findBegun) (tb := b_6_findBegun) (G := g_6_findBegun) (by decide +kernel) ⟨fun z => absurd z (by decide), fun z => absurd z (by decide), fun _ => rfl, fun z => absurd z (by decide)⟩ (fun _ _ _ _ _ hts hd => tok_6 hts hd) h_6_findBegun k_6_findBegun rfl (fun i kd j h => hc_6_findBegun (i, kd, j) (dk_lk_mem h)))
set_option maxRecDepth 20000 in
theorem wv_6_findBegun : ∀ w ∈ [Cond.instanceMethod y_6_findBegun, Cond.selects y_6_findBegun.cls y_6_findBegun y_6_findBegun, Cond.initialized y_6_findBegun.cls, Cond.code y_6_findBegun prog_8_method_60_code 5 none], w ∈ dk_TB := dk_ac (dk_tb 1191 rfl rfl) (dk_ac (dk_tb 52 rfl rfl) (dk_ac (dk_tb 64 rfl rfl) (dk_ac (dk_tb 1192 rfl rfl) (dk_an))))
theorem hd_6_findBegun : y_6_findBegun.cls ≠ "java/lang/invoke/MethodHandle" ∧ y_6_findBegun.cls ≠ "java/lang/invoke/VarHandle" ∧ (parseMethodDescriptor y_6_findBegun.desc).map (fun d => d.parameters.length) = some 1 := by decide +kernel
theorem k_6_begin : dk_ckT t_6_begin prog_8_method_61_code 3 t_6_begin.2.2.1 b_6_begin = true := by decide +kernel
set_option maxRecDepth 20000 in
theorem hc_6_begin : ∀ q ∈ t_6_begin.2.1, ∃ n Sm, dk_nth g_6_begin q.2.2 = some (n, Sm) ∧ dk_Call y_6_begin.cls ({ frames := 3, cells := 0, slots := 0, locals := 71 }) prog_8_method_61_code 3 q.2.1 q.1 n Sm :=
  dk_ac ⟨3, s_6_in, rfl, fun hx hb hml hown hts hF => dk_callS e_6_in (dk_ac (dk_tb 947 rfl rfl) wv_6_in) ⟨rfl, rfl⟩ hd_6_in ⟨by decide, by decide⟩ ⟨Nat.zero_le _, Nat.zero_le _⟩ hx hb hml hown hts hF⟩
    (dk_ac ⟨2, s_6_isRank, rfl, fun hx hb hml hown hts hF => dk_callV e_6_isRank dk_rcV rfl (dk_ac (dk_tb 1042 rfl rfl) wv_6_isRank) ⟨rfl, rfl⟩ hd_6_isRank ⟨by decide, by decide⟩ ⟨Nat.zero_le _, Nat.zero_le _⟩ hx hb hml hown hts hF⟩
    (dk_ac ⟨2, s_6_finds, rfl, fun hx hb hml hown hts hF => dk_callV e_6_finds dk_rcV rfl (dk_ac (dk_tb 950 rfl rfl) wv_6_finds) ⟨rfl, rfl⟩ hd_6_finds ⟨by decide, by decide⟩ ⟨Nat.zero_le _, Nat.zero_le _⟩ hx hb hml hown hts hF⟩
    (dk_ac ⟨2, s_6_findBegun, rfl, fun hx hb hml hown hts hF => dk_callV e_6_findBegun dk_rcV rfl (dk_ac (dk_tb 1189 rfl rfl) wv_6_findBegun) ⟨rfl, rfl⟩ hd_6_findBegun ⟨by decide, by decide⟩ ⟨Nat.zero_le _, Nat.zero_le _⟩ hx hb hml hown hts hF⟩
    (dk_an))))
theorem e_6_begin : dk_Met y_6_begin prog_8_method_61_code 3 (some .int) ({ frames := 3, cells := 0, slots := 0, locals := 71 }) s_6_begin := dk_metV 6 (dk_met (y := y_6_begin) (cc := prog_8_method_61_code) (maxL := 3) (ret := (some .int)) (rm := ({ frames := 3, cells := 0, slots := 0, locals := 71 })) (T := t_6_begin) (tb := b_6_begin) (G := g_6_begin) (by decide +kernel) ⟨fun _ => rfl, fun z => absurd z (by decide), fun z => absurd z (by decide), fun z => absurd z (by decide)⟩ (fun _ _ _ _ _ hts hd => tok_6 hts hd) h_6_begin k_6_begin rfl (fun i kd j h => hc_6_begin (i, kd, j) (dk_lk_mem h)))
set_option maxRecDepth 20000 in
theorem wv_6_begin : ∀ w ∈ [Cond.instanceMethod y_6_begin, Cond.selects y_6_begin.cls y_6_begin y_6_begin, Cond.initialized y_6_begin.cls, Cond.code y_6_begin prog_8_method_61_code 3 (some .int)], w ∈ dk_TB := dk_ac (dk_tb 1186 rfl rfl) (dk_ac (dk_tb 1187 rfl rfl) (dk_ac (dk_tb 64 rfl rfl) (dk_ac (dk_tb 1188 rfl rfl) (dk_an))))
theorem hd_6_begin : y_6_begin.cls ≠ "java/lang/invoke/MethodHandle" ∧ y_6_begin.cls ≠ "java/lang/invoke/VarHandle" ∧ (parseMethodDescriptor y_6_begin.desc).map (fun d => d.parameters.length) = some 2 := by decide +kernel
theorem k_6_apart : dk_ckT t_6_apart prog_8_method_62_code 6 t_6_apart.2.2.1 b_6_apart = true := by decide +kernel
set_option maxRecDepth 20000 in
theorem hc_6_apart : ∀ q ∈ t_6_apart.2.1, ∃ n Sm, dk_nth g_6_apart q.2.2 = some (n, Sm) ∧ dk_Call y_6_apart.cls ({ frames := 3, cells := 0, slots := 0, locals := 71 }) prog_8_method_62_code 6 q.2.1 q.1 n Sm :=
  dk_ac ⟨3, s_6_in, rfl, fun hx hb hml hown hts hF => dk_callS e_6_in (dk_ac (dk_tb 947 rfl rfl) wv_6_in) ⟨rfl, rfl⟩ hd_6_in ⟨by decide, by decide⟩ ⟨Nat.zero_le _, Nat.zero_le _⟩ hx hb hml hown hts hF⟩
    (dk_ac ⟨2, s_6_finds, rfl, fun hx hb hml hown hts hF => dk_callV e_6_finds dk_rcV rfl (dk_ac (dk_tb 950 rfl rfl) wv_6_finds) ⟨rfl, rfl⟩ hd_6_finds ⟨by decide, by decide⟩ ⟨Nat.zero_le _, Nat.zero_le _⟩ hx hb hml hown hts hF⟩
    (dk_ac ⟨2, s_6_findBegun, rfl, fun hx hb hml hown hts hF => dk_callV e_6_findBegun dk_rcV rfl (dk_ac (dk_tb 1189 rfl rfl) wv_6_findBegun) ⟨rfl, rfl⟩ hd_6_findBegun ⟨by decide, by decide⟩ ⟨Nat.zero_le _, Nat.zero_le _⟩ hx hb hml hown hts hF⟩
    (dk_an)))
theorem e_6_apart : dk_Met y_6_apart prog_8_method_62_code 6 (some .int) ({ frames := 3, cells := 0, slots := 0, locals := 71 }) s_6_apart := dk_metV 6 (dk_met (y := y_6_apart) (cc := prog_8_method_62_code) (maxL := 6) (ret := (some .int)) (rm := ({ frames := 3, cells := 0, slots := 0, locals := 71 })) (T := t_6_apart) (tb := b_6_apart) (G := g_6_apart) (by decide +kernel) ⟨fun _ => rfl, fun z => absurd z (by decide), fun z => absurd z (by decide), fun z => absurd z (by decide)⟩ (fun _ _ _ _ _ hts hd => tok_6 hts hd) h_6_apart k_6_apart rfl (fun i kd j h => hc_6_apart (i, kd, j) (dk_lk_mem h)))
set_option maxRecDepth 20000 in
theorem wv_6_apart : ∀ w ∈ [Cond.instanceMethod y_6_apart, Cond.selects y_6_apart.cls y_6_apart y_6_apart, Cond.initialized y_6_apart.cls, Cond.code y_6_apart prog_8_method_62_code 6 (some .int)], w ∈ dk_TB := dk_ac (dk_tb 1194 rfl rfl) (dk_ac (dk_tb 1195 rfl rfl) (dk_ac (dk_tb 64 rfl rfl) (dk_ac (dk_tb 1196 rfl rfl) (dk_an))))
theorem hd_6_apart : y_6_apart.cls ≠ "java/lang/invoke/MethodHandle" ∧ y_6_apart.cls ≠ "java/lang/invoke/VarHandle" ∧ (parseMethodDescriptor y_6_apart.desc).map (fun d => d.parameters.length) = some 1 := by decide +kernel
theorem k_6_isBridge : dk_ckT t_6_isBridge prog_8_method_64_code 3 t_6_isBridge.2.2.1 b_6_isBridge = true := by decide +kernel
set_option maxRecDepth 20000 in
theorem hc_6_isBridge : ∀ q ∈ t_6_isBridge.2.1, ∃ n Sm, dk_nth g_6_isBridge q.2.2 = some (n, Sm) ∧ dk_Call y_6_isBridge.cls ({ frames := 2, cells := 0, slots := 0, locals := 42 }) prog_8_method_64_code 3 q.2.1 q.1 n Sm :=
  dk_ac ⟨1, s_6_isPlace, rfl, fun hx hb hml hown hts hF => dk_callS e_6_isPlace (dk_ac (dk_tb 1031 rfl rfl) wv_6_isPlace) ⟨rfl, rfl⟩ hd_6_isPlace ⟨by decide, by decide⟩ ⟨Nat.zero_le _, Nat.zero_le _⟩ hx hb hml hown hts hF⟩
    (dk_ac ⟨3, s_6_in, rfl, fun hx hb hml hown hts hF => dk_callS e_6_in (dk_ac (dk_tb 947 rfl rfl) wv_6_in) ⟨rfl, rfl⟩ hd_6_in ⟨by decide, by decide⟩ ⟨Nat.zero_le _, Nat.zero_le _⟩ hx hb hml hown hts hF⟩
    (dk_an))
theorem e_6_isBridge : dk_Met y_6_isBridge prog_8_method_64_code 3 (some .boolean) ({ frames := 2, cells := 0, slots := 0, locals := 42 }) s_6_isBridge := dk_met (y := y_6_isBridge) (cc := prog_8_method_64_code) (maxL := 3) (ret := (some .boolean)) (rm := ({ frames := 2, cells := 0, slots := 0, locals := 42 })) (T := t_6_isBridge) (tb := b_6_isBridge) (G := g_6_isBridge) (by decide +kernel) ⟨fun z => absurd z (by decide), fun _ => rfl, fun z => absurd z (by decide), fun z => absurd z (by decide)⟩ (fun _ _ _ _ _ hts hd => tok_6 hts hd) h_6_isBridge k_6_isBridge rfl (fun i kd j h => hc_6_isBridge (i, kd, j) (dk_lk_mem h))
set_option maxRecDepth 20000 in
theorem wv_6_isBridge : ∀ w ∈ [Cond.static y_6_isBridge, Cond.initialized y_6_isBridge.cls, Cond.code y_6_isBridge prog_8_method_64_code 3 (some .boolean)], w ∈ dk_TB := dk_ac (dk_tb 1202 rfl rfl) (dk_ac (dk_tb 64 rfl rfl) (dk_ac (dk_tb 1203 rfl rfl) (dk_an)))
theorem hd_6_isBridge : y_6_isBridge.cls ≠ "java/lang/invoke/MethodHandle" ∧ y_6_isBridge.cls ≠ "java/lang/invoke/VarHandle" ∧ (parseMethodDescriptor y_6_isBridge.desc).map (fun d => d.parameters.length) = some 3 := by decide +kernel
theorem k_6_together : dk_ckT t_6_together prog_8_method_63_code 9 t_6_together.2.2.1 b_6_together = true := by decide +kernel
set_option maxRecDepth 20000 in
theorem hc_6_together : ∀ q ∈ t_6_together.2.1, ∃ n Sm, dk_nth g_6_together q.2.2 = some (n, Sm) ∧ dk_Call y_6_together.cls ({ frames := 1, cells := 0, slots := 0, locals := 22 }) prog_8_method_63_code 9 q.2.1 q.1 n Sm :=
  dk_ac ⟨3, s_6_its, rfl, fun hx hb hml hown hts hF => dk_callV e_6_its dk_rcV rfl (dk_ac (dk_tb 1023 rfl rfl) wv_6_its) ⟨rfl, rfl⟩ hd_6_its ⟨by decide, by decide⟩ ⟨Nat.zero_le _, Nat.zero_le _⟩ hx hb hml hown hts hF⟩
    (dk_ac ⟨3, s_6_in, rfl, fun hx hb hml hown hts hF => dk_callS e_6_in (dk_ac (dk_tb 947 rfl rfl) wv_6_in) ⟨rfl, rfl⟩ hd_6_in ⟨by decide, by decide⟩ ⟨Nat.zero_le _, Nat.zero_le _⟩ hx hb hml hown hts hF⟩
    (dk_an))
theorem e_6_together : dk_Met y_6_together prog_8_method_63_code 9 (some .int) ({ frames := 1, cells := 0, slots := 0, locals := 22 }) s_6_together := dk_metV 6 (dk_met (y := y_6_together) (cc := prog_8_method_63_code) (maxL := 9) (ret := (some .int)) (rm := ({ frames := 1, cells := 0, slots := 0, locals := 22 })) (T := t_6_together) (tb := b_6_together) (G := g_6_together) (by decide +kernel) ⟨fun _ => rfl, fun z => absurd z (by decide), fun z => absurd z (by decide), fun z => absurd z (by decide)⟩ (fun _ _ _ _ _ hts hd => tok_6 hts hd) h_6_together k_6_together rfl (fun i kd j h => hc_6_together (i, kd, j) (dk_lk_mem h)))
set_option maxRecDepth 20000 in
theorem wv_6_together : ∀ w ∈ [Cond.instanceMethod y_6_together, Cond.selects y_6_together.cls y_6_together y_6_together, Cond.initialized y_6_together.cls, Cond.code y_6_together prog_8_method_63_code 9 (some .int)], w ∈ dk_TB := dk_ac (dk_tb 1206 rfl rfl) (dk_ac (dk_tb 53 rfl rfl) (dk_ac (dk_tb 64 rfl rfl) (dk_ac (dk_tb 1207 rfl rfl) (dk_an))))
theorem hd_6_together : y_6_together.cls ≠ "java/lang/invoke/MethodHandle" ∧ y_6_together.cls ≠ "java/lang/invoke/VarHandle" ∧ (parseMethodDescriptor y_6_together.desc).map (fun d => d.parameters.length) = some 3 := by decide +kernel
theorem k_6_bridge : dk_ckT t_6_bridge prog_8_method_65_code 5 t_6_bridge.2.2.1 b_6_bridge = true := by decide +kernel
set_option maxRecDepth 20000 in
theorem hc_6_bridge : ∀ q ∈ t_6_bridge.2.1, ∃ n Sm, dk_nth g_6_bridge q.2.2 = some (n, Sm) ∧ dk_Call y_6_bridge.cls ({ frames := 7, cells := 0, slots := 0, locals := 157 }) prog_8_method_65_code 5 q.2.1 q.1 n Sm :=
  dk_ac ⟨3, s_6_isBridge, rfl, fun hx hb hml hown hts hF => dk_callS e_6_isBridge (dk_ac (dk_tb 1201 rfl rfl) wv_6_isBridge) ⟨rfl, rfl⟩ hd_6_isBridge ⟨by decide, by decide⟩ ⟨Nat.zero_le _, Nat.zero_le _⟩ hx hb hml hown hts hF⟩
    (dk_ac ⟨3, s_6_in, rfl, fun hx hb hml hown hts hF => dk_callS e_6_in (dk_ac (dk_tb 947 rfl rfl) wv_6_in) ⟨rfl, rfl⟩ hd_6_in ⟨by decide, by decide⟩ ⟨Nat.zero_le _, Nat.zero_le _⟩ hx hb hml hown hts hF⟩
    (dk_ac ⟨2, s_6_finds, rfl, fun hx hb hml hown hts hF => dk_callV e_6_finds dk_rcV rfl (dk_ac (dk_tb 950 rfl rfl) wv_6_finds) ⟨rfl, rfl⟩ hd_6_finds ⟨by decide, by decide⟩ ⟨Nat.zero_le _, Nat.zero_le _⟩ hx hb hml hown hts hF⟩
    (dk_ac ⟨1, s_6_beginMarch, rfl, fun hx hb hml hown hts hF => dk_callV e_6_beginMarch dk_rcV rfl (dk_ac (dk_tb 1046 rfl rfl) wv_6_beginMarch) ⟨rfl, rfl⟩ hd_6_beginMarch ⟨by decide, by decide⟩ ⟨Nat.zero_le _, Nat.zero_le _⟩ hx hb hml hown hts hF⟩
    (dk_ac ⟨2, s_6_goesOn, rfl, fun hx hb hml hown hts hF => dk_callV e_6_goesOn dk_rcV rfl (dk_ac (dk_tb 1109 rfl rfl) wv_6_goesOn) ⟨rfl, rfl⟩ hd_6_goesOn ⟨by decide, by decide⟩ ⟨Nat.zero_le _, Nat.zero_le _⟩ hx hb hml hown hts hF⟩
    (dk_ac ⟨4, s_6_together, rfl, fun hx hb hml hown hts hF => dk_callV e_6_together dk_rcV rfl (dk_ac (dk_tb 1204 rfl rfl) wv_6_together) ⟨rfl, rfl⟩ hd_6_together ⟨by decide, by decide⟩ ⟨Nat.zero_le _, Nat.zero_le _⟩ hx hb hml hown hts hF⟩
    (dk_an))))))
theorem e_6_bridge : dk_Met y_6_bridge prog_8_method_65_code 5 (some .int) ({ frames := 7, cells := 0, slots := 0, locals := 157 }) s_6_bridge := dk_metV 6 (dk_met (y := y_6_bridge) (cc := prog_8_method_65_code) (maxL := 5) (ret := (some .int)) (rm := ({ frames := 7, cells := 0, slots := 0, locals := 157 })) (T := t_6_bridge) (tb := b_6_bridge) (G := g_6_bridge) (by decide +kernel) ⟨fun _ => rfl, fun z => absurd z (by decide), fun z => absurd z (by decide), fun z => absurd z (by decide)⟩ (fun _ _ _ _ _ hts hd => tok_6 hts hd) h_6_bridge k_6_bridge rfl (fun i kd j h => hc_6_bridge (i, kd, j) (dk_lk_mem h)))
set_option maxRecDepth 20000 in
theorem wv_6_bridge : ∀ w ∈ [Cond.instanceMethod y_6_bridge, Cond.selects y_6_bridge.cls y_6_bridge y_6_bridge, Cond.initialized y_6_bridge.cls, Cond.code y_6_bridge prog_8_method_65_code 5 (some .int)], w ∈ dk_TB := dk_ac (dk_tb 1198 rfl rfl) (dk_ac (dk_tb 1199 rfl rfl) (dk_ac (dk_tb 64 rfl rfl) (dk_ac (dk_tb 1200 rfl rfl) (dk_an))))
theorem hd_6_bridge : y_6_bridge.cls ≠ "java/lang/invoke/MethodHandle" ∧ y_6_bridge.cls ≠ "java/lang/invoke/VarHandle" ∧ (parseMethodDescriptor y_6_bridge.desc).map (fun d => d.parameters.length) = some 4 := by decide +kernel
theorem k_6_broken : dk_ckT t_6_broken prog_8_method_66_code 6 t_6_broken.2.2.1 b_6_broken = true := by decide +kernel
set_option maxRecDepth 20000 in
theorem hc_6_broken : ∀ q ∈ t_6_broken.2.1, ∃ n Sm, dk_nth g_6_broken q.2.2 = some (n, Sm) ∧ dk_Call y_6_broken.cls ({ frames := 6, cells := 0, slots := 0, locals := 135 }) prog_8_method_66_code 6 q.2.1 q.1 n Sm :=
  dk_ac ⟨3, s_6_isBridge, rfl, fun hx hb hml hown hts hF => dk_callS e_6_isBridge (dk_ac (dk_tb 1201 rfl rfl) wv_6_isBridge) ⟨rfl, rfl⟩ hd_6_isBridge ⟨by decide, by decide⟩ ⟨Nat.zero_le _, Nat.zero_le _⟩ hx hb hml hown hts hF⟩
    (dk_ac ⟨3, s_6_in, rfl, fun hx hb hml hown hts hF => dk_callS e_6_in (dk_ac (dk_tb 947 rfl rfl) wv_6_in) ⟨rfl, rfl⟩ hd_6_in ⟨by decide, by decide⟩ ⟨Nat.zero_le _, Nat.zero_le _⟩ hx hb hml hown hts hF⟩
    (dk_ac ⟨2, s_6_finds, rfl, fun hx hb hml hown hts hF => dk_callV e_6_finds dk_rcV rfl (dk_ac (dk_tb 950 rfl rfl) wv_6_finds) ⟨rfl, rfl⟩ hd_6_finds ⟨by decide, by decide⟩ ⟨Nat.zero_le _, Nat.zero_le _⟩ hx hb hml hown hts hF⟩
    (dk_ac ⟨1, s_6_beginMarch, rfl, fun hx hb hml hown hts hF => dk_callV e_6_beginMarch dk_rcV rfl (dk_ac (dk_tb 1046 rfl rfl) wv_6_beginMarch) ⟨rfl, rfl⟩ hd_6_beginMarch ⟨by decide, by decide⟩ ⟨Nat.zero_le _, Nat.zero_le _⟩ hx hb hml hown hts hF⟩
    (dk_ac ⟨4, s_6_together, rfl, fun hx hb hml hown hts hF => dk_callV e_6_together dk_rcV rfl (dk_ac (dk_tb 1204 rfl rfl) wv_6_together) ⟨rfl, rfl⟩ hd_6_together ⟨by decide, by decide⟩ ⟨Nat.zero_le _, Nat.zero_le _⟩ hx hb hml hown hts hF⟩
    (dk_ac ⟨1, s_6_goes, rfl, fun hx hb hml hown hts hF => dk_callV e_6_goes dk_rcV rfl (dk_ac (dk_tb 1113 rfl rfl) wv_6_goes) ⟨rfl, rfl⟩ hd_6_goes ⟨by decide, by decide⟩ ⟨Nat.zero_le _, Nat.zero_le _⟩ hx hb hml hown hts hF⟩
    (dk_an))))))
theorem e_6_broken : dk_Met y_6_broken prog_8_method_66_code 6 (some .int) ({ frames := 6, cells := 0, slots := 0, locals := 135 }) s_6_broken := dk_metV 6 (dk_met (y := y_6_broken) (cc := prog_8_method_66_code) (maxL := 6) (ret := (some .int)) (rm := ({ frames := 6, cells := 0, slots := 0, locals := 135 })) (T := t_6_broken) (tb := b_6_broken) (G := g_6_broken) (by decide +kernel) ⟨fun _ => rfl, fun z => absurd z (by decide), fun z => absurd z (by decide), fun z => absurd z (by decide)⟩ (fun _ _ _ _ _ hts hd => tok_6 hts hd) h_6_broken k_6_broken rfl (fun i kd j h => hc_6_broken (i, kd, j) (dk_lk_mem h)))
set_option maxRecDepth 20000 in
theorem wv_6_broken : ∀ w ∈ [Cond.instanceMethod y_6_broken, Cond.selects y_6_broken.cls y_6_broken y_6_broken, Cond.initialized y_6_broken.cls, Cond.code y_6_broken prog_8_method_66_code 6 (some .int)], w ∈ dk_TB := dk_ac (dk_tb 1209 rfl rfl) (dk_ac (dk_tb 1210 rfl rfl) (dk_ac (dk_tb 64 rfl rfl) (dk_ac (dk_tb 1211 rfl rfl) (dk_an))))
theorem hd_6_broken : y_6_broken.cls ≠ "java/lang/invoke/MethodHandle" ∧ y_6_broken.cls ≠ "java/lang/invoke/VarHandle" ∧ (parseMethodDescriptor y_6_broken.desc).map (fun d => d.parameters.length) = some 4 := by decide +kernel
theorem k_6_seed : dk_ckT t_6_seed prog_8_method_67_code 3 t_6_seed.2.2.1 b_6_seed = true := by decide +kernel
set_option maxRecDepth 20000 in
theorem hc_6_seed : ∀ q ∈ t_6_seed.2.1, ∃ n Sm, dk_nth g_6_seed q.2.2 = some (n, Sm) ∧ dk_Call y_6_seed.cls ({ frames := 0, cells := 0, slots := 0, locals := 0 }) prog_8_method_67_code 3 q.2.1 q.1 n Sm :=
  dk_an
theorem e_6_seed : dk_Met y_6_seed prog_8_method_67_code 3 (some .int) ({ frames := 0, cells := 0, slots := 0, locals := 0 }) s_6_seed := dk_metV 6 (dk_met (y := y_6_seed) (cc := prog_8_method_67_code) (maxL := 3) (ret := (some .int)) (rm := ({ frames := 0, cells := 0, slots := 0, locals := 0 })) (T := t_6_seed) (tb := b_6_seed) (G := g_6_seed) (by decide +kernel) ⟨fun _ => rfl, fun z => absurd z (by decide), fun z => absurd z (by decide), fun z => absurd z (by decide)⟩ (fun _ _ _ _ _ hts hd => tok_6 hts hd) h_6_seed k_6_seed rfl (fun i kd j h => hc_6_seed (i, kd, j) (dk_lk_mem h)))
set_option maxRecDepth 20000 in
theorem wv_6_seed : ∀ w ∈ [Cond.instanceMethod y_6_seed, Cond.selects y_6_seed.cls y_6_seed y_6_seed, Cond.initialized y_6_seed.cls, Cond.code y_6_seed prog_8_method_67_code 3 (some .int)], w ∈ dk_TB := dk_ac (dk_tb 1213 rfl rfl) (dk_ac (dk_tb 1214 rfl rfl) (dk_ac (dk_tb 64 rfl rfl) (dk_ac (dk_tb 1215 rfl rfl) (dk_an))))
theorem hd_6_seed : y_6_seed.cls ≠ "java/lang/invoke/MethodHandle" ∧ y_6_seed.cls ≠ "java/lang/invoke/VarHandle" ∧ (parseMethodDescriptor y_6_seed.desc).map (fun d => d.parameters.length) = some 1 := by decide +kernel
theorem k_6_shake : dk_ckT t_6_shake prog_8_method_68_code 3 t_6_shake.2.2.1 b_6_shake = true := by decide +kernel
set_option maxRecDepth 20000 in
theorem hc_6_shake : ∀ q ∈ t_6_shake.2.1, ∃ n Sm, dk_nth g_6_shake q.2.2 = some (n, Sm) ∧ dk_Call y_6_shake.cls ({ frames := 2, cells := 0, slots := 0, locals := 46 }) prog_8_method_68_code 3 q.2.1 q.1 n Sm :=
  dk_ac ⟨3, s_6_in, rfl, fun hx hb hml hown hts hF => dk_callS e_6_in (dk_ac (dk_tb 947 rfl rfl) wv_6_in) ⟨rfl, rfl⟩ hd_6_in ⟨by decide, by decide⟩ ⟨Nat.zero_le _, Nat.zero_le _⟩ hx hb hml hown hts hF⟩
    (dk_ac ⟨2, s_6_finds, rfl, fun hx hb hml hown hts hF => dk_callV e_6_finds dk_rcV rfl (dk_ac (dk_tb 950 rfl rfl) wv_6_finds) ⟨rfl, rfl⟩ hd_6_finds ⟨by decide, by decide⟩ ⟨Nat.zero_le _, Nat.zero_le _⟩ hx hb hml hown hts hF⟩
    (dk_ac ⟨2, s_6_wrapped, rfl, fun hx hb hml hown hts hF => dk_callV e_6_wrapped dk_rcV rfl (dk_ac (dk_tb 955 rfl rfl) wv_6_wrapped) ⟨rfl, rfl⟩ hd_6_wrapped ⟨by decide, by decide⟩ ⟨Nat.zero_le _, Nat.zero_le _⟩ hx hb hml hown hts hF⟩
    (dk_ac ⟨1, s_6_beginMarch, rfl, fun hx hb hml hown hts hF => dk_callV e_6_beginMarch dk_rcV rfl (dk_ac (dk_tb 1046 rfl rfl) wv_6_beginMarch) ⟨rfl, rfl⟩ hd_6_beginMarch ⟨by decide, by decide⟩ ⟨Nat.zero_le _, Nat.zero_le _⟩ hx hb hml hown hts hF⟩
    (dk_ac ⟨1, s_6_worstNow, rfl, fun hx hb hml hown hts hF => dk_callV e_6_worstNow dk_rcV rfl (dk_ac (dk_tb 1117 rfl rfl) wv_6_worstNow) ⟨rfl, rfl⟩ hd_6_worstNow ⟨by decide, by decide⟩ ⟨Nat.zero_le _, Nat.zero_le _⟩ hx hb hml hown hts hF⟩
    (dk_an)))))
theorem e_6_shake : dk_Met y_6_shake prog_8_method_68_code 3 (some .int) ({ frames := 2, cells := 0, slots := 0, locals := 46 }) s_6_shake := dk_metV 6 (dk_met (y := y_6_shake) (cc := prog_8_method_68_code) (maxL := 3) (ret := (some .int)) (rm := ({ frames := 2, cells := 0, slots := 0, locals := 46 })) (T := t_6_shake) (tb := b_6_shake) (G := g_6_shake) (by decide +kernel) ⟨fun _ => rfl, fun z => absurd z (by decide), fun z => absurd z (by decide), fun z => absurd z (by decide)⟩ (fun _ _ _ _ _ hts hd => tok_6 hts hd) h_6_shake k_6_shake rfl (fun i kd j h => hc_6_shake (i, kd, j) (dk_lk_mem h)))
set_option maxRecDepth 20000 in
theorem wv_6_shake : ∀ w ∈ [Cond.instanceMethod y_6_shake, Cond.selects y_6_shake.cls y_6_shake y_6_shake, Cond.initialized y_6_shake.cls, Cond.code y_6_shake prog_8_method_68_code 3 (some .int)], w ∈ dk_TB := dk_ac (dk_tb 1217 rfl rfl) (dk_ac (dk_tb 1218 rfl rfl) (dk_ac (dk_tb 64 rfl rfl) (dk_ac (dk_tb 1219 rfl rfl) (dk_an))))
theorem hd_6_shake : y_6_shake.cls ≠ "java/lang/invoke/MethodHandle" ∧ y_6_shake.cls ≠ "java/lang/invoke/VarHandle" ∧ (parseMethodDescriptor y_6_shake.desc).map (fun d => d.parameters.length) = some 1 := by decide +kernel
theorem k_6_hold : dk_ckT t_6_hold prog_8_method_69_code 3 t_6_hold.2.2.1 b_6_hold = true := by decide +kernel
set_option maxRecDepth 20000 in
theorem hc_6_hold : ∀ q ∈ t_6_hold.2.1, ∃ n Sm, dk_nth g_6_hold q.2.2 = some (n, Sm) ∧ dk_Call y_6_hold.cls ({ frames := 2, cells := 0, slots := 0, locals := 43 }) prog_8_method_69_code 3 q.2.1 q.1 n Sm :=
  dk_ac ⟨3, s_6_in, rfl, fun hx hb hml hown hts hF => dk_callS e_6_in (dk_ac (dk_tb 947 rfl rfl) wv_6_in) ⟨rfl, rfl⟩ hd_6_in ⟨by decide, by decide⟩ ⟨Nat.zero_le _, Nat.zero_le _⟩ hx hb hml hown hts hF⟩
    (dk_ac ⟨2, s_6_isRank, rfl, fun hx hb hml hown hts hF => dk_callV e_6_isRank dk_rcV rfl (dk_ac (dk_tb 1042 rfl rfl) wv_6_isRank) ⟨rfl, rfl⟩ hd_6_isRank ⟨by decide, by decide⟩ ⟨Nat.zero_le _, Nat.zero_le _⟩ hx hb hml hown hts hF⟩
    (dk_ac ⟨2, s_6_finds, rfl, fun hx hb hml hown hts hF => dk_callV e_6_finds dk_rcV rfl (dk_ac (dk_tb 950 rfl rfl) wv_6_finds) ⟨rfl, rfl⟩ hd_6_finds ⟨by decide, by decide⟩ ⟨Nat.zero_le _, Nat.zero_le _⟩ hx hb hml hown hts hF⟩
    (dk_an)))
theorem e_6_hold : dk_Met y_6_hold prog_8_method_69_code 3 (some .int) ({ frames := 2, cells := 0, slots := 0, locals := 43 }) s_6_hold := dk_metV 6 (dk_met (y := y_6_hold) (cc := prog_8_method_69_code) (maxL := 3) (ret := (some .int)) (rm := ({ frames := 2, cells := 0, slots := 0, locals := 43 })) (T := t_6_hold) (tb := b_6_hold) (G := g_6_hold) (by decide +kernel) ⟨fun _ => rfl, fun z => absurd z (by decide), fun z => absurd z (by decide), fun z => absurd z (by decide)⟩ (fun _ _ _ _ _ hts hd => tok_6 hts hd) h_6_hold k_6_hold rfl (fun i kd j h => hc_6_hold (i, kd, j) (dk_lk_mem h)))
set_option maxRecDepth 20000 in
theorem wv_6_hold : ∀ w ∈ [Cond.instanceMethod y_6_hold, Cond.selects y_6_hold.cls y_6_hold y_6_hold, Cond.initialized y_6_hold.cls, Cond.code y_6_hold prog_8_method_69_code 3 (some .int)], w ∈ dk_TB := dk_ac (dk_tb 1222 rfl rfl) (dk_ac (dk_tb 1223 rfl rfl) (dk_ac (dk_tb 64 rfl rfl) (dk_ac (dk_tb 1224 rfl rfl) (dk_an))))
theorem hd_6_hold : y_6_hold.cls ≠ "java/lang/invoke/MethodHandle" ∧ y_6_hold.cls ≠ "java/lang/invoke/VarHandle" ∧ (parseMethodDescriptor y_6_hold.desc).map (fun d => d.parameters.length) = some 2 := by decide +kernel
theorem k_6_as : dk_ckT t_6_as prog_8_method_70_code 6 t_6_as.2.2.1 b_6_as = true := by decide +kernel
set_option maxRecDepth 20000 in
theorem hc_6_as : ∀ q ∈ t_6_as.2.1, ∃ n Sm, dk_nth g_6_as q.2.2 = some (n, Sm) ∧ dk_Call y_6_as.cls ({ frames := 1, cells := 0, slots := 0, locals := 22 }) prog_8_method_70_code 6 q.2.1 q.1 n Sm :=
  dk_ac ⟨3, s_6_in, rfl, fun hx hb hml hown hts hF => dk_callS e_6_in (dk_ac (dk_tb 947 rfl rfl) wv_6_in) ⟨rfl, rfl⟩ hd_6_in ⟨by decide, by decide⟩ ⟨Nat.zero_le _, Nat.zero_le _⟩ hx hb hml hown hts hF⟩
    (dk_ac ⟨2, s_6_finds, rfl, fun hx hb hml hown hts hF => dk_callV e_6_finds dk_rcV rfl (dk_ac (dk_tb 950 rfl rfl) wv_6_finds) ⟨rfl, rfl⟩ hd_6_finds ⟨by decide, by decide⟩ ⟨Nat.zero_le _, Nat.zero_le _⟩ hx hb hml hown hts hF⟩
    (dk_ac ⟨3, s_6_its, rfl, fun hx hb hml hown hts hF => dk_callV e_6_its dk_rcV rfl (dk_ac (dk_tb 1023 rfl rfl) wv_6_its) ⟨rfl, rfl⟩ hd_6_its ⟨by decide, by decide⟩ ⟨Nat.zero_le _, Nat.zero_le _⟩ hx hb hml hown hts hF⟩
    (dk_an)))
theorem e_6_as : dk_Met y_6_as prog_8_method_70_code 6 (some .int) ({ frames := 1, cells := 0, slots := 0, locals := 22 }) s_6_as := dk_metV 6 (dk_met (y := y_6_as) (cc := prog_8_method_70_code) (maxL := 6) (ret := (some .int)) (rm := ({ frames := 1, cells := 0, slots := 0, locals := 22 })) (T := t_6_as) (tb := b_6_as) (G := g_6_as) (by decide +kernel) ⟨fun _ => rfl, fun z => absurd z (by decide), fun z => absurd z (by decide), fun z => absurd z (by decide)⟩ (fun _ _ _ _ _ hts hd => tok_6 hts hd) h_6_as k_6_as rfl (fun i kd j h => hc_6_as (i, kd, j) (dk_lk_mem h)))
set_option maxRecDepth 20000 in
theorem wv_6_as : ∀ w ∈ [Cond.instanceMethod y_6_as, Cond.selects y_6_as.cls y_6_as y_6_as, Cond.initialized y_6_as.cls, Cond.code y_6_as prog_8_method_70_code 6 (some .int)], w ∈ dk_TB := dk_ac (dk_tb 1226 rfl rfl) (dk_ac (dk_tb 1227 rfl rfl) (dk_ac (dk_tb 64 rfl rfl) (dk_ac (dk_tb 1228 rfl rfl) (dk_an))))
theorem hd_6_as : y_6_as.cls ≠ "java/lang/invoke/MethodHandle" ∧ y_6_as.cls ≠ "java/lang/invoke/VarHandle" ∧ (parseMethodDescriptor y_6_as.desc).map (fun d => d.parameters.length) = some 2 := by decide +kernel
theorem k_6_isSheet : dk_ckT t_6_isSheet prog_8_method_71_code 1 t_6_isSheet.2.2.1 b_6_isSheet = true := by decide +kernel
set_option maxRecDepth 20000 in
theorem hc_6_isSheet : ∀ q ∈ t_6_isSheet.2.1, ∃ n Sm, dk_nth g_6_isSheet q.2.2 = some (n, Sm) ∧ dk_Call y_6_isSheet.cls ({ frames := 1, cells := 0, slots := 0, locals := 22 }) prog_8_method_71_code 1 q.2.1 q.1 n Sm :=
  dk_ac ⟨3, s_6_in, rfl, fun hx hb hml hown hts hF => dk_callS e_6_in (dk_ac (dk_tb 947 rfl rfl) wv_6_in) ⟨rfl, rfl⟩ hd_6_in ⟨by decide, by decide⟩ ⟨Nat.zero_le _, Nat.zero_le _⟩ hx hb hml hown hts hF⟩
    (dk_an)
theorem e_6_isSheet : dk_Met y_6_isSheet prog_8_method_71_code 1 (some .boolean) ({ frames := 1, cells := 0, slots := 0, locals := 22 }) s_6_isSheet := dk_met (y := y_6_isSheet) (cc := prog_8_method_71_code) (maxL := 1) (ret := (some .boolean)) (rm := ({ frames := 1, cells := 0, slots := 0, locals := 22 })) (T := t_6_isSheet) (tb := b_6_isSheet) (G := g_6_isSheet) (by decide +kernel) ⟨fun z => absurd z (by decide), fun _ => rfl, fun z => absurd z (by decide), fun z => absurd z (by decide)⟩ (fun _ _ _ _ _ hts hd => tok_6 hts hd) h_6_isSheet k_6_isSheet rfl (fun i kd j h => hc_6_isSheet (i, kd, j) (dk_lk_mem h))
set_option maxRecDepth 20000 in
theorem wv_6_isSheet : ∀ w ∈ [Cond.static y_6_isSheet, Cond.initialized y_6_isSheet.cls, Cond.code y_6_isSheet prog_8_method_71_code 1 (some .boolean)], w ∈ dk_TB := dk_ac (dk_tb 1234 rfl rfl) (dk_ac (dk_tb 64 rfl rfl) (dk_ac (dk_tb 1235 rfl rfl) (dk_an)))
theorem hd_6_isSheet : y_6_isSheet.cls ≠ "java/lang/invoke/MethodHandle" ∧ y_6_isSheet.cls ≠ "java/lang/invoke/VarHandle" ∧ (parseMethodDescriptor y_6_isSheet.desc).map (fun d => d.parameters.length) = some 1 := by decide +kernel
theorem k_6_sheet : dk_ckT t_6_sheet prog_8_method_72_code 5 t_6_sheet.2.2.1 b_6_sheet = true := by decide +kernel
set_option maxRecDepth 20000 in
theorem hc_6_sheet : ∀ q ∈ t_6_sheet.2.1, ∃ n Sm, dk_nth g_6_sheet q.2.2 = some (n, Sm) ∧ dk_Call y_6_sheet.cls ({ frames := 2, cells := 0, slots := 0, locals := 42 }) prog_8_method_72_code 5 q.2.1 q.1 n Sm :=
  dk_ac ⟨1, s_6_isSheet, rfl, fun hx hb hml hown hts hF => dk_callS e_6_isSheet (dk_ac (dk_tb 1233 rfl rfl) wv_6_isSheet) ⟨rfl, rfl⟩ hd_6_isSheet ⟨by decide, by decide⟩ ⟨Nat.zero_le _, Nat.zero_le _⟩ hx hb hml hown hts hF⟩
    (dk_ac ⟨2, s_6_finds, rfl, fun hx hb hml hown hts hF => dk_callV e_6_finds dk_rcV rfl (dk_ac (dk_tb 950 rfl rfl) wv_6_finds) ⟨rfl, rfl⟩ hd_6_finds ⟨by decide, by decide⟩ ⟨Nat.zero_le _, Nat.zero_le _⟩ hx hb hml hown hts hF⟩
    (dk_an))
theorem e_6_sheet : dk_Met y_6_sheet prog_8_method_72_code 5 (some .int) ({ frames := 2, cells := 0, slots := 0, locals := 42 }) s_6_sheet := dk_metV 6 (dk_met (y := y_6_sheet) (cc := prog_8_method_72_code) (maxL := 5) (ret := (some .int)) (rm := ({ frames := 2, cells := 0, slots := 0, locals := 42 })) (T := t_6_sheet) (tb := b_6_sheet) (G := g_6_sheet) (by decide +kernel) ⟨fun _ => rfl, fun z => absurd z (by decide), fun z => absurd z (by decide), fun z => absurd z (by decide)⟩ (fun _ _ _ _ _ hts hd => tok_6 hts hd) h_6_sheet k_6_sheet rfl (fun i kd j h => hc_6_sheet (i, kd, j) (dk_lk_mem h)))
set_option maxRecDepth 20000 in
theorem wv_6_sheet : ∀ w ∈ [Cond.instanceMethod y_6_sheet, Cond.selects y_6_sheet.cls y_6_sheet y_6_sheet, Cond.initialized y_6_sheet.cls, Cond.code y_6_sheet prog_8_method_72_code 5 (some .int)], w ∈ dk_TB := dk_ac (dk_tb 1230 rfl rfl) (dk_ac (dk_tb 1231 rfl rfl) (dk_ac (dk_tb 64 rfl rfl) (dk_ac (dk_tb 1232 rfl rfl) (dk_an))))
theorem hd_6_sheet : y_6_sheet.cls ≠ "java/lang/invoke/MethodHandle" ∧ y_6_sheet.cls ≠ "java/lang/invoke/VarHandle" ∧ (parseMethodDescriptor y_6_sheet.desc).map (fun d => d.parameters.length) = some 3 := by decide +kernel
end
section
/-! THE METHODS: their contracts -/
theorem k_6_write : dk_ckT t_6_write prog_8_method_73_code 4 t_6_write.2.2.1 b_6_write = true := by decide +kernel
set_option maxRecDepth 20000 in
theorem hc_6_write : ∀ q ∈ t_6_write.2.1, ∃ n Sm, dk_nth g_6_write q.2.2 = some (n, Sm) ∧ dk_Call y_6_write.cls ({ frames := 2, cells := 0, slots := 0, locals := 42 }) prog_8_method_73_code 4 q.2.1 q.1 n Sm :=
  dk_ac ⟨1, s_6_isSheet, rfl, fun hx hb hml hown hts hF => dk_callS e_6_isSheet (dk_ac (dk_tb 1233 rfl rfl) wv_6_isSheet) ⟨rfl, rfl⟩ hd_6_isSheet ⟨by decide, by decide⟩ ⟨Nat.zero_le _, Nat.zero_le _⟩ hx hb hml hown hts hF⟩
    (dk_ac ⟨2, s_6_finds, rfl, fun hx hb hml hown hts hF => dk_callV e_6_finds dk_rcV rfl (dk_ac (dk_tb 950 rfl rfl) wv_6_finds) ⟨rfl, rfl⟩ hd_6_finds ⟨by decide, by decide⟩ ⟨Nat.zero_le _, Nat.zero_le _⟩ hx hb hml hown hts hF⟩
    (dk_ac ⟨3, s_6_in, rfl, fun hx hb hml hown hts hF => dk_callS e_6_in (dk_ac (dk_tb 947 rfl rfl) wv_6_in) ⟨rfl, rfl⟩ hd_6_in ⟨by decide, by decide⟩ ⟨Nat.zero_le _, Nat.zero_le _⟩ hx hb hml hown hts hF⟩
    (dk_an)))
theorem e_6_write : dk_Met y_6_write prog_8_method_73_code 4 (some .int) ({ frames := 2, cells := 0, slots := 0, locals := 42 }) s_6_write := dk_metV 6 (dk_met (y := y_6_write) (cc := prog_8_method_73_code) (maxL := 4) (ret := (some .int)) (rm := ({ frames := 2, cells := 0, slots := 0, locals := 42 })) (T := t_6_write) (tb := b_6_write) (G := g_6_write) (by decide +kernel) ⟨fun _ => rfl, fun z => absurd z (by decide), fun z => absurd z (by decide), fun z => absurd z (by decide)⟩ (fun _ _ _ _ _ hts hd => tok_6 hts hd) h_6_write k_6_write rfl (fun i kd j h => hc_6_write (i, kd, j) (dk_lk_mem h)))
set_option maxRecDepth 20000 in
theorem wv_6_write : ∀ w ∈ [Cond.instanceMethod y_6_write, Cond.selects y_6_write.cls y_6_write y_6_write, Cond.initialized y_6_write.cls, Cond.code y_6_write prog_8_method_73_code 4 (some .int)], w ∈ dk_TB := dk_ac (dk_tb 1237 rfl rfl) (dk_ac (dk_tb 1238 rfl rfl) (dk_ac (dk_tb 64 rfl rfl) (dk_ac (dk_tb 1239 rfl rfl) (dk_an))))
theorem hd_6_write : y_6_write.cls ≠ "java/lang/invoke/MethodHandle" ∧ y_6_write.cls ≠ "java/lang/invoke/VarHandle" ∧ (parseMethodDescriptor y_6_write.desc).map (fun d => d.parameters.length) = some 3 := by decide +kernel
theorem k_6_copy : dk_ckT t_6_copy prog_8_method_74_code 7 t_6_copy.2.2.1 b_6_copy = true := by decide +kernel
set_option maxRecDepth 20000 in
theorem hc_6_copy : ∀ q ∈ t_6_copy.2.1, ∃ n Sm, dk_nth g_6_copy q.2.2 = some (n, Sm) ∧ dk_Call y_6_copy.cls ({ frames := 2, cells := 0, slots := 0, locals := 42 }) prog_8_method_74_code 7 q.2.1 q.1 n Sm :=
  dk_ac ⟨1, s_6_isSheet, rfl, fun hx hb hml hown hts hF => dk_callS e_6_isSheet (dk_ac (dk_tb 1233 rfl rfl) wv_6_isSheet) ⟨rfl, rfl⟩ hd_6_isSheet ⟨by decide, by decide⟩ ⟨Nat.zero_le _, Nat.zero_le _⟩ hx hb hml hown hts hF⟩
    (dk_ac ⟨2, s_6_finds, rfl, fun hx hb hml hown hts hF => dk_callV e_6_finds dk_rcV rfl (dk_ac (dk_tb 950 rfl rfl) wv_6_finds) ⟨rfl, rfl⟩ hd_6_finds ⟨by decide, by decide⟩ ⟨Nat.zero_le _, Nat.zero_le _⟩ hx hb hml hown hts hF⟩
    (dk_an))
theorem e_6_copy : dk_Met y_6_copy prog_8_method_74_code 7 (some .int) ({ frames := 2, cells := 0, slots := 0, locals := 42 }) s_6_copy := dk_metV 6 (dk_met (y := y_6_copy) (cc := prog_8_method_74_code) (maxL := 7) (ret := (some .int)) (rm := ({ frames := 2, cells := 0, slots := 0, locals := 42 })) (T := t_6_copy) (tb := b_6_copy) (G := g_6_copy) (by decide +kernel) ⟨fun _ => rfl, fun z => absurd z (by decide), fun z => absurd z (by decide), fun z => absurd z (by decide)⟩ (fun _ _ _ _ _ hts hd => tok_6 hts hd) h_6_copy k_6_copy rfl (fun i kd j h => hc_6_copy (i, kd, j) (dk_lk_mem h)))
set_option maxRecDepth 20000 in
theorem wv_6_copy : ∀ w ∈ [Cond.instanceMethod y_6_copy, Cond.selects y_6_copy.cls y_6_copy y_6_copy, Cond.initialized y_6_copy.cls, Cond.code y_6_copy prog_8_method_74_code 7 (some .int)], w ∈ dk_TB := dk_ac (dk_tb 1241 rfl rfl) (dk_ac (dk_tb 1242 rfl rfl) (dk_ac (dk_tb 64 rfl rfl) (dk_ac (dk_tb 1243 rfl rfl) (dk_an))))
theorem hd_6_copy : y_6_copy.cls ≠ "java/lang/invoke/MethodHandle" ∧ y_6_copy.cls ≠ "java/lang/invoke/VarHandle" ∧ (parseMethodDescriptor y_6_copy.desc).map (fun d => d.parameters.length) = some 5 := by decide +kernel
theorem k_6_load : dk_ckT t_6_load prog_8_method_75_code 4 t_6_load.2.2.1 b_6_load = true := by decide +kernel
set_option maxRecDepth 20000 in
theorem hc_6_load : ∀ q ∈ t_6_load.2.1, ∃ n Sm, dk_nth g_6_load q.2.2 = some (n, Sm) ∧ dk_Call y_6_load.cls ({ frames := 2, cells := 0, slots := 0, locals := 46 }) prog_8_method_75_code 4 q.2.1 q.1 n Sm :=
  dk_ac ⟨1, s_6_isSheet, rfl, fun hx hb hml hown hts hF => dk_callS e_6_isSheet (dk_ac (dk_tb 1233 rfl rfl) wv_6_isSheet) ⟨rfl, rfl⟩ hd_6_isSheet ⟨by decide, by decide⟩ ⟨Nat.zero_le _, Nat.zero_le _⟩ hx hb hml hown hts hF⟩
    (dk_ac ⟨2, s_6_finds, rfl, fun hx hb hml hown hts hF => dk_callV e_6_finds dk_rcV rfl (dk_ac (dk_tb 950 rfl rfl) wv_6_finds) ⟨rfl, rfl⟩ hd_6_finds ⟨by decide, by decide⟩ ⟨Nat.zero_le _, Nat.zero_le _⟩ hx hb hml hown hts hF⟩
    (dk_ac ⟨2, s_6_wrapped, rfl, fun hx hb hml hown hts hF => dk_callV e_6_wrapped dk_rcV rfl (dk_ac (dk_tb 955 rfl rfl) wv_6_wrapped) ⟨rfl, rfl⟩ hd_6_wrapped ⟨by decide, by decide⟩ ⟨Nat.zero_le _, Nat.zero_le _⟩ hx hb hml hown hts hF⟩
    (dk_an)))
theorem e_6_load : dk_Met y_6_load prog_8_method_75_code 4 (some .int) ({ frames := 2, cells := 0, slots := 0, locals := 46 }) s_6_load := dk_metV 6 (dk_met (y := y_6_load) (cc := prog_8_method_75_code) (maxL := 4) (ret := (some .int)) (rm := ({ frames := 2, cells := 0, slots := 0, locals := 46 })) (T := t_6_load) (tb := b_6_load) (G := g_6_load) (by decide +kernel) ⟨fun _ => rfl, fun z => absurd z (by decide), fun z => absurd z (by decide), fun z => absurd z (by decide)⟩ (fun _ _ _ _ _ hts hd => tok_6 hts hd) h_6_load k_6_load rfl (fun i kd j h => hc_6_load (i, kd, j) (dk_lk_mem h)))
set_option maxRecDepth 20000 in
theorem wv_6_load : ∀ w ∈ [Cond.instanceMethod y_6_load, Cond.selects y_6_load.cls y_6_load y_6_load, Cond.initialized y_6_load.cls, Cond.code y_6_load prog_8_method_75_code 4 (some .int)], w ∈ dk_TB := dk_ac (dk_tb 1245 rfl rfl) (dk_ac (dk_tb 1246 rfl rfl) (dk_ac (dk_tb 64 rfl rfl) (dk_ac (dk_tb 1247 rfl rfl) (dk_an))))
theorem hd_6_load : y_6_load.cls ≠ "java/lang/invoke/MethodHandle" ∧ y_6_load.cls ≠ "java/lang/invoke/VarHandle" ∧ (parseMethodDescriptor y_6_load.desc).map (fun d => d.parameters.length) = some 1 := by decide +kernel
theorem k_6_judge : dk_ckT t_6_judge prog_8_method_76_code 3 t_6_judge.2.2.1 b_6_judge = true := by decide +kernel
set_option maxRecDepth 20000 in
theorem hc_6_judge : ∀ q ∈ t_6_judge.2.1, ∃ n Sm, dk_nth g_6_judge q.2.2 = some (n, Sm) ∧ dk_Call y_6_judge.cls ({ frames := 6, cells := 0, slots := 0, locals := 135 }) prog_8_method_76_code 3 q.2.1 q.1 n Sm :=
  dk_ac ⟨1, s_6_isSheet, rfl, fun hx hb hml hown hts hF => dk_callS e_6_isSheet (dk_ac (dk_tb 1233 rfl rfl) wv_6_isSheet) ⟨rfl, rfl⟩ hd_6_isSheet ⟨by decide, by decide⟩ ⟨Nat.zero_le _, Nat.zero_le _⟩ hx hb hml hown hts hF⟩
    (dk_ac ⟨2, s_6_finds, rfl, fun hx hb hml hown hts hF => dk_callV e_6_finds dk_rcV rfl (dk_ac (dk_tb 950 rfl rfl) wv_6_finds) ⟨rfl, rfl⟩ hd_6_finds ⟨by decide, by decide⟩ ⟨Nat.zero_le _, Nat.zero_le _⟩ hx hb hml hown hts hF⟩
    (dk_ac ⟨1, s_6_beginMarch, rfl, fun hx hb hml hown hts hF => dk_callV e_6_beginMarch dk_rcV rfl (dk_ac (dk_tb 1046 rfl rfl) wv_6_beginMarch) ⟨rfl, rfl⟩ hd_6_beginMarch ⟨by decide, by decide⟩ ⟨Nat.zero_le _, Nat.zero_le _⟩ hx hb hml hown hts hF⟩
    (dk_ac ⟨1, s_6_goes, rfl, fun hx hb hml hown hts hF => dk_callV e_6_goes dk_rcV rfl (dk_ac (dk_tb 1113 rfl rfl) wv_6_goes) ⟨rfl, rfl⟩ hd_6_goes ⟨by decide, by decide⟩ ⟨Nat.zero_le _, Nat.zero_le _⟩ hx hb hml hown hts hF⟩
    (dk_ac ⟨1, s_6_worstNow, rfl, fun hx hb hml hown hts hF => dk_callV e_6_worstNow dk_rcV rfl (dk_ac (dk_tb 1117 rfl rfl) wv_6_worstNow) ⟨rfl, rfl⟩ hd_6_worstNow ⟨by decide, by decide⟩ ⟨Nat.zero_le _, Nat.zero_le _⟩ hx hb hml hown hts hF⟩
    (dk_an)))))
theorem e_6_judge : dk_Met y_6_judge prog_8_method_76_code 3 (some .int) ({ frames := 6, cells := 0, slots := 0, locals := 135 }) s_6_judge := dk_metV 6 (dk_met (y := y_6_judge) (cc := prog_8_method_76_code) (maxL := 3) (ret := (some .int)) (rm := ({ frames := 6, cells := 0, slots := 0, locals := 135 })) (T := t_6_judge) (tb := b_6_judge) (G := g_6_judge) (by decide +kernel) ⟨fun _ => rfl, fun z => absurd z (by decide), fun z => absurd z (by decide), fun z => absurd z (by decide)⟩ (fun _ _ _ _ _ hts hd => tok_6 hts hd) h_6_judge k_6_judge rfl (fun i kd j h => hc_6_judge (i, kd, j) (dk_lk_mem h)))
set_option maxRecDepth 20000 in
theorem wv_6_judge : ∀ w ∈ [Cond.instanceMethod y_6_judge, Cond.selects y_6_judge.cls y_6_judge y_6_judge, Cond.initialized y_6_judge.cls, Cond.code y_6_judge prog_8_method_76_code 3 (some .int)], w ∈ dk_TB := dk_ac (dk_tb 1249 rfl rfl) (dk_ac (dk_tb 1250 rfl rfl) (dk_ac (dk_tb 64 rfl rfl) (dk_ac (dk_tb 1251 rfl rfl) (dk_an))))
theorem hd_6_judge : y_6_judge.cls ≠ "java/lang/invoke/MethodHandle" ∧ y_6_judge.cls ≠ "java/lang/invoke/VarHandle" ∧ (parseMethodDescriptor y_6_judge.desc).map (fun d => d.parameters.length) = some 1 := by decide +kernel
theorem k_6_move : dk_ckT t_6_move prog_8_method_77_code 5 t_6_move.2.2.1 b_6_move = true := by decide +kernel
set_option maxRecDepth 20000 in
theorem hc_6_move : ∀ q ∈ t_6_move.2.1, ∃ n Sm, dk_nth g_6_move q.2.2 = some (n, Sm) ∧ dk_Call y_6_move.cls ({ frames := 0, cells := 0, slots := 0, locals := 0 }) prog_8_method_77_code 5 q.2.1 q.1 n Sm :=
  dk_an
theorem e_6_move : dk_Met y_6_move prog_8_method_77_code 5 none ({ frames := 0, cells := 0, slots := 0, locals := 0 }) s_6_move := dk_metV 6 (dk_met (y := y_6_move) (cc := prog_8_method_77_code) (maxL := 5) (ret := none) (rm := ({ frames := 0, cells := 0, slots := 0, locals := 0 })) (T := t_6_move) (tb := b_6_move) (G := g_6_move) (by decide +kernel) ⟨fun z => absurd z (by decide), fun z => absurd z (by decide), fun _ => rfl, fun z => absurd z (by decide)⟩ (fun _ _ _ _ _ hts hd => tok_6 hts hd) h_6_move k_6_move rfl (fun i kd j h => hc_6_move (i, kd, j) (dk_lk_mem h)))
set_option maxRecDepth 20000 in
theorem wv_6_move : ∀ w ∈ [Cond.instanceMethod y_6_move, Cond.selects y_6_move.cls y_6_move y_6_move, Cond.initialized y_6_move.cls, Cond.code y_6_move prog_8_method_77_code 5 none], w ∈ dk_TB := dk_ac (dk_tb 1262 rfl rfl) (dk_ac (dk_tb 55 rfl rfl) (dk_ac (dk_tb 64 rfl rfl) (dk_ac (dk_tb 1263 rfl rfl) (dk_an))))
theorem hd_6_move : y_6_move.cls ≠ "java/lang/invoke/MethodHandle" ∧ y_6_move.cls ≠ "java/lang/invoke/VarHandle" ∧ (parseMethodDescriptor y_6_move.desc).map (fun d => d.parameters.length) = some 3 := by decide +kernel
theorem k_6_moveAll : dk_ckT t_6_moveAll prog_8_method_78_code 2 t_6_moveAll.2.2.1 b_6_moveAll = true := by decide +kernel
set_option maxRecDepth 20000 in
theorem hc_6_moveAll : ∀ q ∈ t_6_moveAll.2.1, ∃ n Sm, dk_nth g_6_moveAll q.2.2 = some (n, Sm) ∧ dk_Call y_6_moveAll.cls ({ frames := 1, cells := 0, slots := 0, locals := 24 }) prog_8_method_78_code 2 q.2.1 q.1 n Sm :=
  dk_ac ⟨4, s_6_move, rfl, fun hx hb hml hown hts hF => dk_callV e_6_move dk_rcV rfl (dk_ac (dk_tb 1260 rfl rfl) wv_6_move) ⟨rfl, rfl⟩ hd_6_move ⟨by decide, by decide⟩ ⟨Nat.zero_le _, Nat.zero_le _⟩ hx hb hml hown hts hF⟩
    (dk_an)
theorem e_6_moveAll : dk_Met y_6_moveAll prog_8_method_78_code 2 none ({ frames := 1, cells := 0, slots := 0, locals := 24 }) s_6_moveAll := dk_metV 6 (dk_met (y := y_6_moveAll) (cc := prog_8_method_78_code) (maxL := 2) (ret := none) (rm := ({ frames := 1, cells := 0, slots := 0, locals := 24 })) (T := t_6_moveAll) (tb := b_6_moveAll) (G := g_6_moveAll) (by decide +kernel) ⟨fun z => absurd z (by decide), fun z => absurd z (by decide), fun _ => rfl, fun z => absurd z (by decide)⟩ (fun _ _ _ _ _ hts hd => tok_6 hts hd) h_6_moveAll k_6_moveAll rfl (fun i kd j h => hc_6_moveAll (i, kd, j) (dk_lk_mem h)))
set_option maxRecDepth 20000 in
theorem wv_6_moveAll : ∀ w ∈ [Cond.instanceMethod y_6_moveAll, Cond.selects y_6_moveAll.cls y_6_moveAll y_6_moveAll, Cond.initialized y_6_moveAll.cls, Cond.code y_6_moveAll prog_8_method_78_code 2 none], w ∈ dk_TB := dk_ac (dk_tb 1258 rfl rfl) (dk_ac (dk_tb 54 rfl rfl) (dk_ac (dk_tb 64 rfl rfl) (dk_ac (dk_tb 1259 rfl rfl) (dk_an))))
theorem hd_6_moveAll : y_6_moveAll.cls ≠ "java/lang/invoke/MethodHandle" ∧ y_6_moveAll.cls ≠ "java/lang/invoke/VarHandle" ∧ (parseMethodDescriptor y_6_moveAll.desc).map (fun d => d.parameters.length) = some 1 := by decide +kernel
theorem k_6_image : dk_ckT t_6_image prog_8_method_79_code 1 t_6_image.2.2.1 b_6_image = true := by decide +kernel
set_option maxRecDepth 20000 in
theorem hc_6_image : ∀ q ∈ t_6_image.2.1, ∃ n Sm, dk_nth g_6_image q.2.2 = some (n, Sm) ∧ dk_Call y_6_image.cls ({ frames := 2, cells := 0, slots := 0, locals := 45 }) prog_8_method_79_code 1 q.2.1 q.1 n Sm :=
  dk_ac ⟨2, s_6_moveAll, rfl, fun hx hb hml hown hts hF => dk_callV e_6_moveAll dk_rcV rfl (dk_ac (dk_tb 1256 rfl rfl) wv_6_moveAll) ⟨rfl, rfl⟩ hd_6_moveAll ⟨by decide, by decide⟩ ⟨Nat.zero_le _, Nat.zero_le _⟩ hx hb hml hown hts hF⟩
    (dk_an)
theorem e_6_image : dk_Met y_6_image prog_8_method_79_code 1 (some .int) ({ frames := 2, cells := 0, slots := 0, locals := 45 }) s_6_image := dk_metV 6 (dk_met (y := y_6_image) (cc := prog_8_method_79_code) (maxL := 1) (ret := (some .int)) (rm := ({ frames := 2, cells := 0, slots := 0, locals := 45 })) (T := t_6_image) (tb := b_6_image) (G := g_6_image) (by decide +kernel) ⟨fun _ => rfl, fun z => absurd z (by decide), fun z => absurd z (by decide), fun z => absurd z (by decide)⟩ (fun _ _ _ _ _ hts hd => tok_6 hts hd) h_6_image k_6_image rfl (fun i kd j h => hc_6_image (i, kd, j) (dk_lk_mem h)))
set_option maxRecDepth 20000 in
theorem wv_6_image : ∀ w ∈ [Cond.instanceMethod y_6_image, Cond.selects y_6_image.cls y_6_image y_6_image, Cond.initialized y_6_image.cls, Cond.code y_6_image prog_8_method_79_code 1 (some .int)], w ∈ dk_TB := dk_ac (dk_tb 1253 rfl rfl) (dk_ac (dk_tb 1254 rfl rfl) (dk_ac (dk_tb 64 rfl rfl) (dk_ac (dk_tb 1255 rfl rfl) (dk_an))))
theorem hd_6_image : y_6_image.cls ≠ "java/lang/invoke/MethodHandle" ∧ y_6_image.cls ≠ "java/lang/invoke/VarHandle" ∧ (parseMethodDescriptor y_6_image.desc).map (fun d => d.parameters.length) = some 0 := by decide +kernel
theorem k_6_undo : dk_ckT t_6_undo prog_8_method_80_code 1 t_6_undo.2.2.1 b_6_undo = true := by decide +kernel
set_option maxRecDepth 20000 in
theorem hc_6_undo : ∀ q ∈ t_6_undo.2.1, ∃ n Sm, dk_nth g_6_undo q.2.2 = some (n, Sm) ∧ dk_Call y_6_undo.cls ({ frames := 2, cells := 0, slots := 0, locals := 45 }) prog_8_method_80_code 1 q.2.1 q.1 n Sm :=
  dk_ac ⟨2, s_6_finds, rfl, fun hx hb hml hown hts hF => dk_callV e_6_finds dk_rcV rfl (dk_ac (dk_tb 950 rfl rfl) wv_6_finds) ⟨rfl, rfl⟩ hd_6_finds ⟨by decide, by decide⟩ ⟨Nat.zero_le _, Nat.zero_le _⟩ hx hb hml hown hts hF⟩
    (dk_ac ⟨2, s_6_moveAll, rfl, fun hx hb hml hown hts hF => dk_callV e_6_moveAll dk_rcV rfl (dk_ac (dk_tb 1256 rfl rfl) wv_6_moveAll) ⟨rfl, rfl⟩ hd_6_moveAll ⟨by decide, by decide⟩ ⟨Nat.zero_le _, Nat.zero_le _⟩ hx hb hml hown hts hF⟩
    (dk_an))
theorem e_6_undo : dk_Met y_6_undo prog_8_method_80_code 1 (some .int) ({ frames := 2, cells := 0, slots := 0, locals := 45 }) s_6_undo := dk_metV 6 (dk_met (y := y_6_undo) (cc := prog_8_method_80_code) (maxL := 1) (ret := (some .int)) (rm := ({ frames := 2, cells := 0, slots := 0, locals := 45 })) (T := t_6_undo) (tb := b_6_undo) (G := g_6_undo) (by decide +kernel) ⟨fun _ => rfl, fun z => absurd z (by decide), fun z => absurd z (by decide), fun z => absurd z (by decide)⟩ (fun _ _ _ _ _ hts hd => tok_6 hts hd) h_6_undo k_6_undo rfl (fun i kd j h => hc_6_undo (i, kd, j) (dk_lk_mem h)))
set_option maxRecDepth 20000 in
theorem wv_6_undo : ∀ w ∈ [Cond.instanceMethod y_6_undo, Cond.selects y_6_undo.cls y_6_undo y_6_undo, Cond.initialized y_6_undo.cls, Cond.code y_6_undo prog_8_method_80_code 1 (some .int)], w ∈ dk_TB := dk_ac (dk_tb 1265 rfl rfl) (dk_ac (dk_tb 1266 rfl rfl) (dk_ac (dk_tb 64 rfl rfl) (dk_ac (dk_tb 1267 rfl rfl) (dk_an))))
theorem hd_6_undo : y_6_undo.cls ≠ "java/lang/invoke/MethodHandle" ∧ y_6_undo.cls ≠ "java/lang/invoke/VarHandle" ∧ (parseMethodDescriptor y_6_undo.desc).map (fun d => d.parameters.length) = some 0 := by decide +kernel
theorem k_6_tear : dk_ckT t_6_tear prog_8_method_81_code 2 t_6_tear.2.2.1 b_6_tear = true := by decide +kernel
set_option maxRecDepth 20000 in
theorem hc_6_tear : ∀ q ∈ t_6_tear.2.1, ∃ n Sm, dk_nth g_6_tear q.2.2 = some (n, Sm) ∧ dk_Call y_6_tear.cls ({ frames := 0, cells := 0, slots := 0, locals := 0 }) prog_8_method_81_code 2 q.2.1 q.1 n Sm :=
  dk_an
theorem e_6_tear : dk_Met y_6_tear prog_8_method_81_code 2 (some .int) ({ frames := 0, cells := 0, slots := 0, locals := 0 }) s_6_tear := dk_metV 6 (dk_met (y := y_6_tear) (cc := prog_8_method_81_code) (maxL := 2) (ret := (some .int)) (rm := ({ frames := 0, cells := 0, slots := 0, locals := 0 })) (T := t_6_tear) (tb := b_6_tear) (G := g_6_tear) (by decide +kernel) ⟨fun _ => rfl, fun z => absurd z (by decide), fun z => absurd z (by decide), fun z => absurd z (by decide)⟩ (fun _ _ _ _ _ hts hd => tok_6 hts hd) h_6_tear k_6_tear rfl (fun i kd j h => hc_6_tear (i, kd, j) (dk_lk_mem h)))
set_option maxRecDepth 20000 in
theorem wv_6_tear : ∀ w ∈ [Cond.instanceMethod y_6_tear, Cond.selects y_6_tear.cls y_6_tear y_6_tear, Cond.initialized y_6_tear.cls, Cond.code y_6_tear prog_8_method_81_code 2 (some .int)], w ∈ dk_TB := dk_ac (dk_tb 1269 rfl rfl) (dk_ac (dk_tb 1270 rfl rfl) (dk_ac (dk_tb 64 rfl rfl) (dk_ac (dk_tb 1271 rfl rfl) (dk_an))))
theorem hd_6_tear : y_6_tear.cls ≠ "java/lang/invoke/MethodHandle" ∧ y_6_tear.cls ≠ "java/lang/invoke/VarHandle" ∧ (parseMethodDescriptor y_6_tear.desc).map (fun d => d.parameters.length) = some 0 := by decide +kernel
theorem k_6_count : dk_ckT t_6_count prog_8_method_82_code 4 t_6_count.2.2.1 b_6_count = true := by decide +kernel
set_option maxRecDepth 20000 in
theorem hc_6_count : ∀ q ∈ t_6_count.2.1, ∃ n Sm, dk_nth g_6_count q.2.2 = some (n, Sm) ∧ dk_Call y_6_count.cls ({ frames := 1, cells := 0, slots := 0, locals := 21 }) prog_8_method_82_code 4 q.2.1 q.1 n Sm :=
  dk_ac ⟨2, s_6_finds, rfl, fun hx hb hml hown hts hF => dk_callV e_6_finds dk_rcV rfl (dk_ac (dk_tb 950 rfl rfl) wv_6_finds) ⟨rfl, rfl⟩ hd_6_finds ⟨by decide, by decide⟩ ⟨Nat.zero_le _, Nat.zero_le _⟩ hx hb hml hown hts hF⟩
    (dk_an)
theorem e_6_count : dk_Met y_6_count prog_8_method_82_code 4 (some .int) ({ frames := 1, cells := 0, slots := 0, locals := 21 }) s_6_count := dk_metV 6 (dk_met (y := y_6_count) (cc := prog_8_method_82_code) (maxL := 4) (ret := (some .int)) (rm := ({ frames := 1, cells := 0, slots := 0, locals := 21 })) (T := t_6_count) (tb := b_6_count) (G := g_6_count) (by decide +kernel) ⟨fun _ => rfl, fun z => absurd z (by decide), fun z => absurd z (by decide), fun z => absurd z (by decide)⟩ (fun _ _ _ _ _ hts hd => tok_6 hts hd) h_6_count k_6_count rfl (fun i kd j h => hc_6_count (i, kd, j) (dk_lk_mem h)))
set_option maxRecDepth 20000 in
theorem wv_6_count : ∀ w ∈ [Cond.instanceMethod y_6_count, Cond.selects y_6_count.cls y_6_count y_6_count, Cond.initialized y_6_count.cls, Cond.code y_6_count prog_8_method_82_code 4 (some .int)], w ∈ dk_TB := dk_ac (dk_tb 1273 rfl rfl) (dk_ac (dk_tb 1274 rfl rfl) (dk_ac (dk_tb 64 rfl rfl) (dk_ac (dk_tb 1275 rfl rfl) (dk_an))))
theorem hd_6_count : y_6_count.cls ≠ "java/lang/invoke/MethodHandle" ∧ y_6_count.cls ≠ "java/lang/invoke/VarHandle" ∧ (parseMethodDescriptor y_6_count.desc).map (fun d => d.parameters.length) = some 1 := by decide +kernel
theorem k_6_status : dk_ckT t_6_status prog_8_method_83_code 4 t_6_status.2.2.1 b_6_status = true := by decide +kernel
set_option maxRecDepth 20000 in
theorem hc_6_status : ∀ q ∈ t_6_status.2.1, ∃ n Sm, dk_nth g_6_status q.2.2 = some (n, Sm) ∧ dk_Call y_6_status.cls ({ frames := 1, cells := 0, slots := 0, locals := 22 }) prog_8_method_83_code 4 q.2.1 q.1 n Sm :=
  dk_ac ⟨3, s_6_in, rfl, fun hx hb hml hown hts hF => dk_callS e_6_in (dk_ac (dk_tb 947 rfl rfl) wv_6_in) ⟨rfl, rfl⟩ hd_6_in ⟨by decide, by decide⟩ ⟨Nat.zero_le _, Nat.zero_le _⟩ hx hb hml hown hts hF⟩
    (dk_ac ⟨2, s_6_finds, rfl, fun hx hb hml hown hts hF => dk_callV e_6_finds dk_rcV rfl (dk_ac (dk_tb 950 rfl rfl) wv_6_finds) ⟨rfl, rfl⟩ hd_6_finds ⟨by decide, by decide⟩ ⟨Nat.zero_le _, Nat.zero_le _⟩ hx hb hml hown hts hF⟩
    (dk_an))
theorem e_6_status : dk_Met y_6_status prog_8_method_83_code 4 (some .int) ({ frames := 1, cells := 0, slots := 0, locals := 22 }) s_6_status := dk_metV 6 (dk_met (y := y_6_status) (cc := prog_8_method_83_code) (maxL := 4) (ret := (some .int)) (rm := ({ frames := 1, cells := 0, slots := 0, locals := 22 })) (T := t_6_status) (tb := b_6_status) (G := g_6_status) (by decide +kernel) ⟨fun _ => rfl, fun z => absurd z (by decide), fun z => absurd z (by decide), fun z => absurd z (by decide)⟩ (fun _ _ _ _ _ hts hd => tok_6 hts hd) h_6_status k_6_status rfl (fun i kd j h => hc_6_status (i, kd, j) (dk_lk_mem h)))
set_option maxRecDepth 20000 in
theorem wv_6_status : ∀ w ∈ [Cond.instanceMethod y_6_status, Cond.selects y_6_status.cls y_6_status y_6_status, Cond.initialized y_6_status.cls, Cond.code y_6_status prog_8_method_83_code 4 (some .int)], w ∈ dk_TB := dk_ac (dk_tb 1277 rfl rfl) (dk_ac (dk_tb 1278 rfl rfl) (dk_ac (dk_tb 64 rfl rfl) (dk_ac (dk_tb 1279 rfl rfl) (dk_an))))
theorem hd_6_status : y_6_status.cls ≠ "java/lang/invoke/MethodHandle" ∧ y_6_status.cls ≠ "java/lang/invoke/VarHandle" ∧ (parseMethodDescriptor y_6_status.desc).map (fun d => d.parameters.length) = some 1 := by decide +kernel
end
section
/-! WALKING A BLOCK BY REWRITING -/
section XR
variable {G : List (Nat × dk_S)} {R : dk_Q} {J : Nat → dk_L → List dk_V → dk_H → Prop} {is : List dk_N} {L : dk_L} {S : List dk_V} {h : dk_H}
theorem xr_iconst {c : Int} : dk_r G R J (.inl (.iconst c) :: is) (L) (S) h = dk_r G R J is (L) (.inl c :: S) h := propext ⟨fun q => And.right (a := True) q, fun q => (⟨trivial, q⟩ : True ∧ _)⟩
theorem xr_lconst {c : Int} : dk_r G R J (.inl (.goto_w c) :: is) (L) (S) h = dk_r G R J is (L) (.inr (.inl c) :: S) h := propext ⟨fun q => And.right (a := True) q, fun q => (⟨trivial, q⟩ : True ∧ _)⟩
theorem xr_ref {k q0 : Nat} : dk_r G R J (.inr (6, k, q0) :: is) (L) (S) h = dk_r G R J is (L) (.inr (.inr k) :: S) h := propext ⟨fun q => And.right (a := True) q, fun q => (⟨trivial, q⟩ : True ∧ _)⟩
theorem xr_iadd {x y : Int} : dk_r G R J (.inl .iadd :: is) (L) (.inl y :: .inl x :: S) h = dk_r G R J is (L) (.inl (x + y) :: S) h := propext ⟨fun q => And.right (a := True) q, fun q => (⟨trivial, q⟩ : True ∧ _)⟩
theorem xr_isub {x y : Int} : dk_r G R J (.inl .isub :: is) (L) (.inl y :: .inl x :: S) h = dk_r G R J is (L) (.inl (x - y) :: S) h := propext ⟨fun q => And.right (a := True) q, fun q => (⟨trivial, q⟩ : True ∧ _)⟩
theorem xr_imul {x y : Int} : dk_r G R J (.inl .imul :: is) (L) (.inl y :: .inl x :: S) h = dk_r G R J is (L) (.inl (x * y) :: S) h := propext ⟨fun q => And.right (a := True) q, fun q => (⟨trivial, q⟩ : True ∧ _)⟩
theorem xr_iand {x y : Int} : dk_r G R J (.inl .iand :: is) (L) (.inl y :: .inl x :: S) h = dk_r G R J is (L) (.inl (dk_and x y) :: S) h := propext ⟨fun q => And.right (a := True) q, fun q => (⟨trivial, q⟩ : True ∧ _)⟩
theorem xr_ior {x y : Int} : dk_r G R J (.inl .ior :: is) (L) (.inl y :: .inl x :: S) h = dk_r G R J is (L) (.inl (dk_or x y) :: S) h := propext ⟨fun q => And.right (a := True) q, fun q => (⟨trivial, q⟩ : True ∧ _)⟩
theorem xr_ixor {x y : Int} : dk_r G R J (.inl .ixor :: is) (L) (.inl y :: .inl x :: S) h = dk_r G R J is (L) (.inl (dk_xor x y) :: S) h := propext ⟨fun q => And.right (a := True) q, fun q => (⟨trivial, q⟩ : True ∧ _)⟩
theorem xr_idiv {x y : Int} (h1 : -2147483648 ≤ x) (h2 : x ≤ 2147483647) (h3 : -2147483648 ≤ y) (h4 : y ≤ 2147483647) (h5 : ¬ y = 0) : dk_r G R J (.inl .idiv :: is) (L) (.inl y :: .inl x :: S) h = dk_r G R J is (L) (.inl (x.tdiv y) :: S) h := propext ⟨fun q => And.right (a := (dk_in x ∧ dk_in y ∧ ¬ y = 0)) q, fun q => (⟨⟨⟨h1, h2⟩, ⟨h3, h4⟩, h5⟩, q⟩ : (dk_in x ∧ dk_in y ∧ ¬ y = 0) ∧ _)⟩
theorem xr_irem {x y : Int} (h1 : -2147483648 ≤ x) (h2 : x ≤ 2147483647) (h3 : -2147483648 ≤ y) (h4 : y ≤ 2147483647) (h5 : ¬ y = 0) : dk_r G R J (.inl .irem :: is) (L) (.inl y :: .inl x :: S) h = dk_r G R J is (L) (.inl (x.tmod y) :: S) h := propext ⟨fun q => And.right (a := (dk_in x ∧ dk_in y ∧ ¬ y = 0)) q, fun q => (⟨⟨⟨h1, h2⟩, ⟨h3, h4⟩, h5⟩, q⟩ : (dk_in x ∧ dk_in y ∧ ¬ y = 0) ∧ _)⟩
theorem xr_ineg {x : Int} : dk_r G R J (.inl .ineg :: is) (L) (.inl x :: S) h = dk_r G R J is (L) (.inl (-x) :: S) h := propext ⟨fun q => And.right (a := True) q, fun q => (⟨trivial, q⟩ : True ∧ _)⟩
theorem xr_ishl {x y : Int} (h1 : 0 ≤ y) (h2 : y < 32) : dk_r G R J (.inl .ishl :: is) (L) (.inl y :: .inl x :: S) h = dk_r G R J is (L) (.inl (x * 2 ^ y.toNat) :: S) h := propext ⟨fun q => And.right (a := (0 ≤ y ∧ y < 32)) q, fun q => (⟨⟨h1, h2⟩, q⟩ : (0 ≤ y ∧ y < 32) ∧ _)⟩
theorem xr_ishr {x y : Int} (h1 : -2147483648 ≤ x) (h2 : x ≤ 2147483647) (h3 : 0 ≤ y) (h4 : y < 32) : dk_r G R J (.inl .ishr :: is) (L) (.inl y :: .inl x :: S) h = dk_r G R J is (L) (.inl (x / 2 ^ y.toNat) :: S) h := propext ⟨fun q => And.right (a := (dk_in x ∧ 0 ≤ y ∧ y < 32)) q, fun q => (⟨⟨⟨h1, h2⟩, h3, h4⟩, q⟩ : (dk_in x ∧ 0 ≤ y ∧ y < 32) ∧ _)⟩
theorem xr_iushr {x y : Int} (h1 : 0 ≤ y) (h2 : y < 32) : dk_r G R J (.inl .iushr :: is) (L) (.inl y :: .inl x :: S) h = dk_r G R J is (L) (.inl (x % 4294967296 / 2 ^ y.toNat) :: S) h := propext ⟨fun q => And.right (a := (0 ≤ y ∧ y < 32)) q, fun q => (⟨⟨h1, h2⟩, q⟩ : (0 ≤ y ∧ y < 32) ∧ _)⟩
theorem xr_i2l {x : Int} (h1 : -2147483648 ≤ x) (h2 : x ≤ 2147483647) : dk_r G R J (.inl .i2l :: is) (L) (.inl x :: S) h = dk_r G R J is (L) (.inr (.inl x) :: S) h := propext ⟨fun q => And.right (a := dk_in x) q, fun q => (⟨⟨h1, h2⟩, q⟩ : dk_in x ∧ _)⟩
theorem xr_l2i {x : Int} : dk_r G R J (.inl .l2i :: is) (L) (.inr (.inl x) :: S) h = dk_r G R J is (L) (.inl x :: S) h := propext ⟨fun q => And.right (a := True) q, fun q => (⟨trivial, q⟩ : True ∧ _)⟩
theorem xr_i2b {x : Int} : dk_r G R J (.inl .i2b :: is) (L) (.inl x :: S) h = dk_r G R J is (L) (.inl (x.bmod 256) :: S) h := propext ⟨fun q => And.right (a := True) q, fun q => (⟨trivial, q⟩ : True ∧ _)⟩
theorem xr_i2s {x : Int} : dk_r G R J (.inl .i2s :: is) (L) (.inl x :: S) h = dk_r G R J is (L) (.inl (x.bmod 65536) :: S) h := propext ⟨fun q => And.right (a := True) q, fun q => (⟨trivial, q⟩ : True ∧ _)⟩
theorem xr_ladd {x y : Int} : dk_r G R J (.inl .ladd :: is) (L) (.inr (.inl y) :: .inr (.inl x) :: S) h = dk_r G R J is (L) (.inr (.inl (x + y)) :: S) h := propext ⟨fun q => And.right (a := True) q, fun q => (⟨trivial, q⟩ : True ∧ _)⟩
theorem xr_lsub {x y : Int} : dk_r G R J (.inl .lsub :: is) (L) (.inr (.inl y) :: .inr (.inl x) :: S) h = dk_r G R J is (L) (.inr (.inl (x - y)) :: S) h := propext ⟨fun q => And.right (a := True) q, fun q => (⟨trivial, q⟩ : True ∧ _)⟩
theorem xr_lmul {x y : Int} : dk_r G R J (.inl .lmul :: is) (L) (.inr (.inl y) :: .inr (.inl x) :: S) h = dk_r G R J is (L) (.inr (.inl (x * y)) :: S) h := propext ⟨fun q => And.right (a := True) q, fun q => (⟨trivial, q⟩ : True ∧ _)⟩
theorem xr_lrem {x y : Int} (h1 : -9223372036854775808 ≤ x) (h2 : x ≤ 9223372036854775807) (h3 : -9223372036854775808 ≤ y) (h4 : y ≤ 9223372036854775807) (h5 : ¬ y = 0) : dk_r G R J (.inl .lrem :: is) (L) (.inr (.inl y) :: .inr (.inl x) :: S) h = dk_r G R J is (L) (.inr (.inl (x.tmod y)) :: S) h := propext ⟨fun q => And.right (a := (dk_in64 x ∧ dk_in64 y ∧ ¬ y = 0)) q, fun q => (⟨⟨⟨h1, h2⟩, ⟨h3, h4⟩, h5⟩, q⟩ : (dk_in64 x ∧ dk_in64 y ∧ ¬ y = 0) ∧ _)⟩
theorem xr_lcmp {x y : Int} (h1 : -9223372036854775808 ≤ x) (h2 : x ≤ 9223372036854775807) (h3 : -9223372036854775808 ≤ y) (h4 : y ≤ 9223372036854775807) : dk_r G R J (.inl .lcmp :: is) (L) (.inr (.inl y) :: .inr (.inl x) :: S) h = dk_r G R J is (L) (.inl (dk_cmp x y) :: S) h := propext ⟨fun q => And.right (a := (dk_in64 x ∧ dk_in64 y)) q, fun q => (⟨⟨⟨h1, h2⟩, ⟨h3, h4⟩⟩, q⟩ : (dk_in64 x ∧ dk_in64 y) ∧ _)⟩
theorem xr_dupi {x : Int} : dk_r G R J (.inl .dup :: is) (L) (.inl x :: S) h = dk_r G R J is (L) (.inl x :: .inl x :: S) h := propext ⟨fun q => And.right (a := True) q, fun q => (⟨trivial, q⟩ : True ∧ _)⟩
theorem xr_dupr {x : Nat} : dk_r G R J (.inl .dup :: is) (L) (.inr (.inr x) :: S) h = dk_r G R J is (L) (.inr (.inr x) :: .inr (.inr x) :: S) h := propext ⟨fun q => And.right (a := True) q, fun q => (⟨trivial, q⟩ : True ∧ _)⟩
theorem xr_dup2 {x : Int} {y : Nat} : dk_r G R J (.inl .dup2 :: is) (L) (.inl x :: .inr (.inr y) :: S) h = dk_r G R J is (L) (.inl x :: .inr (.inr y) :: .inl x :: .inr (.inr y) :: S) h := propext ⟨fun q => And.right (a := True) q, fun q => (⟨trivial, q⟩ : True ∧ _)⟩
theorem xr_pop {x : Int} : dk_r G R J (.inl .pop :: is) (L) (.inl x :: S) h = dk_r G R J is (L) (S) h := propext ⟨fun q => And.right (a := True) q, fun q => (⟨trivial, q⟩ : True ∧ _)⟩
theorem xr_goto {t q0 : Nat} : dk_r G R J (.inr (7, t, q0) :: is) L S h = J t L S h := rfl
theorem xr_if_eq {t x : Int} (h1 : -2147483648 ≤ x) (h2 : x ≤ 2147483647) : dk_r G R J (.inl (.ifCond .eq t) :: is) L (.inl x :: S) h = ((x = 0 → J t.toNat L S h) ∧ (¬ (x = 0) → dk_r G R J is L S h)) := propext ⟨fun q => And.right (a := dk_in x) q, fun q => (⟨⟨h1, h2⟩, q⟩ : dk_in x ∧ _)⟩
theorem xr_ic_eq {t x y : Int} (h1 : -2147483648 ≤ x) (h2 : x ≤ 2147483647) (h3 : -2147483648 ≤ y) (h4 : y ≤ 2147483647) : dk_r G R J (.inl (.if_icmp .eq t) :: is) L (.inl y :: .inl x :: S) h = ((x = y → J t.toNat L S h) ∧ (¬ (x = y) → dk_r G R J is L S h)) := propext ⟨fun q => And.right (a := dk_in y) (And.right (a := dk_in x) q), fun q => (⟨⟨h1, h2⟩, ⟨h3, h4⟩, q⟩ : dk_in x ∧ dk_in y ∧ _)⟩
theorem xr_if_ne {t x : Int} (h1 : -2147483648 ≤ x) (h2 : x ≤ 2147483647) : dk_r G R J (.inl (.ifCond .ne t) :: is) L (.inl x :: S) h = ((¬ x = 0 → J t.toNat L S h) ∧ (¬ (¬ x = 0) → dk_r G R J is L S h)) := propext ⟨fun q => And.right (a := dk_in x) q, fun q => (⟨⟨h1, h2⟩, q⟩ : dk_in x ∧ _)⟩
theorem xr_ic_ne {t x y : Int} (h1 : -2147483648 ≤ x) (h2 : x ≤ 2147483647) (h3 : -2147483648 ≤ y) (h4 : y ≤ 2147483647) : dk_r G R J (.inl (.if_icmp .ne t) :: is) L (.inl y :: .inl x :: S) h = ((¬ x = y → J t.toNat L S h) ∧ (¬ (¬ x = y) → dk_r G R J is L S h)) := propext ⟨fun q => And.right (a := dk_in y) (And.right (a := dk_in x) q), fun q => (⟨⟨h1, h2⟩, ⟨h3, h4⟩, q⟩ : dk_in x ∧ dk_in y ∧ _)⟩
theorem xr_if_lt {t x : Int} (h1 : -2147483648 ≤ x) (h2 : x ≤ 2147483647) : dk_r G R J (.inl (.ifCond .lt t) :: is) L (.inl x :: S) h = ((x < 0 → J t.toNat L S h) ∧ (¬ (x < 0) → dk_r G R J is L S h)) := propext ⟨fun q => And.right (a := dk_in x) q, fun q => (⟨⟨h1, h2⟩, q⟩ : dk_in x ∧ _)⟩
theorem xr_ic_lt {t x y : Int} (h1 : -2147483648 ≤ x) (h2 : x ≤ 2147483647) (h3 : -2147483648 ≤ y) (h4 : y ≤ 2147483647) : dk_r G R J (.inl (.if_icmp .lt t) :: is) L (.inl y :: .inl x :: S) h = ((x < y → J t.toNat L S h) ∧ (¬ (x < y) → dk_r G R J is L S h)) := propext ⟨fun q => And.right (a := dk_in y) (And.right (a := dk_in x) q), fun q => (⟨⟨h1, h2⟩, ⟨h3, h4⟩, q⟩ : dk_in x ∧ dk_in y ∧ _)⟩
theorem xr_if_ge {t x : Int} (h1 : -2147483648 ≤ x) (h2 : x ≤ 2147483647) : dk_r G R J (.inl (.ifCond .ge t) :: is) L (.inl x :: S) h = ((0 ≤ x → J t.toNat L S h) ∧ (¬ (0 ≤ x) → dk_r G R J is L S h)) := propext ⟨fun q => And.right (a := dk_in x) q, fun q => (⟨⟨h1, h2⟩, q⟩ : dk_in x ∧ _)⟩
theorem xr_ic_ge {t x y : Int} (h1 : -2147483648 ≤ x) (h2 : x ≤ 2147483647) (h3 : -2147483648 ≤ y) (h4 : y ≤ 2147483647) : dk_r G R J (.inl (.if_icmp .ge t) :: is) L (.inl y :: .inl x :: S) h = ((y ≤ x → J t.toNat L S h) ∧ (¬ (y ≤ x) → dk_r G R J is L S h)) := propext ⟨fun q => And.right (a := dk_in y) (And.right (a := dk_in x) q), fun q => (⟨⟨h1, h2⟩, ⟨h3, h4⟩, q⟩ : dk_in x ∧ dk_in y ∧ _)⟩
theorem xr_if_gt {t x : Int} (h1 : -2147483648 ≤ x) (h2 : x ≤ 2147483647) : dk_r G R J (.inl (.ifCond .gt t) :: is) L (.inl x :: S) h = ((0 < x → J t.toNat L S h) ∧ (¬ (0 < x) → dk_r G R J is L S h)) := propext ⟨fun q => And.right (a := dk_in x) q, fun q => (⟨⟨h1, h2⟩, q⟩ : dk_in x ∧ _)⟩
theorem xr_ic_gt {t x y : Int} (h1 : -2147483648 ≤ x) (h2 : x ≤ 2147483647) (h3 : -2147483648 ≤ y) (h4 : y ≤ 2147483647) : dk_r G R J (.inl (.if_icmp .gt t) :: is) L (.inl y :: .inl x :: S) h = ((y < x → J t.toNat L S h) ∧ (¬ (y < x) → dk_r G R J is L S h)) := propext ⟨fun q => And.right (a := dk_in y) (And.right (a := dk_in x) q), fun q => (⟨⟨h1, h2⟩, ⟨h3, h4⟩, q⟩ : dk_in x ∧ dk_in y ∧ _)⟩
theorem xr_if_le {t x : Int} (h1 : -2147483648 ≤ x) (h2 : x ≤ 2147483647) : dk_r G R J (.inl (.ifCond .le t) :: is) L (.inl x :: S) h = ((x ≤ 0 → J t.toNat L S h) ∧ (¬ (x ≤ 0) → dk_r G R J is L S h)) := propext ⟨fun q => And.right (a := dk_in x) q, fun q => (⟨⟨h1, h2⟩, q⟩ : dk_in x ∧ _)⟩
theorem xr_ic_le {t x y : Int} (h1 : -2147483648 ≤ x) (h2 : x ≤ 2147483647) (h3 : -2147483648 ≤ y) (h4 : y ≤ 2147483647) : dk_r G R J (.inl (.if_icmp .le t) :: is) L (.inl y :: .inl x :: S) h = ((x ≤ y → J t.toNat L S h) ∧ (¬ (x ≤ y) → dk_r G R J is L S h)) := propext ⟨fun q => And.right (a := dk_in y) (And.right (a := dk_in x) q), fun q => (⟨⟨h1, h2⟩, ⟨h3, h4⟩, q⟩ : dk_in x ∧ dk_in y ∧ _)⟩
theorem xr_sw {d lo hi x : Int} {offs : Array Int} (h1 : -2147483648 ≤ x) (h2 : x ≤ 2147483647) : dk_r G R J (.inl (.tableswitch d lo hi offs) :: is) L (.inl x :: S) h = ((x < lo ∨ hi < x → J d.toNat L S h) ∧ dk_sw x (fun b => J b L S h) offs.toList lo) := propext ⟨fun q => And.right (a := dk_in x) q, fun q => (⟨⟨h1, h2⟩, q⟩ : dk_in x ∧ _)⟩
theorem xr_iret {x : Int} : dk_r G R J (.inl .ireturn :: is) L [.inl x] h = R (some (.inl x)) h := rfl
theorem xr_zret {x : Int} (hz : x = 0 ∨ x = 1) : dk_r G R J (.inl .lreturn :: is) L [.inl x] h = R (some (.inl x)) h := propext ⟨fun q => And.right (a := (x = 0 ∨ x = 1)) q, fun q => (⟨hz, q⟩ : (x = 0 ∨ x = 1) ∧ _)⟩
theorem xr_aret {x : Nat} : dk_r G R J (.inl .areturn :: is) L [.inr (.inr x)] h = R (some (.inr (.inr x))) h := rfl
theorem xr_vret : dk_r G R J (.inl .return_ :: is) L [] h = R none h := rfl
theorem xl_iload0 {e : Int} : dk_r G R J (.inl (.iload 0) :: is) (some (.inl e) :: L) (S) h = dk_r G R J is (some (.inl e) :: L) (.inl e :: S) h := propext ⟨fun q => And.right (a := True) q, fun q => (⟨trivial, q⟩ : True ∧ _)⟩
theorem xl_lload0 {e : Int} : dk_r G R J (.inl (.lload 0) :: is) (some (.inr (.inl e)) :: L) (S) h = dk_r G R J is (some (.inr (.inl e)) :: L) (.inr (.inl e) :: S) h := propext ⟨fun q => And.right (a := True) q, fun q => (⟨trivial, q⟩ : True ∧ _)⟩
theorem xl_aload0 {e : Nat} : dk_r G R J (.inl (.aload 0) :: is) (some (.inr (.inr e)) :: L) (S) h = dk_r G R J is (some (.inr (.inr e)) :: L) (.inr (.inr e) :: S) h := propext ⟨fun q => And.right (a := True) q, fun q => (⟨trivial, q⟩ : True ∧ _)⟩
theorem xl_istore0z {lx : Option dk_V} {e : Int} : dk_r G R J (.inl (.istore 0) :: is) (lx :: L) (.inl e :: S) h = dk_r G R J is (some (.inl e) :: L) (S) h := propext ⟨fun q => And.right (a := (0 < (lx :: L).length)) q, fun q => (⟨by simp only [List.length_cons]; omega, q⟩ : (0 < (lx :: L).length) ∧ _)⟩
theorem xl_astore0z {lx : Option dk_V} {e : Nat} : dk_r G R J (.inl (.astore 0) :: is) (lx :: L) (.inr (.inr e) :: S) h = dk_r G R J is (some (.inr (.inr e)) :: L) (S) h := propext ⟨fun q => And.right (a := (0 < (lx :: L).length)) q, fun q => (⟨by simp only [List.length_cons]; omega, q⟩ : (0 < (lx :: L).length) ∧ _)⟩
theorem xl_iinc0z {e c : Int} : dk_r G R J (.inl (.iinc 0 c) :: is) (some (.inl e) :: L) (S) h = dk_r G R J is (some (.inl (e + c)) :: L) (S) h := propext ⟨fun q => And.right (a := True) q, fun q => (⟨trivial, q⟩ : True ∧ _)⟩
theorem xl_iload1 {l0 : Option dk_V} {e : Int} : dk_r G R J (.inl (.iload 1) :: is) (l0 :: some (.inl e) :: L) (S) h = dk_r G R J is (l0 :: some (.inl e) :: L) (.inl e :: S) h := propext ⟨fun q => And.right (a := True) q, fun q => (⟨trivial, q⟩ : True ∧ _)⟩
theorem xl_lload1 {l0 : Option dk_V} {e : Int} : dk_r G R J (.inl (.lload 1) :: is) (l0 :: some (.inr (.inl e)) :: L) (S) h = dk_r G R J is (l0 :: some (.inr (.inl e)) :: L) (.inr (.inl e) :: S) h := propext ⟨fun q => And.right (a := True) q, fun q => (⟨trivial, q⟩ : True ∧ _)⟩
theorem xl_aload1 {l0 : Option dk_V} {e : Nat} : dk_r G R J (.inl (.aload 1) :: is) (l0 :: some (.inr (.inr e)) :: L) (S) h = dk_r G R J is (l0 :: some (.inr (.inr e)) :: L) (.inr (.inr e) :: S) h := propext ⟨fun q => And.right (a := True) q, fun q => (⟨trivial, q⟩ : True ∧ _)⟩
theorem xl_istore1n {lx : Option dk_V} {e : Int} : dk_r G R J (.inl (.istore 1) :: is) (none :: lx :: L) (.inl e :: S) h = dk_r G R J is (none :: some (.inl e) :: L) (S) h := propext ⟨fun q => And.right (a := (1 < (none :: lx :: L).length)) q, fun q => (⟨by simp only [List.length_cons]; omega, q⟩ : (1 < (none :: lx :: L).length) ∧ _)⟩
theorem xl_astore1n {lx : Option dk_V} {e : Nat} : dk_r G R J (.inl (.astore 1) :: is) (none :: lx :: L) (.inr (.inr e) :: S) h = dk_r G R J is (none :: some (.inr (.inr e)) :: L) (S) h := propext ⟨fun q => And.right (a := (1 < (none :: lx :: L).length)) q, fun q => (⟨by simp only [List.length_cons]; omega, q⟩ : (1 < (none :: lx :: L).length) ∧ _)⟩
theorem xl_iinc1n {e c : Int} : dk_r G R J (.inl (.iinc 1 c) :: is) (none :: some (.inl e) :: L) (S) h = dk_r G R J is (none :: some (.inl (e + c)) :: L) (S) h := propext ⟨fun q => And.right (a := True) q, fun q => (⟨trivial, q⟩ : True ∧ _)⟩
theorem xl_lstore1n {lx ly : Option dk_V} {e : Int} : dk_r G R J (.inl (.lstore 1) :: is) (none :: lx :: ly :: L) (.inr (.inl e) :: S) h = dk_r G R J is (none :: some (.inr (.inl e)) :: none :: L) (S) h := propext ⟨fun q => And.right (a := (1 + 1 < (none :: lx :: ly :: L).length)) q, fun q => (⟨by simp only [List.length_cons]; omega, q⟩ : (1 + 1 < (none :: lx :: ly :: L).length) ∧ _)⟩
theorem xl_istore1i {d : Int} {lx : Option dk_V} {e : Int} : dk_r G R J (.inl (.istore 1) :: is) (some (.inl d) :: lx :: L) (.inl e :: S) h = dk_r G R J is (some (.inl d) :: some (.inl e) :: L) (S) h := propext ⟨fun q => And.right (a := (1 < (some (.inl d) :: lx :: L).length)) q, fun q => (⟨by simp only [List.length_cons]; omega, q⟩ : (1 < (some (.inl d) :: lx :: L).length) ∧ _)⟩
theorem xl_astore1i {d : Int} {lx : Option dk_V} {e : Nat} : dk_r G R J (.inl (.astore 1) :: is) (some (.inl d) :: lx :: L) (.inr (.inr e) :: S) h = dk_r G R J is (some (.inl d) :: some (.inr (.inr e)) :: L) (S) h := propext ⟨fun q => And.right (a := (1 < (some (.inl d) :: lx :: L).length)) q, fun q => (⟨by simp only [List.length_cons]; omega, q⟩ : (1 < (some (.inl d) :: lx :: L).length) ∧ _)⟩
theorem xl_iinc1i {d : Int} {e c : Int} : dk_r G R J (.inl (.iinc 1 c) :: is) (some (.inl d) :: some (.inl e) :: L) (S) h = dk_r G R J is (some (.inl d) :: some (.inl (e + c)) :: L) (S) h := propext ⟨fun q => And.right (a := True) q, fun q => (⟨trivial, q⟩ : True ∧ _)⟩
theorem xl_lstore1i {d : Int} {lx ly : Option dk_V} {e : Int} : dk_r G R J (.inl (.lstore 1) :: is) (some (.inl d) :: lx :: ly :: L) (.inr (.inl e) :: S) h = dk_r G R J is (some (.inl d) :: some (.inr (.inl e)) :: none :: L) (S) h := propext ⟨fun q => And.right (a := (1 + 1 < (some (.inl d) :: lx :: ly :: L).length)) q, fun q => (⟨by simp only [List.length_cons]; omega, q⟩ : (1 + 1 < (some (.inl d) :: lx :: ly :: L).length) ∧ _)⟩
theorem xl_istore1a {d : Nat} {lx : Option dk_V} {e : Int} : dk_r G R J (.inl (.istore 1) :: is) (some (.inr (.inr d)) :: lx :: L) (.inl e :: S) h = dk_r G R J is (some (.inr (.inr d)) :: some (.inl e) :: L) (S) h := propext ⟨fun q => And.right (a := (1 < (some (.inr (.inr d)) :: lx :: L).length)) q, fun q => (⟨by simp only [List.length_cons]; omega, q⟩ : (1 < (some (.inr (.inr d)) :: lx :: L).length) ∧ _)⟩
theorem xl_astore1a {d : Nat} {lx : Option dk_V} {e : Nat} : dk_r G R J (.inl (.astore 1) :: is) (some (.inr (.inr d)) :: lx :: L) (.inr (.inr e) :: S) h = dk_r G R J is (some (.inr (.inr d)) :: some (.inr (.inr e)) :: L) (S) h := propext ⟨fun q => And.right (a := (1 < (some (.inr (.inr d)) :: lx :: L).length)) q, fun q => (⟨by simp only [List.length_cons]; omega, q⟩ : (1 < (some (.inr (.inr d)) :: lx :: L).length) ∧ _)⟩
theorem xl_iinc1a {d : Nat} {e c : Int} : dk_r G R J (.inl (.iinc 1 c) :: is) (some (.inr (.inr d)) :: some (.inl e) :: L) (S) h = dk_r G R J is (some (.inr (.inr d)) :: some (.inl (e + c)) :: L) (S) h := propext ⟨fun q => And.right (a := True) q, fun q => (⟨trivial, q⟩ : True ∧ _)⟩
theorem xl_lstore1a {d : Nat} {lx ly : Option dk_V} {e : Int} : dk_r G R J (.inl (.lstore 1) :: is) (some (.inr (.inr d)) :: lx :: ly :: L) (.inr (.inl e) :: S) h = dk_r G R J is (some (.inr (.inr d)) :: some (.inr (.inl e)) :: none :: L) (S) h := propext ⟨fun q => And.right (a := (1 + 1 < (some (.inr (.inr d)) :: lx :: ly :: L).length)) q, fun q => (⟨by simp only [List.length_cons]; omega, q⟩ : (1 + 1 < (some (.inr (.inr d)) :: lx :: ly :: L).length) ∧ _)⟩
theorem xl_iload2 {l0 l1 : Option dk_V} {e : Int} : dk_r G R J (.inl (.iload 2) :: is) (l0 :: l1 :: some (.inl e) :: L) (S) h = dk_r G R J is (l0 :: l1 :: some (.inl e) :: L) (.inl e :: S) h := propext ⟨fun q => And.right (a := True) q, fun q => (⟨trivial, q⟩ : True ∧ _)⟩
theorem xl_lload2 {l0 l1 : Option dk_V} {e : Int} : dk_r G R J (.inl (.lload 2) :: is) (l0 :: l1 :: some (.inr (.inl e)) :: L) (S) h = dk_r G R J is (l0 :: l1 :: some (.inr (.inl e)) :: L) (.inr (.inl e) :: S) h := propext ⟨fun q => And.right (a := True) q, fun q => (⟨trivial, q⟩ : True ∧ _)⟩
theorem xl_aload2 {l0 l1 : Option dk_V} {e : Nat} : dk_r G R J (.inl (.aload 2) :: is) (l0 :: l1 :: some (.inr (.inr e)) :: L) (S) h = dk_r G R J is (l0 :: l1 :: some (.inr (.inr e)) :: L) (.inr (.inr e) :: S) h := propext ⟨fun q => And.right (a := True) q, fun q => (⟨trivial, q⟩ : True ∧ _)⟩
theorem xl_istore2n {l0 : Option dk_V} {lx : Option dk_V} {e : Int} : dk_r G R J (.inl (.istore 2) :: is) (l0 :: none :: lx :: L) (.inl e :: S) h = dk_r G R J is (l0 :: none :: some (.inl e) :: L) (S) h := propext ⟨fun q => And.right (a := (2 < (l0 :: none :: lx :: L).length)) q, fun q => (⟨by simp only [List.length_cons]; omega, q⟩ : (2 < (l0 :: none :: lx :: L).length) ∧ _)⟩
theorem xl_astore2n {l0 : Option dk_V} {lx : Option dk_V} {e : Nat} : dk_r G R J (.inl (.astore 2) :: is) (l0 :: none :: lx :: L) (.inr (.inr e) :: S) h = dk_r G R J is (l0 :: none :: some (.inr (.inr e)) :: L) (S) h := propext ⟨fun q => And.right (a := (2 < (l0 :: none :: lx :: L).length)) q, fun q => (⟨by simp only [List.length_cons]; omega, q⟩ : (2 < (l0 :: none :: lx :: L).length) ∧ _)⟩
theorem xl_iinc2n {l0 : Option dk_V} {e c : Int} : dk_r G R J (.inl (.iinc 2 c) :: is) (l0 :: none :: some (.inl e) :: L) (S) h = dk_r G R J is (l0 :: none :: some (.inl (e + c)) :: L) (S) h := propext ⟨fun q => And.right (a := True) q, fun q => (⟨trivial, q⟩ : True ∧ _)⟩
theorem xl_lstore2n {l0 : Option dk_V} {lx ly : Option dk_V} {e : Int} : dk_r G R J (.inl (.lstore 2) :: is) (l0 :: none :: lx :: ly :: L) (.inr (.inl e) :: S) h = dk_r G R J is (l0 :: none :: some (.inr (.inl e)) :: none :: L) (S) h := propext ⟨fun q => And.right (a := (2 + 1 < (l0 :: none :: lx :: ly :: L).length)) q, fun q => (⟨by simp only [List.length_cons]; omega, q⟩ : (2 + 1 < (l0 :: none :: lx :: ly :: L).length) ∧ _)⟩
theorem xl_istore2i {l0 : Option dk_V} {d : Int} {lx : Option dk_V} {e : Int} : dk_r G R J (.inl (.istore 2) :: is) (l0 :: some (.inl d) :: lx :: L) (.inl e :: S) h = dk_r G R J is (l0 :: some (.inl d) :: some (.inl e) :: L) (S) h := propext ⟨fun q => And.right (a := (2 < (l0 :: some (.inl d) :: lx :: L).length)) q, fun q => (⟨by simp only [List.length_cons]; omega, q⟩ : (2 < (l0 :: some (.inl d) :: lx :: L).length) ∧ _)⟩
theorem xl_astore2i {l0 : Option dk_V} {d : Int} {lx : Option dk_V} {e : Nat} : dk_r G R J (.inl (.astore 2) :: is) (l0 :: some (.inl d) :: lx :: L) (.inr (.inr e) :: S) h = dk_r G R J is (l0 :: some (.inl d) :: some (.inr (.inr e)) :: L) (S) h := propext ⟨fun q => And.right (a := (2 < (l0 :: some (.inl d) :: lx :: L).length)) q, fun q => (⟨by simp only [List.length_cons]; omega, q⟩ : (2 < (l0 :: some (.inl d) :: lx :: L).length) ∧ _)⟩
theorem xl_iinc2i {l0 : Option dk_V} {d : Int} {e c : Int} : dk_r G R J (.inl (.iinc 2 c) :: is) (l0 :: some (.inl d) :: some (.inl e) :: L) (S) h = dk_r G R J is (l0 :: some (.inl d) :: some (.inl (e + c)) :: L) (S) h := propext ⟨fun q => And.right (a := True) q, fun q => (⟨trivial, q⟩ : True ∧ _)⟩
theorem xl_lstore2i {l0 : Option dk_V} {d : Int} {lx ly : Option dk_V} {e : Int} : dk_r G R J (.inl (.lstore 2) :: is) (l0 :: some (.inl d) :: lx :: ly :: L) (.inr (.inl e) :: S) h = dk_r G R J is (l0 :: some (.inl d) :: some (.inr (.inl e)) :: none :: L) (S) h := propext ⟨fun q => And.right (a := (2 + 1 < (l0 :: some (.inl d) :: lx :: ly :: L).length)) q, fun q => (⟨by simp only [List.length_cons]; omega, q⟩ : (2 + 1 < (l0 :: some (.inl d) :: lx :: ly :: L).length) ∧ _)⟩
theorem xl_istore2a {l0 : Option dk_V} {d : Nat} {lx : Option dk_V} {e : Int} : dk_r G R J (.inl (.istore 2) :: is) (l0 :: some (.inr (.inr d)) :: lx :: L) (.inl e :: S) h = dk_r G R J is (l0 :: some (.inr (.inr d)) :: some (.inl e) :: L) (S) h := propext ⟨fun q => And.right (a := (2 < (l0 :: some (.inr (.inr d)) :: lx :: L).length)) q, fun q => (⟨by simp only [List.length_cons]; omega, q⟩ : (2 < (l0 :: some (.inr (.inr d)) :: lx :: L).length) ∧ _)⟩
theorem xl_astore2a {l0 : Option dk_V} {d : Nat} {lx : Option dk_V} {e : Nat} : dk_r G R J (.inl (.astore 2) :: is) (l0 :: some (.inr (.inr d)) :: lx :: L) (.inr (.inr e) :: S) h = dk_r G R J is (l0 :: some (.inr (.inr d)) :: some (.inr (.inr e)) :: L) (S) h := propext ⟨fun q => And.right (a := (2 < (l0 :: some (.inr (.inr d)) :: lx :: L).length)) q, fun q => (⟨by simp only [List.length_cons]; omega, q⟩ : (2 < (l0 :: some (.inr (.inr d)) :: lx :: L).length) ∧ _)⟩
theorem xl_iinc2a {l0 : Option dk_V} {d : Nat} {e c : Int} : dk_r G R J (.inl (.iinc 2 c) :: is) (l0 :: some (.inr (.inr d)) :: some (.inl e) :: L) (S) h = dk_r G R J is (l0 :: some (.inr (.inr d)) :: some (.inl (e + c)) :: L) (S) h := propext ⟨fun q => And.right (a := True) q, fun q => (⟨trivial, q⟩ : True ∧ _)⟩
theorem xl_lstore2a {l0 : Option dk_V} {d : Nat} {lx ly : Option dk_V} {e : Int} : dk_r G R J (.inl (.lstore 2) :: is) (l0 :: some (.inr (.inr d)) :: lx :: ly :: L) (.inr (.inl e) :: S) h = dk_r G R J is (l0 :: some (.inr (.inr d)) :: some (.inr (.inl e)) :: none :: L) (S) h := propext ⟨fun q => And.right (a := (2 + 1 < (l0 :: some (.inr (.inr d)) :: lx :: ly :: L).length)) q, fun q => (⟨by simp only [List.length_cons]; omega, q⟩ : (2 + 1 < (l0 :: some (.inr (.inr d)) :: lx :: ly :: L).length) ∧ _)⟩
theorem xl_iload3 {l0 l1 l2 : Option dk_V} {e : Int} : dk_r G R J (.inl (.iload 3) :: is) (l0 :: l1 :: l2 :: some (.inl e) :: L) (S) h = dk_r G R J is (l0 :: l1 :: l2 :: some (.inl e) :: L) (.inl e :: S) h := propext ⟨fun q => And.right (a := True) q, fun q => (⟨trivial, q⟩ : True ∧ _)⟩
theorem xl_lload3 {l0 l1 l2 : Option dk_V} {e : Int} : dk_r G R J (.inl (.lload 3) :: is) (l0 :: l1 :: l2 :: some (.inr (.inl e)) :: L) (S) h = dk_r G R J is (l0 :: l1 :: l2 :: some (.inr (.inl e)) :: L) (.inr (.inl e) :: S) h := propext ⟨fun q => And.right (a := True) q, fun q => (⟨trivial, q⟩ : True ∧ _)⟩
theorem xl_aload3 {l0 l1 l2 : Option dk_V} {e : Nat} : dk_r G R J (.inl (.aload 3) :: is) (l0 :: l1 :: l2 :: some (.inr (.inr e)) :: L) (S) h = dk_r G R J is (l0 :: l1 :: l2 :: some (.inr (.inr e)) :: L) (.inr (.inr e) :: S) h := propext ⟨fun q => And.right (a := True) q, fun q => (⟨trivial, q⟩ : True ∧ _)⟩
theorem xl_istore3n {l0 l1 : Option dk_V} {lx : Option dk_V} {e : Int} : dk_r G R J (.inl (.istore 3) :: is) (l0 :: l1 :: none :: lx :: L) (.inl e :: S) h = dk_r G R J is (l0 :: l1 :: none :: some (.inl e) :: L) (S) h := propext ⟨fun q => And.right (a := (3 < (l0 :: l1 :: none :: lx :: L).length)) q, fun q => (⟨by simp only [List.length_cons]; omega, q⟩ : (3 < (l0 :: l1 :: none :: lx :: L).length) ∧ _)⟩
theorem xl_astore3n {l0 l1 : Option dk_V} {lx : Option dk_V} {e : Nat} : dk_r G R J (.inl (.astore 3) :: is) (l0 :: l1 :: none :: lx :: L) (.inr (.inr e) :: S) h = dk_r G R J is (l0 :: l1 :: none :: some (.inr (.inr e)) :: L) (S) h := propext ⟨fun q => And.right (a := (3 < (l0 :: l1 :: none :: lx :: L).length)) q, fun q => (⟨by simp only [List.length_cons]; omega, q⟩ : (3 < (l0 :: l1 :: none :: lx :: L).length) ∧ _)⟩
theorem xl_iinc3n {l0 l1 : Option dk_V} {e c : Int} : dk_r G R J (.inl (.iinc 3 c) :: is) (l0 :: l1 :: none :: some (.inl e) :: L) (S) h = dk_r G R J is (l0 :: l1 :: none :: some (.inl (e + c)) :: L) (S) h := propext ⟨fun q => And.right (a := True) q, fun q => (⟨trivial, q⟩ : True ∧ _)⟩
theorem xl_lstore3n {l0 l1 : Option dk_V} {lx ly : Option dk_V} {e : Int} : dk_r G R J (.inl (.lstore 3) :: is) (l0 :: l1 :: none :: lx :: ly :: L) (.inr (.inl e) :: S) h = dk_r G R J is (l0 :: l1 :: none :: some (.inr (.inl e)) :: none :: L) (S) h := propext ⟨fun q => And.right (a := (3 + 1 < (l0 :: l1 :: none :: lx :: ly :: L).length)) q, fun q => (⟨by simp only [List.length_cons]; omega, q⟩ : (3 + 1 < (l0 :: l1 :: none :: lx :: ly :: L).length) ∧ _)⟩
theorem xl_istore3i {l0 l1 : Option dk_V} {d : Int} {lx : Option dk_V} {e : Int} : dk_r G R J (.inl (.istore 3) :: is) (l0 :: l1 :: some (.inl d) :: lx :: L) (.inl e :: S) h = dk_r G R J is (l0 :: l1 :: some (.inl d) :: some (.inl e) :: L) (S) h := propext ⟨fun q => And.right (a := (3 < (l0 :: l1 :: some (.inl d) :: lx :: L).length)) q, fun q => (⟨by simp only [List.length_cons]; omega, q⟩ : (3 < (l0 :: l1 :: some (.inl d) :: lx :: L).length) ∧ _)⟩
theorem xl_astore3i {l0 l1 : Option dk_V} {d : Int} {lx : Option dk_V} {e : Nat} : dk_r G R J (.inl (.astore 3) :: is) (l0 :: l1 :: some (.inl d) :: lx :: L) (.inr (.inr e) :: S) h = dk_r G R J is (l0 :: l1 :: some (.inl d) :: some (.inr (.inr e)) :: L) (S) h := propext ⟨fun q => And.right (a := (3 < (l0 :: l1 :: some (.inl d) :: lx :: L).length)) q, fun q => (⟨by simp only [List.length_cons]; omega, q⟩ : (3 < (l0 :: l1 :: some (.inl d) :: lx :: L).length) ∧ _)⟩
theorem xl_iinc3i {l0 l1 : Option dk_V} {d : Int} {e c : Int} : dk_r G R J (.inl (.iinc 3 c) :: is) (l0 :: l1 :: some (.inl d) :: some (.inl e) :: L) (S) h = dk_r G R J is (l0 :: l1 :: some (.inl d) :: some (.inl (e + c)) :: L) (S) h := propext ⟨fun q => And.right (a := True) q, fun q => (⟨trivial, q⟩ : True ∧ _)⟩
theorem xl_lstore3i {l0 l1 : Option dk_V} {d : Int} {lx ly : Option dk_V} {e : Int} : dk_r G R J (.inl (.lstore 3) :: is) (l0 :: l1 :: some (.inl d) :: lx :: ly :: L) (.inr (.inl e) :: S) h = dk_r G R J is (l0 :: l1 :: some (.inl d) :: some (.inr (.inl e)) :: none :: L) (S) h := propext ⟨fun q => And.right (a := (3 + 1 < (l0 :: l1 :: some (.inl d) :: lx :: ly :: L).length)) q, fun q => (⟨by simp only [List.length_cons]; omega, q⟩ : (3 + 1 < (l0 :: l1 :: some (.inl d) :: lx :: ly :: L).length) ∧ _)⟩
theorem xl_istore3a {l0 l1 : Option dk_V} {d : Nat} {lx : Option dk_V} {e : Int} : dk_r G R J (.inl (.istore 3) :: is) (l0 :: l1 :: some (.inr (.inr d)) :: lx :: L) (.inl e :: S) h = dk_r G R J is (l0 :: l1 :: some (.inr (.inr d)) :: some (.inl e) :: L) (S) h := propext ⟨fun q => And.right (a := (3 < (l0 :: l1 :: some (.inr (.inr d)) :: lx :: L).length)) q, fun q => (⟨by simp only [List.length_cons]; omega, q⟩ : (3 < (l0 :: l1 :: some (.inr (.inr d)) :: lx :: L).length) ∧ _)⟩
theorem xl_astore3a {l0 l1 : Option dk_V} {d : Nat} {lx : Option dk_V} {e : Nat} : dk_r G R J (.inl (.astore 3) :: is) (l0 :: l1 :: some (.inr (.inr d)) :: lx :: L) (.inr (.inr e) :: S) h = dk_r G R J is (l0 :: l1 :: some (.inr (.inr d)) :: some (.inr (.inr e)) :: L) (S) h := propext ⟨fun q => And.right (a := (3 < (l0 :: l1 :: some (.inr (.inr d)) :: lx :: L).length)) q, fun q => (⟨by simp only [List.length_cons]; omega, q⟩ : (3 < (l0 :: l1 :: some (.inr (.inr d)) :: lx :: L).length) ∧ _)⟩
theorem xl_iinc3a {l0 l1 : Option dk_V} {d : Nat} {e c : Int} : dk_r G R J (.inl (.iinc 3 c) :: is) (l0 :: l1 :: some (.inr (.inr d)) :: some (.inl e) :: L) (S) h = dk_r G R J is (l0 :: l1 :: some (.inr (.inr d)) :: some (.inl (e + c)) :: L) (S) h := propext ⟨fun q => And.right (a := True) q, fun q => (⟨trivial, q⟩ : True ∧ _)⟩
theorem xl_lstore3a {l0 l1 : Option dk_V} {d : Nat} {lx ly : Option dk_V} {e : Int} : dk_r G R J (.inl (.lstore 3) :: is) (l0 :: l1 :: some (.inr (.inr d)) :: lx :: ly :: L) (.inr (.inl e) :: S) h = dk_r G R J is (l0 :: l1 :: some (.inr (.inr d)) :: some (.inr (.inl e)) :: none :: L) (S) h := propext ⟨fun q => And.right (a := (3 + 1 < (l0 :: l1 :: some (.inr (.inr d)) :: lx :: ly :: L).length)) q, fun q => (⟨by simp only [List.length_cons]; omega, q⟩ : (3 + 1 < (l0 :: l1 :: some (.inr (.inr d)) :: lx :: ly :: L).length) ∧ _)⟩
theorem xl_iload4 {l0 l1 l2 l3 : Option dk_V} {e : Int} : dk_r G R J (.inl (.iload 4) :: is) (l0 :: l1 :: l2 :: l3 :: some (.inl e) :: L) (S) h = dk_r G R J is (l0 :: l1 :: l2 :: l3 :: some (.inl e) :: L) (.inl e :: S) h := propext ⟨fun q => And.right (a := True) q, fun q => (⟨trivial, q⟩ : True ∧ _)⟩
theorem xl_lload4 {l0 l1 l2 l3 : Option dk_V} {e : Int} : dk_r G R J (.inl (.lload 4) :: is) (l0 :: l1 :: l2 :: l3 :: some (.inr (.inl e)) :: L) (S) h = dk_r G R J is (l0 :: l1 :: l2 :: l3 :: some (.inr (.inl e)) :: L) (.inr (.inl e) :: S) h := propext ⟨fun q => And.right (a := True) q, fun q => (⟨trivial, q⟩ : True ∧ _)⟩
theorem xl_aload4 {l0 l1 l2 l3 : Option dk_V} {e : Nat} : dk_r G R J (.inl (.aload 4) :: is) (l0 :: l1 :: l2 :: l3 :: some (.inr (.inr e)) :: L) (S) h = dk_r G R J is (l0 :: l1 :: l2 :: l3 :: some (.inr (.inr e)) :: L) (.inr (.inr e) :: S) h := propext ⟨fun q => And.right (a := True) q, fun q => (⟨trivial, q⟩ : True ∧ _)⟩
theorem xl_istore4n {l0 l1 l2 : Option dk_V} {lx : Option dk_V} {e : Int} : dk_r G R J (.inl (.istore 4) :: is) (l0 :: l1 :: l2 :: none :: lx :: L) (.inl e :: S) h = dk_r G R J is (l0 :: l1 :: l2 :: none :: some (.inl e) :: L) (S) h := propext ⟨fun q => And.right (a := (4 < (l0 :: l1 :: l2 :: none :: lx :: L).length)) q, fun q => (⟨by simp only [List.length_cons]; omega, q⟩ : (4 < (l0 :: l1 :: l2 :: none :: lx :: L).length) ∧ _)⟩
theorem xl_astore4n {l0 l1 l2 : Option dk_V} {lx : Option dk_V} {e : Nat} : dk_r G R J (.inl (.astore 4) :: is) (l0 :: l1 :: l2 :: none :: lx :: L) (.inr (.inr e) :: S) h = dk_r G R J is (l0 :: l1 :: l2 :: none :: some (.inr (.inr e)) :: L) (S) h := propext ⟨fun q => And.right (a := (4 < (l0 :: l1 :: l2 :: none :: lx :: L).length)) q, fun q => (⟨by simp only [List.length_cons]; omega, q⟩ : (4 < (l0 :: l1 :: l2 :: none :: lx :: L).length) ∧ _)⟩
theorem xl_iinc4n {l0 l1 l2 : Option dk_V} {e c : Int} : dk_r G R J (.inl (.iinc 4 c) :: is) (l0 :: l1 :: l2 :: none :: some (.inl e) :: L) (S) h = dk_r G R J is (l0 :: l1 :: l2 :: none :: some (.inl (e + c)) :: L) (S) h := propext ⟨fun q => And.right (a := True) q, fun q => (⟨trivial, q⟩ : True ∧ _)⟩
theorem xl_lstore4n {l0 l1 l2 : Option dk_V} {lx ly : Option dk_V} {e : Int} : dk_r G R J (.inl (.lstore 4) :: is) (l0 :: l1 :: l2 :: none :: lx :: ly :: L) (.inr (.inl e) :: S) h = dk_r G R J is (l0 :: l1 :: l2 :: none :: some (.inr (.inl e)) :: none :: L) (S) h := propext ⟨fun q => And.right (a := (4 + 1 < (l0 :: l1 :: l2 :: none :: lx :: ly :: L).length)) q, fun q => (⟨by simp only [List.length_cons]; omega, q⟩ : (4 + 1 < (l0 :: l1 :: l2 :: none :: lx :: ly :: L).length) ∧ _)⟩
theorem xl_istore4i {l0 l1 l2 : Option dk_V} {d : Int} {lx : Option dk_V} {e : Int} : dk_r G R J (.inl (.istore 4) :: is) (l0 :: l1 :: l2 :: some (.inl d) :: lx :: L) (.inl e :: S) h = dk_r G R J is (l0 :: l1 :: l2 :: some (.inl d) :: some (.inl e) :: L) (S) h := propext ⟨fun q => And.right (a := (4 < (l0 :: l1 :: l2 :: some (.inl d) :: lx :: L).length)) q, fun q => (⟨by simp only [List.length_cons]; omega, q⟩ : (4 < (l0 :: l1 :: l2 :: some (.inl d) :: lx :: L).length) ∧ _)⟩
theorem xl_astore4i {l0 l1 l2 : Option dk_V} {d : Int} {lx : Option dk_V} {e : Nat} : dk_r G R J (.inl (.astore 4) :: is) (l0 :: l1 :: l2 :: some (.inl d) :: lx :: L) (.inr (.inr e) :: S) h = dk_r G R J is (l0 :: l1 :: l2 :: some (.inl d) :: some (.inr (.inr e)) :: L) (S) h := propext ⟨fun q => And.right (a := (4 < (l0 :: l1 :: l2 :: some (.inl d) :: lx :: L).length)) q, fun q => (⟨by simp only [List.length_cons]; omega, q⟩ : (4 < (l0 :: l1 :: l2 :: some (.inl d) :: lx :: L).length) ∧ _)⟩
theorem xl_iinc4i {l0 l1 l2 : Option dk_V} {d : Int} {e c : Int} : dk_r G R J (.inl (.iinc 4 c) :: is) (l0 :: l1 :: l2 :: some (.inl d) :: some (.inl e) :: L) (S) h = dk_r G R J is (l0 :: l1 :: l2 :: some (.inl d) :: some (.inl (e + c)) :: L) (S) h := propext ⟨fun q => And.right (a := True) q, fun q => (⟨trivial, q⟩ : True ∧ _)⟩
theorem xl_lstore4i {l0 l1 l2 : Option dk_V} {d : Int} {lx ly : Option dk_V} {e : Int} : dk_r G R J (.inl (.lstore 4) :: is) (l0 :: l1 :: l2 :: some (.inl d) :: lx :: ly :: L) (.inr (.inl e) :: S) h = dk_r G R J is (l0 :: l1 :: l2 :: some (.inl d) :: some (.inr (.inl e)) :: none :: L) (S) h := propext ⟨fun q => And.right (a := (4 + 1 < (l0 :: l1 :: l2 :: some (.inl d) :: lx :: ly :: L).length)) q, fun q => (⟨by simp only [List.length_cons]; omega, q⟩ : (4 + 1 < (l0 :: l1 :: l2 :: some (.inl d) :: lx :: ly :: L).length) ∧ _)⟩
theorem xl_istore4a {l0 l1 l2 : Option dk_V} {d : Nat} {lx : Option dk_V} {e : Int} : dk_r G R J (.inl (.istore 4) :: is) (l0 :: l1 :: l2 :: some (.inr (.inr d)) :: lx :: L) (.inl e :: S) h = dk_r G R J is (l0 :: l1 :: l2 :: some (.inr (.inr d)) :: some (.inl e) :: L) (S) h := propext ⟨fun q => And.right (a := (4 < (l0 :: l1 :: l2 :: some (.inr (.inr d)) :: lx :: L).length)) q, fun q => (⟨by simp only [List.length_cons]; omega, q⟩ : (4 < (l0 :: l1 :: l2 :: some (.inr (.inr d)) :: lx :: L).length) ∧ _)⟩
theorem xl_astore4a {l0 l1 l2 : Option dk_V} {d : Nat} {lx : Option dk_V} {e : Nat} : dk_r G R J (.inl (.astore 4) :: is) (l0 :: l1 :: l2 :: some (.inr (.inr d)) :: lx :: L) (.inr (.inr e) :: S) h = dk_r G R J is (l0 :: l1 :: l2 :: some (.inr (.inr d)) :: some (.inr (.inr e)) :: L) (S) h := propext ⟨fun q => And.right (a := (4 < (l0 :: l1 :: l2 :: some (.inr (.inr d)) :: lx :: L).length)) q, fun q => (⟨by simp only [List.length_cons]; omega, q⟩ : (4 < (l0 :: l1 :: l2 :: some (.inr (.inr d)) :: lx :: L).length) ∧ _)⟩
theorem xl_iinc4a {l0 l1 l2 : Option dk_V} {d : Nat} {e c : Int} : dk_r G R J (.inl (.iinc 4 c) :: is) (l0 :: l1 :: l2 :: some (.inr (.inr d)) :: some (.inl e) :: L) (S) h = dk_r G R J is (l0 :: l1 :: l2 :: some (.inr (.inr d)) :: some (.inl (e + c)) :: L) (S) h := propext ⟨fun q => And.right (a := True) q, fun q => (⟨trivial, q⟩ : True ∧ _)⟩
theorem xl_lstore4a {l0 l1 l2 : Option dk_V} {d : Nat} {lx ly : Option dk_V} {e : Int} : dk_r G R J (.inl (.lstore 4) :: is) (l0 :: l1 :: l2 :: some (.inr (.inr d)) :: lx :: ly :: L) (.inr (.inl e) :: S) h = dk_r G R J is (l0 :: l1 :: l2 :: some (.inr (.inr d)) :: some (.inr (.inl e)) :: none :: L) (S) h := propext ⟨fun q => And.right (a := (4 + 1 < (l0 :: l1 :: l2 :: some (.inr (.inr d)) :: lx :: ly :: L).length)) q, fun q => (⟨by simp only [List.length_cons]; omega, q⟩ : (4 + 1 < (l0 :: l1 :: l2 :: some (.inr (.inr d)) :: lx :: ly :: L).length) ∧ _)⟩
theorem xl_iload5 {l0 l1 l2 l3 l4 : Option dk_V} {e : Int} : dk_r G R J (.inl (.iload 5) :: is) (l0 :: l1 :: l2 :: l3 :: l4 :: some (.inl e) :: L) (S) h = dk_r G R J is (l0 :: l1 :: l2 :: l3 :: l4 :: some (.inl e) :: L) (.inl e :: S) h := propext ⟨fun q => And.right (a := True) q, fun q => (⟨trivial, q⟩ : True ∧ _)⟩
theorem xl_lload5 {l0 l1 l2 l3 l4 : Option dk_V} {e : Int} : dk_r G R J (.inl (.lload 5) :: is) (l0 :: l1 :: l2 :: l3 :: l4 :: some (.inr (.inl e)) :: L) (S) h = dk_r G R J is (l0 :: l1 :: l2 :: l3 :: l4 :: some (.inr (.inl e)) :: L) (.inr (.inl e) :: S) h := propext ⟨fun q => And.right (a := True) q, fun q => (⟨trivial, q⟩ : True ∧ _)⟩
theorem xl_aload5 {l0 l1 l2 l3 l4 : Option dk_V} {e : Nat} : dk_r G R J (.inl (.aload 5) :: is) (l0 :: l1 :: l2 :: l3 :: l4 :: some (.inr (.inr e)) :: L) (S) h = dk_r G R J is (l0 :: l1 :: l2 :: l3 :: l4 :: some (.inr (.inr e)) :: L) (.inr (.inr e) :: S) h := propext ⟨fun q => And.right (a := True) q, fun q => (⟨trivial, q⟩ : True ∧ _)⟩
theorem xl_istore5n {l0 l1 l2 l3 : Option dk_V} {lx : Option dk_V} {e : Int} : dk_r G R J (.inl (.istore 5) :: is) (l0 :: l1 :: l2 :: l3 :: none :: lx :: L) (.inl e :: S) h = dk_r G R J is (l0 :: l1 :: l2 :: l3 :: none :: some (.inl e) :: L) (S) h := propext ⟨fun q => And.right (a := (5 < (l0 :: l1 :: l2 :: l3 :: none :: lx :: L).length)) q, fun q => (⟨by simp only [List.length_cons]; omega, q⟩ : (5 < (l0 :: l1 :: l2 :: l3 :: none :: lx :: L).length) ∧ _)⟩
theorem xl_astore5n {l0 l1 l2 l3 : Option dk_V} {lx : Option dk_V} {e : Nat} : dk_r G R J (.inl (.astore 5) :: is) (l0 :: l1 :: l2 :: l3 :: none :: lx :: L) (.inr (.inr e) :: S) h = dk_r G R J is (l0 :: l1 :: l2 :: l3 :: none :: some (.inr (.inr e)) :: L) (S) h := propext ⟨fun q => And.right (a := (5 < (l0 :: l1 :: l2 :: l3 :: none :: lx :: L).length)) q, fun q => (⟨by simp only [List.length_cons]; omega, q⟩ : (5 < (l0 :: l1 :: l2 :: l3 :: none :: lx :: L).length) ∧ _)⟩
theorem xl_iinc5n {l0 l1 l2 l3 : Option dk_V} {e c : Int} : dk_r G R J (.inl (.iinc 5 c) :: is) (l0 :: l1 :: l2 :: l3 :: none :: some (.inl e) :: L) (S) h = dk_r G R J is (l0 :: l1 :: l2 :: l3 :: none :: some (.inl (e + c)) :: L) (S) h := propext ⟨fun q => And.right (a := True) q, fun q => (⟨trivial, q⟩ : True ∧ _)⟩
theorem xl_lstore5n {l0 l1 l2 l3 : Option dk_V} {lx ly : Option dk_V} {e : Int} : dk_r G R J (.inl (.lstore 5) :: is) (l0 :: l1 :: l2 :: l3 :: none :: lx :: ly :: L) (.inr (.inl e) :: S) h = dk_r G R J is (l0 :: l1 :: l2 :: l3 :: none :: some (.inr (.inl e)) :: none :: L) (S) h := propext ⟨fun q => And.right (a := (5 + 1 < (l0 :: l1 :: l2 :: l3 :: none :: lx :: ly :: L).length)) q, fun q => (⟨by simp only [List.length_cons]; omega, q⟩ : (5 + 1 < (l0 :: l1 :: l2 :: l3 :: none :: lx :: ly :: L).length) ∧ _)⟩
theorem xl_istore5i {l0 l1 l2 l3 : Option dk_V} {d : Int} {lx : Option dk_V} {e : Int} : dk_r G R J (.inl (.istore 5) :: is) (l0 :: l1 :: l2 :: l3 :: some (.inl d) :: lx :: L) (.inl e :: S) h = dk_r G R J is (l0 :: l1 :: l2 :: l3 :: some (.inl d) :: some (.inl e) :: L) (S) h := propext ⟨fun q => And.right (a := (5 < (l0 :: l1 :: l2 :: l3 :: some (.inl d) :: lx :: L).length)) q, fun q => (⟨by simp only [List.length_cons]; omega, q⟩ : (5 < (l0 :: l1 :: l2 :: l3 :: some (.inl d) :: lx :: L).length) ∧ _)⟩
theorem xl_astore5i {l0 l1 l2 l3 : Option dk_V} {d : Int} {lx : Option dk_V} {e : Nat} : dk_r G R J (.inl (.astore 5) :: is) (l0 :: l1 :: l2 :: l3 :: some (.inl d) :: lx :: L) (.inr (.inr e) :: S) h = dk_r G R J is (l0 :: l1 :: l2 :: l3 :: some (.inl d) :: some (.inr (.inr e)) :: L) (S) h := propext ⟨fun q => And.right (a := (5 < (l0 :: l1 :: l2 :: l3 :: some (.inl d) :: lx :: L).length)) q, fun q => (⟨by simp only [List.length_cons]; omega, q⟩ : (5 < (l0 :: l1 :: l2 :: l3 :: some (.inl d) :: lx :: L).length) ∧ _)⟩
theorem xl_iinc5i {l0 l1 l2 l3 : Option dk_V} {d : Int} {e c : Int} : dk_r G R J (.inl (.iinc 5 c) :: is) (l0 :: l1 :: l2 :: l3 :: some (.inl d) :: some (.inl e) :: L) (S) h = dk_r G R J is (l0 :: l1 :: l2 :: l3 :: some (.inl d) :: some (.inl (e + c)) :: L) (S) h := propext ⟨fun q => And.right (a := True) q, fun q => (⟨trivial, q⟩ : True ∧ _)⟩
theorem xl_lstore5i {l0 l1 l2 l3 : Option dk_V} {d : Int} {lx ly : Option dk_V} {e : Int} : dk_r G R J (.inl (.lstore 5) :: is) (l0 :: l1 :: l2 :: l3 :: some (.inl d) :: lx :: ly :: L) (.inr (.inl e) :: S) h = dk_r G R J is (l0 :: l1 :: l2 :: l3 :: some (.inl d) :: some (.inr (.inl e)) :: none :: L) (S) h := propext ⟨fun q => And.right (a := (5 + 1 < (l0 :: l1 :: l2 :: l3 :: some (.inl d) :: lx :: ly :: L).length)) q, fun q => (⟨by simp only [List.length_cons]; omega, q⟩ : (5 + 1 < (l0 :: l1 :: l2 :: l3 :: some (.inl d) :: lx :: ly :: L).length) ∧ _)⟩
theorem xl_istore5a {l0 l1 l2 l3 : Option dk_V} {d : Nat} {lx : Option dk_V} {e : Int} : dk_r G R J (.inl (.istore 5) :: is) (l0 :: l1 :: l2 :: l3 :: some (.inr (.inr d)) :: lx :: L) (.inl e :: S) h = dk_r G R J is (l0 :: l1 :: l2 :: l3 :: some (.inr (.inr d)) :: some (.inl e) :: L) (S) h := propext ⟨fun q => And.right (a := (5 < (l0 :: l1 :: l2 :: l3 :: some (.inr (.inr d)) :: lx :: L).length)) q, fun q => (⟨by simp only [List.length_cons]; omega, q⟩ : (5 < (l0 :: l1 :: l2 :: l3 :: some (.inr (.inr d)) :: lx :: L).length) ∧ _)⟩
theorem xl_astore5a {l0 l1 l2 l3 : Option dk_V} {d : Nat} {lx : Option dk_V} {e : Nat} : dk_r G R J (.inl (.astore 5) :: is) (l0 :: l1 :: l2 :: l3 :: some (.inr (.inr d)) :: lx :: L) (.inr (.inr e) :: S) h = dk_r G R J is (l0 :: l1 :: l2 :: l3 :: some (.inr (.inr d)) :: some (.inr (.inr e)) :: L) (S) h := propext ⟨fun q => And.right (a := (5 < (l0 :: l1 :: l2 :: l3 :: some (.inr (.inr d)) :: lx :: L).length)) q, fun q => (⟨by simp only [List.length_cons]; omega, q⟩ : (5 < (l0 :: l1 :: l2 :: l3 :: some (.inr (.inr d)) :: lx :: L).length) ∧ _)⟩
theorem xl_iinc5a {l0 l1 l2 l3 : Option dk_V} {d : Nat} {e c : Int} : dk_r G R J (.inl (.iinc 5 c) :: is) (l0 :: l1 :: l2 :: l3 :: some (.inr (.inr d)) :: some (.inl e) :: L) (S) h = dk_r G R J is (l0 :: l1 :: l2 :: l3 :: some (.inr (.inr d)) :: some (.inl (e + c)) :: L) (S) h := propext ⟨fun q => And.right (a := True) q, fun q => (⟨trivial, q⟩ : True ∧ _)⟩
theorem xl_lstore5a {l0 l1 l2 l3 : Option dk_V} {d : Nat} {lx ly : Option dk_V} {e : Int} : dk_r G R J (.inl (.lstore 5) :: is) (l0 :: l1 :: l2 :: l3 :: some (.inr (.inr d)) :: lx :: ly :: L) (.inr (.inl e) :: S) h = dk_r G R J is (l0 :: l1 :: l2 :: l3 :: some (.inr (.inr d)) :: some (.inr (.inl e)) :: none :: L) (S) h := propext ⟨fun q => And.right (a := (5 + 1 < (l0 :: l1 :: l2 :: l3 :: some (.inr (.inr d)) :: lx :: ly :: L).length)) q, fun q => (⟨by simp only [List.length_cons]; omega, q⟩ : (5 + 1 < (l0 :: l1 :: l2 :: l3 :: some (.inr (.inr d)) :: lx :: ly :: L).length) ∧ _)⟩
theorem xl_iload6 {l0 l1 l2 l3 l4 l5 : Option dk_V} {e : Int} : dk_r G R J (.inl (.iload 6) :: is) (l0 :: l1 :: l2 :: l3 :: l4 :: l5 :: some (.inl e) :: L) (S) h = dk_r G R J is (l0 :: l1 :: l2 :: l3 :: l4 :: l5 :: some (.inl e) :: L) (.inl e :: S) h := propext ⟨fun q => And.right (a := True) q, fun q => (⟨trivial, q⟩ : True ∧ _)⟩
theorem xl_aload6 {l0 l1 l2 l3 l4 l5 : Option dk_V} {e : Nat} : dk_r G R J (.inl (.aload 6) :: is) (l0 :: l1 :: l2 :: l3 :: l4 :: l5 :: some (.inr (.inr e)) :: L) (S) h = dk_r G R J is (l0 :: l1 :: l2 :: l3 :: l4 :: l5 :: some (.inr (.inr e)) :: L) (.inr (.inr e) :: S) h := propext ⟨fun q => And.right (a := True) q, fun q => (⟨trivial, q⟩ : True ∧ _)⟩
theorem xl_istore6n {l0 l1 l2 l3 l4 : Option dk_V} {lx : Option dk_V} {e : Int} : dk_r G R J (.inl (.istore 6) :: is) (l0 :: l1 :: l2 :: l3 :: l4 :: none :: lx :: L) (.inl e :: S) h = dk_r G R J is (l0 :: l1 :: l2 :: l3 :: l4 :: none :: some (.inl e) :: L) (S) h := propext ⟨fun q => And.right (a := (6 < (l0 :: l1 :: l2 :: l3 :: l4 :: none :: lx :: L).length)) q, fun q => (⟨by simp only [List.length_cons]; omega, q⟩ : (6 < (l0 :: l1 :: l2 :: l3 :: l4 :: none :: lx :: L).length) ∧ _)⟩
theorem xl_astore6n {l0 l1 l2 l3 l4 : Option dk_V} {lx : Option dk_V} {e : Nat} : dk_r G R J (.inl (.astore 6) :: is) (l0 :: l1 :: l2 :: l3 :: l4 :: none :: lx :: L) (.inr (.inr e) :: S) h = dk_r G R J is (l0 :: l1 :: l2 :: l3 :: l4 :: none :: some (.inr (.inr e)) :: L) (S) h := propext ⟨fun q => And.right (a := (6 < (l0 :: l1 :: l2 :: l3 :: l4 :: none :: lx :: L).length)) q, fun q => (⟨by simp only [List.length_cons]; omega, q⟩ : (6 < (l0 :: l1 :: l2 :: l3 :: l4 :: none :: lx :: L).length) ∧ _)⟩
theorem xl_iinc6n {l0 l1 l2 l3 l4 : Option dk_V} {e c : Int} : dk_r G R J (.inl (.iinc 6 c) :: is) (l0 :: l1 :: l2 :: l3 :: l4 :: none :: some (.inl e) :: L) (S) h = dk_r G R J is (l0 :: l1 :: l2 :: l3 :: l4 :: none :: some (.inl (e + c)) :: L) (S) h := propext ⟨fun q => And.right (a := True) q, fun q => (⟨trivial, q⟩ : True ∧ _)⟩
theorem xl_istore6i {l0 l1 l2 l3 l4 : Option dk_V} {d : Int} {lx : Option dk_V} {e : Int} : dk_r G R J (.inl (.istore 6) :: is) (l0 :: l1 :: l2 :: l3 :: l4 :: some (.inl d) :: lx :: L) (.inl e :: S) h = dk_r G R J is (l0 :: l1 :: l2 :: l3 :: l4 :: some (.inl d) :: some (.inl e) :: L) (S) h := propext ⟨fun q => And.right (a := (6 < (l0 :: l1 :: l2 :: l3 :: l4 :: some (.inl d) :: lx :: L).length)) q, fun q => (⟨by simp only [List.length_cons]; omega, q⟩ : (6 < (l0 :: l1 :: l2 :: l3 :: l4 :: some (.inl d) :: lx :: L).length) ∧ _)⟩
theorem xl_astore6i {l0 l1 l2 l3 l4 : Option dk_V} {d : Int} {lx : Option dk_V} {e : Nat} : dk_r G R J (.inl (.astore 6) :: is) (l0 :: l1 :: l2 :: l3 :: l4 :: some (.inl d) :: lx :: L) (.inr (.inr e) :: S) h = dk_r G R J is (l0 :: l1 :: l2 :: l3 :: l4 :: some (.inl d) :: some (.inr (.inr e)) :: L) (S) h := propext ⟨fun q => And.right (a := (6 < (l0 :: l1 :: l2 :: l3 :: l4 :: some (.inl d) :: lx :: L).length)) q, fun q => (⟨by simp only [List.length_cons]; omega, q⟩ : (6 < (l0 :: l1 :: l2 :: l3 :: l4 :: some (.inl d) :: lx :: L).length) ∧ _)⟩
theorem xl_iinc6i {l0 l1 l2 l3 l4 : Option dk_V} {d : Int} {e c : Int} : dk_r G R J (.inl (.iinc 6 c) :: is) (l0 :: l1 :: l2 :: l3 :: l4 :: some (.inl d) :: some (.inl e) :: L) (S) h = dk_r G R J is (l0 :: l1 :: l2 :: l3 :: l4 :: some (.inl d) :: some (.inl (e + c)) :: L) (S) h := propext ⟨fun q => And.right (a := True) q, fun q => (⟨trivial, q⟩ : True ∧ _)⟩
theorem xl_istore6a {l0 l1 l2 l3 l4 : Option dk_V} {d : Nat} {lx : Option dk_V} {e : Int} : dk_r G R J (.inl (.istore 6) :: is) (l0 :: l1 :: l2 :: l3 :: l4 :: some (.inr (.inr d)) :: lx :: L) (.inl e :: S) h = dk_r G R J is (l0 :: l1 :: l2 :: l3 :: l4 :: some (.inr (.inr d)) :: some (.inl e) :: L) (S) h := propext ⟨fun q => And.right (a := (6 < (l0 :: l1 :: l2 :: l3 :: l4 :: some (.inr (.inr d)) :: lx :: L).length)) q, fun q => (⟨by simp only [List.length_cons]; omega, q⟩ : (6 < (l0 :: l1 :: l2 :: l3 :: l4 :: some (.inr (.inr d)) :: lx :: L).length) ∧ _)⟩
theorem xl_astore6a {l0 l1 l2 l3 l4 : Option dk_V} {d : Nat} {lx : Option dk_V} {e : Nat} : dk_r G R J (.inl (.astore 6) :: is) (l0 :: l1 :: l2 :: l3 :: l4 :: some (.inr (.inr d)) :: lx :: L) (.inr (.inr e) :: S) h = dk_r G R J is (l0 :: l1 :: l2 :: l3 :: l4 :: some (.inr (.inr d)) :: some (.inr (.inr e)) :: L) (S) h := propext ⟨fun q => And.right (a := (6 < (l0 :: l1 :: l2 :: l3 :: l4 :: some (.inr (.inr d)) :: lx :: L).length)) q, fun q => (⟨by simp only [List.length_cons]; omega, q⟩ : (6 < (l0 :: l1 :: l2 :: l3 :: l4 :: some (.inr (.inr d)) :: lx :: L).length) ∧ _)⟩
theorem xl_iinc6a {l0 l1 l2 l3 l4 : Option dk_V} {d : Nat} {e c : Int} : dk_r G R J (.inl (.iinc 6 c) :: is) (l0 :: l1 :: l2 :: l3 :: l4 :: some (.inr (.inr d)) :: some (.inl e) :: L) (S) h = dk_r G R J is (l0 :: l1 :: l2 :: l3 :: l4 :: some (.inr (.inr d)) :: some (.inl (e + c)) :: L) (S) h := propext ⟨fun q => And.right (a := True) q, fun q => (⟨trivial, q⟩ : True ∧ _)⟩
theorem xl_iload7 {l0 l1 l2 l3 l4 l5 l6 : Option dk_V} {e : Int} : dk_r G R J (.inl (.iload 7) :: is) (l0 :: l1 :: l2 :: l3 :: l4 :: l5 :: l6 :: some (.inl e) :: L) (S) h = dk_r G R J is (l0 :: l1 :: l2 :: l3 :: l4 :: l5 :: l6 :: some (.inl e) :: L) (.inl e :: S) h := propext ⟨fun q => And.right (a := True) q, fun q => (⟨trivial, q⟩ : True ∧ _)⟩
theorem xl_aload7 {l0 l1 l2 l3 l4 l5 l6 : Option dk_V} {e : Nat} : dk_r G R J (.inl (.aload 7) :: is) (l0 :: l1 :: l2 :: l3 :: l4 :: l5 :: l6 :: some (.inr (.inr e)) :: L) (S) h = dk_r G R J is (l0 :: l1 :: l2 :: l3 :: l4 :: l5 :: l6 :: some (.inr (.inr e)) :: L) (.inr (.inr e) :: S) h := propext ⟨fun q => And.right (a := True) q, fun q => (⟨trivial, q⟩ : True ∧ _)⟩
theorem xl_istore7n {l0 l1 l2 l3 l4 l5 : Option dk_V} {lx : Option dk_V} {e : Int} : dk_r G R J (.inl (.istore 7) :: is) (l0 :: l1 :: l2 :: l3 :: l4 :: l5 :: none :: lx :: L) (.inl e :: S) h = dk_r G R J is (l0 :: l1 :: l2 :: l3 :: l4 :: l5 :: none :: some (.inl e) :: L) (S) h := propext ⟨fun q => And.right (a := (7 < (l0 :: l1 :: l2 :: l3 :: l4 :: l5 :: none :: lx :: L).length)) q, fun q => (⟨by simp only [List.length_cons]; omega, q⟩ : (7 < (l0 :: l1 :: l2 :: l3 :: l4 :: l5 :: none :: lx :: L).length) ∧ _)⟩
theorem xl_astore7n {l0 l1 l2 l3 l4 l5 : Option dk_V} {lx : Option dk_V} {e : Nat} : dk_r G R J (.inl (.astore 7) :: is) (l0 :: l1 :: l2 :: l3 :: l4 :: l5 :: none :: lx :: L) (.inr (.inr e) :: S) h = dk_r G R J is (l0 :: l1 :: l2 :: l3 :: l4 :: l5 :: none :: some (.inr (.inr e)) :: L) (S) h := propext ⟨fun q => And.right (a := (7 < (l0 :: l1 :: l2 :: l3 :: l4 :: l5 :: none :: lx :: L).length)) q, fun q => (⟨by simp only [List.length_cons]; omega, q⟩ : (7 < (l0 :: l1 :: l2 :: l3 :: l4 :: l5 :: none :: lx :: L).length) ∧ _)⟩
theorem xl_iinc7n {l0 l1 l2 l3 l4 l5 : Option dk_V} {e c : Int} : dk_r G R J (.inl (.iinc 7 c) :: is) (l0 :: l1 :: l2 :: l3 :: l4 :: l5 :: none :: some (.inl e) :: L) (S) h = dk_r G R J is (l0 :: l1 :: l2 :: l3 :: l4 :: l5 :: none :: some (.inl (e + c)) :: L) (S) h := propext ⟨fun q => And.right (a := True) q, fun q => (⟨trivial, q⟩ : True ∧ _)⟩
theorem xl_istore7i {l0 l1 l2 l3 l4 l5 : Option dk_V} {d : Int} {lx : Option dk_V} {e : Int} : dk_r G R J (.inl (.istore 7) :: is) (l0 :: l1 :: l2 :: l3 :: l4 :: l5 :: some (.inl d) :: lx :: L) (.inl e :: S) h = dk_r G R J is (l0 :: l1 :: l2 :: l3 :: l4 :: l5 :: some (.inl d) :: some (.inl e) :: L) (S) h := propext ⟨fun q => And.right (a := (7 < (l0 :: l1 :: l2 :: l3 :: l4 :: l5 :: some (.inl d) :: lx :: L).length)) q, fun q => (⟨by simp only [List.length_cons]; omega, q⟩ : (7 < (l0 :: l1 :: l2 :: l3 :: l4 :: l5 :: some (.inl d) :: lx :: L).length) ∧ _)⟩
theorem xl_astore7i {l0 l1 l2 l3 l4 l5 : Option dk_V} {d : Int} {lx : Option dk_V} {e : Nat} : dk_r G R J (.inl (.astore 7) :: is) (l0 :: l1 :: l2 :: l3 :: l4 :: l5 :: some (.inl d) :: lx :: L) (.inr (.inr e) :: S) h = dk_r G R J is (l0 :: l1 :: l2 :: l3 :: l4 :: l5 :: some (.inl d) :: some (.inr (.inr e)) :: L) (S) h := propext ⟨fun q => And.right (a := (7 < (l0 :: l1 :: l2 :: l3 :: l4 :: l5 :: some (.inl d) :: lx :: L).length)) q, fun q => (⟨by simp only [List.length_cons]; omega, q⟩ : (7 < (l0 :: l1 :: l2 :: l3 :: l4 :: l5 :: some (.inl d) :: lx :: L).length) ∧ _)⟩
theorem xl_iinc7i {l0 l1 l2 l3 l4 l5 : Option dk_V} {d : Int} {e c : Int} : dk_r G R J (.inl (.iinc 7 c) :: is) (l0 :: l1 :: l2 :: l3 :: l4 :: l5 :: some (.inl d) :: some (.inl e) :: L) (S) h = dk_r G R J is (l0 :: l1 :: l2 :: l3 :: l4 :: l5 :: some (.inl d) :: some (.inl (e + c)) :: L) (S) h := propext ⟨fun q => And.right (a := True) q, fun q => (⟨trivial, q⟩ : True ∧ _)⟩
theorem xl_istore7a {l0 l1 l2 l3 l4 l5 : Option dk_V} {d : Nat} {lx : Option dk_V} {e : Int} : dk_r G R J (.inl (.istore 7) :: is) (l0 :: l1 :: l2 :: l3 :: l4 :: l5 :: some (.inr (.inr d)) :: lx :: L) (.inl e :: S) h = dk_r G R J is (l0 :: l1 :: l2 :: l3 :: l4 :: l5 :: some (.inr (.inr d)) :: some (.inl e) :: L) (S) h := propext ⟨fun q => And.right (a := (7 < (l0 :: l1 :: l2 :: l3 :: l4 :: l5 :: some (.inr (.inr d)) :: lx :: L).length)) q, fun q => (⟨by simp only [List.length_cons]; omega, q⟩ : (7 < (l0 :: l1 :: l2 :: l3 :: l4 :: l5 :: some (.inr (.inr d)) :: lx :: L).length) ∧ _)⟩
theorem xl_astore7a {l0 l1 l2 l3 l4 l5 : Option dk_V} {d : Nat} {lx : Option dk_V} {e : Nat} : dk_r G R J (.inl (.astore 7) :: is) (l0 :: l1 :: l2 :: l3 :: l4 :: l5 :: some (.inr (.inr d)) :: lx :: L) (.inr (.inr e) :: S) h = dk_r G R J is (l0 :: l1 :: l2 :: l3 :: l4 :: l5 :: some (.inr (.inr d)) :: some (.inr (.inr e)) :: L) (S) h := propext ⟨fun q => And.right (a := (7 < (l0 :: l1 :: l2 :: l3 :: l4 :: l5 :: some (.inr (.inr d)) :: lx :: L).length)) q, fun q => (⟨by simp only [List.length_cons]; omega, q⟩ : (7 < (l0 :: l1 :: l2 :: l3 :: l4 :: l5 :: some (.inr (.inr d)) :: lx :: L).length) ∧ _)⟩
theorem xl_iinc7a {l0 l1 l2 l3 l4 l5 : Option dk_V} {d : Nat} {e c : Int} : dk_r G R J (.inl (.iinc 7 c) :: is) (l0 :: l1 :: l2 :: l3 :: l4 :: l5 :: some (.inr (.inr d)) :: some (.inl e) :: L) (S) h = dk_r G R J is (l0 :: l1 :: l2 :: l3 :: l4 :: l5 :: some (.inr (.inr d)) :: some (.inl (e + c)) :: L) (S) h := propext ⟨fun q => And.right (a := True) q, fun q => (⟨trivial, q⟩ : True ∧ _)⟩
theorem xl_iload8 {l0 l1 l2 l3 l4 l5 l6 l7 : Option dk_V} {e : Int} : dk_r G R J (.inl (.iload 8) :: is) (l0 :: l1 :: l2 :: l3 :: l4 :: l5 :: l6 :: l7 :: some (.inl e) :: L) (S) h = dk_r G R J is (l0 :: l1 :: l2 :: l3 :: l4 :: l5 :: l6 :: l7 :: some (.inl e) :: L) (.inl e :: S) h := propext ⟨fun q => And.right (a := True) q, fun q => (⟨trivial, q⟩ : True ∧ _)⟩
theorem xl_aload8 {l0 l1 l2 l3 l4 l5 l6 l7 : Option dk_V} {e : Nat} : dk_r G R J (.inl (.aload 8) :: is) (l0 :: l1 :: l2 :: l3 :: l4 :: l5 :: l6 :: l7 :: some (.inr (.inr e)) :: L) (S) h = dk_r G R J is (l0 :: l1 :: l2 :: l3 :: l4 :: l5 :: l6 :: l7 :: some (.inr (.inr e)) :: L) (.inr (.inr e) :: S) h := propext ⟨fun q => And.right (a := True) q, fun q => (⟨trivial, q⟩ : True ∧ _)⟩
theorem xl_istore8n {l0 l1 l2 l3 l4 l5 l6 : Option dk_V} {lx : Option dk_V} {e : Int} : dk_r G R J (.inl (.istore 8) :: is) (l0 :: l1 :: l2 :: l3 :: l4 :: l5 :: l6 :: none :: lx :: L) (.inl e :: S) h = dk_r G R J is (l0 :: l1 :: l2 :: l3 :: l4 :: l5 :: l6 :: none :: some (.inl e) :: L) (S) h := propext ⟨fun q => And.right (a := (8 < (l0 :: l1 :: l2 :: l3 :: l4 :: l5 :: l6 :: none :: lx :: L).length)) q, fun q => (⟨by simp only [List.length_cons]; omega, q⟩ : (8 < (l0 :: l1 :: l2 :: l3 :: l4 :: l5 :: l6 :: none :: lx :: L).length) ∧ _)⟩
theorem xl_astore8n {l0 l1 l2 l3 l4 l5 l6 : Option dk_V} {lx : Option dk_V} {e : Nat} : dk_r G R J (.inl (.astore 8) :: is) (l0 :: l1 :: l2 :: l3 :: l4 :: l5 :: l6 :: none :: lx :: L) (.inr (.inr e) :: S) h = dk_r G R J is (l0 :: l1 :: l2 :: l3 :: l4 :: l5 :: l6 :: none :: some (.inr (.inr e)) :: L) (S) h := propext ⟨fun q => And.right (a := (8 < (l0 :: l1 :: l2 :: l3 :: l4 :: l5 :: l6 :: none :: lx :: L).length)) q, fun q => (⟨by simp only [List.length_cons]; omega, q⟩ : (8 < (l0 :: l1 :: l2 :: l3 :: l4 :: l5 :: l6 :: none :: lx :: L).length) ∧ _)⟩
theorem xl_iinc8n {l0 l1 l2 l3 l4 l5 l6 : Option dk_V} {e c : Int} : dk_r G R J (.inl (.iinc 8 c) :: is) (l0 :: l1 :: l2 :: l3 :: l4 :: l5 :: l6 :: none :: some (.inl e) :: L) (S) h = dk_r G R J is (l0 :: l1 :: l2 :: l3 :: l4 :: l5 :: l6 :: none :: some (.inl (e + c)) :: L) (S) h := propext ⟨fun q => And.right (a := True) q, fun q => (⟨trivial, q⟩ : True ∧ _)⟩
theorem xl_istore8i {l0 l1 l2 l3 l4 l5 l6 : Option dk_V} {d : Int} {lx : Option dk_V} {e : Int} : dk_r G R J (.inl (.istore 8) :: is) (l0 :: l1 :: l2 :: l3 :: l4 :: l5 :: l6 :: some (.inl d) :: lx :: L) (.inl e :: S) h = dk_r G R J is (l0 :: l1 :: l2 :: l3 :: l4 :: l5 :: l6 :: some (.inl d) :: some (.inl e) :: L) (S) h := propext ⟨fun q => And.right (a := (8 < (l0 :: l1 :: l2 :: l3 :: l4 :: l5 :: l6 :: some (.inl d) :: lx :: L).length)) q, fun q => (⟨by simp only [List.length_cons]; omega, q⟩ : (8 < (l0 :: l1 :: l2 :: l3 :: l4 :: l5 :: l6 :: some (.inl d) :: lx :: L).length) ∧ _)⟩
theorem xl_astore8i {l0 l1 l2 l3 l4 l5 l6 : Option dk_V} {d : Int} {lx : Option dk_V} {e : Nat} : dk_r G R J (.inl (.astore 8) :: is) (l0 :: l1 :: l2 :: l3 :: l4 :: l5 :: l6 :: some (.inl d) :: lx :: L) (.inr (.inr e) :: S) h = dk_r G R J is (l0 :: l1 :: l2 :: l3 :: l4 :: l5 :: l6 :: some (.inl d) :: some (.inr (.inr e)) :: L) (S) h := propext ⟨fun q => And.right (a := (8 < (l0 :: l1 :: l2 :: l3 :: l4 :: l5 :: l6 :: some (.inl d) :: lx :: L).length)) q, fun q => (⟨by simp only [List.length_cons]; omega, q⟩ : (8 < (l0 :: l1 :: l2 :: l3 :: l4 :: l5 :: l6 :: some (.inl d) :: lx :: L).length) ∧ _)⟩
theorem xl_iinc8i {l0 l1 l2 l3 l4 l5 l6 : Option dk_V} {d : Int} {e c : Int} : dk_r G R J (.inl (.iinc 8 c) :: is) (l0 :: l1 :: l2 :: l3 :: l4 :: l5 :: l6 :: some (.inl d) :: some (.inl e) :: L) (S) h = dk_r G R J is (l0 :: l1 :: l2 :: l3 :: l4 :: l5 :: l6 :: some (.inl d) :: some (.inl (e + c)) :: L) (S) h := propext ⟨fun q => And.right (a := True) q, fun q => (⟨trivial, q⟩ : True ∧ _)⟩
theorem xl_istore8a {l0 l1 l2 l3 l4 l5 l6 : Option dk_V} {d : Nat} {lx : Option dk_V} {e : Int} : dk_r G R J (.inl (.istore 8) :: is) (l0 :: l1 :: l2 :: l3 :: l4 :: l5 :: l6 :: some (.inr (.inr d)) :: lx :: L) (.inl e :: S) h = dk_r G R J is (l0 :: l1 :: l2 :: l3 :: l4 :: l5 :: l6 :: some (.inr (.inr d)) :: some (.inl e) :: L) (S) h := propext ⟨fun q => And.right (a := (8 < (l0 :: l1 :: l2 :: l3 :: l4 :: l5 :: l6 :: some (.inr (.inr d)) :: lx :: L).length)) q, fun q => (⟨by simp only [List.length_cons]; omega, q⟩ : (8 < (l0 :: l1 :: l2 :: l3 :: l4 :: l5 :: l6 :: some (.inr (.inr d)) :: lx :: L).length) ∧ _)⟩
theorem xl_astore8a {l0 l1 l2 l3 l4 l5 l6 : Option dk_V} {d : Nat} {lx : Option dk_V} {e : Nat} : dk_r G R J (.inl (.astore 8) :: is) (l0 :: l1 :: l2 :: l3 :: l4 :: l5 :: l6 :: some (.inr (.inr d)) :: lx :: L) (.inr (.inr e) :: S) h = dk_r G R J is (l0 :: l1 :: l2 :: l3 :: l4 :: l5 :: l6 :: some (.inr (.inr d)) :: some (.inr (.inr e)) :: L) (S) h := propext ⟨fun q => And.right (a := (8 < (l0 :: l1 :: l2 :: l3 :: l4 :: l5 :: l6 :: some (.inr (.inr d)) :: lx :: L).length)) q, fun q => (⟨by simp only [List.length_cons]; omega, q⟩ : (8 < (l0 :: l1 :: l2 :: l3 :: l4 :: l5 :: l6 :: some (.inr (.inr d)) :: lx :: L).length) ∧ _)⟩
theorem xl_iinc8a {l0 l1 l2 l3 l4 l5 l6 : Option dk_V} {d : Nat} {e c : Int} : dk_r G R J (.inl (.iinc 8 c) :: is) (l0 :: l1 :: l2 :: l3 :: l4 :: l5 :: l6 :: some (.inr (.inr d)) :: some (.inl e) :: L) (S) h = dk_r G R J is (l0 :: l1 :: l2 :: l3 :: l4 :: l5 :: l6 :: some (.inr (.inr d)) :: some (.inl (e + c)) :: L) (S) h := propext ⟨fun q => And.right (a := True) q, fun q => (⟨trivial, q⟩ : True ∧ _)⟩
theorem xl_iload9 {l0 l1 l2 l3 l4 l5 l6 l7 l8 : Option dk_V} {e : Int} : dk_r G R J (.inl (.iload 9) :: is) (l0 :: l1 :: l2 :: l3 :: l4 :: l5 :: l6 :: l7 :: l8 :: some (.inl e) :: L) (S) h = dk_r G R J is (l0 :: l1 :: l2 :: l3 :: l4 :: l5 :: l6 :: l7 :: l8 :: some (.inl e) :: L) (.inl e :: S) h := propext ⟨fun q => And.right (a := True) q, fun q => (⟨trivial, q⟩ : True ∧ _)⟩
theorem xl_aload9 {l0 l1 l2 l3 l4 l5 l6 l7 l8 : Option dk_V} {e : Nat} : dk_r G R J (.inl (.aload 9) :: is) (l0 :: l1 :: l2 :: l3 :: l4 :: l5 :: l6 :: l7 :: l8 :: some (.inr (.inr e)) :: L) (S) h = dk_r G R J is (l0 :: l1 :: l2 :: l3 :: l4 :: l5 :: l6 :: l7 :: l8 :: some (.inr (.inr e)) :: L) (.inr (.inr e) :: S) h := propext ⟨fun q => And.right (a := True) q, fun q => (⟨trivial, q⟩ : True ∧ _)⟩
theorem xl_istore9n {l0 l1 l2 l3 l4 l5 l6 l7 : Option dk_V} {lx : Option dk_V} {e : Int} : dk_r G R J (.inl (.istore 9) :: is) (l0 :: l1 :: l2 :: l3 :: l4 :: l5 :: l6 :: l7 :: none :: lx :: L) (.inl e :: S) h = dk_r G R J is (l0 :: l1 :: l2 :: l3 :: l4 :: l5 :: l6 :: l7 :: none :: some (.inl e) :: L) (S) h := propext ⟨fun q => And.right (a := (9 < (l0 :: l1 :: l2 :: l3 :: l4 :: l5 :: l6 :: l7 :: none :: lx :: L).length)) q, fun q => (⟨by simp only [List.length_cons]; omega, q⟩ : (9 < (l0 :: l1 :: l2 :: l3 :: l4 :: l5 :: l6 :: l7 :: none :: lx :: L).length) ∧ _)⟩
theorem xl_astore9n {l0 l1 l2 l3 l4 l5 l6 l7 : Option dk_V} {lx : Option dk_V} {e : Nat} : dk_r G R J (.inl (.astore 9) :: is) (l0 :: l1 :: l2 :: l3 :: l4 :: l5 :: l6 :: l7 :: none :: lx :: L) (.inr (.inr e) :: S) h = dk_r G R J is (l0 :: l1 :: l2 :: l3 :: l4 :: l5 :: l6 :: l7 :: none :: some (.inr (.inr e)) :: L) (S) h := propext ⟨fun q => And.right (a := (9 < (l0 :: l1 :: l2 :: l3 :: l4 :: l5 :: l6 :: l7 :: none :: lx :: L).length)) q, fun q => (⟨by simp only [List.length_cons]; omega, q⟩ : (9 < (l0 :: l1 :: l2 :: l3 :: l4 :: l5 :: l6 :: l7 :: none :: lx :: L).length) ∧ _)⟩
theorem xl_iinc9n {l0 l1 l2 l3 l4 l5 l6 l7 : Option dk_V} {e c : Int} : dk_r G R J (.inl (.iinc 9 c) :: is) (l0 :: l1 :: l2 :: l3 :: l4 :: l5 :: l6 :: l7 :: none :: some (.inl e) :: L) (S) h = dk_r G R J is (l0 :: l1 :: l2 :: l3 :: l4 :: l5 :: l6 :: l7 :: none :: some (.inl (e + c)) :: L) (S) h := propext ⟨fun q => And.right (a := True) q, fun q => (⟨trivial, q⟩ : True ∧ _)⟩
theorem xl_istore9i {l0 l1 l2 l3 l4 l5 l6 l7 : Option dk_V} {d : Int} {lx : Option dk_V} {e : Int} : dk_r G R J (.inl (.istore 9) :: is) (l0 :: l1 :: l2 :: l3 :: l4 :: l5 :: l6 :: l7 :: some (.inl d) :: lx :: L) (.inl e :: S) h = dk_r G R J is (l0 :: l1 :: l2 :: l3 :: l4 :: l5 :: l6 :: l7 :: some (.inl d) :: some (.inl e) :: L) (S) h := propext ⟨fun q => And.right (a := (9 < (l0 :: l1 :: l2 :: l3 :: l4 :: l5 :: l6 :: l7 :: some (.inl d) :: lx :: L).length)) q, fun q => (⟨by simp only [List.length_cons]; omega, q⟩ : (9 < (l0 :: l1 :: l2 :: l3 :: l4 :: l5 :: l6 :: l7 :: some (.inl d) :: lx :: L).length) ∧ _)⟩
theorem xl_astore9i {l0 l1 l2 l3 l4 l5 l6 l7 : Option dk_V} {d : Int} {lx : Option dk_V} {e : Nat} : dk_r G R J (.inl (.astore 9) :: is) (l0 :: l1 :: l2 :: l3 :: l4 :: l5 :: l6 :: l7 :: some (.inl d) :: lx :: L) (.inr (.inr e) :: S) h = dk_r G R J is (l0 :: l1 :: l2 :: l3 :: l4 :: l5 :: l6 :: l7 :: some (.inl d) :: some (.inr (.inr e)) :: L) (S) h := propext ⟨fun q => And.right (a := (9 < (l0 :: l1 :: l2 :: l3 :: l4 :: l5 :: l6 :: l7 :: some (.inl d) :: lx :: L).length)) q, fun q => (⟨by simp only [List.length_cons]; omega, q⟩ : (9 < (l0 :: l1 :: l2 :: l3 :: l4 :: l5 :: l6 :: l7 :: some (.inl d) :: lx :: L).length) ∧ _)⟩
theorem xl_iinc9i {l0 l1 l2 l3 l4 l5 l6 l7 : Option dk_V} {d : Int} {e c : Int} : dk_r G R J (.inl (.iinc 9 c) :: is) (l0 :: l1 :: l2 :: l3 :: l4 :: l5 :: l6 :: l7 :: some (.inl d) :: some (.inl e) :: L) (S) h = dk_r G R J is (l0 :: l1 :: l2 :: l3 :: l4 :: l5 :: l6 :: l7 :: some (.inl d) :: some (.inl (e + c)) :: L) (S) h := propext ⟨fun q => And.right (a := True) q, fun q => (⟨trivial, q⟩ : True ∧ _)⟩
theorem xl_istore9a {l0 l1 l2 l3 l4 l5 l6 l7 : Option dk_V} {d : Nat} {lx : Option dk_V} {e : Int} : dk_r G R J (.inl (.istore 9) :: is) (l0 :: l1 :: l2 :: l3 :: l4 :: l5 :: l6 :: l7 :: some (.inr (.inr d)) :: lx :: L) (.inl e :: S) h = dk_r G R J is (l0 :: l1 :: l2 :: l3 :: l4 :: l5 :: l6 :: l7 :: some (.inr (.inr d)) :: some (.inl e) :: L) (S) h := propext ⟨fun q => And.right (a := (9 < (l0 :: l1 :: l2 :: l3 :: l4 :: l5 :: l6 :: l7 :: some (.inr (.inr d)) :: lx :: L).length)) q, fun q => (⟨by simp only [List.length_cons]; omega, q⟩ : (9 < (l0 :: l1 :: l2 :: l3 :: l4 :: l5 :: l6 :: l7 :: some (.inr (.inr d)) :: lx :: L).length) ∧ _)⟩
theorem xl_astore9a {l0 l1 l2 l3 l4 l5 l6 l7 : Option dk_V} {d : Nat} {lx : Option dk_V} {e : Nat} : dk_r G R J (.inl (.astore 9) :: is) (l0 :: l1 :: l2 :: l3 :: l4 :: l5 :: l6 :: l7 :: some (.inr (.inr d)) :: lx :: L) (.inr (.inr e) :: S) h = dk_r G R J is (l0 :: l1 :: l2 :: l3 :: l4 :: l5 :: l6 :: l7 :: some (.inr (.inr d)) :: some (.inr (.inr e)) :: L) (S) h := propext ⟨fun q => And.right (a := (9 < (l0 :: l1 :: l2 :: l3 :: l4 :: l5 :: l6 :: l7 :: some (.inr (.inr d)) :: lx :: L).length)) q, fun q => (⟨by simp only [List.length_cons]; omega, q⟩ : (9 < (l0 :: l1 :: l2 :: l3 :: l4 :: l5 :: l6 :: l7 :: some (.inr (.inr d)) :: lx :: L).length) ∧ _)⟩
theorem xl_iinc9a {l0 l1 l2 l3 l4 l5 l6 l7 : Option dk_V} {d : Nat} {e c : Int} : dk_r G R J (.inl (.iinc 9 c) :: is) (l0 :: l1 :: l2 :: l3 :: l4 :: l5 :: l6 :: l7 :: some (.inr (.inr d)) :: some (.inl e) :: L) (S) h = dk_r G R J is (l0 :: l1 :: l2 :: l3 :: l4 :: l5 :: l6 :: l7 :: some (.inr (.inr d)) :: some (.inl (e + c)) :: L) (S) h := propext ⟨fun q => And.right (a := True) q, fun q => (⟨trivial, q⟩ : True ∧ _)⟩
theorem xl_iload10 {l0 l1 l2 l3 l4 l5 l6 l7 l8 l9 : Option dk_V} {e : Int} : dk_r G R J (.inl (.iload 10) :: is) (l0 :: l1 :: l2 :: l3 :: l4 :: l5 :: l6 :: l7 :: l8 :: l9 :: some (.inl e) :: L) (S) h = dk_r G R J is (l0 :: l1 :: l2 :: l3 :: l4 :: l5 :: l6 :: l7 :: l8 :: l9 :: some (.inl e) :: L) (.inl e :: S) h := propext ⟨fun q => And.right (a := True) q, fun q => (⟨trivial, q⟩ : True ∧ _)⟩
theorem xl_aload10 {l0 l1 l2 l3 l4 l5 l6 l7 l8 l9 : Option dk_V} {e : Nat} : dk_r G R J (.inl (.aload 10) :: is) (l0 :: l1 :: l2 :: l3 :: l4 :: l5 :: l6 :: l7 :: l8 :: l9 :: some (.inr (.inr e)) :: L) (S) h = dk_r G R J is (l0 :: l1 :: l2 :: l3 :: l4 :: l5 :: l6 :: l7 :: l8 :: l9 :: some (.inr (.inr e)) :: L) (.inr (.inr e) :: S) h := propext ⟨fun q => And.right (a := True) q, fun q => (⟨trivial, q⟩ : True ∧ _)⟩
theorem xl_istore10n {l0 l1 l2 l3 l4 l5 l6 l7 l8 : Option dk_V} {lx : Option dk_V} {e : Int} : dk_r G R J (.inl (.istore 10) :: is) (l0 :: l1 :: l2 :: l3 :: l4 :: l5 :: l6 :: l7 :: l8 :: none :: lx :: L) (.inl e :: S) h = dk_r G R J is (l0 :: l1 :: l2 :: l3 :: l4 :: l5 :: l6 :: l7 :: l8 :: none :: some (.inl e) :: L) (S) h := propext ⟨fun q => And.right (a := (10 < (l0 :: l1 :: l2 :: l3 :: l4 :: l5 :: l6 :: l7 :: l8 :: none :: lx :: L).length)) q, fun q => (⟨by simp only [List.length_cons]; omega, q⟩ : (10 < (l0 :: l1 :: l2 :: l3 :: l4 :: l5 :: l6 :: l7 :: l8 :: none :: lx :: L).length) ∧ _)⟩
theorem xl_astore10n {l0 l1 l2 l3 l4 l5 l6 l7 l8 : Option dk_V} {lx : Option dk_V} {e : Nat} : dk_r G R J (.inl (.astore 10) :: is) (l0 :: l1 :: l2 :: l3 :: l4 :: l5 :: l6 :: l7 :: l8 :: none :: lx :: L) (.inr (.inr e) :: S) h = dk_r G R J is (l0 :: l1 :: l2 :: l3 :: l4 :: l5 :: l6 :: l7 :: l8 :: none :: some (.inr (.inr e)) :: L) (S) h := propext ⟨fun q => And.right (a := (10 < (l0 :: l1 :: l2 :: l3 :: l4 :: l5 :: l6 :: l7 :: l8 :: none :: lx :: L).length)) q, fun q => (⟨by simp only [List.length_cons]; omega, q⟩ : (10 < (l0 :: l1 :: l2 :: l3 :: l4 :: l5 :: l6 :: l7 :: l8 :: none :: lx :: L).length) ∧ _)⟩
theorem xl_iinc10n {l0 l1 l2 l3 l4 l5 l6 l7 l8 : Option dk_V} {e c : Int} : dk_r G R J (.inl (.iinc 10 c) :: is) (l0 :: l1 :: l2 :: l3 :: l4 :: l5 :: l6 :: l7 :: l8 :: none :: some (.inl e) :: L) (S) h = dk_r G R J is (l0 :: l1 :: l2 :: l3 :: l4 :: l5 :: l6 :: l7 :: l8 :: none :: some (.inl (e + c)) :: L) (S) h := propext ⟨fun q => And.right (a := True) q, fun q => (⟨trivial, q⟩ : True ∧ _)⟩
theorem xl_istore10i {l0 l1 l2 l3 l4 l5 l6 l7 l8 : Option dk_V} {d : Int} {lx : Option dk_V} {e : Int} : dk_r G R J (.inl (.istore 10) :: is) (l0 :: l1 :: l2 :: l3 :: l4 :: l5 :: l6 :: l7 :: l8 :: some (.inl d) :: lx :: L) (.inl e :: S) h = dk_r G R J is (l0 :: l1 :: l2 :: l3 :: l4 :: l5 :: l6 :: l7 :: l8 :: some (.inl d) :: some (.inl e) :: L) (S) h := propext ⟨fun q => And.right (a := (10 < (l0 :: l1 :: l2 :: l3 :: l4 :: l5 :: l6 :: l7 :: l8 :: some (.inl d) :: lx :: L).length)) q, fun q => (⟨by simp only [List.length_cons]; omega, q⟩ : (10 < (l0 :: l1 :: l2 :: l3 :: l4 :: l5 :: l6 :: l7 :: l8 :: some (.inl d) :: lx :: L).length) ∧ _)⟩
theorem xl_astore10i {l0 l1 l2 l3 l4 l5 l6 l7 l8 : Option dk_V} {d : Int} {lx : Option dk_V} {e : Nat} : dk_r G R J (.inl (.astore 10) :: is) (l0 :: l1 :: l2 :: l3 :: l4 :: l5 :: l6 :: l7 :: l8 :: some (.inl d) :: lx :: L) (.inr (.inr e) :: S) h = dk_r G R J is (l0 :: l1 :: l2 :: l3 :: l4 :: l5 :: l6 :: l7 :: l8 :: some (.inl d) :: some (.inr (.inr e)) :: L) (S) h := propext ⟨fun q => And.right (a := (10 < (l0 :: l1 :: l2 :: l3 :: l4 :: l5 :: l6 :: l7 :: l8 :: some (.inl d) :: lx :: L).length)) q, fun q => (⟨by simp only [List.length_cons]; omega, q⟩ : (10 < (l0 :: l1 :: l2 :: l3 :: l4 :: l5 :: l6 :: l7 :: l8 :: some (.inl d) :: lx :: L).length) ∧ _)⟩
theorem xl_iinc10i {l0 l1 l2 l3 l4 l5 l6 l7 l8 : Option dk_V} {d : Int} {e c : Int} : dk_r G R J (.inl (.iinc 10 c) :: is) (l0 :: l1 :: l2 :: l3 :: l4 :: l5 :: l6 :: l7 :: l8 :: some (.inl d) :: some (.inl e) :: L) (S) h = dk_r G R J is (l0 :: l1 :: l2 :: l3 :: l4 :: l5 :: l6 :: l7 :: l8 :: some (.inl d) :: some (.inl (e + c)) :: L) (S) h := propext ⟨fun q => And.right (a := True) q, fun q => (⟨trivial, q⟩ : True ∧ _)⟩
theorem xl_istore10a {l0 l1 l2 l3 l4 l5 l6 l7 l8 : Option dk_V} {d : Nat} {lx : Option dk_V} {e : Int} : dk_r G R J (.inl (.istore 10) :: is) (l0 :: l1 :: l2 :: l3 :: l4 :: l5 :: l6 :: l7 :: l8 :: some (.inr (.inr d)) :: lx :: L) (.inl e :: S) h = dk_r G R J is (l0 :: l1 :: l2 :: l3 :: l4 :: l5 :: l6 :: l7 :: l8 :: some (.inr (.inr d)) :: some (.inl e) :: L) (S) h := propext ⟨fun q => And.right (a := (10 < (l0 :: l1 :: l2 :: l3 :: l4 :: l5 :: l6 :: l7 :: l8 :: some (.inr (.inr d)) :: lx :: L).length)) q, fun q => (⟨by simp only [List.length_cons]; omega, q⟩ : (10 < (l0 :: l1 :: l2 :: l3 :: l4 :: l5 :: l6 :: l7 :: l8 :: some (.inr (.inr d)) :: lx :: L).length) ∧ _)⟩
theorem xl_astore10a {l0 l1 l2 l3 l4 l5 l6 l7 l8 : Option dk_V} {d : Nat} {lx : Option dk_V} {e : Nat} : dk_r G R J (.inl (.astore 10) :: is) (l0 :: l1 :: l2 :: l3 :: l4 :: l5 :: l6 :: l7 :: l8 :: some (.inr (.inr d)) :: lx :: L) (.inr (.inr e) :: S) h = dk_r G R J is (l0 :: l1 :: l2 :: l3 :: l4 :: l5 :: l6 :: l7 :: l8 :: some (.inr (.inr d)) :: some (.inr (.inr e)) :: L) (S) h := propext ⟨fun q => And.right (a := (10 < (l0 :: l1 :: l2 :: l3 :: l4 :: l5 :: l6 :: l7 :: l8 :: some (.inr (.inr d)) :: lx :: L).length)) q, fun q => (⟨by simp only [List.length_cons]; omega, q⟩ : (10 < (l0 :: l1 :: l2 :: l3 :: l4 :: l5 :: l6 :: l7 :: l8 :: some (.inr (.inr d)) :: lx :: L).length) ∧ _)⟩
theorem xl_iinc10a {l0 l1 l2 l3 l4 l5 l6 l7 l8 : Option dk_V} {d : Nat} {e c : Int} : dk_r G R J (.inl (.iinc 10 c) :: is) (l0 :: l1 :: l2 :: l3 :: l4 :: l5 :: l6 :: l7 :: l8 :: some (.inr (.inr d)) :: some (.inl e) :: L) (S) h = dk_r G R J is (l0 :: l1 :: l2 :: l3 :: l4 :: l5 :: l6 :: l7 :: l8 :: some (.inr (.inr d)) :: some (.inl (e + c)) :: L) (S) h := propext ⟨fun q => And.right (a := True) q, fun q => (⟨trivial, q⟩ : True ∧ _)⟩
theorem xl_iload11 {l0 l1 l2 l3 l4 l5 l6 l7 l8 l9 l10 : Option dk_V} {e : Int} : dk_r G R J (.inl (.iload 11) :: is) (l0 :: l1 :: l2 :: l3 :: l4 :: l5 :: l6 :: l7 :: l8 :: l9 :: l10 :: some (.inl e) :: L) (S) h = dk_r G R J is (l0 :: l1 :: l2 :: l3 :: l4 :: l5 :: l6 :: l7 :: l8 :: l9 :: l10 :: some (.inl e) :: L) (.inl e :: S) h := propext ⟨fun q => And.right (a := True) q, fun q => (⟨trivial, q⟩ : True ∧ _)⟩
theorem xl_aload11 {l0 l1 l2 l3 l4 l5 l6 l7 l8 l9 l10 : Option dk_V} {e : Nat} : dk_r G R J (.inl (.aload 11) :: is) (l0 :: l1 :: l2 :: l3 :: l4 :: l5 :: l6 :: l7 :: l8 :: l9 :: l10 :: some (.inr (.inr e)) :: L) (S) h = dk_r G R J is (l0 :: l1 :: l2 :: l3 :: l4 :: l5 :: l6 :: l7 :: l8 :: l9 :: l10 :: some (.inr (.inr e)) :: L) (.inr (.inr e) :: S) h := propext ⟨fun q => And.right (a := True) q, fun q => (⟨trivial, q⟩ : True ∧ _)⟩
theorem xl_istore11n {l0 l1 l2 l3 l4 l5 l6 l7 l8 l9 : Option dk_V} {lx : Option dk_V} {e : Int} : dk_r G R J (.inl (.istore 11) :: is) (l0 :: l1 :: l2 :: l3 :: l4 :: l5 :: l6 :: l7 :: l8 :: l9 :: none :: lx :: L) (.inl e :: S) h = dk_r G R J is (l0 :: l1 :: l2 :: l3 :: l4 :: l5 :: l6 :: l7 :: l8 :: l9 :: none :: some (.inl e) :: L) (S) h := propext ⟨fun q => And.right (a := (11 < (l0 :: l1 :: l2 :: l3 :: l4 :: l5 :: l6 :: l7 :: l8 :: l9 :: none :: lx :: L).length)) q, fun q => (⟨by simp only [List.length_cons]; omega, q⟩ : (11 < (l0 :: l1 :: l2 :: l3 :: l4 :: l5 :: l6 :: l7 :: l8 :: l9 :: none :: lx :: L).length) ∧ _)⟩
theorem xl_astore11n {l0 l1 l2 l3 l4 l5 l6 l7 l8 l9 : Option dk_V} {lx : Option dk_V} {e : Nat} : dk_r G R J (.inl (.astore 11) :: is) (l0 :: l1 :: l2 :: l3 :: l4 :: l5 :: l6 :: l7 :: l8 :: l9 :: none :: lx :: L) (.inr (.inr e) :: S) h = dk_r G R J is (l0 :: l1 :: l2 :: l3 :: l4 :: l5 :: l6 :: l7 :: l8 :: l9 :: none :: some (.inr (.inr e)) :: L) (S) h := propext ⟨fun q => And.right (a := (11 < (l0 :: l1 :: l2 :: l3 :: l4 :: l5 :: l6 :: l7 :: l8 :: l9 :: none :: lx :: L).length)) q, fun q => (⟨by simp only [List.length_cons]; omega, q⟩ : (11 < (l0 :: l1 :: l2 :: l3 :: l4 :: l5 :: l6 :: l7 :: l8 :: l9 :: none :: lx :: L).length) ∧ _)⟩
theorem xl_iinc11n {l0 l1 l2 l3 l4 l5 l6 l7 l8 l9 : Option dk_V} {e c : Int} : dk_r G R J (.inl (.iinc 11 c) :: is) (l0 :: l1 :: l2 :: l3 :: l4 :: l5 :: l6 :: l7 :: l8 :: l9 :: none :: some (.inl e) :: L) (S) h = dk_r G R J is (l0 :: l1 :: l2 :: l3 :: l4 :: l5 :: l6 :: l7 :: l8 :: l9 :: none :: some (.inl (e + c)) :: L) (S) h := propext ⟨fun q => And.right (a := True) q, fun q => (⟨trivial, q⟩ : True ∧ _)⟩
theorem xl_istore11i {l0 l1 l2 l3 l4 l5 l6 l7 l8 l9 : Option dk_V} {d : Int} {lx : Option dk_V} {e : Int} : dk_r G R J (.inl (.istore 11) :: is) (l0 :: l1 :: l2 :: l3 :: l4 :: l5 :: l6 :: l7 :: l8 :: l9 :: some (.inl d) :: lx :: L) (.inl e :: S) h = dk_r G R J is (l0 :: l1 :: l2 :: l3 :: l4 :: l5 :: l6 :: l7 :: l8 :: l9 :: some (.inl d) :: some (.inl e) :: L) (S) h := propext ⟨fun q => And.right (a := (11 < (l0 :: l1 :: l2 :: l3 :: l4 :: l5 :: l6 :: l7 :: l8 :: l9 :: some (.inl d) :: lx :: L).length)) q, fun q => (⟨by simp only [List.length_cons]; omega, q⟩ : (11 < (l0 :: l1 :: l2 :: l3 :: l4 :: l5 :: l6 :: l7 :: l8 :: l9 :: some (.inl d) :: lx :: L).length) ∧ _)⟩
theorem xl_astore11i {l0 l1 l2 l3 l4 l5 l6 l7 l8 l9 : Option dk_V} {d : Int} {lx : Option dk_V} {e : Nat} : dk_r G R J (.inl (.astore 11) :: is) (l0 :: l1 :: l2 :: l3 :: l4 :: l5 :: l6 :: l7 :: l8 :: l9 :: some (.inl d) :: lx :: L) (.inr (.inr e) :: S) h = dk_r G R J is (l0 :: l1 :: l2 :: l3 :: l4 :: l5 :: l6 :: l7 :: l8 :: l9 :: some (.inl d) :: some (.inr (.inr e)) :: L) (S) h := propext ⟨fun q => And.right (a := (11 < (l0 :: l1 :: l2 :: l3 :: l4 :: l5 :: l6 :: l7 :: l8 :: l9 :: some (.inl d) :: lx :: L).length)) q, fun q => (⟨by simp only [List.length_cons]; omega, q⟩ : (11 < (l0 :: l1 :: l2 :: l3 :: l4 :: l5 :: l6 :: l7 :: l8 :: l9 :: some (.inl d) :: lx :: L).length) ∧ _)⟩
theorem xl_iinc11i {l0 l1 l2 l3 l4 l5 l6 l7 l8 l9 : Option dk_V} {d : Int} {e c : Int} : dk_r G R J (.inl (.iinc 11 c) :: is) (l0 :: l1 :: l2 :: l3 :: l4 :: l5 :: l6 :: l7 :: l8 :: l9 :: some (.inl d) :: some (.inl e) :: L) (S) h = dk_r G R J is (l0 :: l1 :: l2 :: l3 :: l4 :: l5 :: l6 :: l7 :: l8 :: l9 :: some (.inl d) :: some (.inl (e + c)) :: L) (S) h := propext ⟨fun q => And.right (a := True) q, fun q => (⟨trivial, q⟩ : True ∧ _)⟩
theorem xl_istore11a {l0 l1 l2 l3 l4 l5 l6 l7 l8 l9 : Option dk_V} {d : Nat} {lx : Option dk_V} {e : Int} : dk_r G R J (.inl (.istore 11) :: is) (l0 :: l1 :: l2 :: l3 :: l4 :: l5 :: l6 :: l7 :: l8 :: l9 :: some (.inr (.inr d)) :: lx :: L) (.inl e :: S) h = dk_r G R J is (l0 :: l1 :: l2 :: l3 :: l4 :: l5 :: l6 :: l7 :: l8 :: l9 :: some (.inr (.inr d)) :: some (.inl e) :: L) (S) h := propext ⟨fun q => And.right (a := (11 < (l0 :: l1 :: l2 :: l3 :: l4 :: l5 :: l6 :: l7 :: l8 :: l9 :: some (.inr (.inr d)) :: lx :: L).length)) q, fun q => (⟨by simp only [List.length_cons]; omega, q⟩ : (11 < (l0 :: l1 :: l2 :: l3 :: l4 :: l5 :: l6 :: l7 :: l8 :: l9 :: some (.inr (.inr d)) :: lx :: L).length) ∧ _)⟩
theorem xl_astore11a {l0 l1 l2 l3 l4 l5 l6 l7 l8 l9 : Option dk_V} {d : Nat} {lx : Option dk_V} {e : Nat} : dk_r G R J (.inl (.astore 11) :: is) (l0 :: l1 :: l2 :: l3 :: l4 :: l5 :: l6 :: l7 :: l8 :: l9 :: some (.inr (.inr d)) :: lx :: L) (.inr (.inr e) :: S) h = dk_r G R J is (l0 :: l1 :: l2 :: l3 :: l4 :: l5 :: l6 :: l7 :: l8 :: l9 :: some (.inr (.inr d)) :: some (.inr (.inr e)) :: L) (S) h := propext ⟨fun q => And.right (a := (11 < (l0 :: l1 :: l2 :: l3 :: l4 :: l5 :: l6 :: l7 :: l8 :: l9 :: some (.inr (.inr d)) :: lx :: L).length)) q, fun q => (⟨by simp only [List.length_cons]; omega, q⟩ : (11 < (l0 :: l1 :: l2 :: l3 :: l4 :: l5 :: l6 :: l7 :: l8 :: l9 :: some (.inr (.inr d)) :: lx :: L).length) ∧ _)⟩
theorem xl_iinc11a {l0 l1 l2 l3 l4 l5 l6 l7 l8 l9 : Option dk_V} {d : Nat} {e c : Int} : dk_r G R J (.inl (.iinc 11 c) :: is) (l0 :: l1 :: l2 :: l3 :: l4 :: l5 :: l6 :: l7 :: l8 :: l9 :: some (.inr (.inr d)) :: some (.inl e) :: L) (S) h = dk_r G R J is (l0 :: l1 :: l2 :: l3 :: l4 :: l5 :: l6 :: l7 :: l8 :: l9 :: some (.inr (.inr d)) :: some (.inl (e + c)) :: L) (S) h := propext ⟨fun q => And.right (a := True) q, fun q => (⟨trivial, q⟩ : True ∧ _)⟩
theorem xl_iload12 {l0 l1 l2 l3 l4 l5 l6 l7 l8 l9 l10 l11 : Option dk_V} {e : Int} : dk_r G R J (.inl (.iload 12) :: is) (l0 :: l1 :: l2 :: l3 :: l4 :: l5 :: l6 :: l7 :: l8 :: l9 :: l10 :: l11 :: some (.inl e) :: L) (S) h = dk_r G R J is (l0 :: l1 :: l2 :: l3 :: l4 :: l5 :: l6 :: l7 :: l8 :: l9 :: l10 :: l11 :: some (.inl e) :: L) (.inl e :: S) h := propext ⟨fun q => And.right (a := True) q, fun q => (⟨trivial, q⟩ : True ∧ _)⟩
theorem xl_aload12 {l0 l1 l2 l3 l4 l5 l6 l7 l8 l9 l10 l11 : Option dk_V} {e : Nat} : dk_r G R J (.inl (.aload 12) :: is) (l0 :: l1 :: l2 :: l3 :: l4 :: l5 :: l6 :: l7 :: l8 :: l9 :: l10 :: l11 :: some (.inr (.inr e)) :: L) (S) h = dk_r G R J is (l0 :: l1 :: l2 :: l3 :: l4 :: l5 :: l6 :: l7 :: l8 :: l9 :: l10 :: l11 :: some (.inr (.inr e)) :: L) (.inr (.inr e) :: S) h := propext ⟨fun q => And.right (a := True) q, fun q => (⟨trivial, q⟩ : True ∧ _)⟩
theorem xl_istore12n {l0 l1 l2 l3 l4 l5 l6 l7 l8 l9 l10 : Option dk_V} {lx : Option dk_V} {e : Int} : dk_r G R J (.inl (.istore 12) :: is) (l0 :: l1 :: l2 :: l3 :: l4 :: l5 :: l6 :: l7 :: l8 :: l9 :: l10 :: none :: lx :: L) (.inl e :: S) h = dk_r G R J is (l0 :: l1 :: l2 :: l3 :: l4 :: l5 :: l6 :: l7 :: l8 :: l9 :: l10 :: none :: some (.inl e) :: L) (S) h := propext ⟨fun q => And.right (a := (12 < (l0 :: l1 :: l2 :: l3 :: l4 :: l5 :: l6 :: l7 :: l8 :: l9 :: l10 :: none :: lx :: L).length)) q, fun q => (⟨by simp only [List.length_cons]; omega, q⟩ : (12 < (l0 :: l1 :: l2 :: l3 :: l4 :: l5 :: l6 :: l7 :: l8 :: l9 :: l10 :: none :: lx :: L).length) ∧ _)⟩
theorem xl_astore12n {l0 l1 l2 l3 l4 l5 l6 l7 l8 l9 l10 : Option dk_V} {lx : Option dk_V} {e : Nat} : dk_r G R J (.inl (.astore 12) :: is) (l0 :: l1 :: l2 :: l3 :: l4 :: l5 :: l6 :: l7 :: l8 :: l9 :: l10 :: none :: lx :: L) (.inr (.inr e) :: S) h = dk_r G R J is (l0 :: l1 :: l2 :: l3 :: l4 :: l5 :: l6 :: l7 :: l8 :: l9 :: l10 :: none :: some (.inr (.inr e)) :: L) (S) h := propext ⟨fun q => And.right (a := (12 < (l0 :: l1 :: l2 :: l3 :: l4 :: l5 :: l6 :: l7 :: l8 :: l9 :: l10 :: none :: lx :: L).length)) q, fun q => (⟨by simp only [List.length_cons]; omega, q⟩ : (12 < (l0 :: l1 :: l2 :: l3 :: l4 :: l5 :: l6 :: l7 :: l8 :: l9 :: l10 :: none :: lx :: L).length) ∧ _)⟩
theorem xl_iinc12n {l0 l1 l2 l3 l4 l5 l6 l7 l8 l9 l10 : Option dk_V} {e c : Int} : dk_r G R J (.inl (.iinc 12 c) :: is) (l0 :: l1 :: l2 :: l3 :: l4 :: l5 :: l6 :: l7 :: l8 :: l9 :: l10 :: none :: some (.inl e) :: L) (S) h = dk_r G R J is (l0 :: l1 :: l2 :: l3 :: l4 :: l5 :: l6 :: l7 :: l8 :: l9 :: l10 :: none :: some (.inl (e + c)) :: L) (S) h := propext ⟨fun q => And.right (a := True) q, fun q => (⟨trivial, q⟩ : True ∧ _)⟩
theorem xl_istore12i {l0 l1 l2 l3 l4 l5 l6 l7 l8 l9 l10 : Option dk_V} {d : Int} {lx : Option dk_V} {e : Int} : dk_r G R J (.inl (.istore 12) :: is) (l0 :: l1 :: l2 :: l3 :: l4 :: l5 :: l6 :: l7 :: l8 :: l9 :: l10 :: some (.inl d) :: lx :: L) (.inl e :: S) h = dk_r G R J is (l0 :: l1 :: l2 :: l3 :: l4 :: l5 :: l6 :: l7 :: l8 :: l9 :: l10 :: some (.inl d) :: some (.inl e) :: L) (S) h := propext ⟨fun q => And.right (a := (12 < (l0 :: l1 :: l2 :: l3 :: l4 :: l5 :: l6 :: l7 :: l8 :: l9 :: l10 :: some (.inl d) :: lx :: L).length)) q, fun q => (⟨by simp only [List.length_cons]; omega, q⟩ : (12 < (l0 :: l1 :: l2 :: l3 :: l4 :: l5 :: l6 :: l7 :: l8 :: l9 :: l10 :: some (.inl d) :: lx :: L).length) ∧ _)⟩
theorem xl_astore12i {l0 l1 l2 l3 l4 l5 l6 l7 l8 l9 l10 : Option dk_V} {d : Int} {lx : Option dk_V} {e : Nat} : dk_r G R J (.inl (.astore 12) :: is) (l0 :: l1 :: l2 :: l3 :: l4 :: l5 :: l6 :: l7 :: l8 :: l9 :: l10 :: some (.inl d) :: lx :: L) (.inr (.inr e) :: S) h = dk_r G R J is (l0 :: l1 :: l2 :: l3 :: l4 :: l5 :: l6 :: l7 :: l8 :: l9 :: l10 :: some (.inl d) :: some (.inr (.inr e)) :: L) (S) h := propext ⟨fun q => And.right (a := (12 < (l0 :: l1 :: l2 :: l3 :: l4 :: l5 :: l6 :: l7 :: l8 :: l9 :: l10 :: some (.inl d) :: lx :: L).length)) q, fun q => (⟨by simp only [List.length_cons]; omega, q⟩ : (12 < (l0 :: l1 :: l2 :: l3 :: l4 :: l5 :: l6 :: l7 :: l8 :: l9 :: l10 :: some (.inl d) :: lx :: L).length) ∧ _)⟩
theorem xl_iinc12i {l0 l1 l2 l3 l4 l5 l6 l7 l8 l9 l10 : Option dk_V} {d : Int} {e c : Int} : dk_r G R J (.inl (.iinc 12 c) :: is) (l0 :: l1 :: l2 :: l3 :: l4 :: l5 :: l6 :: l7 :: l8 :: l9 :: l10 :: some (.inl d) :: some (.inl e) :: L) (S) h = dk_r G R J is (l0 :: l1 :: l2 :: l3 :: l4 :: l5 :: l6 :: l7 :: l8 :: l9 :: l10 :: some (.inl d) :: some (.inl (e + c)) :: L) (S) h := propext ⟨fun q => And.right (a := True) q, fun q => (⟨trivial, q⟩ : True ∧ _)⟩
theorem xl_istore12a {l0 l1 l2 l3 l4 l5 l6 l7 l8 l9 l10 : Option dk_V} {d : Nat} {lx : Option dk_V} {e : Int} : dk_r G R J (.inl (.istore 12) :: is) (l0 :: l1 :: l2 :: l3 :: l4 :: l5 :: l6 :: l7 :: l8 :: l9 :: l10 :: some (.inr (.inr d)) :: lx :: L) (.inl e :: S) h = dk_r G R J is (l0 :: l1 :: l2 :: l3 :: l4 :: l5 :: l6 :: l7 :: l8 :: l9 :: l10 :: some (.inr (.inr d)) :: some (.inl e) :: L) (S) h := propext ⟨fun q => And.right (a := (12 < (l0 :: l1 :: l2 :: l3 :: l4 :: l5 :: l6 :: l7 :: l8 :: l9 :: l10 :: some (.inr (.inr d)) :: lx :: L).length)) q, fun q => (⟨by simp only [List.length_cons]; omega, q⟩ : (12 < (l0 :: l1 :: l2 :: l3 :: l4 :: l5 :: l6 :: l7 :: l8 :: l9 :: l10 :: some (.inr (.inr d)) :: lx :: L).length) ∧ _)⟩
theorem xl_astore12a {l0 l1 l2 l3 l4 l5 l6 l7 l8 l9 l10 : Option dk_V} {d : Nat} {lx : Option dk_V} {e : Nat} : dk_r G R J (.inl (.astore 12) :: is) (l0 :: l1 :: l2 :: l3 :: l4 :: l5 :: l6 :: l7 :: l8 :: l9 :: l10 :: some (.inr (.inr d)) :: lx :: L) (.inr (.inr e) :: S) h = dk_r G R J is (l0 :: l1 :: l2 :: l3 :: l4 :: l5 :: l6 :: l7 :: l8 :: l9 :: l10 :: some (.inr (.inr d)) :: some (.inr (.inr e)) :: L) (S) h := propext ⟨fun q => And.right (a := (12 < (l0 :: l1 :: l2 :: l3 :: l4 :: l5 :: l6 :: l7 :: l8 :: l9 :: l10 :: some (.inr (.inr d)) :: lx :: L).length)) q, fun q => (⟨by simp only [List.length_cons]; omega, q⟩ : (12 < (l0 :: l1 :: l2 :: l3 :: l4 :: l5 :: l6 :: l7 :: l8 :: l9 :: l10 :: some (.inr (.inr d)) :: lx :: L).length) ∧ _)⟩
theorem xl_iinc12a {l0 l1 l2 l3 l4 l5 l6 l7 l8 l9 l10 : Option dk_V} {d : Nat} {e c : Int} : dk_r G R J (.inl (.iinc 12 c) :: is) (l0 :: l1 :: l2 :: l3 :: l4 :: l5 :: l6 :: l7 :: l8 :: l9 :: l10 :: some (.inr (.inr d)) :: some (.inl e) :: L) (S) h = dk_r G R J is (l0 :: l1 :: l2 :: l3 :: l4 :: l5 :: l6 :: l7 :: l8 :: l9 :: l10 :: some (.inr (.inr d)) :: some (.inl (e + c)) :: L) (S) h := propext ⟨fun q => And.right (a := True) q, fun q => (⟨trivial, q⟩ : True ∧ _)⟩
end XR
end
