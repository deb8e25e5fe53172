/-! THE METHODS: blocks, meanings -/
def y_9_fill : MethodName := ⟨"java/util/Arrays", "fill", "([II)V"⟩
def b_9_fill : dk_T := [
  ([true, true, false, false], [.inl (.iconst 0), .inl (.istore 2), .inl (.aload 0), .inl .arraylength, .inl (.istore 3), .inr (7, 1, 1)]),
  ([true, true, true, true], [.inl (.iload 2), .inl (.iload 3), .inl (.if_icmp .ge 2), .inl (.aload 0), .inl (.iload 2), .inl (.iload 1), .inl .iastore, .inl (.iinc 2 (1)), .inr (7, 1, 0)]),
  ([false, false, false, false], [.inl .return_])]
def g_9_fill : List (Nat × dk_S) := []
def s_9_fill : dk_S := dk_M g_9_fill b_9_fill 4
theorem h_9_fill : dk_monoG g_9_fill := dk_monoG_nil
theorem o_9_fill : dk_mono s_9_fill := dk_M_mono h_9_fill _ _
def t_9_fill : dk_Tm := (tc_n, [], [0, 5, 20], 2)
def y_5_isWithin : MethodName := ⟨nn_R5, "isWithin", "(III)Z"⟩
def b_5_isWithin : dk_T := [
  ([true, true, true], [.inl (.iload 0), .inl (.iload 1), .inl (.if_icmp .lt 1), .inl (.iload 0), .inl (.iload 2), .inl (.if_icmp .gt 1), .inl (.iconst 1), .inr (7, 2, 0)]),
  ([false, false, false], [.inl (.iconst 0), .inr (7, 2, 1)]),
  ([false, false, false], [.inl .lreturn])]
def g_5_isWithin : List (Nat × dk_S) := []
def s_5_isWithin : dk_S := dk_M g_5_isWithin b_5_isWithin 3
theorem h_5_isWithin : dk_monoG g_5_isWithin := dk_monoG_nil
theorem o_5_isWithin : dk_mono s_5_isWithin := dk_M_mono h_5_isWithin _ _
def t_5_isWithin : dk_Tm := (tc_5, [], [0, 14, 15], 1)
def y_5_finding : MethodName := ⟨nn_R5, "finding", "(I)I"⟩
def b_5_finding : dk_T := [
  ([true, true], [.inl (.aload 0), .inr (0, 5, 10), .inl (.iload 1), .inl .dup2, .inl .iaload, .inl (.iconst 1), .inl .iadd, .inl .iastore, .inl (.iconst (-1000001)), .inl (.iload 1), .inl .isub, .inl .ireturn])]
def g_5_finding : List (Nat × dk_S) := []
def s_5_finding : dk_S := dk_MV 5 g_5_finding b_5_finding 2
theorem h_5_finding : dk_monoG g_5_finding := dk_monoG_nil
theorem o_5_finding : dk_mono s_5_finding := dk_MV_mono _ h_5_finding _ _
def t_5_finding : dk_Tm := (tc_5, [], [0], 0)
def y_5_wrapped : MethodName := ⟨nn_R5, "wrapped", "(II)I"⟩
def b_5_wrapped : dk_T := [
  ([true, true, false], [.inl (.iload 1), .inl (.iconst 1), .inl (.if_icmp .ge 1), .inl (.iload 0), .inl .ireturn]),
  ([true, true, false], [.inl (.iload 0), .inl (.iload 1), .inl .irem, .inl (.istore 2), .inl (.iconst 2), .inl (.iload 2), .inl .imul, .inl (.iload 1), .inl (.if_icmp .le 2), .inl (.iload 2), .inl (.iload 1), .inl .isub, .inl .ireturn]),
  ([false, true, true], [.inl (.iconst 2), .inl (.iload 2), .inl .imul, .inl (.iload 1), .inl .ineg, .inl (.if_icmp .gt 3), .inl (.iload 2), .inl (.iload 1), .inl .iadd, .inr (7, 4, 0)]),
  ([false, false, true], [.inl (.iload 2), .inr (7, 4, 1)]),
  ([false, false, false], [.inl .ireturn])]
def g_5_wrapped : List (Nat × dk_S) := []
def s_5_wrapped : dk_S := dk_M g_5_wrapped b_5_wrapped 3
theorem h_5_wrapped : dk_monoG g_5_wrapped := dk_monoG_nil
theorem o_5_wrapped : dk_mono s_5_wrapped := dk_M_mono h_5_wrapped _ _
def t_5_wrapped : dk_Tm := (tc_5, [], [0, 7, 22, 36, 37], 0)
def y_0_wrap : MethodName := ⟨nn_R0, "wrap", "(I)I"⟩
def b_0_wrap : dk_T := [
  ([true, true], [.inl (.iload 1), .inl (.aload 0), .inr (0, 0, 0), .inl (.iconst 0), .inl .iaload, .inr (5, 0, 1), .inl .ireturn])]
def g_0_wrap : List (Nat × dk_S) := [(2, s_5_wrapped)]
def s_0_wrap : dk_S := dk_MV 0 g_0_wrap b_0_wrap 2
theorem h_0_wrap : dk_monoG g_0_wrap := dk_monoG_cons o_5_wrapped (dk_monoG_nil)
theorem o_0_wrap : dk_mono s_0_wrap := dk_MV_mono _ h_0_wrap _ _
def t_0_wrap : dk_Tm := (tc_0, [(81, 1, 0)], [0], 0)
def y_0_wrapAnew : MethodName := ⟨nn_R0, "wrapAnew", "()V"⟩
def b_0_wrapAnew : dk_T := [
  ([true, false], [.inl (.iconst 0), .inl (.istore 1), .inr (7, 1, 1)]),
  ([true, true], [.inl (.iload 1), .inl (.aload 0), .inr (0, 0, 1), .inl (.if_icmp .ge 2), .inl (.aload 0), .inr (0, 0, 7), .inl (.iload 1), .inl (.aload 0), .inl (.aload 0), .inr (0, 0, 7), .inl (.iload 1), .inl .iaload, .inr (5, 0, 0), .inl .iastore, .inl (.iinc 1 (1)), .inr (7, 1, 0)]),
  ([false, false], [.inl .return_])]
def g_0_wrapAnew : List (Nat × dk_S) := [(2, s_0_wrap)]
def s_0_wrapAnew : dk_S := dk_MV 0 g_0_wrapAnew b_0_wrapAnew 2
theorem h_0_wrapAnew : dk_monoG g_0_wrapAnew := dk_monoG_cons o_0_wrap (dk_monoG_nil)
theorem o_0_wrapAnew : dk_mono s_0_wrapAnew := dk_MV_mono _ h_0_wrapAnew _ _
def t_0_wrapAnew : dk_Tm := (tc_0, [(85, 0, 0)], [0, 2, 32], 2)
def y_5_rule : MethodName := ⟨nn_R5, "rule", "(II)I"⟩
def b_5_rule : dk_T := [
  ([true, true, true, false], [.inl (.iload 1), .inl (.iconst 0), .inl (.iconst 6), .inr (5, 0, 1), .inl (.ifCond .eq 1), .inl (.iload 2), .inr (6, 101, 0), .inl (.iload 1), .inl .iaload, .inr (6, 102, 0), .inl (.iload 1), .inl .iaload, .inr (5, 0, 1), .inl (.ifCond .ne 2), .inr (7, 1, 1)]),
  ([true, false, false, false], [.inl (.aload 0), .inl (.iconst 0), .inr (5, 1, 0), .inl .ireturn]),
  ([true, true, true, false], [.inl (.aload 0), .inr (0, 5, 0), .inr (0, 0, 0), .inl (.iload 1), .inl .iaload, .inl (.istore 3), .inl (.aload 0), .inr (0, 5, 0), .inr (0, 0, 0), .inl (.iload 1), .inl (.iload 2), .inl .iastore, .inl (.iload 1), .inl (.ifCond .ne 3), .inl (.aload 0), .inr (0, 5, 0), .inr (5, 2, 0), .inr (7, 3, 1)]),
  ([false, false, false, true], [.inl (.iload 3), .inl .ireturn])]
def g_5_rule : List (Nat × dk_S) := [(3, s_5_isWithin), (2, s_5_finding), (1, s_0_wrapAnew)]
def s_5_rule : dk_S := dk_MV 5 g_5_rule b_5_rule 4
theorem h_5_rule : dk_monoG g_5_rule := dk_monoG_cons o_5_isWithin (dk_monoG_cons o_5_finding (dk_monoG_cons o_0_wrapAnew (dk_monoG_nil)))
theorem o_5_rule : dk_mono s_5_rule := dk_MV_mono _ h_5_rule _ _
def t_5_rule : dk_Tm := (tc_5, [(68, 1, 0), (78, 0, 1), (85, 0, 2)], [0, 27, 33, 64], 0)
def y_5_feed : MethodName := ⟨nn_R5, "feed", "(II)I"⟩
def b_5_feed : dk_T := [
  ([true, true, true, false], [.inl (.iload 2), .inl (.iconst 1), .inl (.iconst 4), .inr (5, 0, 1), .inl (.ifCond .ne 1), .inl (.aload 0), .inl (.iconst 0), .inr (5, 1, 0), .inl .ireturn]),
  ([true, true, true, false], [.inl (.aload 0), .inr (0, 5, 3), .inr (0, 3, 1), .inl (.iconst 120), .inl (.iload 2), .inl .isub, .inl (.if_icmp .le 2), .inl (.aload 0), .inl (.iconst 1), .inr (5, 1, 0), .inl .ireturn]),
  ([true, true, true, false], [.inl (.iload 2), .inl (.iconst 1), .inl .isub, .inl (.istore 3), .inr (7, 3, 1)]),
  ([true, true, false, true], [.inl (.iload 3), .inl (.ifCond .lt 4), .inl (.aload 0), .inr (0, 5, 3), .inr (0, 3, 0), .inl (.aload 0), .inr (0, 5, 3), .inr (0, 3, 1), .inl (.iload 1), .inl (.iconst 8), .inl (.iload 3), .inl .imul, .inl .iushr, .inl (.iconst 255), .inl .iand, .inl .iastore, .inl (.aload 0), .inr (0, 5, 3), .inl .dup, .inr (0, 3, 1), .inl (.iconst 1), .inl .iadd, .inr (1, 3, 1), .inl (.iinc 3 (-1)), .inr (7, 3, 0)]),
  ([true, false, false, false], [.inl (.aload 0), .inr (0, 5, 3), .inr (0, 3, 1), .inl .ireturn])]
def g_5_feed : List (Nat × dk_S) := [(3, s_5_isWithin), (2, s_5_finding)]
def s_5_feed : dk_S := dk_MV 5 g_5_feed b_5_feed 4
theorem h_5_feed : dk_monoG g_5_feed := dk_monoG_cons o_5_isWithin (dk_monoG_cons o_5_finding (dk_monoG_nil))
theorem o_5_feed : dk_mono s_5_feed := dk_MV_mono _ h_5_feed _ _
def t_5_feed : dk_Tm := (tc_5, [(68, 1, 0), (78, 0, 1)], [0, 15, 35, 39, 87], 0)
def y_5_wipe : MethodName := ⟨nn_R5, "wipe", "()I"⟩
def b_5_wipe : dk_T := [
  ([true, false], [.inl (.aload 0), .inr (0, 5, 3), .inr (0, 3, 1), .inl (.istore 1), .inl (.aload 0), .inr (0, 5, 3), .inl (.iconst 0), .inr (1, 3, 1), .inl (.iload 1), .inl .ireturn])]
def g_5_wipe : List (Nat × dk_S) := []
def s_5_wipe : dk_S := dk_MV 5 g_5_wipe b_5_wipe 2
theorem h_5_wipe : dk_monoG g_5_wipe := dk_monoG_nil
theorem o_5_wipe : dk_mono s_5_wipe := dk_MV_mono _ h_5_wipe _ _
def t_5_wipe : dk_Tm := (tc_5, [], [0], 0)
def y_3_tokenOf : MethodName := ⟨nn_R3, "tokenOf", "(I)I"⟩
def b_3_tokenOf : dk_T := [
  ([true], [.inl (.iload 0), .inl (.iconst 97), .inl (.if_icmp .lt 1), .inl (.iload 0), .inl (.iconst 122), .inl (.if_icmp .gt 1), .inl (.iconst 1), .inl .ireturn]),
  ([true], [.inl (.iload 0), .inl (.iconst 48), .inl (.if_icmp .lt 2), .inl (.iload 0), .inl (.iconst 57), .inl (.if_icmp .gt 2), .inl (.iconst 2), .inl .ireturn]),
  ([true], [.inl (.iload 0), .inl (.iconst 59), .inl (.if_icmp .ne 3), .inl (.iconst 3), .inl .ireturn]),
  ([true], [.inl (.iload 0), .inl (.iconst 32), .inl (.if_icmp .ne 4), .inl (.iconst 4), .inr (7, 5, 0)]),
  ([false], [.inl (.iconst 5), .inr (7, 5, 1)]),
  ([false], [.inl .ireturn])]
def g_3_tokenOf : List (Nat × dk_S) := []
def s_3_tokenOf : dk_S := dk_M g_3_tokenOf b_3_tokenOf 1
theorem h_3_tokenOf : dk_monoG g_3_tokenOf := dk_monoG_nil
theorem o_3_tokenOf : dk_mono s_3_tokenOf := dk_M_mono h_3_tokenOf _ _
def t_3_tokenOf : dk_Tm := (tc_3, [], [0, 14, 28, 36, 46, 47], 0)
def y_8_min : MethodName := ⟨"java/lang/Math", "min", "(II)I"⟩
def b_8_min : dk_T := [
  ([true, true], [.inl (.iload 0), .inl (.iload 1), .inl (.if_icmp .gt 1), .inl (.iload 0), .inr (7, 2, 0)]),
  ([false, true], [.inl (.iload 1), .inr (7, 2, 1)]),
  ([false, false], [.inl .ireturn])]
def g_8_min : List (Nat × dk_S) := []
def s_8_min : dk_S := dk_M g_8_min b_8_min 2
theorem h_8_min : dk_monoG g_8_min := dk_monoG_nil
theorem o_8_min : dk_mono s_8_min := dk_M_mono h_8_min _ _
def t_8_min : dk_Tm := (tc_n, [], [0, 9, 10], 0)
def y_3_nextToken : MethodName := ⟨nn_R3, "nextToken", "()V"⟩
def b_3_nextToken : dk_T := [
  ([true], [.inl (.aload 0), .inl (.aload 0), .inr (0, 3, 7), .inr (1, 3, 6), .inr (7, 1, 1)]),
  ([true], [.inl (.aload 0), .inr (0, 3, 6), .inl (.aload 0), .inr (0, 3, 1), .inl (.if_icmp .ge 2), .inl (.aload 0), .inr (0, 3, 0), .inl (.aload 0), .inr (0, 3, 6), .inl .iaload, .inr (5, 0, 1), .inl (.iconst 4), .inl (.if_icmp .ne 2), .inl (.aload 0), .inl .dup, .inr (0, 3, 6), .inl (.iconst 1), .inl .iadd, .inr (1, 3, 6), .inr (7, 1, 0)]),
  ([true], [.inl (.aload 0), .inl (.aload 0), .inr (0, 3, 6), .inr (1, 3, 7), .inl (.aload 0), .inl (.iconst 0), .inr (1, 3, 8), .inl (.aload 0), .inl (.aload 0), .inr (0, 3, 6), .inl (.aload 0), .inr (0, 3, 1), .inl (.if_icmp .ge 3), .inl (.aload 0), .inr (0, 3, 0), .inl (.aload 0), .inr (0, 3, 6), .inl .iaload, .inr (5, 0, 1), .inr (7, 4, 0)]),
  ([true], [.inl (.iconst 0), .inr (7, 4, 1)]),
  ([true], [.inr (1, 3, 5), .inl (.aload 0), .inr (0, 3, 5), .inl (.iconst 3), .inl (.if_icmp .eq 5), .inl (.aload 0), .inr (0, 3, 5), .inl (.iconst 5), .inl (.if_icmp .ne 6), .inr (7, 5, 1)]),
  ([true], [.inl (.aload 0), .inl .dup, .inr (0, 3, 7), .inl (.iconst 1), .inl .iadd, .inr (1, 3, 7), .inl .return_]),
  ([true], [.inl (.aload 0), .inr (0, 3, 7), .inl (.aload 0), .inr (0, 3, 1), .inl (.if_icmp .ge 8), .inl (.aload 0), .inr (0, 3, 0), .inl (.aload 0), .inr (0, 3, 7), .inl .iaload, .inr (5, 0, 1), .inl (.aload 0), .inr (0, 3, 5), .inl (.if_icmp .ne 8), .inl (.aload 0), .inr (0, 3, 5), .inl (.iconst 2), .inl (.if_icmp .ne 7), .inl (.aload 0), .inl (.aload 0), .inr (0, 3, 8), .inl (.iconst 10), .inl .imul, .inl (.aload 0), .inr (0, 3, 0), .inl (.aload 0), .inr (0, 3, 7), .inl .iaload, .inl .iadd, .inl (.iconst 48), .inl .isub, .inl (.iconst 10000), .inr (5, 1, 1), .inr (1, 3, 8), .inr (7, 7, 1)]),
  ([true], [.inl (.aload 0), .inl .dup, .inr (0, 3, 7), .inl (.iconst 1), .inl .iadd, .inr (1, 3, 7), .inr (7, 6, 0)]),
  ([false], [.inl .return_])]
def g_3_nextToken : List (Nat × dk_S) := [(1, s_3_tokenOf), (2, s_8_min)]
def s_3_nextToken : dk_S := dk_MV 3 g_3_nextToken b_3_nextToken 1
theorem h_3_nextToken : dk_monoG g_3_nextToken := dk_monoG_cons o_3_tokenOf (dk_monoG_cons o_8_min (dk_monoG_nil))
theorem o_3_nextToken : dk_mono s_3_nextToken := dk_MV_mono _ h_3_nextToken _ _
def t_3_nextToken : dk_Tm := (tc_3, [(107, 1, 0), (111, 1, 1)], [0, 8, 48, 88, 89, 108, 119, 187, 200], 2)
def y_3_wordOf : MethodName := ⟨nn_R3, "wordOf", "(I)Ljava/lang/String;"⟩
def b_3_wordOf : dk_T := [
  ([true], [.inl (.iload 0), .inl (.tableswitch 7 0 5 #[1, 2, 3, 4, 5, 6])]),
  ([false], [.inr (6, 110, 1), .inl .areturn]),
  ([false], [.inr (6, 111, 1), .inl .areturn]),
  ([false], [.inr (6, 112, 1), .inl .areturn]),
  ([false], [.inr (6, 113, 1), .inl .areturn]),
  ([false], [.inr (6, 114, 1), .inl .areturn]),
  ([false], [.inr (6, 115, 1), .inl .areturn]),
  ([false], [.inr (6, 116, 1), .inl .areturn])]
def g_3_wordOf : List (Nat × dk_S) := []
def s_3_wordOf : dk_S := dk_M g_3_wordOf b_3_wordOf 1
theorem h_3_wordOf : dk_monoG g_3_wordOf := dk_monoG_nil
theorem o_3_wordOf : dk_mono s_3_wordOf := dk_M_mono h_3_wordOf _ _
def t_3_wordOf : dk_Tm := (tc_3, [], [0, 40, 43, 46, 49, 52, 55, 58], 3)
def y_3_isWord : MethodName := ⟨nn_R3, "isWord", "(Ljava/lang/String;)Z"⟩
def b_3_isWord : dk_T := [
  ([true, true, false], [.inl (.aload 0), .inr (0, 3, 5), .inl (.iconst 1), .inl (.if_icmp .ne 1), .inl (.aload 0), .inr (0, 3, 7), .inl (.aload 0), .inr (0, 3, 6), .inl .isub, .inl (.aload 1), .inr (5, 0, 0), .inl (.if_icmp .eq 2), .inr (7, 1, 1)]),
  ([false, false, false], [.inl (.iconst 0), .inl .lreturn]),
  ([true, true, false], [.inl (.iconst 0), .inl (.istore 2), .inr (7, 3, 1)]),
  ([true, true, true], [.inl (.iload 2), .inl (.aload 1), .inr (5, 0, 0), .inl (.if_icmp .ge 5), .inl (.aload 0), .inr (0, 3, 0), .inl (.aload 0), .inr (0, 3, 6), .inl (.iload 2), .inl .iadd, .inl .iaload, .inl (.aload 1), .inl (.iload 2), .inr (5, 1, 0), .inl (.if_icmp .eq 4), .inl (.iconst 0), .inl .lreturn]),
  ([true, true, true], [.inl (.iinc 2 (1)), .inr (7, 3, 0)]),
  ([false, false, false], [.inl (.iconst 1), .inl .lreturn])]
def g_3_isWord : List (Nat × dk_S) := [(1, s_sl), (2, s_sc)]
def s_3_isWord : dk_S := dk_MV 3 g_3_isWord b_3_isWord 3
theorem h_3_isWord : dk_monoG g_3_isWord := dk_monoG_cons o_sl (dk_monoG_cons o_sc (dk_monoG_nil))
theorem o_3_isWord : dk_mono s_3_isWord := dk_MV_mono _ h_3_isWord _ _
def t_3_isWord : dk_Tm := (tc_3, [(99, 0, 0), (103, 0, 1)], [0, 24, 26, 28, 57, 63], 1)
def y_3_kindHere : MethodName := ⟨nn_R3, "kindHere", "()I"⟩
def b_3_kindHere : dk_T := [
  ([true, false], [.inl (.iconst 0), .inl (.istore 1), .inr (7, 1, 1)]),
  ([true, true], [.inl (.iload 1), .inl (.iconst 7), .inl (.if_icmp .ge 3), .inl (.aload 0), .inl (.iload 1), .inr (5, 0, 1), .inr (5, 1, 0), .inl (.ifCond .eq 2), .inl (.iload 1), .inl .ireturn]),
  ([true, true], [.inl (.iinc 1 (1)), .inr (7, 1, 0)]),
  ([false, false], [.inl (.iconst (-1)), .inl .ireturn])]
def g_3_kindHere : List (Nat × dk_S) := [(1, s_3_wordOf), (2, s_3_isWord)]
def s_3_kindHere : dk_S := dk_MV 3 g_3_kindHere b_3_kindHere 2
theorem h_3_kindHere : dk_monoG g_3_kindHere := dk_monoG_cons o_3_wordOf (dk_monoG_cons o_3_isWord (dk_monoG_nil))
theorem o_3_kindHere : dk_mono s_3_kindHere := dk_MV_mono _ h_3_kindHere _ _
def t_3_kindHere : dk_Tm := (tc_3, [(81, 1, 0), (61, 0, 1)], [0, 2, 21, 27], 0)
def y_3_note : MethodName := ⟨nn_R3, "note", "(II)V"⟩
def b_3_note : dk_T := [
  ([true, true, true], [.inl (.aload 0), .inr (0, 3, 4), .inl (.aload 0), .inr (0, 3, 2), .inl (.iconst 6), .inl .imul, .inl (.iload 1), .inl .iadd, .inl (.iload 2), .inl .iastore, .inl .return_])]
def g_3_note : List (Nat × dk_S) := []
def s_3_note : dk_S := dk_MV 3 g_3_note b_3_note 3
theorem h_3_note : dk_monoG g_3_note := dk_monoG_nil
theorem o_3_note : dk_mono s_3_note := dk_MV_mono _ h_3_note _ _
def t_3_note : dk_Tm := (tc_3, [], [0], 2)
def y_3_readNumber : MethodName := ⟨nn_R3, "readNumber", "(III)Z"⟩
def b_3_readNumber : dk_T := [
  ([true, true, true, true], [.inl (.aload 0), .inr (0, 3, 5), .inl (.iconst 2), .inl (.if_icmp .ne 1), .inl (.aload 0), .inr (0, 3, 8), .inl (.iload 2), .inl (.if_icmp .lt 1), .inl (.aload 0), .inr (0, 3, 8), .inl (.iload 3), .inl (.if_icmp .le 2), .inr (7, 1, 1)]),
  ([false, false, false, false], [.inl (.iconst 0), .inl .lreturn]),
  ([true, true, false, false], [.inl (.aload 0), .inl (.iload 1), .inl (.aload 0), .inr (0, 3, 8), .inr (5, 0, 0), .inl (.aload 0), .inr (5, 1, 0), .inl (.iconst 1), .inl .lreturn])]
def g_3_readNumber : List (Nat × dk_S) := [(3, s_3_note), (1, s_3_nextToken)]
def s_3_readNumber : dk_S := dk_MV 3 g_3_readNumber b_3_readNumber 4
theorem h_3_readNumber : dk_monoG g_3_readNumber := dk_monoG_cons o_3_note (dk_monoG_cons o_3_nextToken (dk_monoG_nil))
theorem o_3_readNumber : dk_mono s_3_readNumber := dk_MV_mono _ h_3_readNumber _ _
def t_3_readNumber : dk_Tm := (tc_3, [(51, 0, 0), (40, 0, 1)], [0, 24, 26], 1)
def y_3_optionHere : MethodName := ⟨nn_R3, "optionHere", "()I"⟩
def b_3_optionHere : dk_T := [
  ([true], [.inl (.aload 0), .inr (6, 118, 1), .inr (5, 0, 0), .inl (.ifCond .eq 1), .inl (.iconst 2), .inl .ireturn]),
  ([true], [.inl (.aload 0), .inr (6, 119, 1), .inr (5, 0, 0), .inl (.ifCond .eq 2), .inl (.iconst 3), .inl .ireturn]),
  ([true], [.inl (.aload 0), .inr (6, 120, 1), .inr (5, 0, 0), .inl (.ifCond .eq 3), .inl (.iconst 4), .inr (7, 4, 0)]),
  ([false], [.inl (.iconst (-1)), .inr (7, 4, 1)]),
  ([false], [.inl .ireturn])]
def g_3_optionHere : List (Nat × dk_S) := [(2, s_3_isWord)]
def s_3_optionHere : dk_S := dk_MV 3 g_3_optionHere b_3_optionHere 1
theorem h_3_optionHere : dk_monoG g_3_optionHere := dk_monoG_cons o_3_isWord (dk_monoG_nil)
theorem o_3_optionHere : dk_mono s_3_optionHere := dk_MV_mono _ h_3_optionHere _ _
def t_3_optionHere : dk_Tm := (tc_3, [(61, 0, 0)], [0, 11, 22, 35, 36], 0)
def y_3_readOptions : MethodName := ⟨nn_R3, "readOptions", "()Z"⟩
def b_3_readOptions : dk_T := [
  ([true, false, false], [.inl (.aload 0), .inl (.iconst 2), .inl (.iconst 50), .inr (5, 0, 0), .inl (.aload 0), .inl (.iconst 3), .inl (.iconst 50), .inr (5, 0, 0), .inl (.aload 0), .inl (.iconst 4), .inl (.iconst 0), .inr (5, 0, 0), .inl (.iconst 0), .inl (.istore 1), .inr (7, 1, 1)]),
  ([true, true, false], [.inl (.iload 1), .inl (.iconst 120), .inl (.if_icmp .ge 6), .inl (.aload 0), .inr (5, 1, 0), .inl (.istore 2), .inl (.iload 2), .inl (.iconst (-1)), .inl (.if_icmp .ne 2), .inl (.iconst 1), .inl .lreturn]),
  ([true, true, true], [.inl (.aload 0), .inr (5, 2, 0), .inl (.aload 0), .inl (.iload 2), .inl (.iconst 0), .inl (.iload 2), .inl (.iconst 4), .inl (.if_icmp .ne 3), .inl (.iconst 99), .inr (7, 4, 0)]),
  ([true, true, false], [.inl (.iconst 100), .inr (7, 4, 1)]),
  ([true, true, false], [.inr (5, 3, 0), .inl (.ifCond .ne 5), .inl (.iconst 0), .inl .lreturn]),
  ([true, true, false], [.inl (.iinc 1 (1)), .inr (7, 1, 0)]),
  ([false, false, false], [.inl (.iconst 1), .inl .lreturn])]
def g_3_readOptions : List (Nat × dk_S) := [(3, s_3_note), (1, s_3_optionHere), (1, s_3_nextToken), (4, s_3_readNumber)]
def s_3_readOptions : dk_S := dk_MV 3 g_3_readOptions b_3_readOptions 3
theorem h_3_readOptions : dk_monoG g_3_readOptions := dk_monoG_cons o_3_note (dk_monoG_cons o_3_optionHere (dk_monoG_cons o_3_nextToken (dk_monoG_cons o_3_readNumber (dk_monoG_nil))))
theorem o_3_readOptions : dk_mono s_3_readOptions := dk_MV_mono _ h_3_readOptions _ _
def t_3_readOptions : dk_Tm := (tc_3, [(51, 0, 0), (72, 0, 1), (40, 0, 2), (55, 0, 3)], [0, 22, 40, 57, 59, 67, 73], 1)
def y_3_of : MethodName := ⟨nn_R3, "of", "(II)I"⟩
def b_3_of : dk_T := [
  ([true, true, true], [.inl (.aload 0), .inr (0, 3, 4), .inl (.iload 1), .inl (.iconst 6), .inl .imul, .inl (.iload 2), .inl .iadd, .inl .iaload, .inl .ireturn])]
def g_3_of : List (Nat × dk_S) := []
def s_3_of : dk_S := dk_MV 3 g_3_of b_3_of 3
theorem h_3_of : dk_monoG g_3_of := dk_monoG_nil
theorem o_3_of : dk_mono s_3_of := dk_MV_mono _ h_3_of _ _
def t_3_of : dk_Tm := (tc_3, [], [0], 0)
def y_3_readGroup : MethodName := ⟨nn_R3, "readGroup", "()Z"⟩
def b_3_readGroup : dk_T := [
  ([true, false], [.inl (.aload 0), .inr (0, 3, 2), .inl (.iconst 11), .inl (.if_icmp .lt 1), .inl (.iconst 0), .inl .lreturn]),
  ([true, false], [.inl (.aload 0), .inr (5, 0, 0), .inl (.istore 1), .inl (.iload 1), .inl (.iconst (-1)), .inl (.if_icmp .ne 2), .inl (.iconst 0), .inl .lreturn]),
  ([true, true], [.inl (.aload 0), .inl (.iconst 0), .inl (.iload 1), .inr (5, 1, 0), .inl (.aload 0), .inr (5, 2, 0), .inl (.aload 0), .inl (.iconst 1), .inl (.iconst 1), .inl (.iconst 24), .inr (5, 3, 0), .inl (.ifCond .eq 3), .inl (.aload 0), .inr (6, 117, 1), .inr (5, 4, 0), .inl (.ifCond .ne 4), .inr (7, 3, 1)]),
  ([false, false], [.inl (.iconst 0), .inl .lreturn]),
  ([true, false], [.inl (.aload 0), .inr (5, 2, 0), .inl (.aload 0), .inl (.iconst 5), .inl (.iconst 1), .inl (.iconst 200), .inr (5, 3, 0), .inl (.ifCond .eq 5), .inl (.aload 0), .inr (5, 5, 0), .inl (.ifCond .ne 6), .inr (7, 5, 1)]),
  ([false, false], [.inl (.iconst 0), .inl .lreturn]),
  ([true, false], [.inl (.aload 0), .inl .dup, .inr (0, 3, 3), .inl (.aload 0), .inl (.aload 0), .inr (0, 3, 2), .inl (.iconst 1), .inr (5, 6, 0), .inl .iadd, .inr (1, 3, 3), .inl (.aload 0), .inl .dup, .inr (0, 3, 2), .inl (.iconst 1), .inl .iadd, .inr (1, 3, 2), .inl (.iconst 1), .inl .lreturn])]
def g_3_readGroup : List (Nat × dk_S) := [(1, s_3_kindHere), (3, s_3_note), (1, s_3_nextToken), (4, s_3_readNumber), (2, s_3_isWord), (1, s_3_readOptions), (3, s_3_of)]
def s_3_readGroup : dk_S := dk_MV 3 g_3_readGroup b_3_readGroup 2
theorem h_3_readGroup : dk_monoG g_3_readGroup := dk_monoG_cons o_3_kindHere (dk_monoG_cons o_3_note (dk_monoG_cons o_3_nextToken (dk_monoG_cons o_3_readNumber (dk_monoG_cons o_3_isWord (dk_monoG_cons o_3_readOptions (dk_monoG_cons o_3_of (dk_monoG_nil)))))))
theorem o_3_readGroup : dk_mono s_3_readGroup := dk_MV_mono _ h_3_readGroup _ _
def t_3_readGroup : dk_Tm := (tc_3, [(47, 0, 0), (51, 0, 1), (40, 0, 2), (55, 0, 3), (61, 0, 4), (65, 0, 5), (68, 0, 6)], [0, 11, 23, 53, 55, 78, 80], 1)
def y_3_readText : MethodName := ⟨nn_R3, "readText", "()I"⟩
def b_3_readText : dk_T := [
  ([true, false], [.inl (.aload 0), .inl (.iconst 0), .inr (1, 3, 2), .inl (.aload 0), .inl (.iconst 0), .inr (1, 3, 3), .inl (.aload 0), .inl (.iconst 0), .inr (1, 3, 7), .inl (.aload 0), .inr (5, 0, 0), .inl (.iconst 0), .inl (.istore 1), .inr (7, 1, 1)]),
  ([true, true], [.inl (.iload 1), .inl (.iconst 11), .inl (.if_icmp .ge 5), .inl (.aload 0), .inr (5, 1, 0), .inl (.ifCond .ne 2), .inl (.aload 0), .inr (0, 3, 6), .inl .ireturn]),
  ([true, true], [.inl (.aload 0), .inr (0, 3, 5), .inl (.ifCond .ne 3), .inl (.iconst (-1)), .inl .ireturn]),
  ([true, true], [.inl (.aload 0), .inr (0, 3, 5), .inl (.iconst 3), .inl (.if_icmp .eq 4), .inl (.aload 0), .inr (0, 3, 6), .inl .ireturn]),
  ([true, true], [.inl (.aload 0), .inr (5, 0, 0), .inl (.iinc 1 (1)), .inr (7, 1, 0)]),
  ([true, false], [.inl (.aload 0), .inr (0, 3, 6), .inl .ireturn])]
def g_3_readText : List (Nat × dk_S) := [(1, s_3_nextToken), (1, s_3_readGroup)]
def s_3_readText : dk_S := dk_MV 3 g_3_readText b_3_readText 2
theorem h_3_readText : dk_monoG g_3_readText := dk_monoG_cons o_3_nextToken (dk_monoG_cons o_3_readGroup (dk_monoG_nil))
theorem o_3_readText : dk_mono s_3_readText := dk_MV_mono _ h_3_readText _ _
def t_3_readText : dk_Tm := (tc_3, [(40, 0, 0), (43, 0, 1)], [0, 21, 39, 48, 61, 71], 0)
def y_0_fallIn : MethodName := ⟨nn_R0, "fallIn", "(LLongColumn$TextReader;I)V"⟩
def b_0_fallIn : dk_T := [
  ([true, true, true, false], [.inl (.aload 0), .inr (0, 0, 1), .inl (.iconst 24), .inl (.if_icmp .lt 1), .inl .return_]),
  ([true, true, true, false], [.inl (.aload 0), .inr (0, 0, 1), .inl (.istore 3), .inl (.aload 0), .inr (0, 0, 2), .inl (.iload 3), .inl (.aload 1), .inl (.iload 2), .inl (.iconst 0), .inr (5, 0, 0), .inl .iastore, .inl (.aload 0), .inr (0, 0, 3), .inl (.iload 3), .inl (.iload 3), .inl (.ifCond .ne 2), .inl (.iconst 0), .inr (7, 3, 0)]),
  ([true, true, true, true], [.inl (.aload 0), .inr (0, 0, 3), .inl (.iload 3), .inl (.iconst 1), .inl .isub, .inl .iaload, .inl (.aload 1), .inl (.iload 2), .inl (.iconst 5), .inr (5, 0, 0), .inl .iadd, .inr (7, 3, 1)]),
  ([true, true, true, true], [.inl .iastore, .inl (.aload 0), .inr (0, 0, 4), .inl (.iload 3), .inl (.aload 1), .inl (.iload 2), .inl (.iconst 2), .inr (5, 0, 0), .inl .iastore, .inl (.aload 0), .inr (0, 0, 5), .inl (.iload 3), .inl (.aload 1), .inl (.iload 2), .inl (.iconst 3), .inr (5, 0, 0), .inl .iastore, .inl (.aload 0), .inr (0, 0, 6), .inl (.iload 3), .inl (.aload 1), .inl (.iload 2), .inl (.iconst 4), .inr (5, 0, 0), .inl .iastore, .inl (.aload 0), .inr (0, 0, 7), .inl (.iload 3), .inl (.iconst 0), .inl .iastore, .inl (.aload 0), .inl .dup, .inr (0, 0, 1), .inl (.iconst 1), .inl .iadd, .inr (1, 0, 1), .inl .return_])]
def g_0_fallIn : List (Nat × dk_S) := [(3, s_3_of)]
def s_0_fallIn : dk_S := dk_MV 0 g_0_fallIn b_0_fallIn 4
theorem h_0_fallIn : dk_monoG g_0_fallIn := dk_monoG_cons o_3_of (dk_monoG_nil)
theorem o_0_fallIn : dk_mono s_0_fallIn := dk_MV_mono _ h_0_fallIn _ _
def t_0_fallIn : dk_Tm := (tc_0, [(89, 0, 0)], [0, 10, 40, 55], 2)
def y_5_column : MethodName := ⟨nn_R5, "column", "()I"⟩
def b_5_column : dk_T := [
  ([true, false, false, false], [.inl (.aload 0), .inr (0, 5, 3), .inr (5, 0, 0), .inl (.istore 1), .inl (.aload 0), .inr (0, 5, 3), .inl (.iconst 0), .inr (1, 3, 1), .inl (.iload 1), .inl (.iconst (-1)), .inl (.if_icmp .eq 1), .inl (.iconst (-1)), .inl (.iload 1), .inl .isub, .inl .ireturn]),
  ([true, false, false, false], [.inl (.aload 0), .inr (0, 5, 3), .inr (0, 3, 3), .inl (.iconst 24), .inl (.aload 0), .inr (0, 5, 0), .inr (0, 0, 1), .inl .isub, .inl (.if_icmp .le 2), .inl (.aload 0), .inl (.iconst 1), .inr (5, 1, 0), .inl .ireturn]),
  ([true, false, false, false], [.inl (.iconst 0), .inl (.istore 2), .inr (7, 3, 1)]),
  ([true, false, true, false], [.inl (.iload 2), .inl (.aload 0), .inr (0, 5, 3), .inr (0, 3, 2), .inl (.if_icmp .ge 6), .inl (.iconst 0), .inl (.istore 3), .inr (7, 4, 1)]),
  ([true, false, true, true], [.inl (.iload 3), .inl (.aload 0), .inr (0, 5, 3), .inl (.iload 2), .inl (.iconst 1), .inr (5, 2, 0), .inl (.if_icmp .ge 5), .inl (.aload 0), .inr (0, 5, 0), .inl (.aload 0), .inr (0, 5, 3), .inl (.iload 2), .inr (5, 3, 0), .inl (.iinc 3 (1)), .inr (7, 4, 0)]),
  ([true, false, true, false], [.inl (.iinc 2 (1)), .inr (7, 3, 0)]),
  ([true, false, false, false], [.inl (.aload 0), .inr (0, 5, 0), .inr (0, 0, 1), .inl .ireturn])]
def g_5_column : List (Nat × dk_S) := [(1, s_3_readText), (2, s_5_finding), (3, s_3_of), (3, s_0_fallIn)]
def s_5_column : dk_S := dk_MV 5 g_5_column b_5_column 4
theorem h_5_column : dk_monoG g_5_column := dk_monoG_cons o_3_readText (dk_monoG_cons o_5_finding (dk_monoG_cons o_3_of (dk_monoG_cons o_0_fallIn (dk_monoG_nil))))
theorem o_5_column : dk_mono s_5_column := dk_MV_mono _ h_5_column _ _
def t_5_column : dk_Tm := (tc_5, [(95, 0, 0), (78, 0, 1), (106, 0, 2), (110, 0, 3)], [0, 25, 51, 53, 66, 97, 103], 0)
def y_0_hasRank : MethodName := ⟨nn_R0, "hasRank", "(I)Z"⟩
def b_0_hasRank : dk_T := [
  ([true, true], [.inl (.iload 1), .inl (.ifCond .lt 1), .inl (.iload 1), .inl (.aload 0), .inr (0, 0, 1), .inl (.if_icmp .ge 1), .inl (.iconst 1), .inr (7, 2, 0)]),
  ([false, false], [.inl (.iconst 0), .inr (7, 2, 1)]),
  ([false, false], [.inl .lreturn])]
def g_0_hasRank : List (Nat × dk_S) := []
def s_0_hasRank : dk_S := dk_MV 0 g_0_hasRank b_0_hasRank 2
theorem h_0_hasRank : dk_monoG g_0_hasRank := dk_monoG_nil
theorem o_0_hasRank : dk_mono s_0_hasRank := dk_MV_mono _ h_0_hasRank _ _
def t_0_hasRank : dk_Tm := (tc_0, [], [0, 16, 17], 1)
def y_8_abs : MethodName := ⟨"java/lang/Math", "abs", "(I)I"⟩
def b_8_abs : dk_T := [
  ([true], [.inl (.iload 0), .inl (.ifCond .ge 1), .inl (.iload 0), .inl .ineg, .inr (7, 2, 0)]),
  ([true], [.inl (.iload 0), .inr (7, 2, 1)]),
  ([false], [.inl .ireturn])]
def g_8_abs : List (Nat × dk_S) := []
def s_8_abs : dk_S := dk_M g_8_abs b_8_abs 1
theorem h_8_abs : dk_monoG g_8_abs := dk_monoG_nil
theorem o_8_abs : dk_mono s_8_abs := dk_M_mono h_8_abs _ _
def t_8_abs : dk_Tm := (tc_n, [], [0, 9, 10], 0)
def y_0_drumFor : MethodName := ⟨nn_R0, "drumFor", "(I)I"⟩
def b_0_drumFor : dk_T := [
  ([true, true, false, false, false, false], [.inl (.iconst (-1)), .inl (.istore 2), .inl (.iconst 0), .inl (.istore 3), .inl (.iconst 0), .inl (.istore 4), .inr (7, 1, 1)]),
  ([true, true, true, true, true, false], [.inl (.iload 4), .inl (.aload 0), .inr (0, 0, 8), .inl (.if_icmp .ge 3), .inl (.aload 0), .inr (0, 0, 10), .inl (.iload 4), .inl .iaload, .inl (.aload 0), .inr (0, 0, 9), .inl (.iload 4), .inl .iaload, .inl (.aload 0), .inr (0, 0, 3), .inl (.iload 1), .inl .iaload, .inl .isub, .inr (5, 0, 1), .inl (.iconst 50), .inl .idiv, .inl .isub, .inl (.istore 5), .inl (.iload 5), .inl (.iload 3), .inl (.if_icmp .le 2), .inl (.iload 5), .inl (.istore 3), .inl (.iload 4), .inl (.istore 2), .inr (7, 2, 1)]),
  ([true, true, true, true, true, false], [.inl (.iinc 4 (1)), .inr (7, 1, 0)]),
  ([false, false, true, false, false, false], [.inl (.iload 2), .inl .ireturn])]
def g_0_drumFor : List (Nat × dk_S) := [(1, s_8_abs)]
def s_0_drumFor : dk_S := dk_MV 0 g_0_drumFor b_0_drumFor 6
theorem h_0_drumFor : dk_monoG g_0_drumFor := dk_monoG_cons o_8_abs (dk_monoG_nil)
theorem o_0_drumFor : dk_mono s_0_drumFor := dk_MV_mono _ h_0_drumFor _ _
def t_0_drumFor : dk_Tm := (tc_0, [(94, 1, 0)], [0, 7, 58, 64], 0)
def y_0_lagBetween : MethodName := ⟨nn_R0, "lagBetween", "(II)I"⟩
def b_0_lagBetween : dk_T := [
  ([true, true, true, false], [.inl (.iload 2), .inl (.iload 1), .inl (.if_icmp .le 1), .inl (.aload 0), .inr (0, 0, 0), .inl (.iconst 1), .inl .iaload, .inl (.aload 0), .inr (0, 0, 0), .inl (.iconst 2), .inl .iaload, .inl .iadd, .inr (7, 2, 0)]),
  ([true, true, true, false], [.inl (.aload 0), .inr (0, 0, 0), .inl (.iconst 1), .inl .iaload, .inl (.aload 0), .inr (0, 0, 0), .inl (.iconst 2), .inl .iaload, .inl .isub, .inr (7, 2, 1)]),
  ([false, true, true, false], [.inl (.istore 3), .inl (.iload 3), .inl (.ifCond .le 3), .inl (.iload 2), .inl (.iload 1), .inl .isub, .inr (5, 0, 1), .inl (.iconst 1000), .inl .imul, .inl (.iload 3), .inl .idiv, .inr (7, 4, 0)]),
  ([false, false, false, false], [.inl (.iconst 0), .inr (7, 4, 1)]),
  ([false, false, false, false], [.inl .ireturn])]
def g_0_lagBetween : List (Nat × dk_S) := [(1, s_8_abs)]
def s_0_lagBetween : dk_S := dk_MV 0 g_0_lagBetween b_0_lagBetween 4
theorem h_0_lagBetween : dk_monoG g_0_lagBetween := dk_monoG_cons o_8_abs (dk_monoG_nil)
theorem o_0_lagBetween : dk_mono s_0_lagBetween := dk_MV_mono _ h_0_lagBetween _ _
def t_0_lagBetween : dk_Tm := (tc_0, [(94, 1, 0)], [0, 21, 34, 54, 55], 0)
def y_0_lagFromDrum : MethodName := ⟨nn_R0, "lagFromDrum", "(II)I"⟩
def b_0_lagFromDrum : dk_T := [
  ([true, true, true], [.inl (.aload 0), .inl (.aload 0), .inr (0, 0, 9), .inl (.iload 1), .inl .iaload, .inl (.aload 0), .inr (0, 0, 3), .inl (.iload 2), .inl .iaload, .inr (5, 0, 0), .inl .ireturn])]
def g_0_lagFromDrum : List (Nat × dk_S) := [(3, s_0_lagBetween)]
def s_0_lagFromDrum : dk_S := dk_MV 0 g_0_lagFromDrum b_0_lagFromDrum 3
theorem h_0_lagFromDrum : dk_monoG g_0_lagFromDrum := dk_monoG_cons o_0_lagBetween (dk_monoG_nil)
theorem o_0_lagFromDrum : dk_mono s_0_lagFromDrum := dk_MV_mono _ h_0_lagFromDrum _ _
def t_0_lagFromDrum : dk_Tm := (tc_0, [(99, 0, 0)], [0], 0)
def y_0_beatFor : MethodName := ⟨nn_R0, "beatFor", "(I)I"⟩
def b_0_beatFor : dk_T := [
  ([true, true, false], [.inl (.aload 0), .inl (.iload 1), .inr (5, 0, 0), .inl (.istore 2), .inl (.iload 2), .inl (.iconst (-1)), .inl (.if_icmp .ne 1), .inl (.iconst (-2000000000)), .inr (7, 2, 0)]),
  ([true, true, true], [.inl (.aload 0), .inl (.iload 2), .inl (.iload 1), .inr (5, 1, 0), .inl (.aload 0), .inr (0, 0, 11), .inl (.iload 2), .inl .iaload, .inl .isub, .inr (7, 2, 1)]),
  ([false, false, false], [.inl .ireturn])]
def g_0_beatFor : List (Nat × dk_S) := [(2, s_0_drumFor), (3, s_0_lagFromDrum)]
def s_0_beatFor : dk_S := dk_MV 0 g_0_beatFor b_0_beatFor 3
theorem h_0_beatFor : dk_monoG g_0_beatFor := dk_monoG_cons o_0_drumFor (dk_monoG_cons o_0_lagFromDrum (dk_monoG_nil))
theorem o_0_beatFor : dk_mono s_0_beatFor := dk_MV_mono _ h_0_beatFor _ _
def t_0_beatFor : dk_Tm := (tc_0, [(102, 0, 0), (106, 0, 1)], [0, 16, 29], 0)
def y_1_listen : MethodName := ⟨nn_R1, "listen", "()V"⟩
def b_1_listen : dk_T := [
  ([true, false], [.inl (.iconst 0), .inl (.istore 1), .inr (7, 1, 1)]),
  ([true, true], [.inl (.iload 1), .inl (.aload 0), .inr (0, 1, 0), .inr (0, 0, 1), .inl (.if_icmp .ge 2), .inl (.aload 0), .inr (0, 1, 2), .inl (.iload 1), .inl (.aload 0), .inr (0, 1, 0), .inl (.iload 1), .inr (5, 0, 0), .inl .iastore, .inl (.iinc 1 (1)), .inr (7, 1, 0)]),
  ([false, false], [.inl .return_])]
def g_1_listen : List (Nat × dk_S) := [(2, s_0_beatFor)]
def s_1_listen : dk_S := dk_MV 1 g_1_listen b_1_listen 2
theorem h_1_listen : dk_monoG g_1_listen := dk_monoG_cons o_0_beatFor (dk_monoG_nil)
theorem o_1_listen : dk_mono s_1_listen := dk_MV_mono _ h_1_listen _ _
def t_1_listen : dk_Tm := (tc_1, [(58, 0, 0)], [0, 2, 33], 2)
def y_0_isBehindBend : MethodName := ⟨nn_R0, "isBehindBend", "(I)Z"⟩
def b_0_isBehindBend : dk_T := [
  ([true, true, false], [.inl (.iconst 0), .inl (.istore 2), .inr (7, 1, 1)]),
  ([true, true, true], [.inl (.iload 1), .inl (.ifCond .le 3), .inl (.iload 2), .inl (.aload 0), .inr (0, 0, 12), .inl (.if_icmp .ge 3), .inl (.aload 0), .inr (0, 0, 13), .inl (.iload 2), .inl .iaload, .inl (.aload 0), .inr (0, 0, 3), .inl (.iload 1), .inl (.iconst 1), .inl .isub, .inl .iaload, .inl (.if_icmp .lt 2), .inl (.aload 0), .inr (0, 0, 13), .inl (.iload 2), .inl .iaload, .inl (.aload 0), .inr (0, 0, 3), .inl (.iload 1), .inl .iaload, .inl (.if_icmp .ge 2), .inl (.iconst 1), .inl .lreturn]),
  ([true, true, true], [.inl (.iinc 2 (1)), .inr (7, 1, 0)]),
  ([false, false, false], [.inl (.iconst 0), .inl .lreturn])]
def g_0_isBehindBend : List (Nat × dk_S) := []
def s_0_isBehindBend : dk_S := dk_MV 0 g_0_isBehindBend b_0_isBehindBend 3
theorem h_0_isBehindBend : dk_monoG g_0_isBehindBend := dk_monoG_nil
theorem o_0_isBehindBend : dk_mono s_0_isBehindBend := dk_MV_mono _ h_0_isBehindBend _ _
def t_0_isBehindBend : dk_Tm := (tc_0, [], [0, 2, 48, 54], 1)
def y_1_feel : MethodName := ⟨nn_R1, "feel", "(I)V"⟩
def b_1_feel : dk_T := [
  ([true, true, false, false, false], [.inl (.aload 0), .inr (0, 1, 4), .inl (.iload 1), .inl (.iconst 0), .inl .iastore, .inl (.aload 0), .inr (0, 1, 0), .inr (0, 0, 3), .inl (.iload 1), .inl .iaload, .inl (.istore 2), .inl (.iconst 0), .inl (.istore 3), .inr (7, 1, 1)]),
  ([true, true, true, true, false], [.inl (.iload 3), .inl (.aload 0), .inr (0, 1, 0), .inr (0, 0, 1), .inl (.if_icmp .ge 4), .inl (.aload 0), .inr (0, 1, 0), .inr (0, 0, 3), .inl (.iload 3), .inl .iaload, .inl (.istore 4), .inl (.iload 3), .inl (.iload 1), .inl (.if_icmp .eq 2), .inl (.iload 4), .inl (.iload 2), .inl .isub, .inr (5, 0, 1), .inl (.aload 0), .inr (0, 1, 0), .inr (0, 0, 0), .inl (.iconst 3), .inl .iaload, .inl (.if_icmp .gt 2), .inl (.aload 0), .inr (0, 1, 5), .inl (.iload 1), .inl (.iconst 24), .inl .imul, .inl (.iload 3), .inl .iadd, .inl (.aload 0), .inr (0, 1, 0), .inl (.iload 4), .inl (.iload 2), .inr (5, 1, 0), .inl .iastore, .inl (.aload 0), .inr (0, 1, 4), .inl (.iload 1), .inl .dup2, .inl .iaload, .inl (.iconst 1), .inl .iadd, .inl .iastore, .inr (7, 3, 0)]),
  ([true, true, true, true, false], [.inl (.aload 0), .inr (0, 1, 5), .inl (.iload 1), .inl (.iconst 24), .inl .imul, .inl (.iload 3), .inl .iadd, .inl (.iconst (-2000000000)), .inl .iastore, .inr (7, 3, 1)]),
  ([true, true, true, true, false], [.inl (.iinc 3 (1)), .inr (7, 1, 0)]),
  ([false, false, false, false, false], [.inl .return_])]
def g_1_feel : List (Nat × dk_S) := [(1, s_8_abs), (3, s_0_lagBetween)]
def s_1_feel : dk_S := dk_MV 1 g_1_feel b_1_feel 5
theorem h_1_feel : dk_monoG g_1_feel := dk_monoG_cons o_8_abs (dk_monoG_cons o_0_lagBetween (dk_monoG_nil))
theorem o_1_feel : dk_mono s_1_feel := dk_MV_mono _ h_1_feel _ _
def t_1_feel : dk_Tm := (tc_1, [(65, 1, 0), (70, 0, 1)], [0, 19, 99, 112, 118], 2)
def y_1_prepare : MethodName := ⟨nn_R1, "prepare", "()V"⟩
def b_1_prepare : dk_T := [
  ([true, false], [.inl (.aload 0), .inl (.aload 0), .inr (0, 1, 0), .inr (0, 0, 0), .inl (.iconst 0), .inl .iaload, .inr (1, 1, 1), .inl (.aload 0), .inr (5, 0, 0), .inl (.iconst 0), .inl (.istore 1), .inr (7, 1, 1)]),
  ([true, true], [.inl (.iload 1), .inl (.aload 0), .inr (0, 1, 0), .inr (0, 0, 1), .inl (.if_icmp .ge 5), .inl (.aload 0), .inr (0, 1, 3), .inl (.iload 1), .inl (.iload 1), .inl (.ifCond .le 2), .inl (.aload 0), .inr (0, 1, 0), .inl (.iload 1), .inr (5, 1, 0), .inl (.ifCond .ne 2), .inl (.iconst 1), .inr (7, 3, 0)]),
  ([true, true], [.inl (.iconst 0), .inr (7, 3, 1)]),
  ([true, true], [.inl .bastore, .inl (.aload 0), .inr (0, 1, 0), .inr (0, 0, 2), .inl (.iload 1), .inl .iaload, .inl (.iconst 4), .inl (.if_icmp .ne 4), .inl (.aload 0), .inl (.iload 1), .inr (5, 2, 0), .inr (7, 4, 1)]),
  ([true, true], [.inl (.iinc 1 (1)), .inr (7, 1, 0)]),
  ([false, false], [.inl .return_])]
def g_1_prepare : List (Nat × dk_S) := [(1, s_1_listen), (2, s_0_isBehindBend), (2, s_1_feel)]
def s_1_prepare : dk_S := dk_MV 1 g_1_prepare b_1_prepare 2
theorem h_1_prepare : dk_monoG g_1_prepare := dk_monoG_cons o_1_listen (dk_monoG_cons o_0_isBehindBend (dk_monoG_cons o_1_feel (dk_monoG_nil)))
theorem o_1_prepare : dk_mono s_1_prepare := dk_MV_mono _ h_1_prepare _ _
def t_1_prepare : dk_Tm := (tc_1, [(41, 0, 0), (47, 0, 1), (54, 0, 2)], [0, 19, 54, 55, 74, 80], 2)
def y_1_turnByEar : MethodName := ⟨nn_R1, "turnByEar", "(I[I)I"⟩
def b_1_turnByEar : dk_T := [
  ([true, true, true], [.inl (.aload 0), .inr (0, 1, 2), .inl (.iload 1), .inl .iaload, .inl (.iconst (-2000000000)), .inl (.if_icmp .ne 1), .inl (.iconst 0), .inl .ireturn]),
  ([true, true, true], [.inl (.aload 0), .inr (0, 1, 2), .inl (.iload 1), .inl .iaload, .inl (.aload 2), .inl (.iload 1), .inl .iaload, .inl .isub, .inl (.aload 0), .inr (0, 1, 1), .inr (5, 0, 1), .inl (.aload 0), .inr (0, 1, 0), .inr (0, 0, 4), .inl (.iload 1), .inl .iaload, .inl .imul, .inl (.iconst 100), .inl .idiv, .inl .ireturn])]
def g_1_turnByEar : List (Nat × dk_S) := [(2, s_5_wrapped)]
def s_1_turnByEar : dk_S := dk_MV 1 g_1_turnByEar b_1_turnByEar 3
theorem h_1_turnByEar : dk_monoG g_1_turnByEar := dk_monoG_cons o_5_wrapped (dk_monoG_nil)
theorem o_1_turnByEar : dk_mono s_1_turnByEar := dk_MV_mono _ h_1_turnByEar _ _
def t_1_turnByEar : dk_Tm := (tc_1, [(88, 1, 0)], [0, 13], 0)
def y_1_turnByEye : MethodName := ⟨nn_R1, "turnByEye", "(I[I)I"⟩
def b_1_turnByEye : dk_T := [
  ([true, true, true], [.inl (.iload 1), .inl (.iconst 1), .inl (.if_icmp .lt 1), .inl (.aload 0), .inr (0, 1, 3), .inl (.iload 1), .inl .baload, .inl (.ifCond .ne 2), .inr (7, 1, 1)]),
  ([false, false, false], [.inl (.iconst 0), .inl .ireturn]),
  ([true, true, true], [.inl (.aload 2), .inl (.iload 1), .inl (.iconst 1), .inl .isub, .inl .iaload, .inl (.aload 2), .inl (.iload 1), .inl .iaload, .inl .isub, .inl (.aload 0), .inr (0, 1, 1), .inr (5, 0, 1), .inl (.aload 0), .inr (0, 1, 0), .inr (0, 0, 4), .inl (.iload 1), .inl .iaload, .inl .imul, .inl (.iconst 100), .inl .idiv, .inl .ireturn])]
def g_1_turnByEye : List (Nat × dk_S) := [(2, s_5_wrapped)]
def s_1_turnByEye : dk_S := dk_MV 1 g_1_turnByEye b_1_turnByEye 3
theorem h_1_turnByEye : dk_monoG g_1_turnByEye := dk_monoG_cons o_5_wrapped (dk_monoG_nil)
theorem o_1_turnByEye : dk_mono s_1_turnByEye := dk_MV_mono _ h_1_turnByEye _ _
def t_1_turnByEye : dk_Tm := (tc_1, [(88, 1, 0)], [0, 14, 16], 0)
def y_1_turnByFeet : MethodName := ⟨nn_R1, "turnByFeet", "(I[I)I"⟩
def b_1_turnByFeet : dk_T := [
  ([true, true, true, false, false, false], [.inl (.iconst 0), .inl (.istore 3), .inl (.iconst 0), .inl (.istore 4), .inr (7, 1, 1)]),
  ([true, true, true, true, true, false], [.inl (.iload 4), .inl (.aload 0), .inr (0, 1, 0), .inr (0, 0, 1), .inl (.if_icmp .ge 3), .inl (.aload 0), .inr (0, 1, 5), .inl (.iload 1), .inl (.iconst 24), .inl .imul, .inl (.iload 4), .inl .iadd, .inl .iaload, .inl (.istore 5), .inl (.iload 5), .inl (.iconst (-2000000000)), .inl (.if_icmp .eq 2), .inl (.iload 3), .inl (.aload 2), .inl (.iload 4), .inl .iaload, .inl (.iload 5), .inl .iadd, .inl (.aload 2), .inl (.iload 1), .inl .iaload, .inl .isub, .inl (.aload 0), .inr (0, 1, 1), .inr (5, 0, 1), .inl .iadd, .inl (.istore 3), .inr (7, 2, 1)]),
  ([true, true, true, true, true, false], [.inl (.iinc 4 (1)), .inr (7, 1, 0)]),
  ([true, true, false, true, false, false], [.inl (.aload 0), .inr (0, 1, 4), .inl (.iload 1), .inl .iaload, .inl (.ifCond .le 4), .inl (.iload 3), .inl (.aload 0), .inr (0, 1, 4), .inl (.iload 1), .inl .iaload, .inl .idiv, .inl (.aload 0), .inr (0, 1, 0), .inr (0, 0, 4), .inl (.iload 1), .inl .iaload, .inl .imul, .inl (.iconst 100), .inl .idiv, .inr (7, 5, 0)]),
  ([false, false, false, false, false, false], [.inl (.iconst 0), .inr (7, 5, 1)]),
  ([false, false, false, false, false, false], [.inl .ireturn])]
def g_1_turnByFeet : List (Nat × dk_S) := [(2, s_5_wrapped)]
def s_1_turnByFeet : dk_S := dk_MV 1 g_1_turnByFeet b_1_turnByFeet 6
theorem h_1_turnByFeet : dk_monoG g_1_turnByFeet := dk_monoG_cons o_5_wrapped (dk_monoG_nil)
theorem o_1_turnByFeet : dk_mono s_1_turnByFeet := dk_MV_mono _ h_1_turnByFeet _ _
def t_1_turnByFeet : dk_Tm := (tc_1, [(88, 1, 0)], [0, 5, 59, 65, 98, 99], 0)
def y_1_turnOf : MethodName := ⟨nn_R1, "turnOf", "(I[I)I"⟩
def b_1_turnOf : dk_T := [
  ([true, true, true, false, false], [.inl (.aload 0), .inr (0, 1, 0), .inr (0, 0, 2), .inl (.iload 1), .inl .iaload, .inl (.tableswitch 9 1 6 #[1, 2, 3, 4, 7, 8])]),
  ([true, true, true, false, false], [.inl (.aload 0), .inl (.iload 1), .inl (.aload 2), .inr (5, 0, 0), .inl .ireturn]),
  ([true, true, true, false, false], [.inl (.aload 0), .inl (.iload 1), .inl (.aload 2), .inr (5, 1, 0), .inl .ireturn]),
  ([true, true, true, false, false], [.inl (.aload 0), .inl (.iload 1), .inl (.aload 2), .inr (5, 1, 0), .inl (.aload 0), .inr (0, 1, 0), .inr (0, 0, 5), .inl (.iload 1), .inl .iaload, .inl .imul, .inl (.istore 3), .inl (.aload 0), .inl (.iload 1), .inl (.aload 2), .inr (5, 0, 0), .inl (.iconst 100), .inl (.aload 0), .inr (0, 1, 0), .inr (0, 0, 5), .inl (.iload 1), .inl .iaload, .inl .isub, .inl .imul, .inl (.istore 4), .inl (.iload 3), .inl (.iload 4), .inl .iadd, .inl (.iconst 100), .inl .idiv, .inl .ireturn]),
  ([true, true, true, false, false], [.inl (.aload 0), .inr (0, 1, 4), .inl (.iload 1), .inl .iaload, .inl (.ifCond .le 5), .inl (.aload 0), .inl (.iload 1), .inl (.aload 2), .inr (5, 2, 0), .inr (7, 6, 0)]),
  ([true, true, true, false, false], [.inl (.aload 0), .inl (.iload 1), .inl (.aload 2), .inr (5, 0, 0), .inr (7, 6, 1)]),
  ([false, false, false, false, false], [.inl .ireturn]),
  ([true, true, true, false, false], [.inl (.aload 0), .inr (0, 1, 0), .inr (0, 0, 0), .inl (.iconst 4), .inl .iaload, .inl (.aload 2), .inl (.iload 1), .inl .iaload, .inl .isub, .inl (.aload 0), .inr (0, 1, 1), .inr (5, 3, 1), .inl .ireturn]),
  ([true, true, false, false, false], [.inl (.aload 0), .inr (0, 1, 0), .inr (0, 0, 6), .inl (.iload 1), .inl .iaload, .inl .ireturn]),
  ([false, false, false, false, false], [.inl (.iconst 0), .inl .ireturn])]
def g_1_turnOf : List (Nat × dk_S) := [(3, s_1_turnByEar), (3, s_1_turnByEye), (3, s_1_turnByFeet), (2, s_5_wrapped)]
def s_1_turnOf : dk_S := dk_MV 1 g_1_turnOf b_1_turnOf 5
theorem h_1_turnOf : dk_monoG g_1_turnOf := dk_monoG_cons o_1_turnByEar (dk_monoG_cons o_1_turnByEye (dk_monoG_cons o_1_turnByFeet (dk_monoG_cons o_5_wrapped (dk_monoG_nil))))
theorem o_1_turnOf : dk_mono s_1_turnOf := dk_MV_mono _ h_1_turnOf _ _
def t_1_turnOf : dk_Tm := (tc_1, [(75, 0, 0), (79, 0, 1), (85, 0, 2), (88, 1, 3)], [0, 48, 55, 62, 108, 126, 132, 133, 154, 164], 0)
def y_5_rankOf : MethodName := ⟨nn_R5, "rankOf", "(II)I"⟩
def b_5_rankOf : dk_T := [
  ([true, true, true], [.inl (.aload 0), .inr (0, 5, 0), .inl (.iload 1), .inr (5, 0, 0), .inl (.ifCond .eq 1), .inl (.iload 2), .inl (.iconst 0), .inl (.iconst 7), .inr (5, 1, 1), .inl (.ifCond .ne 2), .inr (7, 1, 1)]),
  ([true, false, false], [.inl (.aload 0), .inl (.iconst 0), .inr (5, 2, 0), .inl .ireturn]),
  ([true, true, true], [.inl (.iload 2), .inl (.tableswitch 10 0 6 #[3, 4, 5, 6, 7, 8, 9])]),
  ([true, true, false], [.inl (.aload 0), .inr (0, 5, 0), .inr (0, 0, 2), .inl (.iload 1), .inl .iaload, .inl .ireturn]),
  ([true, true, false], [.inl (.aload 0), .inr (0, 5, 0), .inr (0, 0, 3), .inl (.iload 1), .inl .iaload, .inl .ireturn]),
  ([true, true, false], [.inl (.aload 0), .inr (0, 5, 0), .inr (0, 0, 4), .inl (.iload 1), .inl .iaload, .inl .ireturn]),
  ([true, true, false], [.inl (.aload 0), .inr (0, 5, 0), .inr (0, 0, 5), .inl (.iload 1), .inl .iaload, .inl .ireturn]),
  ([true, true, false], [.inl (.aload 0), .inr (0, 5, 0), .inr (0, 0, 6), .inl (.iload 1), .inl .iaload, .inl .ireturn]),
  ([true, true, false], [.inl (.aload 0), .inr (0, 5, 0), .inr (0, 0, 7), .inl (.iload 1), .inl .iaload, .inl .ireturn]),
  ([true, true, false], [.inl (.aload 0), .inr (0, 5, 0), .inl (.iload 1), .inr (5, 3, 0), .inl .ireturn]),
  ([true, true, false], [.inl (.aload 0), .inr (0, 5, 5), .inr (5, 4, 0), .inl (.aload 0), .inr (0, 5, 5), .inl (.iload 1), .inl (.aload 0), .inr (0, 5, 0), .inr (0, 0, 7), .inr (5, 5, 0), .inl .ireturn])]
def g_5_rankOf : List (Nat × dk_S) := [(2, s_0_hasRank), (3, s_5_isWithin), (2, s_5_finding), (2, s_0_drumFor), (1, s_1_prepare), (3, s_1_turnOf)]
def s_5_rankOf : dk_S := dk_MV 5 g_5_rankOf b_5_rankOf 3
theorem h_5_rankOf : dk_monoG g_5_rankOf := dk_monoG_cons o_0_hasRank (dk_monoG_cons o_5_isWithin (dk_monoG_cons o_5_finding (dk_monoG_cons o_0_drumFor (dk_monoG_cons o_1_prepare (dk_monoG_cons o_1_turnOf (dk_monoG_nil))))))
theorem o_5_rankOf : dk_mono s_5_rankOf := dk_MV_mono _ h_5_rankOf _ _
def t_5_rankOf : dk_Tm := (tc_5, [(114, 0, 0), (68, 1, 1), (78, 0, 2), (136, 0, 3), (139, 0, 4), (142, 0, 5)], [0, 21, 27, 72, 82, 92, 102, 112, 122, 132, 141], 0)
def y_5_exchange : MethodName := ⟨nn_R5, "exchange", "([III)I"⟩
def b_5_exchange : dk_T := [
  ([true, true, true, false], [.inl (.aload 0), .inl (.iload 1), .inl .iaload, .inl (.istore 3), .inl (.aload 0), .inl (.iload 1), .inl (.iload 2), .inl .iastore, .inl (.iload 3), .inl .ireturn])]
def g_5_exchange : List (Nat × dk_S) := []
def s_5_exchange : dk_S := dk_M g_5_exchange b_5_exchange 4
theorem h_5_exchange : dk_monoG g_5_exchange := dk_monoG_nil
theorem o_5_exchange : dk_mono s_5_exchange := dk_M_mono h_5_exchange _ _
def t_5_exchange : dk_Tm := (tc_5, [], [0], 0)
def y_5_change : MethodName := ⟨nn_R5, "change", "(III)I"⟩
def b_5_change : dk_T := [
  ([true, true, true, true], [.inl (.aload 0), .inr (0, 5, 0), .inl (.iload 1), .inr (5, 0, 0), .inl (.ifCond .ne 1), .inl (.aload 0), .inl (.iconst 0), .inr (5, 1, 0), .inl .ireturn]),
  ([true, true, true, true], [.inl (.iload 2), .inl (.tableswitch 12 2 5 #[2, 5, 8, 11])]),
  ([true, true, false, true], [.inl (.iload 3), .inl (.iconst 0), .inl (.iconst 100), .inr (5, 2, 1), .inl (.ifCond .eq 3), .inl (.aload 0), .inr (0, 5, 0), .inr (0, 0, 4), .inl (.iload 1), .inl (.iload 3), .inr (5, 3, 1), .inr (7, 4, 0)]),
  ([true, false, false, false], [.inl (.aload 0), .inl (.iconst 0), .inr (5, 1, 0), .inr (7, 4, 1)]),
  ([false, false, false, false], [.inl .ireturn]),
  ([true, true, false, true], [.inl (.iload 3), .inl (.iconst 0), .inl (.iconst 100), .inr (5, 2, 1), .inl (.ifCond .eq 6), .inl (.aload 0), .inr (0, 5, 0), .inr (0, 0, 5), .inl (.iload 1), .inl (.iload 3), .inr (5, 3, 1), .inr (7, 7, 0)]),
  ([true, false, false, false], [.inl (.aload 0), .inl (.iconst 0), .inr (5, 1, 0), .inr (7, 7, 1)]),
  ([false, false, false, false], [.inl .ireturn]),
  ([true, true, false, true], [.inl (.iload 3), .inl (.iconst (-99)), .inl (.iconst 99), .inr (5, 2, 1), .inl (.ifCond .eq 9), .inl (.aload 0), .inr (0, 5, 0), .inr (0, 0, 6), .inl (.iload 1), .inl (.iload 3), .inr (5, 3, 1), .inr (7, 10, 0)]),
  ([true, false, false, false], [.inl (.aload 0), .inl (.iconst 0), .inr (5, 1, 0), .inr (7, 10, 1)]),
  ([false, false, false, false], [.inl .ireturn]),
  ([true, true, false, true], [.inl (.aload 0), .inr (0, 5, 0), .inr (0, 0, 7), .inl (.iload 1), .inl (.aload 0), .inr (0, 5, 0), .inl (.iload 3), .inr (5, 4, 0), .inr (5, 3, 1), .inl .ireturn]),
  ([true, false, false, false], [.inl (.aload 0), .inl (.iconst 0), .inr (5, 1, 0), .inl .ireturn])]
def g_5_change : List (Nat × dk_S) := [(2, s_0_hasRank), (2, s_5_finding), (3, s_5_isWithin), (3, s_5_exchange), (2, s_0_wrap)]
def s_5_change : dk_S := dk_MV 5 g_5_change b_5_change 4
theorem h_5_change : dk_monoG g_5_change := dk_monoG_cons o_0_hasRank (dk_monoG_cons o_5_finding (dk_monoG_cons o_5_isWithin (dk_monoG_cons o_5_exchange (dk_monoG_cons o_0_wrap (dk_monoG_nil)))))
theorem o_5_change : dk_mono s_5_change := dk_MV_mono _ h_5_change _ _
def t_5_change : dk_Tm := (tc_5, [(114, 0, 0), (78, 0, 1), (68, 1, 2), (146, 1, 3), (150, 0, 4)], [0, 17, 48, 73, 78, 79, 104, 109, 110, 136, 141, 142, 162], 0)
def y_5_isPlace : MethodName := ⟨nn_R5, "isPlace", "(I)Z"⟩
def b_5_isPlace : dk_T := [
  ([true], [.inl (.iload 0), .inl (.iconst 0), .inl (.iconst 4999), .inr (5, 0, 1), .inl .lreturn])]
def g_5_isPlace : List (Nat × dk_S) := [(3, s_5_isWithin)]
def s_5_isPlace : dk_S := dk_M g_5_isPlace b_5_isPlace 1
theorem h_5_isPlace : dk_monoG g_5_isPlace := dk_monoG_cons o_5_isWithin (dk_monoG_nil)
theorem o_5_isPlace : dk_mono s_5_isPlace := dk_M_mono h_5_isPlace _ _
def t_5_isPlace : dk_Tm := (tc_5, [(68, 1, 0)], [0], 1)
def y_5_drum : MethodName := ⟨nn_R5, "drum", "(III)I"⟩
def b_5_drum : dk_T := [
  ([true, true, true, true, false], [.inl (.iload 1), .inr (5, 0, 1), .inl (.ifCond .eq 1), .inl (.iload 2), .inl (.iconst 1), .inl (.iconst 99), .inr (5, 1, 1), .inl (.ifCond .eq 1), .inl (.iload 3), .inl (.iconst (-999)), .inl (.iconst 999), .inr (5, 1, 1), .inl (.ifCond .ne 2), .inr (7, 1, 1)]),
  ([true, false, false, false, false], [.inl (.aload 0), .inl (.iconst 0), .inr (5, 2, 0), .inl .ireturn]),
  ([true, true, true, true, false], [.inl (.aload 0), .inr (0, 5, 0), .inr (0, 0, 8), .inl (.iconst 6), .inl (.if_icmp .lt 3), .inl (.aload 0), .inl (.iconst 1), .inr (5, 2, 0), .inl .ireturn]),
  ([true, true, true, true, false], [.inl (.aload 0), .inr (0, 5, 0), .inr (0, 0, 8), .inl (.istore 4), .inl (.aload 0), .inr (0, 5, 0), .inr (0, 0, 9), .inl (.iload 4), .inl (.iload 1), .inl .iastore, .inl (.aload 0), .inr (0, 5, 0), .inr (0, 0, 10), .inl (.iload 4), .inl (.iload 2), .inl .iastore, .inl (.aload 0), .inr (0, 5, 0), .inr (0, 0, 11), .inl (.iload 4), .inl (.iload 3), .inl .iastore, .inl (.aload 0), .inr (0, 5, 0), .inl .dup, .inr (0, 0, 8), .inl (.iconst 1), .inl .iadd, .inr (1, 0, 8), .inl (.iload 4), .inl .ireturn])]
def g_5_drum : List (Nat × dk_S) := [(1, s_5_isPlace), (3, s_5_isWithin), (2, s_5_finding)]
def s_5_drum : dk_S := dk_MV 5 g_5_drum b_5_drum 5
theorem h_5_drum : dk_monoG g_5_drum := dk_monoG_cons o_5_isPlace (dk_monoG_cons o_5_isWithin (dk_monoG_cons o_5_finding (dk_monoG_nil)))
theorem o_5_drum : dk_mono s_5_drum := dk_MV_mono _ h_5_drum _ _
def t_5_drum : dk_Tm := (tc_5, [(153, 1, 0), (68, 1, 1), (78, 0, 2)], [0, 30, 36, 54], 0)
def y_0_hasDrum : MethodName := ⟨nn_R0, "hasDrum", "(I)Z"⟩
def b_0_hasDrum : dk_T := [
  ([true, true], [.inl (.iload 1), .inl (.ifCond .lt 1), .inl (.iload 1), .inl (.aload 0), .inr (0, 0, 8), .inl (.if_icmp .ge 1), .inl (.iconst 1), .inr (7, 2, 0)]),
  ([false, false], [.inl (.iconst 0), .inr (7, 2, 1)]),
  ([false, false], [.inl .lreturn])]
def g_0_hasDrum : List (Nat × dk_S) := []
def s_0_hasDrum : dk_S := dk_MV 0 g_0_hasDrum b_0_hasDrum 2
theorem h_0_hasDrum : dk_monoG g_0_hasDrum := dk_monoG_nil
theorem o_0_hasDrum : dk_mono s_0_hasDrum := dk_MV_mono _ h_0_hasDrum _ _
def t_0_hasDrum : dk_Tm := (tc_0, [], [0, 16, 17], 1)
def y_5_drumOf : MethodName := ⟨nn_R5, "drumOf", "(II)I"⟩
def b_5_drumOf : dk_T := [
  ([true, true, true], [.inl (.aload 0), .inr (0, 5, 0), .inl (.iload 1), .inr (5, 0, 0), .inl (.ifCond .eq 1), .inl (.iload 2), .inl (.iconst 0), .inl (.iconst 2), .inr (5, 1, 1), .inl (.ifCond .ne 2), .inr (7, 1, 1)]),
  ([true, false, false], [.inl (.aload 0), .inl (.iconst 0), .inr (5, 2, 0), .inl .ireturn]),
  ([true, true, true], [.inl (.iload 2), .inl (.ifCond .ne 3), .inl (.aload 0), .inr (0, 5, 0), .inr (0, 0, 9), .inl (.iload 1), .inl .iaload, .inl .ireturn]),
  ([true, true, true], [.inl (.iload 2), .inl (.iconst 1), .inl (.if_icmp .ne 4), .inl (.aload 0), .inr (0, 5, 0), .inr (0, 0, 10), .inl (.iload 1), .inl .iaload, .inr (7, 5, 0)]),
  ([true, true, false], [.inl (.aload 0), .inr (0, 5, 0), .inr (0, 0, 11), .inl (.iload 1), .inl .iaload, .inr (7, 5, 1)]),
  ([false, false, false], [.inl .ireturn])]
def g_5_drumOf : List (Nat × dk_S) := [(2, s_0_hasDrum), (3, s_5_isWithin), (2, s_5_finding)]
def s_5_drumOf : dk_S := dk_MV 5 g_5_drumOf b_5_drumOf 3
theorem h_5_drumOf : dk_monoG g_5_drumOf := dk_monoG_cons o_0_hasDrum (dk_monoG_cons o_5_isWithin (dk_monoG_cons o_5_finding (dk_monoG_nil)))
theorem o_5_drumOf : dk_mono s_5_drumOf := dk_MV_mono _ h_5_drumOf _ _
def t_5_drumOf : dk_Tm := (tc_5, [(168, 0, 0), (68, 1, 1), (78, 0, 2)], [0, 20, 26, 40, 57, 66], 0)
def y_5_carry : MethodName := ⟨nn_R5, "carry", "(II)I"⟩
def b_5_carry : dk_T := [
  ([true, true, true], [.inl (.aload 0), .inr (0, 5, 0), .inl (.iload 1), .inr (5, 0, 0), .inl (.ifCond .eq 1), .inl (.iload 2), .inr (5, 1, 1), .inl (.ifCond .ne 2), .inr (7, 1, 1)]),
  ([true, false, false], [.inl (.aload 0), .inl (.iconst 0), .inr (5, 2, 0), .inl .ireturn]),
  ([true, true, true], [.inl (.aload 0), .inr (0, 5, 0), .inr (0, 0, 9), .inl (.iload 1), .inl (.iload 2), .inr (5, 3, 1), .inl .ireturn])]
def g_5_carry : List (Nat × dk_S) := [(2, s_0_hasDrum), (1, s_5_isPlace), (2, s_5_finding), (3, s_5_exchange)]
def s_5_carry : dk_S := dk_MV 5 g_5_carry b_5_carry 3
theorem h_5_carry : dk_monoG g_5_carry := dk_monoG_cons o_0_hasDrum (dk_monoG_cons o_5_isPlace (dk_monoG_cons o_5_finding (dk_monoG_cons o_5_exchange (dk_monoG_nil))))
theorem o_5_carry : dk_mono s_5_carry := dk_MV_mono _ h_5_carry _ _
def t_5_carry : dk_Tm := (tc_5, [(168, 0, 0), (153, 1, 1), (78, 0, 2), (146, 1, 3)], [0, 18, 24], 0)
def y_5_bend : MethodName := ⟨nn_R5, "bend", "(I)I"⟩
def b_5_bend : dk_T := [
  ([true, true], [.inl (.iload 1), .inr (5, 0, 1), .inl (.ifCond .ne 1), .inl (.aload 0), .inl (.iconst 0), .inr (5, 1, 0), .inl .ireturn]),
  ([true, true], [.inl (.aload 0), .inr (0, 5, 0), .inr (0, 0, 12), .inl (.iconst 6), .inl (.if_icmp .lt 2), .inl (.aload 0), .inl (.iconst 1), .inr (5, 1, 0), .inl .ireturn]),
  ([true, true], [.inl (.aload 0), .inr (0, 5, 0), .inr (0, 0, 13), .inl (.aload 0), .inr (0, 5, 0), .inr (0, 0, 12), .inl (.iload 1), .inl .iastore, .inl (.aload 0), .inr (0, 5, 0), .inl .dup, .inr (0, 0, 12), .inl (.iconst 1), .inl .iadd, .inr (1, 0, 12), .inl (.aload 0), .inr (0, 5, 0), .inr (0, 0, 12), .inl .ireturn])]
def g_5_bend : List (Nat × dk_S) := [(1, s_5_isPlace), (2, s_5_finding)]
def s_5_bend : dk_S := dk_MV 5 g_5_bend b_5_bend 2
theorem h_5_bend : dk_monoG g_5_bend := dk_monoG_cons o_5_isPlace (dk_monoG_cons o_5_finding (dk_monoG_nil))
theorem o_5_bend : dk_mono s_5_bend := dk_MV_mono _ h_5_bend _ _
def t_5_bend : dk_Tm := (tc_5, [(153, 1, 0), (78, 0, 1)], [0, 13, 31], 0)
def y_5_lag : MethodName := ⟨nn_R5, "lag", "(II)I"⟩
def b_5_lag : dk_T := [
  ([true, true, true], [.inl (.iload 1), .inr (5, 0, 1), .inl (.ifCond .eq 1), .inl (.iload 2), .inr (5, 0, 1), .inl (.ifCond .ne 2), .inr (7, 1, 1)]),
  ([true, false, false], [.inl (.aload 0), .inl (.iconst 0), .inr (5, 1, 0), .inl .ireturn]),
  ([true, true, true], [.inl (.aload 0), .inr (0, 5, 0), .inl (.iload 1), .inl (.iload 2), .inr (5, 2, 0), .inl .ireturn])]
def g_5_lag : List (Nat × dk_S) := [(1, s_5_isPlace), (2, s_5_finding), (3, s_0_lagBetween)]
def s_5_lag : dk_S := dk_MV 5 g_5_lag b_5_lag 3
theorem h_5_lag : dk_monoG g_5_lag := dk_monoG_cons o_5_isPlace (dk_monoG_cons o_5_finding (dk_monoG_cons o_0_lagBetween (dk_monoG_nil)))
theorem o_5_lag : dk_mono s_5_lag := dk_MV_mono _ h_5_lag _ _
def t_5_lag : dk_Tm := (tc_5, [(153, 1, 0), (78, 0, 1), (177, 0, 2)], [0, 14, 20], 0)
def y_4_start : MethodName := ⟨nn_R4, "start", "()V"⟩
def b_4_start : dk_T := [
  ([true], [.inl (.aload 0), .inr (0, 4, 0), .inr (0, 0, 7), .inl (.iconst 0), .inl (.aload 0), .inr (0, 4, 2), .inl (.iconst 0), .inl (.iconst 24), .inr (5, 0, 1), .inl .return_])]
def g_4_start : List (Nat × dk_S) := [(5, s_ac)]
def s_4_start : dk_S := dk_MV 4 g_4_start b_4_start 1
theorem h_4_start : dk_monoG g_4_start := dk_monoG_cons o_ac (dk_monoG_nil)
theorem o_4_start : dk_mono s_4_start := dk_MV_mono _ h_4_start _ _
def t_4_start : dk_Tm := (tc_4, [(31, 1, 0)], [0], 2)
def y_5_setOut : MethodName := ⟨nn_R5, "setOut", "()V"⟩
def b_5_setOut : dk_T := [
  ([true], [.inl (.aload 0), .inr (0, 5, 5), .inr (5, 0, 0), .inl (.aload 0), .inr (0, 5, 6), .inr (5, 1, 0), .inl .return_])]
def g_5_setOut : List (Nat × dk_S) := [(1, s_1_prepare), (1, s_4_start)]
def s_5_setOut : dk_S := dk_MV 5 g_5_setOut b_5_setOut 1
theorem h_5_setOut : dk_monoG g_5_setOut := dk_monoG_cons o_1_prepare (dk_monoG_cons o_4_start (dk_monoG_nil))
theorem o_5_setOut : dk_mono s_5_setOut := dk_MV_mono _ h_5_setOut _ _
def t_5_setOut : dk_Tm := (tc_5, [(139, 0, 0), (228, 0, 1)], [0], 2)
def y_4_step : MethodName := ⟨nn_R4, "step", "()Z"⟩
def b_4_step : dk_T := [
  ([true, false, false], [.inl (.iconst 0), .inl (.istore 1), .inl (.iconst 0), .inl (.istore 2), .inr (7, 1, 1)]),
  ([true, true, true], [.inl (.iload 2), .inl (.aload 0), .inr (0, 4, 0), .inr (0, 0, 1), .inl (.if_icmp .ge 4), .inl (.aload 0), .inr (0, 4, 3), .inl (.iload 2), .inl (.aload 0), .inr (0, 4, 2), .inl (.iload 2), .inl .iaload, .inl (.aload 0), .inr (0, 4, 1), .inl (.iload 2), .inl (.aload 0), .inr (0, 4, 2), .inr (5, 0, 0), .inl .iadd, .inl (.aload 0), .inr (0, 4, 1), .inr (0, 1, 1), .inr (5, 1, 1), .inl .iastore, .inl (.iload 1), .inl (.aload 0), .inr (0, 4, 3), .inl (.iload 2), .inl .iaload, .inl (.aload 0), .inr (0, 4, 2), .inl (.iload 2), .inl .iaload, .inl (.if_icmp .eq 2), .inl (.iconst 1), .inr (7, 3, 0)]),
  ([true, false, true], [.inl (.iconst 0), .inr (7, 3, 1)]),
  ([true, false, true], [.inl .ior, .inl (.istore 1), .inl (.iinc 2 (1)), .inr (7, 1, 0)]),
  ([true, true, false], [.inl (.aload 0), .inr (0, 4, 2), .inl (.astore 2), .inl (.aload 0), .inl (.aload 0), .inr (0, 4, 3), .inr (3, 4, 2), .inl (.aload 0), .inl (.aload 2), .inr (3, 4, 3), .inl (.iload 1), .inl .lreturn])]
def g_4_step : List (Nat × dk_S) := [(3, s_1_turnOf), (2, s_5_wrapped)]
def s_4_step : dk_S := dk_MV 4 g_4_step b_4_step 3
theorem h_4_step : dk_monoG g_4_step := dk_monoG_cons o_1_turnOf (dk_monoG_cons o_5_wrapped (dk_monoG_nil))
theorem o_4_step : dk_mono s_4_step := dk_MV_mono _ h_4_step _ _
def t_4_step : dk_Tm := (tc_4, [(41, 0, 0), (50, 1, 1)], [0, 4, 70, 71, 79], 1)
def y_4_walk : MethodName := ⟨nn_R4, "walk", "(I)V"⟩
def b_4_walk : dk_T := [
  ([true, true, false, false], [.inl (.iconst 1), .inl (.istore 2), .inl (.iconst 0), .inl (.istore 3), .inr (7, 1, 1)]),
  ([true, true, true, true], [.inl (.iload 3), .inl (.iload 1), .inl (.if_icmp .ge 2), .inl (.iload 2), .inl (.ifCond .eq 2), .inl (.aload 0), .inr (5, 0, 0), .inl (.istore 2), .inl (.iinc 3 (1)), .inr (7, 1, 0)]),
  ([false, false, false, false], [.inl .return_])]
def g_4_walk : List (Nat × dk_S) := [(1, s_4_step)]
def s_4_walk : dk_S := dk_MV 4 g_4_walk b_4_walk 4
theorem h_4_walk : dk_monoG g_4_walk := dk_monoG_cons o_4_step (dk_monoG_nil)
theorem o_4_walk : dk_mono s_4_walk := dk_MV_mono _ h_4_walk _ _
def t_4_walk : dk_Tm := (tc_4, [(54, 0, 0)], [0, 4, 24], 2)
def y_8_max : MethodName := ⟨"java/lang/Math", "max", "(II)I"⟩
def b_8_max : dk_T := [
  ([true, true], [.inl (.iload 0), .inl (.iload 1), .inl (.if_icmp .lt 1), .inl (.iload 0), .inr (7, 2, 0)]),
  ([false, true], [.inl (.iload 1), .inr (7, 2, 1)]),
  ([false, false], [.inl .ireturn])]
def g_8_max : List (Nat × dk_S) := []
def s_8_max : dk_S := dk_M g_8_max b_8_max 2
theorem h_8_max : dk_monoG g_8_max := dk_monoG_nil
theorem o_8_max : dk_mono s_8_max := dk_M_mono h_8_max _ _
def t_8_max : dk_Tm := (tc_n, [], [0, 9, 10], 0)
def y_0_worstOf : MethodName := ⟨nn_R0, "worstOf", "([I)I"⟩
def b_0_worstOf : dk_T := [
  ([true, true, false, false], [.inl (.iconst 0), .inl (.istore 2), .inl (.iconst 0), .inl (.istore 3), .inr (7, 1, 1)]),
  ([true, true, true, true], [.inl (.iload 3), .inl (.aload 0), .inr (0, 0, 1), .inl (.if_icmp .ge 2), .inl (.iload 2), .inl (.aload 1), .inl (.iload 3), .inl .iaload, .inr (5, 0, 1), .inr (5, 1, 1), .inl (.istore 2), .inl (.iinc 3 (1)), .inr (7, 1, 0)]),
  ([false, false, true, false], [.inl (.iload 2), .inl .ireturn])]
def g_0_worstOf : List (Nat × dk_S) := [(1, s_8_abs), (2, s_8_max)]
def s_0_worstOf : dk_S := dk_MV 0 g_0_worstOf b_0_worstOf 4
theorem h_0_worstOf : dk_monoG g_0_worstOf := dk_monoG_cons o_8_abs (dk_monoG_cons o_8_max (dk_monoG_nil))
theorem o_0_worstOf : dk_mono s_0_worstOf := dk_MV_mono _ h_0_worstOf _ _
def t_0_worstOf : dk_Tm := (tc_0, [(94, 1, 0), (109, 1, 1)], [0, 4, 29], 0)
def y_5_tread : MethodName := ⟨nn_R5, "tread", "(I)I"⟩
def b_5_tread : dk_T := [
  ([true, true], [.inl (.iload 1), .inl (.iconst 1), .inl (.iconst 99), .inr (5, 0, 1), .inl (.ifCond .ne 1), .inl (.aload 0), .inl (.iconst 0), .inr (5, 1, 0), .inl .ireturn]),
  ([true, true], [.inl (.aload 0), .inr (0, 5, 0), .inr (0, 0, 1), .inl (.ifCond .ne 2), .inl (.aload 0), .inl (.iconst 3), .inr (5, 1, 0), .inl .ireturn]),
  ([true, true], [.inl (.aload 0), .inr (5, 2, 0), .inl (.aload 0), .inr (0, 5, 6), .inl (.iload 1), .inr (5, 3, 0), .inl (.aload 0), .inr (0, 5, 6), .inr (0, 4, 2), .inl (.iconst 0), .inl (.aload 0), .inr (0, 5, 0), .inr (0, 0, 7), .inl (.iconst 0), .inl (.iconst 24), .inr (5, 4, 1), .inl (.aload 0), .inr (0, 5, 0), .inl (.aload 0), .inr (0, 5, 0), .inr (0, 0, 7), .inr (5, 5, 0), .inl .ireturn])]
def g_5_tread : List (Nat × dk_S) := [(3, s_5_isWithin), (2, s_5_finding), (1, s_5_setOut), (2, s_4_walk), (5, s_ac), (2, s_0_worstOf)]
def s_5_tread : dk_S := dk_MV 5 g_5_tread b_5_tread 2
theorem h_5_tread : dk_monoG g_5_tread := dk_monoG_cons o_5_isWithin (dk_monoG_cons o_5_finding (dk_monoG_cons o_5_setOut (dk_monoG_cons o_4_walk (dk_monoG_cons o_ac (dk_monoG_cons o_0_worstOf (dk_monoG_nil))))))
theorem o_5_tread : dk_mono s_5_tread := dk_MV_mono _ h_5_tread _ _
def t_5_tread : dk_Tm := (tc_5, [(68, 1, 0), (78, 0, 1), (180, 0, 2), (183, 0, 3), (190, 1, 4), (196, 0, 5)], [0, 16, 32], 0)
def y_5_isMarch : MethodName := ⟨nn_R5, "isMarch", "(I)Z"⟩
def b_5_isMarch : dk_T := [
  ([true], [.inl (.iload 0), .inl (.iconst 0), .inl (.iconst 200), .inr (5, 0, 1), .inl .lreturn])]
def g_5_isMarch : List (Nat × dk_S) := [(3, s_5_isWithin)]
def s_5_isMarch : dk_S := dk_M g_5_isMarch b_5_isMarch 1
theorem h_5_isMarch : dk_monoG g_5_isMarch := dk_monoG_cons o_5_isWithin (dk_monoG_nil)
theorem o_5_isMarch : dk_mono s_5_isMarch := dk_M_mono h_5_isMarch _ _
def t_5_isMarch : dk_Tm := (tc_5, [(68, 1, 0)], [0], 1)
def y_5_march : MethodName := ⟨nn_R5, "march", "(II)I"⟩
def b_5_march : dk_T := [
  ([true, true, true], [.inl (.aload 0), .inr (0, 5, 0), .inl (.iload 1), .inr (5, 0, 0), .inl (.ifCond .eq 1), .inl (.iload 2), .inr (5, 1, 1), .inl (.ifCond .ne 2), .inr (7, 1, 1)]),
  ([true, false, false], [.inl (.aload 0), .inl (.iconst 0), .inr (5, 2, 0), .inl .ireturn]),
  ([true, true, true], [.inl (.aload 0), .inr (5, 3, 0), .inl (.aload 0), .inr (0, 5, 6), .inl (.iload 2), .inr (5, 4, 0), .inl (.aload 0), .inr (0, 5, 6), .inr (0, 4, 2), .inl (.iload 1), .inl .iaload, .inl .ireturn])]
def g_5_march : List (Nat × dk_S) := [(2, s_0_hasRank), (1, s_5_isMarch), (2, s_5_finding), (1, s_5_setOut), (2, s_4_walk)]
def s_5_march : dk_S := dk_MV 5 g_5_march b_5_march 3
theorem h_5_march : dk_monoG g_5_march := dk_monoG_cons o_0_hasRank (dk_monoG_cons o_5_isMarch (dk_monoG_cons o_5_finding (dk_monoG_cons o_5_setOut (dk_monoG_cons o_4_walk (dk_monoG_nil)))))
theorem o_5_march : dk_mono s_5_march := dk_MV_mono _ h_5_march _ _
def t_5_march : dk_Tm := (tc_5, [(114, 0, 0), (200, 1, 1), (78, 0, 2), (180, 0, 3), (183, 0, 4)], [0, 18, 24], 0)
def y_5_worst : MethodName := ⟨nn_R5, "worst", "(I)I"⟩
def b_5_worst : dk_T := [
  ([true, true], [.inl (.iload 1), .inr (5, 0, 1), .inl (.ifCond .ne 1), .inl (.aload 0), .inl (.iconst 0), .inr (5, 1, 0), .inl .ireturn]),
  ([true, true], [.inl (.aload 0), .inr (0, 5, 0), .inr (0, 0, 1), .inl (.ifCond .ne 2), .inl (.aload 0), .inl (.iconst 3), .inr (5, 1, 0), .inl .ireturn]),
  ([true, true], [.inl (.aload 0), .inr (5, 2, 0), .inl (.aload 0), .inr (0, 5, 6), .inl (.iload 1), .inr (5, 3, 0), .inl (.aload 0), .inr (0, 5, 0), .inl (.aload 0), .inr (0, 5, 6), .inr (0, 4, 2), .inr (5, 4, 0), .inl .ireturn])]
def g_5_worst : List (Nat × dk_S) := [(1, s_5_isMarch), (2, s_5_finding), (1, s_5_setOut), (2, s_4_walk), (2, s_0_worstOf)]
def s_5_worst : dk_S := dk_MV 5 g_5_worst b_5_worst 2
theorem h_5_worst : dk_monoG g_5_worst := dk_monoG_cons o_5_isMarch (dk_monoG_cons o_5_finding (dk_monoG_cons o_5_setOut (dk_monoG_cons o_4_walk (dk_monoG_cons o_0_worstOf (dk_monoG_nil)))))
theorem o_5_worst : dk_mono s_5_worst := dk_MV_mono _ h_5_worst _ _
def t_5_worst : dk_Tm := (tc_5, [(200, 1, 0), (78, 0, 1), (180, 0, 2), (183, 0, 3), (196, 0, 4)], [0, 13, 29], 0)
def y_5_right : MethodName := ⟨nn_R5, "right", "(II)I"⟩
def b_5_right : dk_T := [
  ([true, true, true, false, false], [.inl (.iload 1), .inl (.iconst 0), .inl (.iconst 999), .inr (5, 0, 1), .inl (.ifCond .eq 1), .inl (.iload 2), .inr (5, 1, 1), .inl (.ifCond .ne 2), .inr (7, 1, 1)]),
  ([true, false, false, false, false], [.inl (.aload 0), .inl (.iconst 0), .inr (5, 2, 0), .inl .ireturn]),
  ([true, true, true, false, false], [.inl (.aload 0), .inr (5, 3, 0), .inl (.aload 0), .inr (0, 5, 6), .inl (.iload 2), .inr (5, 4, 0), .inl (.iconst 0), .inl (.istore 3), .inl (.iconst 0), .inl (.istore 4), .inr (7, 3, 1)]),
  ([true, true, false, true, true], [.inl (.iload 4), .inl (.aload 0), .inr (0, 5, 0), .inr (0, 0, 1), .inl (.if_icmp .ge 5), .inl (.aload 0), .inr (0, 5, 6), .inr (0, 4, 2), .inl (.iload 4), .inl .iaload, .inr (5, 5, 1), .inl (.iload 1), .inl (.if_icmp .gt 4), .inl (.iload 3), .inl (.iconst 1), .inl (.iload 4), .inl .ishl, .inl .ior, .inl (.istore 3), .inr (7, 4, 1)]),
  ([true, true, false, true, true], [.inl (.iinc 4 (1)), .inr (7, 3, 0)]),
  ([false, false, false, true, false], [.inl (.iload 3), .inl .ireturn])]
def g_5_right : List (Nat × dk_S) := [(3, s_5_isWithin), (1, s_5_isMarch), (2, s_5_finding), (1, s_5_setOut), (2, s_4_walk), (1, s_8_abs)]
def s_5_right : dk_S := dk_MV 5 g_5_right b_5_right 5
theorem h_5_right : dk_monoG g_5_right := dk_monoG_cons o_5_isWithin (dk_monoG_cons o_5_isMarch (dk_monoG_cons o_5_finding (dk_monoG_cons o_5_setOut (dk_monoG_cons o_4_walk (dk_monoG_cons o_8_abs (dk_monoG_nil))))))
theorem o_5_right : dk_mono s_5_right := dk_MV_mono _ h_5_right _ _
def t_5_right : dk_Tm := (tc_5, [(68, 1, 0), (200, 1, 1), (78, 0, 2), (180, 0, 3), (183, 0, 4), (203, 1, 5)], [0, 18, 24, 41, 77, 83], 0)
def y_5_settles : MethodName := ⟨nn_R5, "settles", "()I"⟩
def b_5_settles : dk_T := [
  ([true, false], [.inl (.aload 0), .inr (5, 0, 0), .inl (.iconst 0), .inl (.istore 1), .inr (7, 1, 1)]),
  ([true, true], [.inl (.iload 1), .inl (.iconst 200), .inl (.if_icmp .gt 3), .inl (.aload 0), .inr (0, 5, 6), .inr (5, 1, 0), .inl (.ifCond .ne 2), .inl (.iload 1), .inl .ireturn]),
  ([true, true], [.inl (.iinc 1 (1)), .inr (7, 1, 0)]),
  ([true, false], [.inl (.aload 0), .inl (.iconst 3), .inr (5, 2, 0), .inl .ireturn])]
def g_5_settles : List (Nat × dk_S) := [(1, s_5_setOut), (1, s_4_step), (2, s_5_finding)]
def s_5_settles : dk_S := dk_MV 5 g_5_settles b_5_settles 2
theorem h_5_settles : dk_monoG g_5_settles := dk_monoG_cons o_5_setOut (dk_monoG_cons o_4_step (dk_monoG_cons o_5_finding (dk_monoG_nil)))
theorem o_5_settles : dk_mono s_5_settles := dk_MV_mono _ h_5_settles _ _
def t_5_settles : dk_Tm := (tc_5, [(180, 0, 0), (208, 0, 1), (78, 0, 2)], [0, 6, 25, 31], 0)
def y_5_wasAsNow : MethodName := ⟨nn_R5, "wasAsNow", "(I)Z"⟩
def b_5_wasAsNow : dk_T := [
  ([true, true, false], [.inl (.iconst 0), .inl (.istore 2), .inr (7, 1, 1)]),
  ([true, true, true], [.inl (.iload 2), .inl (.aload 0), .inr (0, 5, 0), .inr (0, 0, 1), .inl (.if_icmp .ge 3), .inl (.aload 0), .inr (0, 5, 8), .inl (.iload 1), .inl (.iconst 24), .inl .imul, .inl (.iload 2), .inl .iadd, .inl .iaload, .inl (.aload 0), .inr (0, 5, 6), .inr (0, 4, 2), .inl (.iload 2), .inl .iaload, .inl (.if_icmp .eq 2), .inl (.iconst 0), .inl .lreturn]),
  ([true, true, true], [.inl (.iinc 2 (1)), .inr (7, 1, 0)]),
  ([false, false, false], [.inl (.iconst 1), .inl .lreturn])]
def g_5_wasAsNow : List (Nat × dk_S) := []
def s_5_wasAsNow : dk_S := dk_MV 5 g_5_wasAsNow b_5_wasAsNow 3
theorem h_5_wasAsNow : dk_monoG g_5_wasAsNow := dk_monoG_nil
theorem o_5_wasAsNow : dk_mono s_5_wasAsNow := dk_MV_mono _ h_5_wasAsNow _ _
def t_5_wasAsNow : dk_Tm := (tc_5, [], [0, 2, 38, 44], 1)
def y_5_whenAsNow : MethodName := ⟨nn_R5, "whenAsNow", "(I)I"⟩
def b_5_whenAsNow : dk_T := [
  ([true, true, false], [.inl (.iconst 0), .inl (.istore 2), .inr (7, 1, 1)]),
  ([true, true, true], [.inl (.iload 2), .inl (.iload 1), .inl (.if_icmp .ge 3), .inl (.aload 0), .inl (.iload 2), .inr (5, 0, 0), .inl (.ifCond .eq 2), .inl (.iload 2), .inl .ireturn]),
  ([true, true, true], [.inl (.iinc 2 (1)), .inr (7, 1, 0)]),
  ([false, false, false], [.inl (.iconst (-1)), .inl .ireturn])]
def g_5_whenAsNow : List (Nat × dk_S) := [(2, s_5_wasAsNow)]
def s_5_whenAsNow : dk_S := dk_MV 5 g_5_whenAsNow b_5_whenAsNow 3
theorem h_5_whenAsNow : dk_monoG g_5_whenAsNow := dk_monoG_cons o_5_wasAsNow (dk_monoG_nil)
theorem o_5_whenAsNow : dk_mono s_5_whenAsNow := dk_MV_mono _ h_5_whenAsNow _ _
def t_5_whenAsNow : dk_Tm := (tc_5, [(310, 0, 0)], [0, 2, 17, 23], 0)
def y_5_round : MethodName := ⟨nn_R5, "round", "(I)I"⟩
def b_5_round : dk_T := [
  ([true, true, false, false], [.inl (.iload 1), .inl (.iconst 0), .inl (.iconst 1), .inr (5, 0, 1), .inl (.ifCond .ne 1), .inl (.aload 0), .inl (.iconst 0), .inr (5, 1, 0), .inl .ireturn]),
  ([true, true, false, false], [.inl (.aload 0), .inr (5, 2, 0), .inl (.iconst 0), .inl (.istore 2), .inr (7, 2, 1)]),
  ([true, true, true, false], [.inl (.iload 2), .inl (.iconst 200), .inl (.if_icmp .gt 6), .inl (.aload 0), .inl (.iload 2), .inr (5, 3, 0), .inl (.istore 3), .inl (.iload 3), .inl (.ifCond .lt 5), .inl (.iload 1), .inl (.ifCond .ne 3), .inl (.iload 3), .inr (7, 4, 0)]),
  ([false, false, true, true], [.inl (.iload 2), .inl (.iload 3), .inl .isub, .inr (7, 4, 1)]),
  ([false, false, false, false], [.inl .ireturn]),
  ([true, true, true, false], [.inl (.aload 0), .inr (0, 5, 6), .inr (0, 4, 2), .inl (.iconst 0), .inl (.aload 0), .inr (0, 5, 8), .inl (.iload 2), .inl (.iconst 24), .inl .imul, .inl (.iconst 24), .inr (5, 4, 1), .inl (.aload 0), .inr (0, 5, 6), .inr (5, 5, 0), .inl .pop, .inl (.iinc 2 (1)), .inr (7, 2, 0)]),
  ([true, false, false, false], [.inl (.aload 0), .inl (.iconst 3), .inr (5, 1, 0), .inl .ireturn])]
def g_5_round : List (Nat × dk_S) := [(3, s_5_isWithin), (2, s_5_finding), (1, s_5_setOut), (2, s_5_whenAsNow), (5, s_ac), (1, s_4_step)]
def s_5_round : dk_S := dk_MV 5 g_5_round b_5_round 4
theorem h_5_round : dk_monoG g_5_round := dk_monoG_cons o_5_isWithin (dk_monoG_cons o_5_finding (dk_monoG_cons o_5_setOut (dk_monoG_cons o_5_whenAsNow (dk_monoG_cons o_ac (dk_monoG_cons o_4_step (dk_monoG_nil))))))
theorem o_5_round : dk_mono s_5_round := dk_MV_mono _ h_5_round _ _
def t_5_round : dk_Tm := (tc_5, [(68, 1, 0), (78, 0, 1), (180, 0, 2), (212, 0, 3), (190, 1, 4), (208, 0, 5)], [0, 15, 21, 46, 49, 50, 85], 0)
def y_5_better : MethodName := ⟨nn_R5, "better", "(I)I"⟩
def b_5_better : dk_T := [
  ([true, true, false, false, false, false], [.inl (.iload 1), .inl (.iconst 1), .inl (.iconst 200), .inr (5, 0, 1), .inl (.ifCond .ne 1), .inl (.aload 0), .inl (.iconst 0), .inr (5, 1, 0), .inl .ireturn]),
  ([true, true, false, false, false, false], [.inl (.aload 0), .inr (5, 2, 0), .inl (.iconst 0), .inl (.istore 2), .inl (.aload 0), .inr (0, 5, 0), .inl (.aload 0), .inr (0, 5, 6), .inr (0, 4, 2), .inr (5, 3, 0), .inl (.istore 3), .inl (.iconst 0), .inl (.istore 4), .inr (7, 2, 1)]),
  ([true, true, true, true, true, false], [.inl (.iload 4), .inl (.iload 1), .inl (.if_icmp .ge 4), .inl (.aload 0), .inr (0, 5, 6), .inr (5, 4, 0), .inl .pop, .inl (.aload 0), .inr (0, 5, 0), .inl (.aload 0), .inr (0, 5, 6), .inr (0, 4, 2), .inr (5, 3, 0), .inl (.istore 5), .inl (.iload 5), .inl (.iload 3), .inl (.if_icmp .ge 3), .inl (.iinc 2 (1)), .inr (7, 3, 1)]),
  ([true, true, true, false, true, true], [.inl (.iload 5), .inl (.istore 3), .inl (.iinc 4 (1)), .inr (7, 2, 0)]),
  ([false, false, true, false, false, false], [.inl (.iload 2), .inl .ireturn])]
def g_5_better : List (Nat × dk_S) := [(3, s_5_isWithin), (2, s_5_finding), (1, s_5_setOut), (2, s_0_worstOf), (1, s_4_step)]
def s_5_better : dk_S := dk_MV 5 g_5_better b_5_better 6
theorem h_5_better : dk_monoG g_5_better := dk_monoG_cons o_5_isWithin (dk_monoG_cons o_5_finding (dk_monoG_cons o_5_setOut (dk_monoG_cons o_0_worstOf (dk_monoG_cons o_4_step (dk_monoG_nil)))))
theorem o_5_better : dk_mono s_5_better := dk_MV_mono _ h_5_better _ _
def t_5_better : dk_Tm := (tc_5, [(68, 1, 0), (78, 0, 1), (180, 0, 2), (196, 0, 3), (208, 0, 4)], [0, 17, 41, 80, 89], 0)
def y_5_worstWithDrumsSo : MethodName := ⟨nn_R5, "worstWithDrumsSo", "(I)I"⟩
def b_5_worstWithDrumsSo : dk_T := [
  ([true, true], [.inl (.aload 0), .inr (0, 5, 5), .inr (5, 0, 0), .inl (.aload 0), .inr (0, 5, 6), .inr (5, 1, 0), .inl (.aload 0), .inr (0, 5, 6), .inl (.iload 1), .inr (5, 2, 0), .inl (.aload 0), .inr (0, 5, 0), .inl (.aload 0), .inr (0, 5, 6), .inr (0, 4, 2), .inr (5, 3, 0), .inl .ireturn])]
def g_5_worstWithDrumsSo : List (Nat × dk_S) := [(1, s_1_listen), (1, s_4_start), (2, s_4_walk), (2, s_0_worstOf)]
def s_5_worstWithDrumsSo : dk_S := dk_MV 5 g_5_worstWithDrumsSo b_5_worstWithDrumsSo 2
theorem h_5_worstWithDrumsSo : dk_monoG g_5_worstWithDrumsSo := dk_monoG_cons o_1_listen (dk_monoG_cons o_4_start (dk_monoG_cons o_4_walk (dk_monoG_cons o_0_worstOf (dk_monoG_nil))))
theorem o_5_worstWithDrumsSo : dk_mono s_5_worstWithDrumsSo := dk_MV_mono _ h_5_worstWithDrumsSo _ _
def t_5_worstWithDrumsSo : dk_Tm := (tc_5, [(307, 0, 0), (228, 0, 1), (183, 0, 2), (196, 0, 3)], [0], 0)
def y_5_place : MethodName := ⟨nn_R5, "place", "(II)I"⟩
def b_5_place : dk_T := [
  ([true, true, true, false, false, false, false, false], [.inl (.aload 0), .inr (0, 5, 0), .inl (.iload 1), .inr (5, 0, 0), .inl (.ifCond .eq 1), .inl (.iload 2), .inl (.iconst 0), .inl (.iconst 50), .inr (5, 1, 1), .inl (.ifCond .ne 2), .inr (7, 1, 1)]),
  ([true, false, false, false, false, false, false, false], [.inl (.aload 0), .inl (.iconst 0), .inr (5, 2, 0), .inl .ireturn]),
  ([true, true, true, false, false, false, false, false], [.inl (.aload 0), .inr (0, 5, 0), .inr (0, 0, 1), .inl (.ifCond .ne 3), .inl (.aload 0), .inl (.iconst 3), .inr (5, 2, 0), .inl .ireturn]),
  ([true, true, true, false, false, false, false, false], [.inl (.aload 0), .inr (0, 5, 0), .inr (0, 0, 9), .inl (.iload 1), .inl .iaload, .inl (.istore 3), .inl (.aload 0), .inr (0, 5, 5), .inr (5, 3, 0), .inl (.iconst 0), .inl (.istore 4), .inr (6, 102, 0), .inl (.iconst 0), .inl .iaload, .inl (.istore 5), .inl (.iconst 0), .inl (.istore 6), .inr (7, 4, 1)]),
  ([true, true, true, true, true, true, true, false], [.inl (.iload 6), .inl (.aload 0), .inr (0, 5, 0), .inr (0, 0, 1), .inl (.if_icmp .ge 6), .inl (.aload 0), .inr (0, 5, 0), .inr (0, 0, 9), .inl (.iload 1), .inl (.aload 0), .inr (0, 5, 0), .inr (0, 0, 3), .inl (.iload 6), .inl .iaload, .inl .iastore, .inl (.aload 0), .inl (.iload 2), .inr (5, 4, 0), .inl (.istore 7), .inl (.iload 7), .inl (.iload 5), .inl (.if_icmp .ge 5), .inl (.iload 7), .inl (.istore 5), .inl (.iload 6), .inl (.istore 4), .inr (7, 5, 1)]),
  ([true, true, true, true, true, true, true, false], [.inl (.iinc 6 (1)), .inr (7, 4, 0)]),
  ([true, true, false, true, true, false, false, false], [.inl (.aload 0), .inr (0, 5, 0), .inr (0, 0, 9), .inl (.iload 1), .inl (.iload 3), .inl .iastore, .inl (.iload 4), .inl .ireturn])]
def g_5_place : List (Nat × dk_S) := [(2, s_0_hasDrum), (3, s_5_isWithin), (2, s_5_finding), (1, s_1_prepare), (2, s_5_worstWithDrumsSo)]
def s_5_place : dk_S := dk_MV 5 g_5_place b_5_place 8
theorem h_5_place : dk_monoG g_5_place := dk_monoG_cons o_0_hasDrum (dk_monoG_cons o_5_isWithin (dk_monoG_cons o_5_finding (dk_monoG_cons o_1_prepare (dk_monoG_cons o_5_worstWithDrumsSo (dk_monoG_nil)))))
theorem o_5_place : dk_mono s_5_place := dk_MV_mono _ h_5_place _ _
def t_5_place : dk_Tm := (tc_5, [(168, 0, 0), (68, 1, 1), (78, 0, 2), (139, 0, 3), (215, 0, 4)], [0, 21, 27, 43, 73, 126, 132], 0)
def y_5_areTwoDrums : MethodName := ⟨nn_R5, "areTwoDrums", "(II)Z"⟩
def b_5_areTwoDrums : dk_T := [
  ([true, true, true], [.inl (.aload 0), .inr (0, 5, 0), .inl (.iload 1), .inr (5, 0, 0), .inl (.ifCond .eq 1), .inl (.aload 0), .inr (0, 5, 0), .inl (.iload 2), .inr (5, 0, 0), .inl (.ifCond .eq 1), .inl (.iload 1), .inl (.iload 2), .inl (.if_icmp .eq 1), .inl (.iconst 1), .inr (7, 2, 0)]),
  ([false, false, false], [.inl (.iconst 0), .inr (7, 2, 1)]),
  ([false, false, false], [.inl .lreturn])]
def g_5_areTwoDrums : List (Nat × dk_S) := [(2, s_0_hasDrum)]
def s_5_areTwoDrums : dk_S := dk_MV 5 g_5_areTwoDrums b_5_areTwoDrums 3
theorem h_5_areTwoDrums : dk_monoG g_5_areTwoDrums := dk_monoG_cons o_0_hasDrum (dk_monoG_nil)
theorem o_5_areTwoDrums : dk_mono s_5_areTwoDrums := dk_MV_mono _ h_5_areTwoDrums _ _
def t_5_areTwoDrums : dk_Tm := (tc_5, [(168, 0, 0)], [0, 31, 32], 1)
def y_5_both : MethodName := ⟨nn_R5, "both", "(III)I"⟩
def b_5_both : dk_T := [
  ([true, true, true, true, false, false, false, false, false, false, false], [.inl (.aload 0), .inl (.iload 1), .inl (.iload 2), .inr (5, 0, 0), .inl (.ifCond .eq 1), .inl (.iload 3), .inl (.iconst 0), .inl (.iconst 9), .inr (5, 1, 1), .inl (.ifCond .ne 2), .inr (7, 1, 1)]),
  ([true, false, false, false, false, false, false, false, false, false, false], [.inl (.aload 0), .inl (.iconst 0), .inr (5, 2, 0), .inl .ireturn]),
  ([true, true, true, true, false, false, false, false, false, false, false], [.inl (.aload 0), .inr (0, 5, 0), .inr (0, 0, 1), .inl (.ifCond .ne 3), .inl (.aload 0), .inl (.iconst 3), .inr (5, 2, 0), .inl .ireturn]),
  ([true, true, true, true, false, false, false, false, false, false, false], [.inl (.aload 0), .inr (0, 5, 0), .inr (0, 0, 9), .inl (.iload 1), .inl .iaload, .inl (.istore 4), .inl (.aload 0), .inr (0, 5, 0), .inr (0, 0, 9), .inl (.iload 2), .inl .iaload, .inl (.istore 5), .inl (.aload 0), .inr (0, 5, 5), .inr (5, 3, 0), .inl (.iconst 0), .inl (.istore 6), .inr (6, 102, 0), .inl (.iconst 0), .inl .iaload, .inl (.istore 7), .inl (.iconst 0), .inl (.istore 8), .inr (7, 4, 1)]),
  ([true, true, true, true, true, true, true, true, true, false, false], [.inl (.iload 8), .inl (.aload 0), .inr (0, 5, 0), .inr (0, 0, 1), .inl (.if_icmp .ge 8), .inl (.aload 0), .inr (0, 5, 0), .inr (0, 0, 9), .inl (.iload 1), .inl (.aload 0), .inr (0, 5, 0), .inr (0, 0, 3), .inl (.iload 8), .inl .iaload, .inl .iastore, .inl (.iconst 0), .inl (.istore 9), .inr (7, 5, 1)]),
  ([true, true, true, true, true, true, true, true, true, true, false], [.inl (.iload 9), .inl (.aload 0), .inr (0, 5, 0), .inr (0, 0, 1), .inl (.if_icmp .ge 7), .inl (.aload 0), .inr (0, 5, 0), .inr (0, 0, 9), .inl (.iload 2), .inl (.aload 0), .inr (0, 5, 0), .inr (0, 0, 3), .inl (.iload 9), .inl .iaload, .inl .iastore, .inl (.aload 0), .inl (.iload 3), .inr (5, 4, 0), .inl (.istore 10), .inl (.iload 10), .inl (.iload 7), .inl (.if_icmp .ge 6), .inl (.iload 10), .inl (.istore 7), .inl (.iconst 100), .inl (.iload 8), .inl .imul, .inl (.iload 9), .inl .iadd, .inl (.istore 6), .inr (7, 6, 1)]),
  ([true, true, true, true, true, true, true, true, true, true, false], [.inl (.iinc 9 (1)), .inr (7, 5, 0)]),
  ([true, true, true, true, true, true, true, true, true, false, false], [.inl (.iinc 8 (1)), .inr (7, 4, 0)]),
  ([true, true, true, false, true, true, true, false, false, false, false], [.inl (.aload 0), .inr (0, 5, 0), .inr (0, 0, 9), .inl (.iload 1), .inl (.iload 4), .inl .iastore, .inl (.aload 0), .inr (0, 5, 0), .inr (0, 0, 9), .inl (.iload 2), .inl (.iload 5), .inl .iastore, .inl (.iload 6), .inl .ireturn])]
def g_5_both : List (Nat × dk_S) := [(3, s_5_areTwoDrums), (3, s_5_isWithin), (2, s_5_finding), (1, s_1_prepare), (2, s_5_worstWithDrumsSo)]
def s_5_both : dk_S := dk_MV 5 g_5_both b_5_both 11
theorem h_5_both : dk_monoG g_5_both := dk_monoG_cons o_5_areTwoDrums (dk_monoG_cons o_5_isWithin (dk_monoG_cons o_5_finding (dk_monoG_cons o_1_prepare (dk_monoG_cons o_5_worstWithDrumsSo (dk_monoG_nil)))))
theorem o_5_both : dk_mono s_5_both := dk_MV_mono _ h_5_both _ _
def t_5_both : dk_Tm := (tc_5, [(218, 0, 0), (68, 1, 1), (78, 0, 2), (139, 0, 3), (215, 0, 4)], [0, 19, 25, 41, 83, 117, 176, 182, 188], 0)
def y_5_two : MethodName := ⟨nn_R5, "two", "(IIII)I"⟩
def b_5_two : dk_T := [
  ([true, true, true, true, true, false, false, false, false, false], [.inl (.aload 0), .inl (.iload 1), .inl (.iload 2), .inr (5, 0, 0), .inl (.ifCond .eq 1), .inl (.iload 3), .inl (.iconst 1), .inl (.iconst 99), .inr (5, 1, 1), .inl (.ifCond .eq 1), .inl (.iload 4), .inl (.iconst 0), .inl (.iconst 1), .inr (5, 1, 1), .inl (.ifCond .ne 2), .inr (7, 1, 1)]),
  ([true, false, false, false, false, false, false, false, false, false], [.inl (.aload 0), .inl (.iconst 0), .inr (5, 2, 0), .inl .ireturn]),
  ([true, true, true, true, true, false, false, false, false, false], [.inl (.aload 0), .inr (0, 5, 0), .inl (.aload 0), .inr (0, 5, 0), .inr (0, 0, 9), .inl (.iload 2), .inl .iaload, .inl (.aload 0), .inr (0, 5, 0), .inr (0, 0, 9), .inl (.iload 1), .inl .iaload, .inr (5, 3, 0), .inl (.istore 5), .inl (.aload 0), .inr (0, 5, 0), .inl (.aload 0), .inr (0, 5, 0), .inr (0, 0, 9), .inl (.iload 1), .inl .iaload, .inl (.aload 0), .inr (0, 5, 0), .inr (0, 0, 9), .inl (.iload 2), .inl .iaload, .inr (5, 3, 0), .inl (.istore 6), .inl (.aload 0), .inr (0, 5, 0), .inr (0, 0, 11), .inl (.iload 1), .inl .iaload, .inl (.istore 7), .inl (.aload 0), .inr (0, 5, 0), .inr (0, 0, 11), .inl (.iload 2), .inl .iaload, .inl (.istore 8), .inl (.iconst 0), .inl (.istore 9), .inr (7, 3, 1)]),
  ([true, false, false, true, true, true, true, true, true, true], [.inl (.iload 9), .inl (.iload 3), .inl (.if_icmp .ge 4), .inl (.iload 7), .inl (.aload 0), .inr (0, 5, 0), .inl (.iload 7), .inl (.iload 5), .inl .iadd, .inl (.iload 8), .inl .isub, .inr (5, 4, 0), .inl (.iconst 2), .inl .idiv, .inl .isub, .inl (.istore 7), .inl (.iload 8), .inl (.aload 0), .inr (0, 5, 0), .inl (.iload 8), .inl (.iload 6), .inl .iadd, .inl (.iload 7), .inl .isub, .inr (5, 4, 0), .inl (.iconst 2), .inl .idiv, .inl .isub, .inl (.istore 8), .inl (.iinc 9 (1)), .inr (7, 3, 0)]),
  ([false, false, false, false, true, false, false, true, true, false], [.inl (.iload 4), .inl (.ifCond .ne 5), .inl (.iload 7), .inr (7, 6, 0)]),
  ([false, false, false, false, false, false, false, false, true, false], [.inl (.iload 8), .inr (7, 6, 1)]),
  ([false, false, false, false, false, false, false, false, false, false], [.inl .ireturn])]
def g_5_two : List (Nat × dk_S) := [(3, s_5_areTwoDrums), (3, s_5_isWithin), (2, s_5_finding), (3, s_0_lagBetween), (2, s_0_wrap)]
def s_5_two : dk_S := dk_MV 5 g_5_two b_5_two 10
theorem h_5_two : dk_monoG g_5_two := dk_monoG_cons o_5_areTwoDrums (dk_monoG_cons o_5_isWithin (dk_monoG_cons o_5_finding (dk_monoG_cons o_0_lagBetween (dk_monoG_cons o_0_wrap (dk_monoG_nil)))))
theorem o_5_two : dk_mono s_5_two := dk_MV_mono _ h_5_two _ _
def t_5_two : dk_Tm := (tc_5, [(218, 0, 0), (68, 1, 1), (78, 0, 2), (177, 0, 3), (150, 0, 4)], [0, 29, 35, 114, 170, 180, 182], 0)
def y_5_isOpposite : MethodName := ⟨nn_R5, "isOpposite", "(II)Z"⟩
def b_5_isOpposite : dk_T := [
  ([true, true], [.inl (.iload 0), .inl (.iload 1), .inr (5, 0, 1), .inr (5, 1, 1), .inl (.iconst 4), .inl .imul, .inl (.iload 1), .inl (.if_icmp .lt 1), .inl (.iconst 1), .inr (7, 2, 0)]),
  ([false, false], [.inl (.iconst 0), .inr (7, 2, 1)]),
  ([false, false], [.inl .lreturn])]
def g_5_isOpposite : List (Nat × dk_S) := [(2, s_5_wrapped), (1, s_8_abs)]
def s_5_isOpposite : dk_S := dk_M g_5_isOpposite b_5_isOpposite 2
theorem h_5_isOpposite : dk_monoG g_5_isOpposite := dk_monoG_cons o_5_wrapped (dk_monoG_cons o_8_abs (dk_monoG_nil))
theorem o_5_isOpposite : dk_mono s_5_isOpposite := dk_M_mono h_5_isOpposite _ _
def t_5_isOpposite : dk_Tm := (tc_5, [(301, 1, 0), (203, 1, 1)], [0, 18, 19], 1)
def y_5_opposite : MethodName := ⟨nn_R5, "opposite", "(I)I"⟩
def b_5_opposite : dk_T := [
  ([true, true, false], [.inl (.aload 0), .inr (0, 5, 0), .inl (.iload 1), .inr (5, 0, 0), .inl (.ifCond .ne 1), .inl (.aload 0), .inl (.iconst 0), .inr (5, 1, 0), .inl .ireturn]),
  ([true, true, false], [.inl (.aload 0), .inr (0, 5, 0), .inl (.iload 1), .inr (5, 2, 0), .inl (.istore 2), .inl (.iload 2), .inl (.iconst (-1)), .inl (.if_icmp .ne 2), .inl (.aload 0), .inl (.iconst 3), .inr (5, 1, 0), .inl .ireturn]),
  ([true, true, true], [.inl (.aload 0), .inr (0, 5, 0), .inl (.iload 2), .inl (.iload 1), .inr (5, 3, 0), .inl (.aload 0), .inr (0, 5, 0), .inr (0, 0, 0), .inl (.iconst 0), .inl .iaload, .inr (5, 4, 1), .inl (.ifCond .eq 3), .inl (.iconst 1), .inr (7, 4, 0)]),
  ([false, false, false], [.inl (.iconst 0), .inr (7, 4, 1)]),
  ([false, false, false], [.inl .ireturn])]
def g_5_opposite : List (Nat × dk_S) := [(2, s_0_hasRank), (2, s_5_finding), (2, s_0_drumFor), (3, s_0_lagFromDrum), (2, s_5_isOpposite)]
def s_5_opposite : dk_S := dk_MV 5 g_5_opposite b_5_opposite 3
theorem h_5_opposite : dk_monoG g_5_opposite := dk_monoG_cons o_0_hasRank (dk_monoG_cons o_5_finding (dk_monoG_cons o_0_drumFor (dk_monoG_cons o_0_lagFromDrum (dk_monoG_cons o_5_isOpposite (dk_monoG_nil)))))
theorem o_5_opposite : dk_mono s_5_opposite := dk_MV_mono _ h_5_opposite _ _
def t_5_opposite : dk_Tm := (tc_5, [(114, 0, 0), (78, 0, 1), (136, 0, 2), (222, 0, 3), (225, 1, 4)], [0, 17, 37, 65, 66], 0)
def y_5_edges : MethodName := ⟨nn_R5, "edges", "(IIII)I"⟩
def b_5_edges : dk_T := [
  ([true, true, true, true, true, false, false, false, false], [.inl (.aload 0), .inr (0, 5, 0), .inl (.iload 1), .inr (5, 0, 0), .inl (.ifCond .eq 1), .inl (.iload 2), .inr (6, 101, 0), .inl (.iconst 0), .inl .iaload, .inr (6, 102, 0), .inl (.iconst 0), .inl .iaload, .inr (5, 1, 1), .inl (.ifCond .eq 1), .inl (.iload 3), .inl (.iload 2), .inr (6, 102, 0), .inl (.iconst 0), .inl .iaload, .inr (5, 1, 1), .inl (.ifCond .eq 1), .inl (.iload 4), .inl (.iconst 0), .inl (.iconst 1), .inr (5, 1, 1), .inl (.ifCond .ne 2), .inr (7, 1, 1)]),
  ([true, false, false, false, false, false, false, false, false], [.inl (.aload 0), .inl (.iconst 0), .inr (5, 2, 0), .inl .ireturn]),
  ([true, true, true, true, true, false, false, false, false], [.inl (.aload 0), .inr (0, 5, 0), .inl (.iload 1), .inr (5, 3, 0), .inl (.istore 5), .inl (.iload 5), .inl (.iconst (-1)), .inl (.if_icmp .ne 3), .inl (.aload 0), .inl (.iconst 3), .inr (5, 2, 0), .inl .ireturn]),
  ([true, true, true, true, true, true, false, false, false], [.inl (.aload 0), .inr (0, 5, 0), .inl (.iload 5), .inl (.iload 1), .inr (5, 4, 0), .inl (.istore 6), .inl (.iconst 0), .inl (.istore 7), .inl (.iload 2), .inl (.istore 8), .inr (7, 4, 1)]),
  ([true, false, false, true, true, false, true, true, true], [.inl (.iload 8), .inl (.iload 3), .inl (.if_icmp .gt 7), .inl (.iload 6), .inl (.iload 8), .inr (5, 5, 1), .inl (.ifCond .eq 6), .inl (.iload 4), .inl (.iconst 1), .inl (.if_icmp .ne 5), .inl (.iload 8), .inl .ireturn]),
  ([true, false, false, true, true, false, true, true, true], [.inl (.iinc 7 (1)), .inr (7, 6, 1)]),
  ([true, false, false, true, true, false, true, true, true], [.inl (.iinc 8 (1)), .inr (7, 4, 0)]),
  ([true, false, false, false, true, false, false, true, false], [.inl (.iload 4), .inl (.iconst 1), .inl (.if_icmp .ne 8), .inl (.aload 0), .inl (.iconst 3), .inr (5, 2, 0), .inr (7, 9, 0)]),
  ([false, false, false, false, false, false, false, true, false], [.inl (.iload 7), .inr (7, 9, 1)]),
  ([false, false, false, false, false, false, false, false, false], [.inl .ireturn])]
def g_5_edges : List (Nat × dk_S) := [(2, s_0_hasRank), (3, s_5_isWithin), (2, s_5_finding), (2, s_0_drumFor), (3, s_0_lagFromDrum), (2, s_5_isOpposite)]
def s_5_edges : dk_S := dk_MV 5 g_5_edges b_5_edges 9
theorem h_5_edges : dk_monoG g_5_edges := dk_monoG_cons o_0_hasRank (dk_monoG_cons o_5_isWithin (dk_monoG_cons o_5_finding (dk_monoG_cons o_0_drumFor (dk_monoG_cons o_0_lagFromDrum (dk_monoG_cons o_5_isOpposite (dk_monoG_nil))))))
theorem o_5_edges : dk_mono s_5_edges := dk_MV_mono _ h_5_edges _ _
def t_5_edges : dk_Tm := (tc_5, [(114, 0, 0), (68, 1, 1), (78, 0, 2), (136, 0, 3), (222, 0, 4), (225, 1, 5)], [0, 51, 57, 79, 97, 122, 125, 131, 145, 147], 0)
def y_5_ranksThatDiffer : MethodName := ⟨nn_R5, "ranksThatDiffer", "()I"⟩
def b_5_ranksThatDiffer : dk_T := [
  ([true, false, false], [.inl (.iconst 0), .inl (.istore 1), .inl (.iconst 0), .inl (.istore 2), .inr (7, 1, 1)]),
  ([true, true, true], [.inl (.iload 2), .inl (.aload 0), .inr (0, 5, 0), .inr (0, 0, 1), .inl (.if_icmp .ge 3), .inl (.aload 0), .inr (0, 5, 6), .inr (0, 4, 2), .inl (.iload 2), .inl .iaload, .inl (.aload 0), .inr (0, 5, 7), .inr (0, 4, 2), .inl (.iload 2), .inl .iaload, .inl (.if_icmp .eq 2), .inl (.iinc 1 (1)), .inr (7, 2, 1)]),
  ([true, true, true], [.inl (.iinc 2 (1)), .inr (7, 1, 0)]),
  ([false, true, false], [.inl (.iload 1), .inl .ireturn])]
def g_5_ranksThatDiffer : List (Nat × dk_S) := []
def s_5_ranksThatDiffer : dk_S := dk_MV 5 g_5_ranksThatDiffer b_5_ranksThatDiffer 3
theorem h_5_ranksThatDiffer : dk_monoG g_5_ranksThatDiffer := dk_monoG_nil
theorem o_5_ranksThatDiffer : dk_mono s_5_ranksThatDiffer := dk_MV_mono _ h_5_ranksThatDiffer _ _
def t_5_ranksThatDiffer : dk_Tm := (tc_5, [], [0, 4, 39, 45], 0)
def y_5_pacesUntilAlike : MethodName := ⟨nn_R5, "pacesUntilAlike", "(I)I"⟩
def b_5_pacesUntilAlike : dk_T := [
  ([true, true, false], [.inl (.iconst 0), .inl (.istore 2), .inr (7, 1, 1)]),
  ([true, true, true], [.inl (.iload 2), .inl (.iload 1), .inl (.if_icmp .gt 3), .inl (.aload 0), .inr (5, 0, 0), .inl (.ifCond .ne 2), .inl (.iload 2), .inl .ireturn]),
  ([true, true, true], [.inl (.aload 0), .inr (0, 5, 6), .inr (5, 1, 0), .inl .pop, .inl (.aload 0), .inr (0, 5, 7), .inr (5, 1, 0), .inl .pop, .inl (.iinc 2 (1)), .inr (7, 1, 0)]),
  ([false, false, false], [.inl (.iconst (-1)), .inl .ireturn])]
def g_5_pacesUntilAlike : List (Nat × dk_S) := [(1, s_5_ranksThatDiffer), (1, s_4_step)]
def s_5_pacesUntilAlike : dk_S := dk_MV 5 g_5_pacesUntilAlike b_5_pacesUntilAlike 3
theorem h_5_pacesUntilAlike : dk_monoG g_5_pacesUntilAlike := dk_monoG_cons o_5_ranksThatDiffer (dk_monoG_cons o_4_step (dk_monoG_nil))
theorem o_5_pacesUntilAlike : dk_mono s_5_pacesUntilAlike := dk_MV_mono _ h_5_pacesUntilAlike _ _
def t_5_pacesUntilAlike : dk_Tm := (tc_5, [(234, 0, 0), (208, 0, 1)], [0, 2, 16, 38], 0)
def y_5_greatestDifference : MethodName := ⟨nn_R5, "greatestDifference", "()I"⟩
def b_5_greatestDifference : dk_T := [
  ([true, false, false, false], [.inl (.iconst 0), .inl (.istore 1), .inl (.iconst 0), .inl (.istore 2), .inr (7, 1, 1)]),
  ([true, true, true, false], [.inl (.iload 2), .inl (.aload 0), .inr (0, 5, 0), .inr (0, 0, 1), .inl (.if_icmp .ge 2), .inl (.aload 0), .inr (0, 5, 0), .inl (.aload 0), .inr (0, 5, 7), .inr (0, 4, 2), .inl (.iload 2), .inl .iaload, .inl (.aload 0), .inr (0, 5, 6), .inr (0, 4, 2), .inl (.iload 2), .inl .iaload, .inl .isub, .inr (5, 0, 0), .inl (.istore 3), .inl (.iload 1), .inl (.iload 3), .inr (5, 1, 1), .inr (5, 2, 1), .inl (.istore 1), .inl (.iinc 2 (1)), .inr (7, 1, 0)]),
  ([false, true, false, false], [.inl (.iload 1), .inl .ireturn])]
def g_5_greatestDifference : List (Nat × dk_S) := [(2, s_0_wrap), (1, s_8_abs), (2, s_8_max)]
def s_5_greatestDifference : dk_S := dk_MV 5 g_5_greatestDifference b_5_greatestDifference 4
theorem h_5_greatestDifference : dk_monoG g_5_greatestDifference := dk_monoG_cons o_0_wrap (dk_monoG_cons o_8_abs (dk_monoG_cons o_8_max (dk_monoG_nil)))
theorem o_5_greatestDifference : dk_mono s_5_greatestDifference := dk_MV_mono _ h_5_greatestDifference _ _
def t_5_greatestDifference : dk_Tm := (tc_5, [(150, 0, 0), (203, 1, 1), (247, 1, 2)], [0, 4, 57], 0)
def y_5_slip : MethodName := ⟨nn_R5, "slip", "(IIII)I"⟩
def b_5_slip : dk_T := [
  ([true, true, true, true, true, false], [.inl (.aload 0), .inr (0, 5, 0), .inl (.iload 1), .inr (5, 0, 0), .inl (.ifCond .eq 1), .inl (.iload 2), .inl (.iconst (-999)), .inl (.iconst 999), .inr (5, 1, 1), .inl (.ifCond .eq 1), .inl (.iload 3), .inl (.iconst 0), .inl (.iconst 99), .inr (5, 1, 1), .inl (.ifCond .eq 1), .inl (.iload 4), .inl (.iconst 0), .inl (.iconst 2), .inr (5, 1, 1), .inl (.ifCond .ne 2), .inr (7, 1, 1)]),
  ([true, false, false, false, false, false], [.inl (.aload 0), .inl (.iconst 0), .inr (5, 2, 0), .inl .ireturn]),
  ([true, true, true, true, true, false], [.inl (.aload 0), .inr (5, 3, 0), .inl (.aload 0), .inr (0, 5, 7), .inr (5, 4, 0), .inl (.aload 0), .inr (0, 5, 7), .inr (0, 4, 2), .inl (.iload 1), .inl (.aload 0), .inr (0, 5, 0), .inl (.aload 0), .inr (0, 5, 7), .inr (0, 4, 2), .inl (.iload 1), .inl .iaload, .inl (.iload 2), .inl .iadd, .inr (5, 5, 0), .inl .iastore, .inl (.iload 4), .inl (.iconst 2), .inl (.if_icmp .ne 5), .inl (.aload 0), .inl (.iload 3), .inr (5, 6, 0), .inl (.istore 5), .inl (.iload 5), .inl (.ifCond .ge 3), .inl (.aload 0), .inl (.iconst 3), .inr (5, 2, 0), .inr (7, 4, 0)]),
  ([false, false, false, false, false, true], [.inl (.iload 5), .inr (7, 4, 1)]),
  ([false, false, false, false, false, false], [.inl .ireturn]),
  ([true, false, false, true, true, false], [.inl (.aload 0), .inr (0, 5, 6), .inl (.iload 3), .inr (5, 7, 0), .inl (.aload 0), .inr (0, 5, 7), .inl (.iload 3), .inr (5, 7, 0), .inl (.iload 4), .inl (.ifCond .ne 6), .inl (.aload 0), .inr (5, 8, 0), .inr (7, 7, 0)]),
  ([true, false, false, false, false, false], [.inl (.aload 0), .inr (5, 9, 0), .inr (7, 7, 1)]),
  ([false, false, false, false, false, false], [.inl .ireturn])]
def g_5_slip : List (Nat × dk_S) := [(2, s_0_hasRank), (3, s_5_isWithin), (2, s_5_finding), (1, s_5_setOut), (1, s_4_start), (2, s_0_wrap), (2, s_5_pacesUntilAlike), (2, s_4_walk), (1, s_5_ranksThatDiffer), (1, s_5_greatestDifference)]
def s_5_slip : dk_S := dk_MV 5 g_5_slip b_5_slip 6
theorem h_5_slip : dk_monoG g_5_slip := dk_monoG_cons o_0_hasRank (dk_monoG_cons o_5_isWithin (dk_monoG_cons o_5_finding (dk_monoG_cons o_5_setOut (dk_monoG_cons o_4_start (dk_monoG_cons o_0_wrap (dk_monoG_cons o_5_pacesUntilAlike (dk_monoG_cons o_4_walk (dk_monoG_cons o_5_ranksThatDiffer (dk_monoG_cons o_5_greatestDifference (dk_monoG_nil))))))))))
theorem o_5_slip : dk_mono s_5_slip := dk_MV_mono _ h_5_slip _ _
def t_5_slip : dk_Tm := (tc_5, [(114, 0, 0), (68, 1, 1), (78, 0, 2), (180, 0, 3), (228, 0, 4), (150, 0, 5), (231, 0, 6), (183, 0, 7), (234, 0, 8), (237, 0, 9)], [0, 44, 50, 114, 116, 117, 145, 149], 0)
def y_0_passedByMouth : MethodName := ⟨nn_R0, "passedByMouth", "(I)I"⟩
def b_0_passedByMouth : dk_T := [
  ([true, true], [.inl (.iload 1), .inl (.ifCond .le 1), .inl (.aload 0), .inr (0, 0, 0), .inl (.iconst 5), .inl .iaload, .inl (.aload 0), .inl (.aload 0), .inr (0, 0, 3), .inl (.iload 1), .inl (.iconst 1), .inl .isub, .inl .iaload, .inl (.aload 0), .inr (0, 0, 3), .inl (.iload 1), .inl .iaload, .inr (5, 0, 0), .inl .iadd, .inr (7, 2, 0)]),
  ([false, false], [.inl (.iconst 0), .inr (7, 2, 1)]),
  ([false, false], [.inl .ireturn])]
def g_0_passedByMouth : List (Nat × dk_S) := [(3, s_0_lagBetween)]
def s_0_passedByMouth : dk_S := dk_MV 0 g_0_passedByMouth b_0_passedByMouth 2
theorem h_0_passedByMouth : dk_monoG g_0_passedByMouth := dk_monoG_cons o_0_lagBetween (dk_monoG_nil)
theorem o_0_passedByMouth : dk_mono s_0_passedByMouth := dk_MV_mono _ h_0_passedByMouth _ _
def t_0_passedByMouth : dk_Tm := (tc_0, [(99, 0, 0)], [0, 32, 33], 0)
def y_5_tellBeginnings : MethodName := ⟨nn_R5, "tellBeginnings", "(I)V"⟩
def b_5_tellBeginnings : dk_T := [
  ([true, true, false, false, false], [.inl (.iconst 0), .inl (.istore 2), .inr (7, 1, 1)]),
  ([true, true, true, false, false], [.inl (.iload 2), .inl (.aload 0), .inr (0, 5, 0), .inr (0, 0, 1), .inl (.if_icmp .ge 10), .inl (.iload 1), .inl (.iconst 1), .inl (.if_icmp .ne 2), .inl (.aload 0), .inr (0, 5, 9), .inl (.iload 2), .inl (.aload 0), .inr (0, 5, 0), .inl (.iload 2), .inr (5, 0, 0), .inl .iastore, .inr (7, 9, 0)]),
  ([true, true, true, false, false], [.inl (.iload 2), .inl (.ifCond .ne 3), .inl (.aload 0), .inr (0, 5, 9), .inl (.iload 2), .inl (.iconst 0), .inl .iastore, .inr (7, 9, 0)]),
  ([true, true, true, false, false], [.inl (.iload 1), .inl (.ifCond .eq 4), .inl (.aload 0), .inr (0, 5, 0), .inl (.iload 2), .inr (5, 1, 0), .inl (.ifCond .eq 5), .inr (7, 4, 1)]),
  ([true, true, true, false, false], [.inl (.iconst 1), .inr (7, 6, 0)]),
  ([true, true, true, false, false], [.inl (.iconst 0), .inr (7, 6, 1)]),
  ([true, true, true, false, false], [.inl (.istore 3), .inl (.iload 3), .inl (.ifCond .eq 7), .inl (.aload 0), .inr (0, 5, 0), .inl (.iload 2), .inr (5, 2, 0), .inr (7, 8, 0)]),
  ([true, true, true, false, false], [.inl (.aload 0), .inr (0, 5, 0), .inr (0, 0, 0), .inl (.iconst 6), .inl .iaload, .inr (7, 8, 1)]),
  ([true, true, true, false, false], [.inl (.istore 4), .inl (.aload 0), .inr (0, 5, 9), .inl (.iload 2), .inl (.aload 0), .inr (0, 5, 9), .inl (.iload 2), .inl (.iconst 1), .inl .isub, .inl .iaload, .inl (.iload 4), .inl .iadd, .inl .iastore, .inr (7, 9, 1)]),
  ([true, true, true, false, false], [.inl (.iinc 2 (1)), .inr (7, 1, 0)]),
  ([false, false, false, false, false], [.inl .return_])]
def g_5_tellBeginnings : List (Nat × dk_S) := [(2, s_0_beatFor), (2, s_0_isBehindBend), (2, s_0_passedByMouth)]
def s_5_tellBeginnings : dk_S := dk_MV 5 g_5_tellBeginnings b_5_tellBeginnings 5
theorem h_5_tellBeginnings : dk_monoG g_5_tellBeginnings := dk_monoG_cons o_0_beatFor (dk_monoG_cons o_0_isBehindBend (dk_monoG_cons o_0_passedByMouth (dk_monoG_nil)))
theorem o_5_tellBeginnings : dk_mono s_5_tellBeginnings := dk_MV_mono _ h_5_tellBeginnings _ _
def t_5_tellBeginnings : dk_Tm := (tc_5, [(313, 0, 0), (316, 0, 1), (319, 0, 2)], [0, 2, 35, 49, 64, 68, 69, 85, 95, 114, 120], 2)
def y_5_begin : MethodName := ⟨nn_R5, "begin", "(II)I"⟩
def b_5_begin : dk_T := [
  ([true, true, true], [.inl (.iload 1), .inl (.iconst 0), .inl (.iconst 2), .inr (5, 0, 1), .inl (.ifCond .eq 1), .inl (.aload 0), .inr (0, 5, 0), .inl (.iload 2), .inr (5, 1, 0), .inl (.ifCond .ne 2), .inr (7, 1, 1)]),
  ([true, false, false], [.inl (.aload 0), .inl (.iconst 0), .inr (5, 2, 0), .inl .ireturn]),
  ([true, true, true], [.inl (.aload 0), .inl (.iload 1), .inr (5, 3, 0), .inl (.aload 0), .inr (0, 5, 9), .inl (.iload 2), .inl .iaload, .inl (.iconst (-2000000000)), .inl (.if_icmp .ne 3), .inl (.aload 0), .inl (.iconst 3), .inr (5, 2, 0), .inr (7, 4, 0)]),
  ([true, false, true], [.inl (.aload 0), .inr (0, 5, 9), .inl (.iload 2), .inl .iaload, .inr (7, 4, 1)]),
  ([false, false, false], [.inl .ireturn])]
def g_5_begin : List (Nat × dk_S) := [(3, s_5_isWithin), (2, s_0_hasRank), (2, s_5_finding), (2, s_5_tellBeginnings)]
def s_5_begin : dk_S := dk_MV 5 g_5_begin b_5_begin 3
theorem h_5_begin : dk_monoG g_5_begin := dk_monoG_cons o_5_isWithin (dk_monoG_cons o_0_hasRank (dk_monoG_cons o_5_finding (dk_monoG_cons o_5_tellBeginnings (dk_monoG_nil))))
theorem o_5_begin : dk_mono s_5_begin := dk_MV_mono _ h_5_begin _ _
def t_5_begin : dk_Tm := (tc_5, [(68, 1, 0), (114, 0, 1), (78, 0, 2), (240, 0, 3)], [0, 20, 26, 50, 56], 0)
def y_5_apart : MethodName := ⟨nn_R5, "apart", "(I)I"⟩
def b_5_apart : dk_T := [
  ([true, true, false, false, false, false, false], [.inl (.iload 1), .inl (.iconst 0), .inl (.iconst 2), .inr (5, 0, 1), .inl (.ifCond .ne 1), .inl (.aload 0), .inl (.iconst 0), .inr (5, 1, 0), .inl .ireturn]),
  ([true, true, false, false, false, false, false], [.inl (.aload 0), .inl (.iload 1), .inr (5, 2, 0), .inl (.iconst 0), .inl (.istore 2), .inl (.iconst 0), .inl (.istore 3), .inl (.iconst 0), .inl (.istore 4), .inl (.iconst 0), .inl (.istore 5), .inr (7, 2, 1)]),
  ([true, false, true, true, true, true, false], [.inl (.iload 5), .inl (.aload 0), .inr (0, 5, 0), .inr (0, 0, 1), .inl (.if_icmp .ge 8), .inl (.aload 0), .inr (0, 5, 9), .inl (.iload 5), .inl .iaload, .inl (.istore 6), .inl (.iload 6), .inl (.iconst (-2000000000)), .inl (.if_icmp .eq 7), .inl (.iload 2), .inl (.ifCond .eq 3), .inl (.iload 3), .inl (.iload 6), .inr (5, 3, 1), .inr (7, 4, 0)]),
  ([true, false, true, false, true, true, true], [.inl (.iload 6), .inr (7, 4, 1)]),
  ([true, false, true, false, true, true, true], [.inl (.istore 3), .inl (.iload 2), .inl (.ifCond .eq 5), .inl (.iload 4), .inl (.iload 6), .inr (5, 4, 1), .inr (7, 6, 0)]),
  ([true, false, false, true, false, true, true], [.inl (.iload 6), .inr (7, 6, 1)]),
  ([true, false, false, true, false, true, false], [.inl (.istore 4), .inl (.iconst 1), .inl (.istore 2), .inr (7, 7, 1)]),
  ([true, false, true, true, true, true, false], [.inl (.iinc 5 (1)), .inr (7, 2, 0)]),
  ([true, false, true, true, true, false, false], [.inl (.iload 2), .inl (.ifCond .eq 9), .inl (.iload 4), .inl (.iload 3), .inl .isub, .inr (7, 10, 0)]),
  ([true, false, false, false, false, false, false], [.inl (.aload 0), .inl (.iconst 3), .inr (5, 1, 0), .inr (7, 10, 1)]),
  ([false, false, false, false, false, false, false], [.inl .ireturn])]
def g_5_apart : List (Nat × dk_S) := [(3, s_5_isWithin), (2, s_5_finding), (2, s_5_tellBeginnings), (2, s_8_min), (2, s_8_max)]
def s_5_apart : dk_S := dk_MV 5 g_5_apart b_5_apart 7
theorem h_5_apart : dk_monoG g_5_apart := dk_monoG_cons o_5_isWithin (dk_monoG_cons o_5_finding (dk_monoG_cons o_5_tellBeginnings (dk_monoG_cons o_8_min (dk_monoG_cons o_8_max (dk_monoG_nil)))))
theorem o_5_apart : dk_mono s_5_apart := dk_MV_mono _ h_5_apart _ _
def t_5_apart : dk_Tm := (tc_5, [(68, 1, 0), (78, 0, 1), (240, 0, 2), (244, 1, 3), (247, 1, 4)], [0, 15, 30, 71, 73, 88, 90, 94, 100, 111, 116], 0)
def y_5_isBridge : MethodName := ⟨nn_R5, "isBridge", "(III)Z"⟩
def b_5_isBridge : dk_T := [
  ([true, true, true], [.inl (.iload 0), .inr (5, 0, 1), .inl (.ifCond .eq 1), .inl (.iload 1), .inl (.iload 0), .inl (.iconst 4999), .inr (5, 1, 1), .inl (.ifCond .eq 1), .inl (.iload 2), .inl (.iconst 0), .inl (.iconst 999), .inr (5, 1, 1), .inl (.ifCond .eq 1), .inl (.iconst 1), .inr (7, 2, 0)]),
  ([false, false, false], [.inl (.iconst 0), .inr (7, 2, 1)]),
  ([false, false, false], [.inl .lreturn])]
def g_5_isBridge : List (Nat × dk_S) := [(1, s_5_isPlace), (3, s_5_isWithin)]
def s_5_isBridge : dk_S := dk_M g_5_isBridge b_5_isBridge 3
theorem h_5_isBridge : dk_monoG g_5_isBridge := dk_monoG_cons o_5_isPlace (dk_monoG_cons o_5_isWithin (dk_monoG_nil))
theorem o_5_isBridge : dk_mono s_5_isBridge := dk_M_mono h_5_isBridge _ _
def t_5_isBridge : dk_Tm := (tc_5, [(153, 1, 0), (68, 1, 1)], [0, 33, 34], 1)
def y_0_roundPace : MethodName := ⟨nn_R0, "roundPace", "(I)I"⟩
def b_0_roundPace : dk_T := [
  ([true, true, false], [.inl (.aload 0), .inl (.iload 1), .inr (5, 0, 0), .inl (.istore 2), .inl (.iload 2), .inl (.ifCond .ge 1), .inl (.iload 2), .inl (.aload 0), .inr (0, 0, 0), .inl (.iconst 0), .inl .iaload, .inl .iadd, .inr (7, 2, 0)]),
  ([false, false, true], [.inl (.iload 2), .inr (7, 2, 1)]),
  ([false, false, false], [.inl .ireturn])]
def g_0_roundPace : List (Nat × dk_S) := [(2, s_0_wrap)]
def s_0_roundPace : dk_S := dk_MV 0 g_0_roundPace b_0_roundPace 3
theorem h_0_roundPace : dk_monoG g_0_roundPace := dk_monoG_cons o_0_wrap (dk_monoG_nil)
theorem o_0_roundPace : dk_mono s_0_roundPace := dk_MV_mono _ h_0_roundPace _ _
def t_0_roundPace : dk_Tm := (tc_0, [(85, 0, 0)], [0, 21, 22], 0)
def y_5_treadSoonBehind : MethodName := ⟨nn_R5, "treadSoonBehind", "(IIII)I"⟩
def b_5_treadSoonBehind : dk_T := [
  ([true, true, true, true, true, false, false, false], [.inl (.iconst 0), .inl (.istore 5), .inl (.iconst 0), .inl (.istore 6), .inr (7, 1, 1)]),
  ([true, true, true, true, true, true, true, false], [.inl (.iload 6), .inl (.aload 0), .inr (0, 5, 0), .inr (0, 0, 1), .inl (.if_icmp .ge 3), .inl (.aload 0), .inr (0, 5, 0), .inl (.aload 0), .inr (0, 5, 6), .inr (0, 4, 2), .inl (.iload 6), .inl .iaload, .inl (.aload 0), .inr (0, 5, 6), .inr (0, 4, 2), .inl (.iload 1), .inl .iaload, .inl .isub, .inr (5, 0, 0), .inl (.istore 7), .inl (.aload 0), .inr (0, 5, 0), .inr (0, 0, 3), .inl (.iload 6), .inl .iaload, .inl (.iload 2), .inl (.iload 3), .inr (5, 1, 1), .inl (.ifCond .eq 2), .inl (.iload 7), .inl (.iload 4), .inl (.if_icmp .gt 2), .inl (.iinc 5 (1)), .inr (7, 2, 1)]),
  ([true, true, true, true, true, true, true, false], [.inl (.iinc 6 (1)), .inr (7, 1, 0)]),
  ([false, false, false, false, false, true, false, false], [.inl (.iload 5), .inl .ireturn])]
def g_5_treadSoonBehind : List (Nat × dk_S) := [(2, s_0_roundPace), (3, s_5_isWithin)]
def s_5_treadSoonBehind : dk_S := dk_MV 5 g_5_treadSoonBehind b_5_treadSoonBehind 8
theorem h_5_treadSoonBehind : dk_monoG g_5_treadSoonBehind := dk_monoG_cons o_0_roundPace (dk_monoG_cons o_5_isWithin (dk_monoG_nil))
theorem o_5_treadSoonBehind : dk_mono s_5_treadSoonBehind := dk_MV_mono _ h_5_treadSoonBehind _ _
def t_5_treadSoonBehind : dk_Tm := (tc_5, [(326, 0, 0), (68, 1, 1)], [0, 6, 75, 81], 0)
def y_5_togetherOn : MethodName := ⟨nn_R5, "togetherOn", "(III)I"⟩
def b_5_togetherOn : dk_T := [
  ([true, true, true, true, false, false], [.inl (.iconst 0), .inl (.istore 4), .inl (.iconst 0), .inl (.istore 5), .inr (7, 1, 1)]),
  ([true, true, true, true, true, true], [.inl (.iload 5), .inl (.aload 0), .inr (0, 5, 0), .inr (0, 0, 1), .inl (.if_icmp .ge 3), .inl (.aload 0), .inr (0, 5, 0), .inr (0, 0, 3), .inl (.iload 5), .inl .iaload, .inl (.iload 1), .inl (.iload 2), .inr (5, 0, 1), .inl (.ifCond .eq 2), .inl (.iload 4), .inl (.aload 0), .inl (.iload 5), .inl (.iload 1), .inl (.iload 2), .inl (.iload 3), .inr (5, 1, 0), .inr (5, 2, 1), .inl (.istore 4), .inr (7, 2, 1)]),
  ([true, true, true, true, true, true], [.inl (.iinc 5 (1)), .inr (7, 1, 0)]),
  ([false, false, false, false, true, false], [.inl (.iload 4), .inl .ireturn])]
def g_5_togetherOn : List (Nat × dk_S) := [(3, s_5_isWithin), (5, s_5_treadSoonBehind), (2, s_8_max)]
def s_5_togetherOn : dk_S := dk_MV 5 g_5_togetherOn b_5_togetherOn 6
theorem h_5_togetherOn : dk_monoG g_5_togetherOn := dk_monoG_cons o_5_isWithin (dk_monoG_cons o_5_treadSoonBehind (dk_monoG_cons o_8_max (dk_monoG_nil)))
theorem o_5_togetherOn : dk_mono s_5_togetherOn := dk_MV_mono _ h_5_togetherOn _ _
def t_5_togetherOn : dk_Tm := (tc_5, [(68, 1, 0), (322, 0, 1), (247, 1, 2)], [0, 6, 52, 58], 0)
def y_5_bridge : MethodName := ⟨nn_R5, "bridge", "(IIII)I"⟩
def b_5_bridge : dk_T := [
  ([true, true, true, true, true], [.inl (.iload 1), .inl (.iload 2), .inl (.iload 3), .inr (5, 0, 1), .inl (.ifCond .eq 1), .inl (.iload 4), .inr (5, 1, 1), .inl (.ifCond .ne 2), .inr (7, 1, 1)]),
  ([true, false, false, false, false], [.inl (.aload 0), .inl (.iconst 0), .inr (5, 2, 0), .inl .ireturn]),
  ([true, true, true, true, true], [.inl (.aload 0), .inr (5, 3, 0), .inl (.aload 0), .inr (0, 5, 6), .inl (.iload 4), .inr (5, 4, 0), .inl (.aload 0), .inl (.iload 1), .inl (.iload 2), .inl (.iload 3), .inr (5, 5, 0), .inl .ireturn])]
def g_5_bridge : List (Nat × dk_S) := [(3, s_5_isBridge), (1, s_5_isMarch), (2, s_5_finding), (1, s_5_setOut), (2, s_4_walk), (4, s_5_togetherOn)]
def s_5_bridge : dk_S := dk_MV 5 g_5_bridge b_5_bridge 5
theorem h_5_bridge : dk_monoG g_5_bridge := dk_monoG_cons o_5_isBridge (dk_monoG_cons o_5_isMarch (dk_monoG_cons o_5_finding (dk_monoG_cons o_5_setOut (dk_monoG_cons o_4_walk (dk_monoG_cons o_5_togetherOn (dk_monoG_nil))))))
theorem o_5_bridge : dk_mono s_5_bridge := dk_MV_mono _ h_5_bridge _ _
def t_5_bridge : dk_Tm := (tc_5, [(250, 1, 0), (200, 1, 1), (78, 0, 2), (180, 0, 3), (183, 0, 4), (253, 0, 5)], [0, 17, 23], 0)
def y_5_broken : MethodName := ⟨nn_R5, "broken", "(IIII)I"⟩
def b_5_broken : dk_T := [
  ([true, true, true, true, true, false], [.inl (.iload 1), .inl (.iload 2), .inl (.iload 3), .inr (5, 0, 1), .inl (.ifCond .eq 1), .inl (.iload 4), .inl (.iconst 0), .inl (.iconst 24), .inr (5, 1, 1), .inl (.ifCond .ne 2), .inr (7, 1, 1)]),
  ([true, false, false, false, false, false], [.inl (.aload 0), .inl (.iconst 0), .inr (5, 2, 0), .inl .ireturn]),
  ([true, true, true, true, true, false], [.inl (.aload 0), .inr (5, 3, 0), .inl (.iconst 0), .inl (.istore 5), .inr (7, 3, 1)]),
  ([true, true, true, true, true, true], [.inl (.iload 5), .inl (.iconst 200), .inl (.if_icmp .gt 6), .inl (.aload 0), .inl (.iload 1), .inl (.iload 2), .inl (.iload 3), .inr (5, 4, 0), .inl (.iload 4), .inl (.if_icmp .gt 4), .inl (.iload 5), .inl .ireturn]),
  ([true, true, true, true, true, true], [.inl (.aload 0), .inr (0, 5, 6), .inr (5, 5, 0), .inl (.ifCond .ne 5), .inr (7, 6, 0)]),
  ([true, true, true, true, true, true], [.inl (.iinc 5 (1)), .inr (7, 3, 0)]),
  ([true, false, false, false, false, false], [.inl (.aload 0), .inl (.iconst 3), .inr (5, 2, 0), .inl .ireturn])]
def g_5_broken : List (Nat × dk_S) := [(3, s_5_isBridge), (3, s_5_isWithin), (2, s_5_finding), (1, s_5_setOut), (4, s_5_togetherOn), (1, s_4_step)]
def s_5_broken : dk_S := dk_MV 5 g_5_broken b_5_broken 6
theorem h_5_broken : dk_monoG g_5_broken := dk_monoG_cons o_5_isBridge (dk_monoG_cons o_5_isWithin (dk_monoG_cons o_5_finding (dk_monoG_cons o_5_setOut (dk_monoG_cons o_5_togetherOn (dk_monoG_cons o_4_step (dk_monoG_nil))))))
theorem o_5_broken : dk_mono s_5_broken := dk_MV_mono _ h_5_broken _ _
def t_5_broken : dk_Tm := (tc_5, [(250, 1, 0), (68, 1, 1), (78, 0, 2), (180, 0, 3), (253, 0, 4), (208, 0, 5)], [0, 20, 26, 33, 56, 69, 75], 0)
def y_5_seed : MethodName := ⟨nn_R5, "seed", "(I)I"⟩
def b_5_seed : dk_T := [
  ([true, true, false], [.inl (.aload 0), .inr (0, 5, 0), .inr (0, 0, 15), .inl (.istore 2), .inl (.aload 0), .inr (0, 5, 0), .inl (.iload 1), .inr (1, 0, 15), .inl (.iload 2), .inl .ireturn])]
def g_5_seed : List (Nat × dk_S) := []
def s_5_seed : dk_S := dk_MV 5 g_5_seed b_5_seed 3
theorem h_5_seed : dk_monoG g_5_seed := dk_monoG_nil
theorem o_5_seed : dk_mono s_5_seed := dk_MV_mono _ h_5_seed _ _
def t_5_seed : dk_Tm := (tc_5, [], [0], 0)
def y_0_draw : MethodName := ⟨nn_R0, "draw", "()I"⟩
def b_0_draw : dk_T := [
  ([true], [.inl (.aload 0), .inl (.aload 0), .inr (0, 0, 15), .inl (.iconst (1103515245)), .inl .imul, .inl (.iconst 12345), .inl .iadd, .inr (1, 0, 15), .inl (.aload 0), .inr (0, 0, 15), .inl (.iconst 8), .inl .iushr, .inl .ireturn])]
def g_0_draw : List (Nat × dk_S) := []
def s_0_draw : dk_S := dk_MV 0 g_0_draw b_0_draw 1
theorem h_0_draw : dk_monoG g_0_draw := dk_monoG_nil
theorem o_0_draw : dk_mono s_0_draw := dk_MV_mono _ h_0_draw _ _
def t_0_draw : dk_Tm := (tc_0, [], [0], 0)
def y_5_shake : MethodName := ⟨nn_R5, "shake", "(I)I"⟩
def b_5_shake : dk_T := [
  ([true, true, false], [.inl (.iload 1), .inl (.iconst 0), .inl (.iconst 999), .inr (5, 0, 1), .inl (.ifCond .ne 1), .inl (.aload 0), .inl (.iconst 0), .inr (5, 1, 0), .inl .ireturn]),
  ([true, true, false], [.inl (.iconst 0), .inl (.istore 2), .inr (7, 2, 1)]),
  ([true, true, true], [.inl (.iload 2), .inl (.aload 0), .inr (0, 5, 0), .inr (0, 0, 1), .inl (.if_icmp .ge 3), .inl (.aload 0), .inr (0, 5, 0), .inr (0, 0, 7), .inl (.iload 2), .inl (.aload 0), .inr (0, 5, 0), .inl (.aload 0), .inr (0, 5, 0), .inr (0, 0, 7), .inl (.iload 2), .inl .iaload, .inl (.iload 1), .inl .isub, .inl (.aload 0), .inr (0, 5, 0), .inr (5, 2, 0), .inl (.iconst 2), .inl (.iload 1), .inl .imul, .inl (.iconst 1), .inl .iadd, .inl .irem, .inl .iadd, .inr (5, 3, 0), .inl .iastore, .inl (.iinc 2 (1)), .inr (7, 2, 0)]),
  ([true, false, false], [.inl (.aload 0), .inr (0, 5, 0), .inl (.aload 0), .inr (0, 5, 0), .inr (0, 0, 7), .inr (5, 4, 0), .inl .ireturn])]
def g_5_shake : List (Nat × dk_S) := [(3, s_5_isWithin), (2, s_5_finding), (1, s_0_draw), (2, s_0_wrap), (2, s_0_worstOf)]
def s_5_shake : dk_S := dk_MV 5 g_5_shake b_5_shake 3
theorem h_5_shake : dk_monoG g_5_shake := dk_monoG_cons o_5_isWithin (dk_monoG_cons o_5_finding (dk_monoG_cons o_0_draw (dk_monoG_cons o_0_wrap (dk_monoG_cons o_0_worstOf (dk_monoG_nil)))))
theorem o_5_shake : dk_mono s_5_shake := dk_MV_mono _ h_5_shake _ _
def t_5_shake : dk_Tm := (tc_5, [(68, 1, 0), (78, 0, 1), (260, 0, 2), (150, 0, 3), (196, 0, 4)], [0, 17, 19, 77], 0)
def y_5_hold : MethodName := ⟨nn_R5, "hold", "(II)I"⟩
def b_5_hold : dk_T := [
  ([true, true, true], [.inl (.iload 1), .inl (.iconst 0), .inl (.iconst 9), .inr (5, 0, 1), .inl (.ifCond .eq 1), .inl (.iload 2), .inl (.iconst (-1)), .inl (.if_icmp .eq 2), .inl (.aload 0), .inr (0, 5, 0), .inl (.iload 2), .inr (5, 1, 0), .inl (.ifCond .ne 2), .inr (7, 1, 1)]),
  ([true, false, false], [.inl (.aload 0), .inl (.iconst 0), .inr (5, 2, 0), .inl .ireturn]),
  ([true, true, true], [.inl (.aload 0), .inr (0, 5, 0), .inr (0, 0, 14), .inl (.iload 1), .inl (.iload 2), .inl .iastore, .inl (.iconst 1), .inl .ireturn])]
def g_5_hold : List (Nat × dk_S) := [(3, s_5_isWithin), (2, s_0_hasRank), (2, s_5_finding)]
def s_5_hold : dk_S := dk_MV 5 g_5_hold b_5_hold 3
theorem h_5_hold : dk_monoG g_5_hold := dk_monoG_cons o_5_isWithin (dk_monoG_cons o_0_hasRank (dk_monoG_cons o_5_finding (dk_monoG_nil)))
theorem o_5_hold : dk_mono s_5_hold := dk_MV_mono _ h_5_hold _ _
def t_5_hold : dk_Tm := (tc_5, [(68, 1, 0), (114, 0, 1), (78, 0, 2)], [0, 26, 32], 0)
def y_5_isUnder : MethodName := ⟨nn_R5, "isUnder", "(II)Z"⟩
def b_5_isUnder : dk_T := [
  ([true, true, false, false], [.inl (.iload 0), .inl (.istore 2), .inl (.iconst 0), .inl (.istore 3), .inr (7, 1, 1)]),
  ([false, true, true, true], [.inl (.iload 3), .inl (.iconst 7), .inl (.if_icmp .ge 3), .inl (.iload 2), .inl (.iconst 0), .inl (.iconst 6), .inr (5, 0, 1), .inl (.ifCond .eq 3), .inl (.iload 2), .inl (.iload 1), .inl (.if_icmp .ne 2), .inl (.iconst 1), .inl .lreturn]),
  ([false, true, true, true], [.inr (6, 103, 0), .inl (.iload 2), .inl .iaload, .inl (.istore 2), .inl (.iinc 3 (1)), .inr (7, 1, 0)]),
  ([false, false, false, false], [.inl (.iconst 0), .inl .lreturn])]
def g_5_isUnder : List (Nat × dk_S) := [(3, s_5_isWithin)]
def s_5_isUnder : dk_S := dk_M g_5_isUnder b_5_isUnder 4
theorem h_5_isUnder : dk_monoG g_5_isUnder := dk_monoG_cons o_5_isWithin (dk_monoG_nil)
theorem o_5_isUnder : dk_mono s_5_isUnder := dk_M_mono h_5_isUnder _ _
def t_5_isUnder : dk_Tm := (tc_5, [(68, 1, 0)], [0, 4, 27, 39], 1)
def y_5_as : MethodName := ⟨nn_R5, "as", "(II)I"⟩
def b_5_as : dk_T := [
  ([true, true, true, false], [.inl (.iload 1), .inl (.iconst 0), .inl (.iconst 9), .inr (5, 0, 1), .inl (.ifCond .eq 1), .inl (.iload 2), .inl (.iconst 0), .inl (.iconst 6), .inr (5, 0, 1), .inl (.ifCond .ne 2), .inr (7, 1, 1)]),
  ([true, false, false, false], [.inl (.aload 0), .inl (.iconst 0), .inr (5, 1, 0), .inl .ireturn]),
  ([true, true, true, false], [.inl (.aload 0), .inr (0, 5, 0), .inr (0, 0, 14), .inl (.iload 1), .inl .iaload, .inl (.istore 3), .inl (.aload 0), .inr (0, 5, 0), .inl (.iload 3), .inr (5, 2, 0), .inl (.ifCond .ne 3), .inl (.aload 0), .inl (.iconst 5), .inr (5, 1, 0), .inl .ireturn]),
  ([true, false, true, true], [.inl (.aload 0), .inr (0, 5, 0), .inr (0, 0, 2), .inl (.iload 3), .inl .iaload, .inl (.iload 2), .inr (5, 3, 1), .inl (.ifCond .eq 4), .inl (.iload 3), .inr (7, 5, 0)]),
  ([true, false, false, false], [.inl (.aload 0), .inl (.iconst 2), .inr (5, 1, 0), .inr (7, 5, 1)]),
  ([false, false, false, false], [.inl .ireturn])]
def g_5_as : List (Nat × dk_S) := [(3, s_5_isWithin), (2, s_5_finding), (2, s_0_hasRank), (2, s_5_isUnder)]
def s_5_as : dk_S := dk_MV 5 g_5_as b_5_as 4
theorem h_5_as : dk_monoG g_5_as := dk_monoG_cons o_5_isWithin (dk_monoG_cons o_5_finding (dk_monoG_cons o_0_hasRank (dk_monoG_cons o_5_isUnder (dk_monoG_nil))))
theorem o_5_as : dk_mono s_5_as := dk_MV_mono _ h_5_as _ _
def t_5_as : dk_Tm := (tc_5, [(68, 1, 0), (78, 0, 1), (114, 0, 2), (266, 1, 3)], [0, 20, 26, 53, 73, 78], 0)
def y_5_isSheet : MethodName := ⟨nn_R5, "isSheet", "(I)Z"⟩
def b_5_isSheet : dk_T := [
  ([true], [.inl (.iload 0), .inl (.iconst 0), .inl (.iconst 3), .inr (5, 0, 1), .inl .lreturn])]
def g_5_isSheet : List (Nat × dk_S) := [(3, s_5_isWithin)]
def s_5_isSheet : dk_S := dk_M g_5_isSheet b_5_isSheet 1
theorem h_5_isSheet : dk_monoG g_5_isSheet := dk_monoG_cons o_5_isWithin (dk_monoG_nil)
theorem o_5_isSheet : dk_mono s_5_isSheet := dk_M_mono h_5_isSheet _ _
def t_5_isSheet : dk_Tm := (tc_5, [(68, 1, 0)], [0], 1)
def y_2_makeAnew : MethodName := ⟨nn_R2, "makeAnew", "(II)V"⟩
def b_2_makeAnew : dk_T := [
  ([true, true, true], [.inl (.aload 0), .inl (.iload 1), .inr (1, 2, 0), .inl (.aload 0), .inl (.iload 1), .inl (.ifCond .ne 1), .inl (.iconst 0), .inr (7, 2, 0)]),
  ([true, false, true], [.inl (.iload 2), .inr (7, 2, 1)]),
  ([true, false, false], [.inr (1, 2, 1), .inl (.aload 0), .inr (0, 2, 2), .inl (.iconst 0), .inr (5, 0, 1), .inl .return_])]
def g_2_makeAnew : List (Nat × dk_S) := [(2, s_9_fill)]
def s_2_makeAnew : dk_S := dk_MV 2 g_2_makeAnew b_2_makeAnew 3
theorem h_2_makeAnew : dk_monoG g_2_makeAnew := dk_monoG_cons o_9_fill (dk_monoG_nil)
theorem o_2_makeAnew : dk_mono s_2_makeAnew := dk_MV_mono _ h_2_makeAnew _ _
def t_2_makeAnew : dk_Tm := (tc_2, [(22, 1, 0)], [0, 14, 15], 2)
def y_5_sheet : MethodName := ⟨nn_R5, "sheet", "(III)I"⟩
def b_5_sheet : dk_T := [
  ([true, true, true, true], [.inl (.iload 1), .inr (5, 0, 1), .inl (.ifCond .eq 1), .inl (.iload 2), .inl (.ifCond .eq 2), .inl (.iload 2), .inl (.iconst 8), .inl (.if_icmp .eq 2), .inl (.iload 2), .inl (.iconst 16), .inl (.if_icmp .eq 2), .inl (.iload 2), .inl (.iconst 32), .inl (.if_icmp .eq 2), .inr (7, 1, 1)]),
  ([true, false, false, false], [.inl (.aload 0), .inl (.iconst 0), .inr (5, 1, 0), .inl .ireturn]),
  ([true, true, true, true], [.inl (.iload 3), .inl (.ifCond .ge 3), .inl (.aload 0), .inl (.iconst 6), .inr (5, 1, 0), .inl .ireturn]),
  ([true, true, true, true], [.inl (.iload 3), .inl (.iconst 40), .inl (.if_icmp .le 4), .inl (.aload 0), .inl (.iconst 0), .inr (5, 1, 0), .inl .ireturn]),
  ([true, true, true, true], [.inl (.aload 0), .inr (0, 5, 4), .inl (.iload 1), .inl .aaload, .inl (.iload 2), .inl (.iload 3), .inr (5, 2, 0), .inl (.aload 0), .inr (0, 5, 4), .inl (.iload 1), .inl .aaload, .inr (0, 2, 1), .inl .ireturn])]
def g_5_sheet : List (Nat × dk_S) := [(1, s_5_isSheet), (2, s_5_finding), (3, s_2_makeAnew)]
def s_5_sheet : dk_S := dk_MV 5 g_5_sheet b_5_sheet 4
theorem h_5_sheet : dk_monoG g_5_sheet := dk_monoG_cons o_5_isSheet (dk_monoG_cons o_5_finding (dk_monoG_cons o_2_makeAnew (dk_monoG_nil)))
theorem o_5_sheet : dk_mono s_5_sheet := dk_MV_mono _ h_5_sheet _ _
def t_5_sheet : dk_Tm := (tc_5, [(269, 1, 0), (78, 0, 1), (272, 0, 2)], [0, 29, 35, 46, 58], 0)
def y_2_isMissing : MethodName := ⟨nn_R2, "isMissing", "()Z"⟩
def b_2_isMissing : dk_T := [
  ([true], [.inl (.aload 0), .inr (0, 2, 0), .inl (.ifCond .ne 1), .inl (.iconst 1), .inr (7, 2, 0)]),
  ([false], [.inl (.iconst 0), .inr (7, 2, 1)]),
  ([false], [.inl .lreturn])]
def g_2_isMissing : List (Nat × dk_S) := []
def s_2_isMissing : dk_S := dk_MV 2 g_2_isMissing b_2_isMissing 1
theorem h_2_isMissing : dk_monoG g_2_isMissing := dk_monoG_nil
theorem o_2_isMissing : dk_mono s_2_isMissing := dk_MV_mono _ h_2_isMissing _ _
def t_2_isMissing : dk_Tm := (tc_2, [], [0, 11, 12], 1)
def y_2_put : MethodName := ⟨nn_R2, "put", "(II)V"⟩
def b_2_put : dk_T := [
  ([true, true, true], [.inl (.aload 0), .inr (0, 2, 0), .inl (.iconst 8), .inl (.if_icmp .ne 1), .inl (.aload 0), .inr (0, 2, 2), .inl (.iload 1), .inl (.iload 2), .inl .i2b, .inl .iastore, .inr (7, 3, 0)]),
  ([true, true, true], [.inl (.aload 0), .inr (0, 2, 0), .inl (.iconst 16), .inl (.if_icmp .ne 2), .inl (.aload 0), .inr (0, 2, 2), .inl (.iload 1), .inl (.iload 2), .inl .i2s, .inl .iastore, .inr (7, 3, 0)]),
  ([true, true, true], [.inl (.aload 0), .inr (0, 2, 2), .inl (.iload 1), .inl (.iload 2), .inl .iastore, .inr (7, 3, 1)]),
  ([false, false, false], [.inl .return_])]
def g_2_put : List (Nat × dk_S) := []
def s_2_put : dk_S := dk_MV 2 g_2_put b_2_put 3
theorem h_2_put : dk_monoG g_2_put := dk_monoG_nil
theorem o_2_put : dk_mono s_2_put := dk_MV_mono _ h_2_put _ _
def t_2_put : dk_Tm := (tc_2, [], [0, 20, 40, 47], 2)
def y_5_write : MethodName := ⟨nn_R5, "write", "(III)I"⟩
def b_5_write : dk_T := [
  ([true, true, true, true], [.inl (.iload 1), .inr (5, 0, 1), .inl (.ifCond .ne 1), .inl (.aload 0), .inl (.iconst 0), .inr (5, 1, 0), .inl .ireturn]),
  ([true, true, true, true], [.inl (.aload 0), .inr (0, 5, 4), .inl (.iload 1), .inl .aaload, .inr (5, 2, 0), .inl (.ifCond .eq 2), .inl (.aload 0), .inl (.iconst 5), .inr (5, 1, 0), .inl .ireturn]),
  ([true, true, true, true], [.inl (.iload 2), .inl (.iconst 0), .inl (.aload 0), .inr (0, 5, 4), .inl (.iload 1), .inl .aaload, .inr (0, 2, 1), .inl (.iconst 1), .inl .isub, .inr (5, 3, 1), .inl (.ifCond .ne 3), .inl (.aload 0), .inl (.iconst 0), .inr (5, 1, 0), .inl .ireturn]),
  ([true, true, true, true], [.inl (.aload 0), .inr (0, 5, 4), .inl (.iload 1), .inl .aaload, .inl (.iload 2), .inl (.iload 3), .inr (5, 4, 0), .inl (.iconst 1), .inl .ireturn])]
def g_5_write : List (Nat × dk_S) := [(1, s_5_isSheet), (2, s_5_finding), (1, s_2_isMissing), (3, s_5_isWithin), (3, s_2_put)]
def s_5_write : dk_S := dk_MV 5 g_5_write b_5_write 4
theorem h_5_write : dk_monoG g_5_write := dk_monoG_cons o_5_isSheet (dk_monoG_cons o_5_finding (dk_monoG_cons o_2_isMissing (dk_monoG_cons o_5_isWithin (dk_monoG_cons o_2_put (dk_monoG_nil)))))
theorem o_5_write : dk_mono s_5_write := dk_MV_mono _ h_5_write _ _
def t_5_write : dk_Tm := (tc_5, [(269, 1, 0), (78, 0, 1), (279, 0, 2), (68, 1, 3), (282, 0, 4)], [0, 13, 31, 56], 0)
def y_2_hasFrom : MethodName := ⟨nn_R2, "hasFrom", "(II)Z"⟩
def b_2_hasFrom : dk_T := [
  ([true, true, true], [.inl (.iload 1), .inl (.ifCond .lt 1), .inl (.iload 2), .inl (.ifCond .lt 1), .inl (.iload 1), .inl (.aload 0), .inr (0, 2, 1), .inl (.if_icmp .gt 1), .inl (.iload 2), .inl (.aload 0), .inr (0, 2, 1), .inl (.iload 1), .inl .isub, .inl (.if_icmp .gt 1), .inl (.iconst 1), .inr (7, 2, 0)]),
  ([false, false, false], [.inl (.iconst 0), .inr (7, 2, 1)]),
  ([false, false, false], [.inl .lreturn])]
def g_2_hasFrom : List (Nat × dk_S) := []
def s_2_hasFrom : dk_S := dk_MV 2 g_2_hasFrom b_2_hasFrom 3
theorem h_2_hasFrom : dk_monoG g_2_hasFrom := dk_monoG_nil
theorem o_2_hasFrom : dk_mono s_2_hasFrom := dk_MV_mono _ h_2_hasFrom _ _
def t_2_hasFrom : dk_Tm := (tc_2, [], [0, 30, 31], 1)
def y_5_copy : MethodName := ⟨nn_R5, "copy", "(IIIII)I"⟩
def b_5_copy : dk_T := [
  ([true, true, true, true, true, true, false, false], [.inl (.iload 1), .inr (5, 0, 1), .inl (.ifCond .eq 1), .inl (.iload 3), .inr (5, 0, 1), .inl (.ifCond .ne 2), .inr (7, 1, 1)]),
  ([true, false, false, false, false, false, false, false], [.inl (.aload 0), .inl (.iconst 0), .inr (5, 1, 0), .inl .ireturn]),
  ([true, true, true, true, true, true, false, false], [.inl (.aload 0), .inr (0, 5, 4), .inl (.iload 1), .inl .aaload, .inl (.astore 6), .inl (.aload 0), .inr (0, 5, 4), .inl (.iload 3), .inl .aaload, .inl (.astore 7), .inl (.aload 6), .inr (5, 2, 0), .inl (.ifCond .ne 3), .inl (.aload 7), .inr (5, 2, 0), .inl (.ifCond .eq 4), .inr (7, 3, 1)]),
  ([true, false, false, false, false, false, false, false], [.inl (.aload 0), .inl (.iconst 5), .inr (5, 1, 0), .inl .ireturn]),
  ([true, false, true, false, true, true, true, true], [.inl (.aload 6), .inr (0, 2, 0), .inl (.aload 7), .inr (0, 2, 0), .inl (.if_icmp .eq 5), .inl (.aload 0), .inl (.iconst 2), .inr (5, 1, 0), .inl .ireturn]),
  ([true, false, true, false, true, true, true, true], [.inl (.aload 6), .inl (.iload 2), .inl (.iload 5), .inr (5, 3, 0), .inl (.ifCond .eq 6), .inl (.aload 7), .inl (.iload 4), .inl (.iload 5), .inr (5, 3, 0), .inl (.ifCond .ne 7), .inr (7, 6, 1)]),
  ([true, false, false, false, false, false, false, false], [.inl (.aload 0), .inl (.iconst 0), .inr (5, 1, 0), .inl .ireturn]),
  ([false, false, true, false, true, true, true, true], [.inl (.aload 6), .inr (0, 2, 2), .inl (.iload 2), .inl (.aload 7), .inr (0, 2, 2), .inl (.iload 4), .inl (.iload 5), .inr (5, 4, 1), .inl (.iload 5), .inl .ireturn])]
def g_5_copy : List (Nat × dk_S) := [(1, s_5_isSheet), (2, s_5_finding), (1, s_2_isMissing), (3, s_2_hasFrom), (5, s_ac)]
def s_5_copy : dk_S := dk_MV 5 g_5_copy b_5_copy 8
theorem h_5_copy : dk_monoG g_5_copy := dk_monoG_cons o_5_isSheet (dk_monoG_cons o_5_finding (dk_monoG_cons o_2_isMissing (dk_monoG_cons o_2_hasFrom (dk_monoG_cons o_ac (dk_monoG_nil)))))
theorem o_5_copy : dk_mono s_5_copy := dk_MV_mono _ h_5_copy _ _
def t_5_copy : dk_Tm := (tc_5, [(269, 1, 0), (78, 0, 1), (279, 0, 2), (288, 0, 3), (190, 1, 4)], [0, 14, 20, 52, 58, 77, 100, 106], 0)
def y_5_load : MethodName := ⟨nn_R5, "load", "(I)I"⟩
def b_5_load : dk_T := [
  ([true, true, false, false], [.inl (.iload 1), .inr (5, 0, 1), .inl (.ifCond .ne 1), .inl (.aload 0), .inl (.iconst 0), .inr (5, 1, 0), .inl .ireturn]),
  ([true, true, false, false], [.inl (.aload 0), .inr (0, 5, 4), .inl (.iload 1), .inl .aaload, .inr (5, 2, 0), .inl (.ifCond .eq 2), .inl (.aload 0), .inl (.iconst 5), .inr (5, 1, 0), .inl .ireturn]),
  ([true, true, false, false], [.inl (.aload 0), .inr (0, 5, 4), .inl (.iload 1), .inl .aaload, .inr (0, 2, 1), .inl (.aload 0), .inr (0, 5, 0), .inr (0, 0, 1), .inr (5, 3, 1), .inl (.istore 2), .inl (.iconst 0), .inl (.istore 3), .inr (7, 3, 1)]),
  ([true, true, true, true], [.inl (.iload 3), .inl (.iload 2), .inl (.if_icmp .ge 4), .inl (.aload 0), .inr (0, 5, 0), .inr (0, 0, 7), .inl (.iload 3), .inl (.aload 0), .inr (0, 5, 0), .inl (.aload 0), .inr (0, 5, 4), .inl (.iload 1), .inl .aaload, .inr (0, 2, 2), .inl (.iload 3), .inl .iaload, .inr (5, 4, 0), .inl .iastore, .inl (.iinc 3 (1)), .inr (7, 3, 0)]),
  ([false, false, true, false], [.inl (.iload 2), .inl .ireturn])]
def g_5_load : List (Nat × dk_S) := [(1, s_5_isSheet), (2, s_5_finding), (1, s_2_isMissing), (2, s_8_min), (2, s_0_wrap)]
def s_5_load : dk_S := dk_MV 5 g_5_load b_5_load 4
theorem h_5_load : dk_monoG g_5_load := dk_monoG_cons o_5_isSheet (dk_monoG_cons o_5_finding (dk_monoG_cons o_2_isMissing (dk_monoG_cons o_8_min (dk_monoG_cons o_0_wrap (dk_monoG_nil)))))
theorem o_5_load : dk_mono s_5_load := dk_MV_mono _ h_5_load _ _
def t_5_load : dk_Tm := (tc_5, [(269, 1, 0), (78, 0, 1), (279, 0, 2), (244, 1, 3), (150, 0, 4)], [0, 13, 31, 53, 91], 0)
def y_5_judge : MethodName := ⟨nn_R5, "judge", "(I)I"⟩
def b_5_judge : dk_T := [
  ([true, true, false], [.inl (.iload 1), .inr (5, 0, 1), .inl (.ifCond .ne 1), .inl (.aload 0), .inl (.iconst 0), .inr (5, 1, 0), .inl .ireturn]),
  ([true, true, false], [.inl (.aload 0), .inr (0, 5, 4), .inl (.iload 1), .inl .aaload, .inr (5, 2, 0), .inl (.ifCond .eq 2), .inl (.aload 0), .inl (.iconst 5), .inr (5, 1, 0), .inl .ireturn]),
  ([true, true, false], [.inl (.aload 0), .inr (0, 5, 0), .inr (0, 0, 1), .inl (.ifCond .ne 3), .inl (.aload 0), .inl (.iconst 3), .inr (5, 1, 0), .inl .ireturn]),
  ([true, true, false], [.inl (.aload 0), .inr (5, 3, 0), .inl (.iconst 0), .inl (.istore 2), .inr (7, 4, 1)]),
  ([true, true, true], [.inl (.iload 2), .inl (.aload 0), .inr (0, 5, 4), .inl (.iload 1), .inl .aaload, .inr (0, 2, 1), .inl (.if_icmp .ge 6), .inl (.aload 0), .inr (0, 5, 6), .inr (5, 4, 0), .inl .pop, .inl (.aload 0), .inr (0, 5, 4), .inl (.iload 1), .inl .aaload, .inr (0, 2, 2), .inl (.iload 2), .inl .iaload, .inl (.aload 0), .inr (0, 5, 0), .inl (.aload 0), .inr (0, 5, 6), .inr (0, 4, 2), .inr (5, 5, 0), .inl (.if_icmp .eq 5), .inl (.iload 2), .inl .ireturn]),
  ([true, true, true], [.inl (.iinc 2 (1)), .inr (7, 4, 0)]),
  ([false, false, false], [.inl (.iconst (-1)), .inl .ireturn])]
def g_5_judge : List (Nat × dk_S) := [(1, s_5_isSheet), (2, s_5_finding), (1, s_2_isMissing), (1, s_5_setOut), (1, s_4_step), (2, s_0_worstOf)]
def s_5_judge : dk_S := dk_MV 5 g_5_judge b_5_judge 3
theorem h_5_judge : dk_monoG g_5_judge := dk_monoG_cons o_5_isSheet (dk_monoG_cons o_5_finding (dk_monoG_cons o_2_isMissing (dk_monoG_cons o_5_setOut (dk_monoG_cons o_4_step (dk_monoG_cons o_0_worstOf (dk_monoG_nil))))))
theorem o_5_judge : dk_mono s_5_judge := dk_MV_mono _ h_5_judge _ _
def t_5_judge : dk_Tm := (tc_5, [(269, 1, 0), (78, 0, 1), (279, 0, 2), (180, 0, 3), (208, 0, 4), (196, 0, 5)], [0, 13, 31, 47, 53, 104, 110], 0)
def y_0_becomeAs : MethodName := ⟨nn_R0, "becomeAs", "(LLongColumn$Column;)V"⟩
def b_0_becomeAs : dk_T := [
  ([true, true], [.inl (.aload 1), .inr (0, 0, 0), .inl (.iconst 0), .inl (.aload 0), .inr (0, 0, 0), .inl (.iconst 0), .inl (.iconst 7), .inr (5, 0, 1), .inl (.aload 0), .inl (.aload 1), .inr (0, 0, 1), .inr (1, 0, 1), .inl (.aload 1), .inr (0, 0, 2), .inl (.iconst 0), .inl (.aload 0), .inr (0, 0, 2), .inl (.iconst 0), .inl (.iconst 24), .inr (5, 0, 1), .inl (.aload 1), .inr (0, 0, 3), .inl (.iconst 0), .inl (.aload 0), .inr (0, 0, 3), .inl (.iconst 0), .inl (.iconst 24), .inr (5, 0, 1), .inl (.aload 1), .inr (0, 0, 4), .inl (.iconst 0), .inl (.aload 0), .inr (0, 0, 4), .inl (.iconst 0), .inl (.iconst 24), .inr (5, 0, 1), .inl (.aload 1), .inr (0, 0, 5), .inl (.iconst 0), .inl (.aload 0), .inr (0, 0, 5), .inl (.iconst 0), .inl (.iconst 24), .inr (5, 0, 1), .inl (.aload 1), .inr (0, 0, 6), .inl (.iconst 0), .inl (.aload 0), .inr (0, 0, 6), .inl (.iconst 0), .inl (.iconst 24), .inr (5, 0, 1), .inl (.aload 1), .inr (0, 0, 7), .inl (.iconst 0), .inl (.aload 0), .inr (0, 0, 7), .inl (.iconst 0), .inl (.iconst 24), .inr (5, 0, 1), .inl (.aload 0), .inl (.aload 1), .inr (0, 0, 8), .inr (1, 0, 8), .inl (.aload 1), .inr (0, 0, 9), .inl (.iconst 0), .inl (.aload 0), .inr (0, 0, 9), .inl (.iconst 0), .inl (.iconst 6), .inr (5, 0, 1), .inl (.aload 1), .inr (0, 0, 10), .inl (.iconst 0), .inl (.aload 0), .inr (0, 0, 10), .inl (.iconst 0), .inl (.iconst 6), .inr (5, 0, 1), .inl (.aload 1), .inr (0, 0, 11), .inl (.iconst 0), .inl (.aload 0), .inr (0, 0, 11), .inl (.iconst 0), .inl (.iconst 6), .inr (5, 0, 1), .inl (.aload 0), .inl (.aload 1), .inr (0, 0, 12), .inr (1, 0, 12), .inl (.aload 1), .inr (0, 0, 13), .inl (.iconst 0), .inl (.aload 0), .inr (0, 0, 13), .inl (.iconst 0), .inl (.iconst 6), .inr (5, 0, 1), .inl (.aload 1), .inr (0, 0, 14), .inl (.iconst 0), .inl (.aload 0), .inr (0, 0, 14), .inl (.iconst 0), .inl (.iconst 10), .inr (5, 0, 1), .inl (.aload 0), .inl (.aload 1), .inr (0, 0, 15), .inr (1, 0, 15), .inl .return_])]
def g_0_becomeAs : List (Nat × dk_S) := [(5, s_ac)]
def s_0_becomeAs : dk_S := dk_MV 0 g_0_becomeAs b_0_becomeAs 2
theorem h_0_becomeAs : dk_monoG g_0_becomeAs := dk_monoG_cons o_ac (dk_monoG_nil)
theorem o_0_becomeAs : dk_mono s_0_becomeAs := dk_MV_mono _ h_0_becomeAs _ _
def t_0_becomeAs : dk_Tm := (tc_0, [(75, 1, 0)], [0], 2)
def y_5_image : MethodName := ⟨nn_R5, "image", "()I"⟩
def b_5_image : dk_T := [
  ([true], [.inl (.aload 0), .inr (0, 5, 1), .inl (.aload 0), .inr (0, 5, 0), .inr (5, 0, 0), .inl (.aload 0), .inl (.iconst 1), .inr (2, 5, 2), .inl (.iconst 1), .inl .ireturn])]
def g_5_image : List (Nat × dk_S) := [(2, s_0_becomeAs)]
def s_5_image : dk_S := dk_MV 5 g_5_image b_5_image 1
theorem h_5_image : dk_monoG g_5_image := dk_monoG_cons o_0_becomeAs (dk_monoG_nil)
theorem o_5_image : dk_mono s_5_image := dk_MV_mono _ h_5_image _ _
def t_5_image : dk_Tm := (tc_5, [(294, 0, 0)], [0], 0)
def y_5_undo : MethodName := ⟨nn_R5, "undo", "()I"⟩
def b_5_undo : dk_T := [
  ([true], [.inl (.aload 0), .inr (0, 5, 2), .inl (.ifCond .ne 1), .inl (.aload 0), .inl (.iconst 3), .inr (5, 0, 0), .inl .ireturn]),
  ([true], [.inl (.aload 0), .inr (0, 5, 0), .inl (.aload 0), .inr (0, 5, 1), .inr (5, 1, 0), .inl (.aload 0), .inr (0, 5, 0), .inr (0, 0, 1), .inl .ireturn])]
def g_5_undo : List (Nat × dk_S) := [(2, s_5_finding), (2, s_0_becomeAs)]
def s_5_undo : dk_S := dk_MV 5 g_5_undo b_5_undo 1
theorem h_5_undo : dk_monoG g_5_undo := dk_monoG_cons o_5_finding (dk_monoG_cons o_0_becomeAs (dk_monoG_nil))
theorem o_5_undo : dk_mono s_5_undo := dk_MV_mono _ h_5_undo _ _
def t_5_undo : dk_Tm := (tc_5, [(78, 0, 0), (294, 0, 1)], [0, 13], 0)
def y_5_tear : MethodName := ⟨nn_R5, "tear", "()I"⟩
def b_5_tear : dk_T := [
  ([true, false], [.inl (.aload 0), .inr (0, 5, 2), .inl (.ifCond .eq 1), .inl (.iconst 1), .inr (7, 2, 0)]),
  ([true, false], [.inl (.iconst 0), .inr (7, 2, 1)]),
  ([true, false], [.inl (.istore 1), .inl (.aload 0), .inl (.iconst 0), .inr (2, 5, 2), .inl (.iload 1), .inl .ireturn])]
def g_5_tear : List (Nat × dk_S) := []
def s_5_tear : dk_S := dk_MV 5 g_5_tear b_5_tear 2
theorem h_5_tear : dk_monoG g_5_tear := dk_monoG_nil
theorem o_5_tear : dk_mono s_5_tear := dk_MV_mono _ h_5_tear _ _
def t_5_tear : dk_Tm := (tc_5, [], [0, 11, 12], 0)
def y_0_spotsHeld : MethodName := ⟨nn_R0, "spotsHeld", "()I"⟩
def b_0_spotsHeld : dk_T := [
  ([true, false, false], [.inl (.iconst 0), .inl (.istore 1), .inl (.iconst 0), .inl (.istore 2), .inr (7, 1, 1)]),
  ([true, true, true], [.inl (.iload 2), .inl (.iconst 10), .inl (.if_icmp .ge 3), .inl (.aload 0), .inr (0, 0, 14), .inl (.iload 2), .inl .iaload, .inl (.iconst (-1)), .inl (.if_icmp .eq 2), .inl (.iinc 1 (1)), .inr (7, 2, 1)]),
  ([true, true, true], [.inl (.iinc 2 (1)), .inr (7, 1, 0)]),
  ([false, true, false], [.inl (.iload 1), .inl .ireturn])]
def g_0_spotsHeld : List (Nat × dk_S) := []
def s_0_spotsHeld : dk_S := dk_MV 0 g_0_spotsHeld b_0_spotsHeld 3
theorem h_0_spotsHeld : dk_monoG g_0_spotsHeld := dk_monoG_nil
theorem o_0_spotsHeld : dk_mono s_0_spotsHeld := dk_MV_mono _ h_0_spotsHeld _ _
def t_0_spotsHeld : dk_Tm := (tc_0, [], [0, 4, 23, 29], 0)
def y_5_count : MethodName := ⟨nn_R5, "count", "(I)I"⟩
def b_5_count : dk_T := [
  ([true, true], [.inl (.iload 1), .inl (.tableswitch 7 0 5 #[1, 2, 3, 4, 5, 6])]),
  ([true, false], [.inl (.aload 0), .inr (0, 5, 0), .inr (0, 0, 1), .inl .ireturn]),
  ([true, false], [.inl (.aload 0), .inr (0, 5, 0), .inr (0, 0, 8), .inl .ireturn]),
  ([true, false], [.inl (.aload 0), .inr (0, 5, 0), .inr (0, 0, 12), .inl .ireturn]),
  ([true, false], [.inl (.aload 0), .inr (0, 5, 3), .inr (0, 3, 1), .inl .ireturn]),
  ([true, false], [.inl (.aload 0), .inr (0, 5, 0), .inr (0, 0, 15), .inl .ireturn]),
  ([true, false], [.inl (.aload 0), .inr (0, 5, 0), .inr (5, 0, 0), .inl .ireturn]),
  ([true, false], [.inl (.aload 0), .inl (.iconst 0), .inr (5, 1, 0), .inl .ireturn])]
def g_5_count : List (Nat × dk_S) := [(1, s_0_spotsHeld), (2, s_5_finding)]
def s_5_count : dk_S := dk_MV 5 g_5_count b_5_count 2
theorem h_5_count : dk_monoG g_5_count := dk_monoG_cons o_0_spotsHeld (dk_monoG_cons o_5_finding (dk_monoG_nil))
theorem o_5_count : dk_mono s_5_count := dk_MV_mono _ h_5_count _ _
def t_5_count : dk_Tm := (tc_5, [(297, 0, 0), (78, 0, 1)], [0, 40, 48, 56, 64, 72, 80, 88], 0)
def y_5_status : MethodName := ⟨nn_R5, "status", "(I)I"⟩
def b_5_status : dk_T := [
  ([true, true, false, false], [.inl (.iload 1), .inl (.iconst (-1)), .inl (.iconst 6), .inr (5, 0, 1), .inl (.ifCond .ne 1), .inl (.aload 0), .inl (.iconst 0), .inr (5, 1, 0), .inl .ireturn]),
  ([true, true, false, false], [.inl (.iload 1), .inl (.ifCond .lt 2), .inl (.aload 0), .inr (0, 5, 10), .inl (.iload 1), .inl .iaload, .inl .ireturn]),
  ([true, false, false, false], [.inl (.iconst 0), .inl (.istore 2), .inl (.iconst 0), .inl (.istore 3), .inr (7, 3, 1)]),
  ([true, false, true, true], [.inl (.iload 3), .inl (.iconst 7), .inl (.if_icmp .ge 4), .inl (.iload 2), .inl (.aload 0), .inr (0, 5, 10), .inl (.iload 3), .inl .iaload, .inl .iadd, .inl (.istore 2), .inl (.iinc 3 (1)), .inr (7, 3, 0)]),
  ([false, false, true, false], [.inl (.iload 2), .inl .ireturn])]
def g_5_status : List (Nat × dk_S) := [(3, s_5_isWithin), (2, s_5_finding)]
def s_5_status : dk_S := dk_MV 5 g_5_status b_5_status 4
theorem h_5_status : dk_monoG g_5_status := dk_monoG_cons o_5_isWithin (dk_monoG_cons o_5_finding (dk_monoG_nil))
theorem o_5_status : dk_mono s_5_status := dk_MV_mono _ h_5_status _ _
def t_5_status : dk_Tm := (tc_5, [(68, 1, 0), (78, 0, 1)], [0, 16, 27, 31, 52], 0)
def y_6_in : MethodName := ⟨nn_R6, "in", "(III)Z"⟩
def b_6_in : dk_T := [
  ([true, true, true], [.inl (.iload 0), .inl (.iload 1), .inl (.if_icmp .lt 1), .inl (.iload 0), .inl (.iload 2), .inl (.if_icmp .gt 1), .inl (.iconst 1), .inr (7, 2, 0)]),
  ([false, false, false], [.inl (.iconst 0), .inr (7, 2, 1)]),
  ([false, false, false], [.inl .lreturn])]
def g_6_in : List (Nat × dk_S) := []
def s_6_in : dk_S := dk_M g_6_in b_6_in 3
theorem h_6_in : dk_monoG g_6_in := dk_monoG_nil
theorem o_6_in : dk_mono s_6_in := dk_M_mono h_6_in _ _
def t_6_in : dk_Tm := (tc_6, [], [0, 14, 15], 1)
def y_6_finds : MethodName := ⟨nn_R6, "finds", "(I)I"⟩
def b_6_finds : dk_T := [
  ([true, true], [.inl (.aload 0), .inr (0, 6, 12), .inl (.iload 1), .inl .dup2, .inl .iaload, .inl (.iconst 1), .inl .iadd, .inl .iastore, .inl (.iconst (-1000001)), .inl (.iload 1), .inl .isub, .inl .ireturn])]
def g_6_finds : List (Nat × dk_S) := []
def s_6_finds : dk_S := dk_MV 6 g_6_finds b_6_finds 2
theorem h_6_finds : dk_monoG g_6_finds := dk_monoG_nil
theorem o_6_finds : dk_mono s_6_finds := dk_MV_mono _ h_6_finds _ _
def t_6_finds : dk_Tm := (tc_6, [], [0], 0)
def y_6_wrappedBy : MethodName := ⟨nn_R6, "wrappedBy", "(JI)I"⟩
def b_6_wrappedBy : dk_T := [
  ([true, false, true, false, false], [.inl (.lload 0), .inl (.iload 2), .inl .i2l, .inl .lrem, .inl (.lstore 3), .inl (.lload 3), .inl (.goto_w 0), .inl .lcmp, .inl (.ifCond .ge 1), .inl (.lload 3), .inl (.iload 2), .inl .i2l, .inl .ladd, .inr (7, 2, 0)]),
  ([false, false, true, true, false], [.inl (.lload 3), .inr (7, 2, 1)]),
  ([false, false, true, false, false], [.inl (.lstore 3), .inl (.goto_w (2)), .inl (.lload 3), .inl .lmul, .inl (.iload 2), .inl .i2l, .inl .lcmp, .inl (.ifCond .le 3), .inl (.lload 3), .inl (.iload 2), .inl .i2l, .inl .lsub, .inr (7, 4, 0)]),
  ([false, false, false, true, false], [.inl (.lload 3), .inr (7, 4, 1)]),
  ([false, false, false, false, false], [.inl .l2i, .inl .ireturn])]
def g_6_wrappedBy : List (Nat × dk_S) := []
def s_6_wrappedBy : dk_S := dk_M g_6_wrappedBy b_6_wrappedBy 5
theorem h_6_wrappedBy : dk_monoG g_6_wrappedBy := dk_monoG_nil
theorem o_6_wrappedBy : dk_mono s_6_wrappedBy := dk_M_mono h_6_wrappedBy _ _
def t_6_wrappedBy : dk_Tm := (tc_6, [], [0, 18, 19, 38, 39], 0)
def y_6_wrapped : MethodName := ⟨nn_R6, "wrapped", "(J)I"⟩
def b_6_wrapped : dk_T := [
  ([true, true, false], [.inl (.lload 1), .inl (.aload 0), .inr (0, 6, 0), .inl (.iconst 0), .inl .iaload, .inr (5, 0, 1), .inl .ireturn])]
def g_6_wrapped : List (Nat × dk_S) := [(2, s_6_wrappedBy)]
def s_6_wrapped : dk_S := dk_MV 6 g_6_wrapped b_6_wrapped 3
theorem h_6_wrapped : dk_monoG g_6_wrapped := dk_monoG_cons o_6_wrappedBy (dk_monoG_nil)
theorem o_6_wrapped : dk_mono s_6_wrapped := dk_MV_mono _ h_6_wrapped _ _
def t_6_wrapped : dk_Tm := (tc_6, [(97, 1, 0)], [0], 0)
def y_6_rule : MethodName := ⟨nn_R6, "rule", "(II)I"⟩
def b_6_rule : dk_T := [
  ([true, true, true, false, false], [.inl (.iload 1), .inl (.iconst 0), .inl (.iconst 6), .inr (5, 0, 1), .inl (.ifCond .eq 3), .inl (.iload 2), .inl (.aload 0), .inr (0, 6, 1), .inl (.iload 1), .inl (.iconst 0), .inl (.iconst 6), .inr (5, 0, 1), .inl (.ifCond .eq 1), .inl (.iload 1), .inr (7, 2, 0)]),
  ([true, true, true, false, false], [.inl (.iconst 0), .inr (7, 2, 1)]),
  ([true, true, true, false, false], [.inl .iaload, .inl (.if_icmp .lt 3), .inl (.iload 2), .inl (.aload 0), .inr (0, 6, 2), .inl (.iload 1), .inl .iaload, .inl (.if_icmp .le 4), .inr (7, 3, 1)]),
  ([true, false, false, false, false], [.inl (.aload 0), .inl (.iconst 0), .inr (5, 1, 0), .inl .ireturn]),
  ([true, true, true, false, false], [.inl (.aload 0), .inr (0, 6, 0), .inl (.iload 1), .inl .iaload, .inl (.istore 3), .inl (.aload 0), .inr (0, 6, 0), .inl (.iload 1), .inl (.iload 2), .inl .iastore, .inl (.iconst 0), .inl (.istore 4), .inr (7, 5, 1)]),
  ([true, false, false, true, true], [.inl (.iload 4), .inl (.aload 0), .inr (0, 6, 3), .inl (.if_icmp .ge 6), .inl (.aload 0), .inr (0, 6, 5), .inl (.iload 4), .inl (.aload 0), .inl (.aload 0), .inr (0, 6, 5), .inl (.iload 4), .inl .iaload, .inl .i2l, .inr (5, 2, 0), .inl .iastore, .inl (.iinc 4 (1)), .inr (7, 5, 0)]),
  ([false, false, false, true, false], [.inl (.iload 3), .inl .ireturn])]
def g_6_rule : List (Nat × dk_S) := [(3, s_6_in), (2, s_6_finds), (2, s_6_wrapped)]
def s_6_rule : dk_S := dk_MV 6 g_6_rule b_6_rule 5
theorem h_6_rule : dk_monoG g_6_rule := dk_monoG_cons o_6_in (dk_monoG_cons o_6_finds (dk_monoG_cons o_6_wrapped (dk_monoG_nil)))
theorem o_6_rule : dk_mono s_6_rule := dk_MV_mono _ h_6_rule _ _
def t_6_rule : dk_Tm := (tc_6, [(88, 1, 0), (101, 0, 1), (105, 0, 2)], [0, 29, 30, 44, 50, 67, 101], 0)
def y_6_feed : MethodName := ⟨nn_R6, "feed", "(II)I"⟩
def b_6_feed : dk_T := [
  ([true, true, true, false], [.inl (.iload 2), .inl (.iconst 1), .inl (.iconst 4), .inr (5, 0, 1), .inl (.ifCond .ne 1), .inl (.aload 0), .inl (.iconst 0), .inr (5, 1, 0), .inl .ireturn]),
  ([true, true, true, false], [.inl (.aload 0), .inr (0, 6, 14), .inl (.iload 2), .inl .iadd, .inl (.iconst 120), .inl (.if_icmp .le 2), .inl (.aload 0), .inl (.iconst 1), .inr (5, 1, 0), .inl .ireturn]),
  ([true, true, true, false], [.inl (.iload 2), .inl (.iconst 1), .inl .isub, .inl (.istore 3), .inr (7, 3, 1)]),
  ([true, true, false, true], [.inl (.iload 3), .inl (.ifCond .lt 4), .inl (.aload 0), .inr (0, 6, 13), .inl (.aload 0), .inr (0, 6, 14), .inl (.iload 1), .inl (.iconst 8), .inl (.iload 3), .inl .imul, .inl .ishr, .inl (.iconst 255), .inl .iand, .inl .iastore, .inl (.aload 0), .inl .dup, .inr (0, 6, 14), .inl (.iconst 1), .inl .iadd, .inr (1, 6, 14), .inl (.iinc 3 (-1)), .inr (7, 3, 0)]),
  ([true, false, false, false], [.inl (.aload 0), .inr (0, 6, 14), .inl .ireturn])]
def g_6_feed : List (Nat × dk_S) := [(3, s_6_in), (2, s_6_finds)]
def s_6_feed : dk_S := dk_MV 6 g_6_feed b_6_feed 4
theorem h_6_feed : dk_monoG g_6_feed := dk_monoG_cons o_6_in (dk_monoG_cons o_6_finds (dk_monoG_nil))
theorem o_6_feed : dk_mono s_6_feed := dk_MV_mono _ h_6_feed _ _
def t_6_feed : dk_Tm := (tc_6, [(88, 1, 0), (101, 0, 1)], [0, 15, 32, 36, 75], 0)
def y_6_wipe : MethodName := ⟨nn_R6, "wipe", "()I"⟩
def b_6_wipe : dk_T := [
  ([true, false], [.inl (.aload 0), .inr (0, 6, 14), .inl (.istore 1), .inl (.aload 0), .inl (.iconst 0), .inr (1, 6, 14), .inl (.iload 1), .inl .ireturn])]
def g_6_wipe : List (Nat × dk_S) := []
def s_6_wipe : dk_S := dk_MV 6 g_6_wipe b_6_wipe 2
theorem h_6_wipe : dk_monoG g_6_wipe := dk_monoG_nil
theorem o_6_wipe : dk_mono s_6_wipe := dk_MV_mono _ h_6_wipe _ _
def t_6_wipe : dk_Tm := (tc_6, [], [0], 0)
def y_6_byteAt : MethodName := ⟨nn_R6, "byteAt", "(I)I"⟩
def b_6_byteAt : dk_T := [
  ([true, true], [.inl (.iload 1), .inl (.aload 0), .inr (0, 6, 14), .inl (.if_icmp .ge 1), .inl (.aload 0), .inr (0, 6, 13), .inl (.iload 1), .inl .iaload, .inr (7, 2, 0)]),
  ([false, false], [.inl (.iconst (-1)), .inr (7, 2, 1)]),
  ([false, false], [.inl .ireturn])]
def g_6_byteAt : List (Nat × dk_S) := []
def s_6_byteAt : dk_S := dk_MV 6 g_6_byteAt b_6_byteAt 2
theorem h_6_byteAt : dk_monoG g_6_byteAt := dk_monoG_nil
theorem o_6_byteAt : dk_mono s_6_byteAt := dk_MV_mono _ h_6_byteAt _ _
def t_6_byteAt : dk_Tm := (tc_6, [], [0, 17, 18], 0)
def y_6_isLetter : MethodName := ⟨nn_R6, "isLetter", "(I)Z"⟩
def b_6_isLetter : dk_T := [
  ([true], [.inl (.iload 0), .inl (.iconst 97), .inl (.iconst 122), .inr (5, 0, 1), .inl .lreturn])]
def g_6_isLetter : List (Nat × dk_S) := [(3, s_6_in)]
def s_6_isLetter : dk_S := dk_M g_6_isLetter b_6_isLetter 1
theorem h_6_isLetter : dk_monoG g_6_isLetter := dk_monoG_cons o_6_in (dk_monoG_nil)
theorem o_6_isLetter : dk_mono s_6_isLetter := dk_M_mono h_6_isLetter _ _
def t_6_isLetter : dk_Tm := (tc_6, [(88, 1, 0)], [0], 1)
def y_6_isDigit : MethodName := ⟨nn_R6, "isDigit", "(I)Z"⟩
def b_6_isDigit : dk_T := [
  ([true], [.inl (.iload 0), .inl (.iconst 48), .inl (.iconst 57), .inr (5, 0, 1), .inl .lreturn])]
def g_6_isDigit : List (Nat × dk_S) := [(3, s_6_in)]
def s_6_isDigit : dk_S := dk_M g_6_isDigit b_6_isDigit 1
theorem h_6_isDigit : dk_monoG g_6_isDigit := dk_monoG_cons o_6_in (dk_monoG_nil)
theorem o_6_isDigit : dk_mono s_6_isDigit := dk_M_mono h_6_isDigit _ _
def t_6_isDigit : dk_Tm := (tc_6, [(88, 1, 0)], [0], 1)
def y_6_advance : MethodName := ⟨nn_R6, "advance", "()V"⟩
def b_6_advance : dk_T := [
  ([true, false], [.inl (.aload 0), .inl (.aload 0), .inr (0, 6, 16), .inr (1, 6, 15), .inr (7, 1, 1)]),
  ([true, false], [.inl (.aload 0), .inl (.aload 0), .inr (0, 6, 15), .inr (5, 0, 0), .inl (.iconst 32), .inl (.if_icmp .ne 2), .inl (.aload 0), .inl .dup, .inr (0, 6, 15), .inl (.iconst 1), .inl .iadd, .inr (1, 6, 15), .inr (7, 1, 0)]),
  ([true, false], [.inl (.aload 0), .inl (.aload 0), .inr (0, 6, 15), .inr (1, 6, 16), .inl (.aload 0), .inl (.aload 0), .inr (0, 6, 15), .inr (5, 0, 0), .inl (.istore 1), .inl (.aload 0), .inl (.iload 1), .inl (.ifCond .ge 3), .inl (.iconst 0), .inr (7, 6, 0)]),
  ([true, true], [.inl (.iload 1), .inr (5, 1, 1), .inl (.ifCond .eq 4), .inl (.iconst 1), .inr (7, 6, 0)]),
  ([true, true], [.inl (.iload 1), .inr (5, 2, 1), .inl (.ifCond .eq 5), .inl (.iconst 2), .inr (7, 6, 0)]),
  ([true, true], [.inl (.iconst 3), .inr (7, 6, 1)]),
  ([true, true], [.inr (1, 6, 17), .inl (.aload 0), .inl (.goto_w 0), .inr (4, 6, 18), .inl (.aload 0), .inl (.aload 0), .inr (0, 6, 17), .inl (.iconst 2), .inl (.if_icmp .ne 7), .inl (.iconst 0), .inr (7, 8, 0)]),
  ([true, true], [.inl (.iload 1), .inr (7, 8, 1)]),
  ([true, false], [.inr (1, 6, 19), .inl (.aload 0), .inr (0, 6, 17), .inl (.iconst 3), .inl (.if_icmp .ne 9), .inl (.aload 0), .inl .dup, .inr (0, 6, 16), .inl (.iconst 1), .inl .iadd, .inr (1, 6, 16), .inr (7, 9, 1)]),
  ([true, false], [.inl (.aload 0), .inr (0, 6, 17), .inl (.iconst 1), .inl (.if_icmp .ne 12), .inl (.aload 0), .inl (.aload 0), .inr (0, 6, 16), .inr (5, 0, 0), .inr (5, 1, 1), .inl (.ifCond .eq 12), .inl (.aload 0), .inl (.aload 0), .inr (0, 6, 16), .inl (.aload 0), .inr (0, 6, 15), .inl .isub, .inl (.iconst 8), .inl (.if_icmp .ge 10), .inl (.goto_w (27)), .inl (.aload 0), .inr (0, 6, 18), .inl .lmul, .inl (.aload 0), .inl (.aload 0), .inr (0, 6, 16), .inr (5, 0, 0), .inl .i2l, .inl .ladd, .inl (.goto_w (96)), .inl .lsub, .inr (7, 11, 0)]),
  ([true, false], [.inl (.goto_w (-1)), .inr (7, 11, 1)]),
  ([true, false], [.inr (4, 6, 18), .inl (.aload 0), .inl .dup, .inr (0, 6, 16), .inl (.iconst 1), .inl .iadd, .inr (1, 6, 16), .inr (7, 9, 0)]),
  ([true, false], [.inl (.aload 0), .inr (0, 6, 17), .inl (.iconst 2), .inl (.if_icmp .ne 15), .inl (.aload 0), .inl (.aload 0), .inr (0, 6, 16), .inr (5, 0, 0), .inr (5, 2, 1), .inl (.ifCond .eq 15), .inl (.aload 0), .inl (.aload 0), .inr (0, 6, 19), .inl (.iconst 9999), .inl (.if_icmp .le 13), .inl (.iconst 10000), .inr (7, 14, 0)]),
  ([true, false], [.inl (.iconst 10), .inl (.aload 0), .inr (0, 6, 19), .inl .imul, .inl (.aload 0), .inl (.aload 0), .inr (0, 6, 16), .inr (5, 0, 0), .inl .iadd, .inl (.iconst 48), .inl .isub, .inr (7, 14, 1)]),
  ([true, false], [.inr (1, 6, 19), .inl (.aload 0), .inl .dup, .inr (0, 6, 16), .inl (.iconst 1), .inl .iadd, .inr (1, 6, 16), .inr (7, 12, 0)]),
  ([false, false], [.inl .return_])]
def g_6_advance : List (Nat × dk_S) := [(2, s_6_byteAt), (1, s_6_isLetter), (1, s_6_isDigit)]
def s_6_advance : dk_S := dk_MV 6 g_6_advance b_6_advance 2
theorem h_6_advance : dk_monoG g_6_advance := dk_monoG_cons o_6_byteAt (dk_monoG_cons o_6_isLetter (dk_monoG_cons o_6_isDigit (dk_monoG_nil)))
theorem o_6_advance : dk_mono s_6_advance := dk_MV_mono _ h_6_advance _ _
def t_6_advance : dk_Tm := (tc_6, [(118, 0, 0), (121, 1, 1), (125, 1, 2)], [0, 8, 34, 60, 71, 82, 83, 104, 105, 126, 188, 191, 207, 246, 265, 281], 2)
def y_6_isWord : MethodName := ⟨nn_R6, "isWord", "(J)Z"⟩
def b_6_isWord : dk_T := [
  ([true, true, false], [.inl (.aload 0), .inr (0, 6, 17), .inl (.iconst 1), .inl (.if_icmp .ne 1), .inl (.aload 0), .inr (0, 6, 18), .inl (.lload 1), .inl .lcmp, .inl (.ifCond .ne 1), .inl (.iconst 1), .inr (7, 2, 0)]),
  ([false, false, false], [.inl (.iconst 0), .inr (7, 2, 1)]),
  ([false, false, false], [.inl .lreturn])]
def g_6_isWord : List (Nat × dk_S) := []
def s_6_isWord : dk_S := dk_MV 6 g_6_isWord b_6_isWord 3
theorem h_6_isWord : dk_monoG g_6_isWord := dk_monoG_nil
theorem o_6_isWord : dk_mono s_6_isWord := dk_MV_mono _ h_6_isWord _ _
def t_6_isWord : dk_Tm := (tc_6, [], [0, 21, 22], 1)
def y_6_kindHere : MethodName := ⟨nn_R6, "kindHere", "()I"⟩
def b_6_kindHere : dk_T := [
  ([true], [.inl (.aload 0), .inl (.goto_w (220309)), .inr (5, 0, 0), .inl (.ifCond .eq 1), .inl (.iconst 0), .inr (7, 8, 0)]),
  ([true], [.inl (.aload 0), .inl (.goto_w (3690)), .inr (5, 0, 0), .inl (.ifCond .eq 2), .inl (.iconst 1), .inr (7, 8, 0)]),
  ([true], [.inl (.aload 0), .inl (.goto_w (4325)), .inr (5, 0, 0), .inl (.ifCond .eq 3), .inl (.iconst 2), .inr (7, 8, 0)]),
  ([true], [.inl (.aload 0), .inl (.goto_w (9744)), .inr (5, 0, 0), .inl (.ifCond .eq 4), .inl (.iconst 3), .inr (7, 8, 0)]),
  ([true], [.inl (.aload 0), .inl (.goto_w (121898)), .inr (5, 0, 0), .inl (.ifCond .eq 5), .inl (.iconst 4), .inr (7, 8, 0)]),
  ([true], [.inl (.aload 0), .inl (.goto_w (404923)), .inr (5, 0, 0), .inl (.ifCond .eq 6), .inl (.iconst 5), .inr (7, 8, 0)]),
  ([true], [.inl (.aload 0), .inl (.goto_w (131360)), .inr (5, 0, 0), .inl (.ifCond .eq 7), .inl (.iconst 6), .inr (7, 8, 0)]),
  ([false], [.inl (.iconst (-1)), .inr (7, 8, 1)]),
  ([false], [.inl .ireturn])]
def g_6_kindHere : List (Nat × dk_S) := [(2, s_6_isWord)]
def s_6_kindHere : dk_S := dk_MV 6 g_6_kindHere b_6_kindHere 1
theorem h_6_kindHere : dk_monoG g_6_kindHere := dk_monoG_cons o_6_isWord (dk_monoG_nil)
theorem o_6_kindHere : dk_mono s_6_kindHere := dk_MV_mono _ h_6_kindHere _ _
def t_6_kindHere : dk_Tm := (tc_6, [(146, 0, 0)], [0, 14, 28, 42, 56, 70, 84, 99, 100], 0)
def y_6_wantNumber : MethodName := ⟨nn_R6, "wantNumber", "(II)I"⟩
def b_6_wantNumber : dk_T := [
  ([true, true, true, false], [.inl (.aload 0), .inr (0, 6, 19), .inl (.istore 3), .inl (.aload 0), .inl (.aload 0), .inr (0, 6, 20), .inl (.ifCond .eq 1), .inl (.aload 0), .inr (0, 6, 17), .inl (.iconst 2), .inl (.if_icmp .ne 1), .inl (.iload 3), .inl (.iload 1), .inl (.iload 2), .inr (5, 0, 1), .inl (.ifCond .eq 1), .inl (.iconst 1), .inr (7, 2, 0)]),
  ([true, false, false, true], [.inl (.iconst 0), .inr (7, 2, 1)]),
  ([true, false, false, true], [.inr (2, 6, 20), .inl (.aload 0), .inr (0, 6, 20), .inl (.ifCond .eq 3), .inl (.aload 0), .inr (5, 1, 0), .inr (7, 3, 1)]),
  ([false, false, false, true], [.inl (.iload 3), .inl .ireturn])]
def g_6_wantNumber : List (Nat × dk_S) := [(3, s_6_in), (1, s_6_advance)]
def s_6_wantNumber : dk_S := dk_MV 6 g_6_wantNumber b_6_wantNumber 4
theorem h_6_wantNumber : dk_monoG g_6_wantNumber := dk_monoG_cons o_6_in (dk_monoG_cons o_6_advance (dk_monoG_nil))
theorem o_6_wantNumber : dk_mono s_6_wantNumber := dk_MV_mono _ h_6_wantNumber _ _
def t_6_wantNumber : dk_Tm := (tc_6, [(88, 1, 0), (172, 0, 1)], [0, 34, 35, 49], 0)
def y_6_moreHere : MethodName := ⟨nn_R6, "moreHere", "()I"⟩
def b_6_moreHere : dk_T := [
  ([true], [.inl (.aload 0), .inl (.goto_w (316163)), .inr (5, 0, 0), .inl (.ifCond .eq 1), .inl (.iconst 2), .inr (7, 4, 0)]),
  ([true], [.inl (.aload 0), .inl (.goto_w (10256063)), .inr (5, 0, 0), .inl (.ifCond .eq 2), .inl (.iconst 3), .inr (7, 4, 0)]),
  ([true], [.inl (.aload 0), .inl (.goto_w (2486801)), .inr (5, 0, 0), .inl (.ifCond .eq 3), .inl (.iconst 4), .inr (7, 4, 0)]),
  ([false], [.inl (.iconst 0), .inr (7, 4, 1)]),
  ([false], [.inl .ireturn])]
def g_6_moreHere : List (Nat × dk_S) := [(2, s_6_isWord)]
def s_6_moreHere : dk_S := dk_MV 6 g_6_moreHere b_6_moreHere 1
theorem h_6_moreHere : dk_monoG g_6_moreHere := dk_monoG_cons o_6_isWord (dk_monoG_nil)
theorem o_6_moreHere : dk_mono s_6_moreHere := dk_MV_mono _ h_6_moreHere _ _
def t_6_moreHere : dk_Tm := (tc_6, [(146, 0, 0)], [0, 14, 28, 42, 43], 0)
def y_6_wantGroup : MethodName := ⟨nn_R6, "wantGroup", "()V"⟩
def b_6_wantGroup : dk_T := [
  ([true, false, false, false], [.inl (.iconst 6), .inl (.aload 0), .inr (0, 6, 22), .inl .imul, .inl (.istore 1), .inl (.aload 0), .inr (0, 6, 21), .inl (.iload 1), .inl (.aload 0), .inr (5, 0, 0), .inl .iastore, .inl (.aload 0), .inl (.aload 0), .inr (0, 6, 20), .inl (.ifCond .eq 1), .inl (.aload 0), .inr (0, 6, 21), .inl (.iload 1), .inl .iaload, .inl (.ifCond .lt 1), .inl (.iconst 1), .inr (7, 2, 0)]),
  ([true, true, false, false], [.inl (.iconst 0), .inr (7, 2, 1)]),
  ([true, true, false, false], [.inr (2, 6, 20), .inl (.aload 0), .inr (0, 6, 20), .inl (.ifCond .eq 3), .inl (.aload 0), .inr (5, 1, 0), .inr (7, 3, 1)]),
  ([true, true, false, false], [.inl (.aload 0), .inr (0, 6, 21), .inl (.iload 1), .inl (.iconst 1), .inl .iadd, .inl (.aload 0), .inl (.iconst 1), .inl (.iconst 24), .inr (5, 2, 0), .inl .iastore, .inl (.aload 0), .inl (.aload 0), .inr (0, 6, 20), .inl (.ifCond .eq 4), .inl (.aload 0), .inl (.goto_w (3094387)), .inr (5, 3, 0), .inl (.ifCond .eq 4), .inl (.iconst 1), .inr (7, 5, 0)]),
  ([true, true, false, false], [.inl (.iconst 0), .inr (7, 5, 1)]),
  ([true, true, false, false], [.inr (2, 6, 20), .inl (.aload 0), .inr (0, 6, 20), .inl (.ifCond .eq 6), .inl (.aload 0), .inr (5, 1, 0), .inr (7, 6, 1)]),
  ([true, true, false, false], [.inl (.aload 0), .inr (0, 6, 21), .inl (.iload 1), .inl (.iconst 2), .inl .iadd, .inl (.aload 0), .inl (.iconst 1), .inl (.iconst 200), .inr (5, 2, 0), .inl .iastore, .inl (.aload 0), .inr (0, 6, 21), .inl (.iload 1), .inl (.iconst 3), .inl .iadd, .inl (.iconst 50), .inl .iastore, .inl (.aload 0), .inr (0, 6, 21), .inl (.iload 1), .inl (.iconst 4), .inl .iadd, .inl (.iconst 50), .inl .iastore, .inl (.aload 0), .inr (0, 6, 21), .inl (.iload 1), .inl (.iconst 5), .inl .iadd, .inl (.iconst 0), .inl .iastore, .inr (7, 7, 1)]),
  ([true, true, false, false], [.inl (.aload 0), .inr (0, 6, 20), .inl (.ifCond .eq 10), .inl (.aload 0), .inr (5, 4, 0), .inl (.ifCond .le 10), .inl (.aload 0), .inr (5, 4, 0), .inl (.istore 2), .inl (.aload 0), .inr (5, 1, 0), .inl (.aload 0), .inl (.iconst 0), .inl (.iload 2), .inl (.iconst 4), .inl (.if_icmp .ne 8), .inl (.iconst 99), .inr (7, 9, 0)]),
  ([true, true, true, false], [.inl (.iconst 100), .inr (7, 9, 1)]),
  ([true, true, true, false], [.inr (5, 2, 0), .inl (.istore 3), .inl (.aload 0), .inr (0, 6, 21), .inl (.iload 1), .inl (.iconst 1), .inl .iadd, .inl (.iload 2), .inl .iadd, .inl (.iload 3), .inl .iastore, .inr (7, 7, 0)]),
  ([true, false, false, false], [.inl (.aload 0), .inl .dup, .inr (0, 6, 22), .inl (.iconst 1), .inl .iadd, .inr (1, 6, 22), .inl .return_])]
def g_6_wantGroup : List (Nat × dk_S) := [(1, s_6_kindHere), (1, s_6_advance), (3, s_6_wantNumber), (2, s_6_isWord), (1, s_6_moreHere)]
def s_6_wantGroup : dk_S := dk_MV 6 g_6_wantGroup b_6_wantGroup 4
theorem h_6_wantGroup : dk_monoG g_6_wantGroup := dk_monoG_cons o_6_kindHere (dk_monoG_cons o_6_advance (dk_monoG_cons o_6_wantNumber (dk_monoG_cons o_6_isWord (dk_monoG_cons o_6_moreHere (dk_monoG_nil)))))
theorem o_6_wantGroup : dk_mono s_6_wantGroup := dk_MV_mono _ h_6_wantGroup _ _
def t_6_wantGroup : dk_Tm := (tc_6, [(178, 0, 0), (172, 0, 1), (182, 0, 2), (146, 0, 3), (188, 0, 4)], [0, 39, 40, 54, 91, 92, 106, 151, 186, 188, 206], 2)
def y_6_its : MethodName := ⟨nn_R6, "its", "(II)I"⟩
def b_6_its : dk_T := [
  ([true, true, true], [.inl (.aload 0), .inr (0, 6, 4), .inl (.iconst 5), .inl (.iload 1), .inl .imul, .inl (.iload 2), .inl .iadd, .inl .iaload, .inl .ireturn])]
def g_6_its : List (Nat × dk_S) := []
def s_6_its : dk_S := dk_MV 6 g_6_its b_6_its 3
theorem h_6_its : dk_monoG g_6_its := dk_monoG_nil
theorem o_6_its : dk_mono s_6_its := dk_MV_mono _ h_6_its _ _
def t_6_its : dk_Tm := (tc_6, [], [0], 0)
def y_6_column : MethodName := ⟨nn_R6, "column", "()I"⟩
def b_6_column : dk_T := [
  ([true, false, false, false], [.inl (.aload 0), .inl (.iconst 0), .inr (1, 6, 16), .inl (.aload 0), .inl (.iconst 1), .inr (2, 6, 20), .inl (.aload 0), .inl (.iconst 0), .inr (1, 6, 22), .inl (.aload 0), .inr (5, 0, 0), .inl (.aload 0), .inr (5, 1, 0), .inr (7, 1, 1)]),
  ([true, false, false, false], [.inl (.aload 0), .inr (0, 6, 20), .inl (.ifCond .eq 2), .inl (.aload 0), .inr (0, 6, 17), .inl (.iconst 3), .inl (.if_icmp .ne 2), .inl (.aload 0), .inr (0, 6, 19), .inl (.iconst 59), .inl (.if_icmp .ne 2), .inl (.aload 0), .inr (5, 0, 0), .inl (.aload 0), .inr (5, 1, 0), .inr (7, 1, 0)]),
  ([true, false, false, false], [.inl (.aload 0), .inl (.aload 0), .inr (0, 6, 20), .inl (.ifCond .eq 3), .inl (.aload 0), .inr (0, 6, 17), .inl (.ifCond .ne 3), .inl (.iconst 1), .inr (7, 4, 0)]),
  ([true, false, false, false], [.inl (.iconst 0), .inr (7, 4, 1)]),
  ([true, false, false, false], [.inr (2, 6, 20), .inl (.aload 0), .inl (.iconst 0), .inr (1, 6, 14), .inl (.aload 0), .inr (0, 6, 20), .inl (.ifCond .ne 5), .inl (.iconst (-1)), .inl (.aload 0), .inr (0, 6, 15), .inl .isub, .inl .ireturn]),
  ([true, false, false, false], [.inl (.aload 0), .inr (0, 6, 3), .inl (.istore 1), .inl (.iconst 0), .inl (.istore 2), .inr (7, 6, 1)]),
  ([true, true, true, false], [.inl (.iload 2), .inl (.aload 0), .inr (0, 6, 22), .inl (.if_icmp .ge 7), .inl (.iload 1), .inl (.aload 0), .inr (0, 6, 21), .inl (.iconst 6), .inl (.iload 2), .inl .imul, .inl (.iconst 1), .inl .iadd, .inl .iaload, .inl .iadd, .inl (.istore 1), .inl (.iinc 2 (1)), .inr (7, 6, 0)]),
  ([true, true, false, false], [.inl (.iload 1), .inl (.iconst 24), .inl (.if_icmp .le 8), .inl (.aload 0), .inl (.iconst 1), .inr (5, 2, 0), .inl .ireturn]),
  ([true, false, false, false], [.inl (.iconst 0), .inl (.istore 2), .inr (7, 9, 1)]),
  ([true, false, true, false], [.inl (.iload 2), .inl (.aload 0), .inr (0, 6, 22), .inl (.if_icmp .ge 14), .inl (.iconst 0), .inl (.istore 3), .inr (7, 10, 1)]),
  ([true, false, true, true], [.inl (.iload 3), .inl (.aload 0), .inr (0, 6, 21), .inl (.iconst 6), .inl (.iload 2), .inl .imul, .inl (.iconst 1), .inl .iadd, .inl .iaload, .inl (.if_icmp .ge 13), .inl (.aload 0), .inr (0, 6, 4), .inl (.iconst 5), .inl (.aload 0), .inr (0, 6, 3), .inl .imul, .inl (.aload 0), .inr (0, 6, 21), .inl (.iconst 6), .inl (.iload 2), .inl .imul, .inl .iaload, .inl .iastore, .inl (.aload 0), .inr (0, 6, 4), .inl (.iconst 5), .inl (.aload 0), .inr (0, 6, 3), .inl .imul, .inl (.iconst 1), .inl .iadd, .inl (.aload 0), .inr (0, 6, 3), .inl (.ifCond .ne 11), .inl (.iconst 0), .inr (7, 12, 0)]),
  ([true, false, true, true], [.inl (.aload 0), .inl (.aload 0), .inr (0, 6, 3), .inl (.iconst 1), .inl .isub, .inl (.iconst 1), .inr (5, 3, 0), .inl (.aload 0), .inr (0, 6, 21), .inl (.iconst 6), .inl (.iload 2), .inl .imul, .inl (.iconst 2), .inl .iadd, .inl .iaload, .inl .iadd, .inr (7, 12, 1)]),
  ([true, false, true, true], [.inl .iastore, .inl (.aload 0), .inr (0, 6, 4), .inl (.iconst 5), .inl (.aload 0), .inr (0, 6, 3), .inl .imul, .inl (.iconst 2), .inl .iadd, .inl (.aload 0), .inr (0, 6, 21), .inl (.iconst 6), .inl (.iload 2), .inl .imul, .inl (.iconst 3), .inl .iadd, .inl .iaload, .inl .iastore, .inl (.aload 0), .inr (0, 6, 4), .inl (.iconst 5), .inl (.aload 0), .inr (0, 6, 3), .inl .imul, .inl (.iconst 3), .inl .iadd, .inl (.aload 0), .inr (0, 6, 21), .inl (.iconst 6), .inl (.iload 2), .inl .imul, .inl (.iconst 4), .inl .iadd, .inl .iaload, .inl .iastore, .inl (.aload 0), .inr (0, 6, 4), .inl (.iconst 5), .inl (.aload 0), .inr (0, 6, 3), .inl .imul, .inl (.iconst 4), .inl .iadd, .inl (.aload 0), .inr (0, 6, 21), .inl (.iconst 6), .inl (.iload 2), .inl .imul, .inl (.iconst 5), .inl .iadd, .inl .iaload, .inl .iastore, .inl (.aload 0), .inr (0, 6, 5), .inl (.aload 0), .inr (0, 6, 3), .inl (.iconst 0), .inl .iastore, .inl (.aload 0), .inl .dup, .inr (0, 6, 3), .inl (.iconst 1), .inl .iadd, .inr (1, 6, 3), .inl (.iinc 3 (1)), .inr (7, 10, 0)]),
  ([true, false, true, false], [.inl (.iinc 2 (1)), .inr (7, 9, 0)]),
  ([true, false, false, false], [.inl (.aload 0), .inr (0, 6, 3), .inl .ireturn])]
def g_6_column : List (Nat × dk_S) := [(1, s_6_advance), (1, s_6_wantGroup), (2, s_6_finds), (3, s_6_its)]
def s_6_column : dk_S := dk_MV 6 g_6_column b_6_column 4
theorem h_6_column : dk_monoG g_6_column := dk_monoG_cons o_6_advance (dk_monoG_cons o_6_wantGroup (dk_monoG_cons o_6_finds (dk_monoG_cons o_6_its (dk_monoG_nil))))
theorem o_6_column : dk_mono s_6_column := dk_MV_mono _ h_6_column _ _
def t_6_column : dk_Tm := (tc_6, [(172, 0, 0), (191, 0, 1), (101, 0, 2), (194, 0, 3)], [0, 23, 58, 77, 78, 100, 107, 135, 147, 149, 159, 217, 240, 339, 345], 0)
def y_6_isPlace : MethodName := ⟨nn_R6, "isPlace", "(I)Z"⟩
def b_6_isPlace : dk_T := [
  ([true], [.inl (.iload 0), .inl (.iconst 0), .inl (.iconst 4999), .inr (5, 0, 1), .inl .lreturn])]
def g_6_isPlace : List (Nat × dk_S) := [(3, s_6_in)]
def s_6_isPlace : dk_S := dk_M g_6_isPlace b_6_isPlace 1
theorem h_6_isPlace : dk_monoG g_6_isPlace := dk_monoG_cons o_6_in (dk_monoG_nil)
theorem o_6_isPlace : dk_mono s_6_isPlace := dk_M_mono h_6_isPlace _ _
def t_6_isPlace : dk_Tm := (tc_6, [(88, 1, 0)], [0], 1)
def y_6_lagOf : MethodName := ⟨nn_R6, "lagOf", "(II)I"⟩
def b_6_lagOf : dk_T := [
  ([true, true, true], [.inl (.iload 2), .inl (.iload 1), .inl (.if_icmp .le 1), .inl (.iload 2), .inl (.iload 1), .inl .isub, .inl (.iconst 1000), .inl .imul, .inl (.aload 0), .inr (0, 6, 0), .inl (.iconst 1), .inl .iaload, .inl (.aload 0), .inr (0, 6, 0), .inl (.iconst 2), .inl .iaload, .inl .iadd, .inl .idiv, .inr (7, 2, 0)]),
  ([true, true, true], [.inl (.iload 1), .inl (.iload 2), .inl .isub, .inl (.iconst 1000), .inl .imul, .inl (.aload 0), .inr (0, 6, 0), .inl (.iconst 1), .inl .iaload, .inl (.aload 0), .inr (0, 6, 0), .inl (.iconst 2), .inl .iaload, .inl .isub, .inl .idiv, .inr (7, 2, 1)]),
  ([false, false, false], [.inl .ireturn])]
def g_6_lagOf : List (Nat × dk_S) := []
def s_6_lagOf : dk_S := dk_MV 6 g_6_lagOf b_6_lagOf 3
theorem h_6_lagOf : dk_monoG g_6_lagOf := dk_monoG_nil
theorem o_6_lagOf : dk_mono s_6_lagOf := dk_MV_mono _ h_6_lagOf _ _
def t_6_lagOf : dk_Tm := (tc_6, [], [0, 29, 50], 0)
def y_6_lag : MethodName := ⟨nn_R6, "lag", "(II)I"⟩
def b_6_lag : dk_T := [
  ([true, true, true], [.inl (.iload 1), .inr (5, 0, 1), .inl (.ifCond .eq 1), .inl (.iload 2), .inr (5, 0, 1), .inl (.ifCond .eq 1), .inl (.aload 0), .inl (.iload 1), .inl (.iload 2), .inr (5, 1, 0), .inr (7, 2, 0)]),
  ([true, false, false], [.inl (.aload 0), .inl (.iconst 0), .inr (5, 2, 0), .inr (7, 2, 1)]),
  ([false, false, false], [.inl .ireturn])]
def g_6_lag : List (Nat × dk_S) := [(1, s_6_isPlace), (3, s_6_lagOf), (2, s_6_finds)]
def s_6_lag : dk_S := dk_MV 6 g_6_lag b_6_lag 3
theorem h_6_lag : dk_monoG g_6_lag := dk_monoG_cons o_6_isPlace (dk_monoG_cons o_6_lagOf (dk_monoG_cons o_6_finds (dk_monoG_nil)))
theorem o_6_lag : dk_mono s_6_lag := dk_MV_mono _ h_6_lag _ _
def t_6_lag : dk_Tm := (tc_6, [(197, 1, 0), (200, 0, 1), (101, 0, 2)], [0, 23, 28], 0)
def y_6_isRank : MethodName := ⟨nn_R6, "isRank", "(I)Z"⟩
def b_6_isRank : dk_T := [
  ([true, true], [.inl (.iload 1), .inl (.iconst 0), .inl (.aload 0), .inr (0, 6, 3), .inl (.iconst 1), .inl .isub, .inr (5, 0, 1), .inl .lreturn])]
def g_6_isRank : List (Nat × dk_S) := [(3, s_6_in)]
def s_6_isRank : dk_S := dk_MV 6 g_6_isRank b_6_isRank 2
theorem h_6_isRank : dk_monoG g_6_isRank := dk_monoG_cons o_6_in (dk_monoG_nil)
theorem o_6_isRank : dk_mono s_6_isRank := dk_MV_mono _ h_6_isRank _ _
def t_6_isRank : dk_Tm := (tc_6, [(88, 1, 0)], [0], 1)
def y_6_beginMarch : MethodName := ⟨nn_R6, "beginMarch", "()V"⟩
def b_6_beginMarch : dk_T := [
  ([true, false], [.inl (.iconst 0), .inl (.istore 1), .inr (7, 1, 1)]),
  ([true, true], [.inl (.iload 1), .inl (.aload 0), .inr (0, 6, 3), .inl (.if_icmp .ge 2), .inl (.aload 0), .inr (0, 6, 23), .inl (.iload 1), .inl (.aload 0), .inr (0, 6, 5), .inl (.iload 1), .inl .iaload, .inl .iastore, .inl (.iinc 1 (1)), .inr (7, 1, 0)]),
  ([false, false], [.inl .return_])]
def g_6_beginMarch : List (Nat × dk_S) := []
def s_6_beginMarch : dk_S := dk_MV 6 g_6_beginMarch b_6_beginMarch 2
theorem h_6_beginMarch : dk_monoG g_6_beginMarch := dk_monoG_nil
theorem o_6_beginMarch : dk_mono s_6_beginMarch := dk_MV_mono _ h_6_beginMarch _ _
def t_6_beginMarch : dk_Tm := (tc_6, [], [0, 2, 28], 2)
def y_6_size : MethodName := ⟨nn_R6, "size", "(I)I"⟩
def b_6_size : dk_T := [
  ([true], [.inl (.iload 0), .inl (.ifCond .ge 1), .inl (.iload 0), .inl .ineg, .inr (7, 2, 0)]),
  ([true], [.inl (.iload 0), .inr (7, 2, 1)]),
  ([false], [.inl .ireturn])]
def g_6_size : List (Nat × dk_S) := []
def s_6_size : dk_S := dk_M g_6_size b_6_size 1
theorem h_6_size : dk_monoG g_6_size := dk_monoG_nil
theorem o_6_size : dk_mono s_6_size := dk_M_mono h_6_size _ _
def t_6_size : dk_Tm := (tc_6, [], [0, 9, 10], 0)
def y_6_drumFor : MethodName := ⟨nn_R6, "drumFor", "(I)I"⟩
def b_6_drumFor : dk_T := [
  ([true, true, false, false, false, false], [.inl (.iconst (-1)), .inl (.istore 2), .inl (.iconst 0), .inl (.istore 3), .inl (.iconst 0), .inl (.istore 4), .inr (7, 1, 1)]),
  ([true, true, true, true, true, false], [.inl (.iload 4), .inl (.aload 0), .inr (0, 6, 6), .inl (.if_icmp .ge 3), .inl (.aload 0), .inr (0, 6, 7), .inl (.iconst 3), .inl (.iload 4), .inl .imul, .inl (.iconst 1), .inl .iadd, .inl .iaload, .inl (.aload 0), .inr (0, 6, 7), .inl (.iconst 3), .inl (.iload 4), .inl .imul, .inl .iaload, .inl (.aload 0), .inl (.iload 1), .inl (.iconst 1), .inr (5, 0, 0), .inl .isub, .inr (5, 1, 1), .inl (.iconst 50), .inl .idiv, .inl .isub, .inl (.istore 5), .inl (.iload 5), .inl (.iload 3), .inl (.if_icmp .le 2), .inl (.iload 5), .inl (.istore 3), .inl (.iload 4), .inl (.istore 2), .inr (7, 2, 1)]),
  ([true, true, true, true, true, false], [.inl (.iinc 4 (1)), .inr (7, 1, 0)]),
  ([false, false, true, false, false, false], [.inl (.iload 2), .inl .ireturn])]
def g_6_drumFor : List (Nat × dk_S) := [(3, s_6_its), (1, s_6_size)]
def s_6_drumFor : dk_S := dk_MV 6 g_6_drumFor b_6_drumFor 6
theorem h_6_drumFor : dk_monoG g_6_drumFor := dk_monoG_cons o_6_its (dk_monoG_cons o_6_size (dk_monoG_nil))
theorem o_6_drumFor : dk_mono s_6_drumFor := dk_MV_mono _ h_6_drumFor _ _
def t_6_drumFor : dk_Tm := (tc_6, [(194, 0, 0), (203, 1, 1)], [0, 7, 64, 70], 0)
def y_6_byEar : MethodName := ⟨nn_R6, "byEar", "(I)I"⟩
def b_6_byEar : dk_T := [
  ([true, true, false], [.inl (.aload 0), .inl (.iload 1), .inr (5, 0, 0), .inl (.istore 2), .inl (.iload 2), .inl (.ifCond .ge 1), .inl (.iconst 0), .inr (7, 2, 0)]),
  ([true, true, true], [.inl (.aload 0), .inl (.aload 0), .inl (.aload 0), .inr (0, 6, 7), .inl (.iconst 3), .inl (.iload 2), .inl .imul, .inl .iaload, .inl (.aload 0), .inl (.iload 1), .inl (.iconst 1), .inr (5, 1, 0), .inr (5, 2, 0), .inl .i2l, .inl (.aload 0), .inr (0, 6, 7), .inl (.iconst 3), .inl (.iload 2), .inl .imul, .inl (.iconst 2), .inl .iadd, .inl .iaload, .inl .i2l, .inl .lsub, .inl (.aload 0), .inr (0, 6, 23), .inl (.iload 1), .inl .iaload, .inl .i2l, .inl .lsub, .inr (5, 3, 0), .inl (.aload 0), .inl (.iload 1), .inl (.iconst 2), .inr (5, 1, 0), .inl .imul, .inl (.iconst 100), .inl .idiv, .inr (7, 2, 1)]),
  ([false, false, false], [.inl .ireturn])]
def g_6_byEar : List (Nat × dk_S) := [(2, s_6_drumFor), (3, s_6_its), (3, s_6_lagOf), (2, s_6_wrapped)]
def s_6_byEar : dk_S := dk_MV 6 g_6_byEar b_6_byEar 3
theorem h_6_byEar : dk_monoG g_6_byEar := dk_monoG_cons o_6_drumFor (dk_monoG_cons o_6_its (dk_monoG_cons o_6_lagOf (dk_monoG_cons o_6_wrapped (dk_monoG_nil))))
theorem o_6_byEar : dk_mono s_6_byEar := dk_MV_mono _ h_6_byEar _ _
def t_6_byEar : dk_Tm := (tc_6, [(209, 0, 0), (194, 0, 1), (200, 0, 2), (105, 0, 3)], [0, 14, 67], 0)
def y_6_isBent : MethodName := ⟨nn_R6, "isBent", "(I)Z"⟩
def b_6_isBent : dk_T := [
  ([true, true, false], [.inl (.iconst 0), .inl (.istore 2), .inr (7, 1, 1)]),
  ([true, true, true], [.inl (.iload 2), .inl (.aload 0), .inr (0, 6, 8), .inl (.if_icmp .ge 5), .inl (.iload 1), .inl (.ifCond .le 4), .inl (.aload 0), .inr (0, 6, 9), .inl (.iload 2), .inl .iaload, .inl (.aload 0), .inl (.iload 1), .inl (.ifCond .le 2), .inl (.iload 1), .inl (.iconst 1), .inl .isub, .inr (7, 3, 0)]),
  ([true, true, true], [.inl (.iconst 0), .inr (7, 3, 1)]),
  ([true, true, true], [.inl (.iconst 1), .inr (5, 0, 0), .inl (.if_icmp .lt 4), .inl (.aload 0), .inr (0, 6, 9), .inl (.iload 2), .inl .iaload, .inl (.aload 0), .inl (.iload 1), .inl (.iconst 1), .inr (5, 0, 0), .inl (.if_icmp .ge 4), .inl (.iconst 1), .inl .lreturn]),
  ([true, true, true], [.inl (.iinc 2 (1)), .inr (7, 1, 0)]),
  ([false, false, false], [.inl (.iconst 0), .inl .lreturn])]
def g_6_isBent : List (Nat × dk_S) := [(3, s_6_its)]
def s_6_isBent : dk_S := dk_MV 6 g_6_isBent b_6_isBent 3
theorem h_6_isBent : dk_monoG g_6_isBent := dk_monoG_cons o_6_its (dk_monoG_nil)
theorem o_6_isBent : dk_mono s_6_isBent := dk_MV_mono _ h_6_isBent _ _
def t_6_isBent : dk_Tm := (tc_6, [(194, 0, 0)], [0, 2, 31, 32, 56, 62], 1)
def y_6_byEye : MethodName := ⟨nn_R6, "byEye", "(I)I"⟩
def b_6_byEye : dk_T := [
  ([true, true], [.inl (.iload 1), .inl (.ifCond .eq 1), .inl (.aload 0), .inl (.iload 1), .inr (5, 0, 0), .inl (.ifCond .eq 2), .inr (7, 1, 1)]),
  ([false, false], [.inl (.iconst 0), .inr (7, 3, 0)]),
  ([true, true], [.inl (.aload 0), .inl (.aload 0), .inr (0, 6, 23), .inl (.iload 1), .inl (.iconst 1), .inl .isub, .inl .iaload, .inl .i2l, .inl (.aload 0), .inr (0, 6, 23), .inl (.iload 1), .inl .iaload, .inl .i2l, .inl .lsub, .inr (5, 1, 0), .inl (.aload 0), .inl (.iload 1), .inl (.iconst 2), .inr (5, 2, 0), .inl .imul, .inl (.iconst 100), .inl .idiv, .inr (7, 3, 1)]),
  ([false, false], [.inl .ireturn])]
def g_6_byEye : List (Nat × dk_S) := [(2, s_6_isBent), (2, s_6_wrapped), (3, s_6_its)]
def s_6_byEye : dk_S := dk_MV 6 g_6_byEye b_6_byEye 2
theorem h_6_byEye : dk_monoG g_6_byEye := dk_monoG_cons o_6_isBent (dk_monoG_cons o_6_wrapped (dk_monoG_cons o_6_its (dk_monoG_nil)))
theorem o_6_byEye : dk_mono s_6_byEye := dk_MV_mono _ h_6_byEye _ _
def t_6_byEye : dk_Tm := (tc_6, [(212, 0, 0), (105, 0, 1), (194, 0, 2)], [0, 12, 16, 47], 0)
def y_6_byFeet : MethodName := ⟨nn_R6, "byFeet", "(I)I"⟩
def b_6_byFeet : dk_T := [
  ([true, true, false, false, false], [.inl (.iconst 0), .inl (.istore 2), .inl (.iconst 0), .inl (.istore 3), .inl (.iconst 0), .inl (.istore 4), .inr (7, 1, 1)]),
  ([true, true, true, true, true], [.inl (.iload 4), .inl (.aload 0), .inr (0, 6, 3), .inl (.if_icmp .ge 3), .inl (.iload 4), .inl (.iload 1), .inl (.if_icmp .eq 2), .inl (.aload 0), .inl (.iload 4), .inl (.iconst 1), .inr (5, 0, 0), .inl (.aload 0), .inl (.iload 1), .inl (.iconst 1), .inr (5, 0, 0), .inl .isub, .inr (5, 1, 1), .inl (.aload 0), .inr (0, 6, 0), .inl (.iconst 3), .inl .iaload, .inl (.if_icmp .gt 2), .inl (.iload 2), .inl (.aload 0), .inl (.aload 0), .inr (0, 6, 23), .inl (.iload 4), .inl .iaload, .inl .i2l, .inl (.aload 0), .inl (.aload 0), .inl (.iload 4), .inl (.iconst 1), .inr (5, 0, 0), .inl (.aload 0), .inl (.iload 1), .inl (.iconst 1), .inr (5, 0, 0), .inr (5, 2, 0), .inl .i2l, .inl .ladd, .inl (.aload 0), .inr (0, 6, 23), .inl (.iload 1), .inl .iaload, .inl .i2l, .inl .lsub, .inr (5, 3, 0), .inl .iadd, .inl (.istore 2), .inl (.iinc 3 (1)), .inr (7, 2, 1)]),
  ([true, true, true, true, true], [.inl (.iinc 4 (1)), .inr (7, 1, 0)]),
  ([true, true, true, true, false], [.inl (.iload 3), .inl (.ifCond .ne 4), .inl (.aload 0), .inl (.iload 1), .inr (5, 4, 0), .inr (7, 5, 0)]),
  ([true, true, true, true, false], [.inl (.iload 2), .inl (.iload 3), .inl .idiv, .inl (.aload 0), .inl (.iload 1), .inl (.iconst 2), .inr (5, 0, 0), .inl .imul, .inl (.iconst 100), .inl .idiv, .inr (7, 5, 1)]),
  ([false, false, false, false, false], [.inl .ireturn])]
def g_6_byFeet : List (Nat × dk_S) := [(3, s_6_its), (1, s_6_size), (3, s_6_lagOf), (2, s_6_wrapped), (2, s_6_byEar)]
def s_6_byFeet : dk_S := dk_MV 6 g_6_byFeet b_6_byFeet 5
theorem h_6_byFeet : dk_monoG g_6_byFeet := dk_monoG_cons o_6_its (dk_monoG_cons o_6_size (dk_monoG_cons o_6_lagOf (dk_monoG_cons o_6_wrapped (dk_monoG_cons o_6_byEar (dk_monoG_nil)))))
theorem o_6_byFeet : dk_mono s_6_byFeet := dk_MV_mono _ h_6_byFeet _ _
def t_6_byFeet : dk_Tm := (tc_6, [(194, 0, 0), (203, 1, 1), (200, 0, 2), (105, 0, 3), (215, 0, 4)], [0, 7, 93, 99, 111, 124], 0)
def y_6_turn : MethodName := ⟨nn_R6, "turn", "(I)I"⟩
def b_6_turn : dk_T := [
  ([true, true], [.inl (.aload 0), .inl (.iload 1), .inl (.iconst 0), .inr (5, 0, 0), .inl (.tableswitch 7 1 6 #[1, 2, 3, 4, 5, 6])]),
  ([true, true], [.inl (.aload 0), .inl (.iload 1), .inr (5, 1, 0), .inl .ireturn]),
  ([true, true], [.inl (.aload 0), .inl (.iload 1), .inr (5, 2, 0), .inl .ireturn]),
  ([true, true], [.inl (.aload 0), .inl (.iload 1), .inr (5, 2, 0), .inl (.aload 0), .inl (.iload 1), .inl (.iconst 3), .inr (5, 0, 0), .inl .imul, .inl (.aload 0), .inl (.iload 1), .inr (5, 1, 0), .inl (.iconst 100), .inl (.aload 0), .inl (.iload 1), .inl (.iconst 3), .inr (5, 0, 0), .inl .isub, .inl .imul, .inl .iadd, .inl (.iconst 100), .inl .idiv, .inl .ireturn]),
  ([true, true], [.inl (.aload 0), .inl (.iload 1), .inr (5, 3, 0), .inl .ireturn]),
  ([true, true], [.inl (.aload 0), .inl (.aload 0), .inr (0, 6, 0), .inl (.iconst 4), .inl .iaload, .inl .i2l, .inl (.aload 0), .inr (0, 6, 23), .inl (.iload 1), .inl .iaload, .inl .i2l, .inl .lsub, .inr (5, 4, 0), .inl .ireturn]),
  ([true, true], [.inl (.aload 0), .inl (.iload 1), .inl (.iconst 4), .inr (5, 0, 0), .inl .ireturn]),
  ([false, false], [.inl (.iconst 0), .inl .ireturn])]
def g_6_turn : List (Nat × dk_S) := [(3, s_6_its), (2, s_6_byEar), (2, s_6_byEye), (2, s_6_byFeet), (2, s_6_wrapped)]
def s_6_turn : dk_S := dk_MV 6 g_6_turn b_6_turn 2
theorem h_6_turn : dk_monoG g_6_turn := dk_monoG_cons o_6_its (dk_monoG_cons o_6_byEar (dk_monoG_cons o_6_byEye (dk_monoG_cons o_6_byFeet (dk_monoG_cons o_6_wrapped (dk_monoG_nil)))))
theorem o_6_turn : dk_mono s_6_turn := dk_MV_mono _ h_6_turn _ _
def t_6_turn : dk_Tm := (tc_6, [(194, 0, 0), (215, 0, 1), (218, 0, 2), (221, 0, 3), (105, 0, 4)], [0, 44, 50, 56, 88, 94, 114, 121], 0)
def y_6_rankOf : MethodName := ⟨nn_R6, "rankOf", "(II)I"⟩
def b_6_rankOf : dk_T := [
  ([true, true, true], [.inl (.aload 0), .inl (.iload 1), .inr (5, 0, 0), .inl (.ifCond .eq 1), .inl (.iload 2), .inl (.iconst 0), .inl (.iconst 7), .inr (5, 1, 1), .inl (.ifCond .ne 2), .inr (7, 1, 1)]),
  ([true, false, false], [.inl (.aload 0), .inl (.iconst 0), .inr (5, 2, 0), .inl .ireturn]),
  ([true, true, true], [.inl (.iload 2), .inl (.iconst 5), .inl (.if_icmp .ge 3), .inl (.aload 0), .inl (.iload 1), .inl (.iload 2), .inr (5, 3, 0), .inl .ireturn]),
  ([true, true, true], [.inl (.aload 0), .inr (5, 4, 0), .inl (.iload 2), .inl (.iconst 5), .inl (.if_icmp .ne 4), .inl (.aload 0), .inr (0, 6, 5), .inl (.iload 1), .inl .iaload, .inr (7, 6, 0)]),
  ([true, true, true], [.inl (.iload 2), .inl (.iconst 6), .inl (.if_icmp .ne 5), .inl (.aload 0), .inl (.iload 1), .inr (5, 5, 0), .inr (7, 6, 0)]),
  ([true, true, false], [.inl (.aload 0), .inl (.iload 1), .inr (5, 6, 0), .inr (7, 6, 1)]),
  ([false, false, false], [.inl .ireturn])]
def g_6_rankOf : List (Nat × dk_S) := [(2, s_6_isRank), (3, s_6_in), (2, s_6_finds), (3, s_6_its), (1, s_6_beginMarch), (2, s_6_drumFor), (2, s_6_turn)]
def s_6_rankOf : dk_S := dk_MV 6 g_6_rankOf b_6_rankOf 3
theorem h_6_rankOf : dk_monoG g_6_rankOf := dk_monoG_cons o_6_isRank (dk_monoG_cons o_6_in (dk_monoG_cons o_6_finds (dk_monoG_cons o_6_its (dk_monoG_cons o_6_beginMarch (dk_monoG_cons o_6_drumFor (dk_monoG_cons o_6_turn (dk_monoG_nil)))))))
theorem o_6_rankOf : dk_mono s_6_rankOf := dk_MV_mono _ h_6_rankOf _ _
def t_6_rankOf : dk_Tm := (tc_6, [(240, 0, 0), (88, 1, 1), (101, 0, 2), (194, 0, 3), (230, 0, 4), (209, 0, 5), (224, 0, 6)], [0, 18, 24, 36, 54, 68, 73], 0)
def y_6_change : MethodName := ⟨nn_R6, "change", "(III)I"⟩
def b_6_change : dk_T := [
  ([true, true, true, true, false, false], [.inl (.iload 2), .inl (.iconst 2), .inl (.if_icmp .eq 1), .inl (.iload 2), .inl (.iconst 3), .inl (.if_icmp .ne 2), .inr (7, 1, 1)]),
  ([true, true, true, true, false, false], [.inl (.iload 3), .inl (.iconst 0), .inl (.iconst 100), .inr (5, 0, 1), .inr (7, 5, 0)]),
  ([true, true, true, true, false, false], [.inl (.iload 2), .inl (.iconst 4), .inl (.if_icmp .ne 3), .inl (.iload 3), .inl (.iconst (-99)), .inl (.iconst 99), .inr (5, 0, 1), .inr (7, 5, 0)]),
  ([true, true, true, true, false, false], [.inl (.iload 2), .inl (.iconst 5), .inl (.if_icmp .ne 4), .inl (.iconst 1), .inr (7, 5, 0)]),
  ([true, true, true, true, false, false], [.inl (.iconst 0), .inr (7, 5, 1)]),
  ([true, true, true, true, false, false], [.inl (.istore 4), .inl (.aload 0), .inl (.iload 1), .inr (5, 1, 0), .inl (.ifCond .eq 6), .inl (.iload 4), .inl (.ifCond .ne 7), .inr (7, 6, 1)]),
  ([true, false, false, false, false, false], [.inl (.aload 0), .inl (.iconst 0), .inr (5, 2, 0), .inl .ireturn]),
  ([true, true, true, true, false, false], [.inl (.iload 2), .inl (.iconst 5), .inl (.if_icmp .ne 8), .inl (.aload 0), .inr (0, 6, 5), .inl (.iload 1), .inl .iaload, .inr (7, 9, 0)]),
  ([true, true, true, true, false, false], [.inl (.aload 0), .inl (.iload 1), .inl (.iload 2), .inr (5, 3, 0), .inr (7, 9, 1)]),
  ([true, true, true, true, false, false], [.inl (.istore 5), .inl (.iload 2), .inl (.iconst 5), .inl (.if_icmp .ne 10), .inl (.aload 0), .inr (0, 6, 5), .inl (.iload 1), .inl (.aload 0), .inl (.iload 3), .inl .i2l, .inr (5, 4, 0), .inl .iastore, .inr (7, 11, 0)]),
  ([true, true, true, true, false, true], [.inl (.aload 0), .inr (0, 6, 4), .inl (.iconst 5), .inl (.iload 1), .inl .imul, .inl (.iload 2), .inl .iadd, .inl (.iload 3), .inl .iastore, .inr (7, 11, 1)]),
  ([false, false, false, false, false, true], [.inl (.iload 5), .inl .ireturn])]
def g_6_change : List (Nat × dk_S) := [(3, s_6_in), (2, s_6_isRank), (2, s_6_finds), (3, s_6_its), (2, s_6_wrapped)]
def s_6_change : dk_S := dk_MV 6 g_6_change b_6_change 6
theorem h_6_change : dk_monoG g_6_change := dk_monoG_cons o_6_in (dk_monoG_cons o_6_isRank (dk_monoG_cons o_6_finds (dk_monoG_cons o_6_its (dk_monoG_cons o_6_wrapped (dk_monoG_nil)))))
theorem o_6_change : dk_mono s_6_change := dk_MV_mono _ h_6_change _ _
def t_6_change : dk_Tm := (tc_6, [(88, 1, 0), (240, 0, 1), (101, 0, 2), (194, 0, 3), (105, 0, 4)], [0, 10, 20, 36, 45, 46, 61, 67, 81, 87, 109, 120], 0)
def y_6_drum : MethodName := ⟨nn_R6, "drum", "(III)I"⟩
def b_6_drum : dk_T := [
  ([true, true, true, true], [.inl (.iload 1), .inr (5, 0, 1), .inl (.ifCond .eq 1), .inl (.iload 2), .inl (.iconst 1), .inl (.iconst 99), .inr (5, 1, 1), .inl (.ifCond .eq 1), .inl (.iload 3), .inl (.iconst (-999)), .inl (.iconst 999), .inr (5, 1, 1), .inl (.ifCond .ne 2), .inr (7, 1, 1)]),
  ([true, false, false, false], [.inl (.aload 0), .inl (.iconst 0), .inr (5, 2, 0), .inl .ireturn]),
  ([true, true, true, true], [.inl (.aload 0), .inr (0, 6, 6), .inl (.iconst 6), .inl (.if_icmp .ne 3), .inl (.aload 0), .inl (.iconst 1), .inr (5, 2, 0), .inl .ireturn]),
  ([true, true, true, true], [.inl (.aload 0), .inr (0, 6, 7), .inl (.iconst 3), .inl (.aload 0), .inr (0, 6, 6), .inl .imul, .inl (.iload 1), .inl .iastore, .inl (.aload 0), .inr (0, 6, 7), .inl (.iconst 3), .inl (.aload 0), .inr (0, 6, 6), .inl .imul, .inl (.iconst 1), .inl .iadd, .inl (.iload 2), .inl .iastore, .inl (.aload 0), .inr (0, 6, 7), .inl (.iconst 3), .inl (.aload 0), .inr (0, 6, 6), .inl .imul, .inl (.iconst 2), .inl .iadd, .inl (.iload 3), .inl .iastore, .inl (.aload 0), .inl .dup, .inr (0, 6, 6), .inl (.iconst 1), .inl .iadd, .inr (1, 6, 6), .inl (.aload 0), .inr (0, 6, 6), .inl (.iconst 1), .inl .isub, .inl .ireturn])]
def g_6_drum : List (Nat × dk_S) := [(1, s_6_isPlace), (3, s_6_in), (2, s_6_finds)]
def s_6_drum : dk_S := dk_MV 6 g_6_drum b_6_drum 4
theorem h_6_drum : dk_monoG g_6_drum := dk_monoG_cons o_6_isPlace (dk_monoG_cons o_6_in (dk_monoG_cons o_6_finds (dk_monoG_nil)))
theorem o_6_drum : dk_mono s_6_drum := dk_MV_mono _ h_6_drum _ _
def t_6_drum : dk_Tm := (tc_6, [(197, 1, 0), (88, 1, 1), (101, 0, 2)], [0, 30, 36, 51], 0)
def y_6_isDrum : MethodName := ⟨nn_R6, "isDrum", "(I)Z"⟩
def b_6_isDrum : dk_T := [
  ([true, true], [.inl (.iload 1), .inl (.iconst 0), .inl (.aload 0), .inr (0, 6, 6), .inl (.iconst 1), .inl .isub, .inr (5, 0, 1), .inl .lreturn])]
def g_6_isDrum : List (Nat × dk_S) := [(3, s_6_in)]
def s_6_isDrum : dk_S := dk_MV 6 g_6_isDrum b_6_isDrum 2
theorem h_6_isDrum : dk_monoG g_6_isDrum := dk_monoG_cons o_6_in (dk_monoG_nil)
theorem o_6_isDrum : dk_mono s_6_isDrum := dk_MV_mono _ h_6_isDrum _ _
def t_6_isDrum : dk_Tm := (tc_6, [(88, 1, 0)], [0], 1)
def y_6_drumOf : MethodName := ⟨nn_R6, "drumOf", "(II)I"⟩
def b_6_drumOf : dk_T := [
  ([true, true, true], [.inl (.aload 0), .inl (.iload 1), .inr (5, 0, 0), .inl (.ifCond .eq 1), .inl (.iload 2), .inl (.iconst 0), .inl (.iconst 2), .inr (5, 1, 1), .inl (.ifCond .eq 1), .inl (.aload 0), .inr (0, 6, 7), .inl (.iconst 3), .inl (.iload 1), .inl .imul, .inl (.iload 2), .inl .iadd, .inl .iaload, .inr (7, 2, 0)]),
  ([true, false, false], [.inl (.aload 0), .inl (.iconst 0), .inr (5, 2, 0), .inr (7, 2, 1)]),
  ([false, false, false], [.inl .ireturn])]
def g_6_drumOf : List (Nat × dk_S) := [(2, s_6_isDrum), (3, s_6_in), (2, s_6_finds)]
def s_6_drumOf : dk_S := dk_MV 6 g_6_drumOf b_6_drumOf 3
theorem h_6_drumOf : dk_monoG g_6_drumOf := dk_monoG_cons o_6_isDrum (dk_monoG_cons o_6_in (dk_monoG_cons o_6_finds (dk_monoG_nil)))
theorem o_6_drumOf : dk_mono s_6_drumOf := dk_MV_mono _ h_6_drumOf _ _
def t_6_drumOf : dk_Tm := (tc_6, [(243, 0, 0), (88, 1, 1), (101, 0, 2)], [0, 30, 35], 0)
def y_6_carry : MethodName := ⟨nn_R6, "carry", "(II)I"⟩
def b_6_carry : dk_T := [
  ([true, true, true, false], [.inl (.aload 0), .inl (.iload 1), .inr (5, 0, 0), .inl (.ifCond .eq 1), .inl (.iload 2), .inr (5, 1, 1), .inl (.ifCond .ne 2), .inr (7, 1, 1)]),
  ([true, false, false, false], [.inl (.aload 0), .inl (.iconst 0), .inr (5, 2, 0), .inl .ireturn]),
  ([true, true, true, false], [.inl (.aload 0), .inr (0, 6, 7), .inl (.iconst 3), .inl (.iload 1), .inl .imul, .inl .iaload, .inl (.istore 3), .inl (.aload 0), .inr (0, 6, 7), .inl (.iconst 3), .inl (.iload 1), .inl .imul, .inl (.iload 2), .inl .iastore, .inl (.iload 3), .inl .ireturn])]
def g_6_carry : List (Nat × dk_S) := [(2, s_6_isDrum), (1, s_6_isPlace), (2, s_6_finds)]
def s_6_carry : dk_S := dk_MV 6 g_6_carry b_6_carry 4
theorem h_6_carry : dk_monoG g_6_carry := dk_monoG_cons o_6_isDrum (dk_monoG_cons o_6_isPlace (dk_monoG_cons o_6_finds (dk_monoG_nil)))
theorem o_6_carry : dk_mono s_6_carry := dk_MV_mono _ h_6_carry _ _
def t_6_carry : dk_Tm := (tc_6, [(243, 0, 0), (197, 1, 1), (101, 0, 2)], [0, 15, 21], 0)
def y_6_bend : MethodName := ⟨nn_R6, "bend", "(I)I"⟩
def b_6_bend : dk_T := [
  ([true, true], [.inl (.iload 1), .inr (5, 0, 1), .inl (.ifCond .ne 1), .inl (.aload 0), .inl (.iconst 0), .inr (5, 1, 0), .inl .ireturn]),
  ([true, true], [.inl (.aload 0), .inr (0, 6, 8), .inl (.iconst 6), .inl (.if_icmp .ne 2), .inl (.aload 0), .inl (.iconst 1), .inr (5, 1, 0), .inl .ireturn]),
  ([true, true], [.inl (.aload 0), .inr (0, 6, 9), .inl (.aload 0), .inr (0, 6, 8), .inl (.iload 1), .inl .iastore, .inl (.aload 0), .inl .dup, .inr (0, 6, 8), .inl (.iconst 1), .inl .iadd, .inr (1, 6, 8), .inl (.aload 0), .inr (0, 6, 8), .inl .ireturn])]
def g_6_bend : List (Nat × dk_S) := [(1, s_6_isPlace), (2, s_6_finds)]
def s_6_bend : dk_S := dk_MV 6 g_6_bend b_6_bend 2
theorem h_6_bend : dk_monoG g_6_bend := dk_monoG_cons o_6_isPlace (dk_monoG_cons o_6_finds (dk_monoG_nil))
theorem o_6_bend : dk_mono s_6_bend := dk_MV_mono _ h_6_bend _ _
def t_6_bend : dk_Tm := (tc_6, [(197, 1, 0), (101, 0, 1)], [0, 13, 28], 0)
def y_6_goes : MethodName := ⟨nn_R6, "goes", "()V"⟩
def b_6_goes : dk_T := [
  ([true, false], [.inl (.iconst 0), .inl (.istore 1), .inr (7, 1, 1)]),
  ([true, true], [.inl (.iload 1), .inl (.aload 0), .inr (0, 6, 3), .inl (.if_icmp .ge 2), .inl (.aload 0), .inr (0, 6, 24), .inl (.iload 1), .inl (.aload 0), .inl (.aload 0), .inr (0, 6, 23), .inl (.iload 1), .inl .iaload, .inl .i2l, .inl (.aload 0), .inl (.iload 1), .inr (5, 0, 0), .inl .i2l, .inl .ladd, .inr (5, 1, 0), .inl .iastore, .inl (.iinc 1 (1)), .inr (7, 1, 0)]),
  ([true, false], [.inl (.iconst 0), .inl (.istore 1), .inr (7, 3, 1)]),
  ([true, true], [.inl (.iload 1), .inl (.aload 0), .inr (0, 6, 3), .inl (.if_icmp .ge 4), .inl (.aload 0), .inr (0, 6, 23), .inl (.iload 1), .inl (.aload 0), .inr (0, 6, 24), .inl (.iload 1), .inl .iaload, .inl .iastore, .inl (.iinc 1 (1)), .inr (7, 3, 0)]),
  ([false, false], [.inl .return_])]
def g_6_goes : List (Nat × dk_S) := [(2, s_6_turn), (2, s_6_wrapped)]
def s_6_goes : dk_S := dk_MV 6 g_6_goes b_6_goes 2
theorem h_6_goes : dk_monoG g_6_goes := dk_monoG_cons o_6_turn (dk_monoG_cons o_6_wrapped (dk_monoG_nil))
theorem o_6_goes : dk_mono s_6_goes := dk_MV_mono _ h_6_goes _ _
def t_6_goes : dk_Tm := (tc_6, [(224, 0, 0), (105, 0, 1)], [0, 2, 40, 42, 68], 2)
def y_6_goesOn : MethodName := ⟨nn_R6, "goesOn", "(I)V"⟩
def b_6_goesOn : dk_T := [
  ([true, true, false], [.inl (.iconst 0), .inl (.istore 2), .inr (7, 1, 1)]),
  ([true, true, true], [.inl (.iload 2), .inl (.iload 1), .inl (.if_icmp .ge 2), .inl (.aload 0), .inr (5, 0, 0), .inl (.iinc 2 (1)), .inr (7, 1, 0)]),
  ([false, false, false], [.inl .return_])]
def g_6_goesOn : List (Nat × dk_S) := [(1, s_6_goes)]
def s_6_goesOn : dk_S := dk_MV 6 g_6_goesOn b_6_goesOn 3
theorem h_6_goesOn : dk_monoG g_6_goesOn := dk_monoG_cons o_6_goes (dk_monoG_nil)
theorem o_6_goesOn : dk_mono s_6_goesOn := dk_MV_mono _ h_6_goesOn _ _
def t_6_goesOn : dk_Tm := (tc_6, [(227, 0, 0)], [0, 2, 17], 2)
def y_6_worstNow : MethodName := ⟨nn_R6, "worstNow", "()I"⟩
def b_6_worstNow : dk_T := [
  ([true, false, false], [.inl (.iconst 0), .inl (.istore 1), .inl (.iconst 0), .inl (.istore 2), .inr (7, 1, 1)]),
  ([true, true, true], [.inl (.iload 2), .inl (.aload 0), .inr (0, 6, 3), .inl (.if_icmp .ge 4), .inl (.aload 0), .inr (0, 6, 23), .inl (.iload 2), .inl .iaload, .inr (5, 0, 1), .inl (.iload 1), .inl (.if_icmp .le 2), .inl (.aload 0), .inr (0, 6, 23), .inl (.iload 2), .inl .iaload, .inr (5, 0, 1), .inr (7, 3, 0)]),
  ([true, true, true], [.inl (.iload 1), .inr (7, 3, 1)]),
  ([true, false, true], [.inl (.istore 1), .inl (.iinc 2 (1)), .inr (7, 1, 0)]),
  ([false, true, false], [.inl (.iload 1), .inl .ireturn])]
def g_6_worstNow : List (Nat × dk_S) := [(1, s_6_size)]
def s_6_worstNow : dk_S := dk_MV 6 g_6_worstNow b_6_worstNow 3
theorem h_6_worstNow : dk_monoG g_6_worstNow := dk_monoG_cons o_6_size (dk_monoG_nil)
theorem o_6_worstNow : dk_mono s_6_worstNow := dk_MV_mono _ h_6_worstNow _ _
def t_6_worstNow : dk_Tm := (tc_6, [(203, 1, 0)], [0, 4, 37, 38, 45], 0)
def y_6_worstBehind : MethodName := ⟨nn_R6, "worstBehind", "(I)I"⟩
def b_6_worstBehind : dk_T := [
  ([true, true], [.inl (.aload 0), .inr (5, 0, 0), .inl (.aload 0), .inl (.iload 1), .inr (5, 1, 0), .inl (.aload 0), .inr (5, 2, 0), .inl .ireturn])]
def g_6_worstBehind : List (Nat × dk_S) := [(1, s_6_beginMarch), (2, s_6_goesOn), (1, s_6_worstNow)]
def s_6_worstBehind : dk_S := dk_MV 6 g_6_worstBehind b_6_worstBehind 2
theorem h_6_worstBehind : dk_monoG g_6_worstBehind := dk_monoG_cons o_6_beginMarch (dk_monoG_cons o_6_goesOn (dk_monoG_cons o_6_worstNow (dk_monoG_nil)))
theorem o_6_worstBehind : dk_mono s_6_worstBehind := dk_MV_mono _ h_6_worstBehind _ _
def t_6_worstBehind : dk_Tm := (tc_6, [(230, 0, 0), (233, 0, 1), (237, 0, 2)], [0], 0)
def y_6_tread : MethodName := ⟨nn_R6, "tread", "(I)I"⟩
def b_6_tread : dk_T := [
  ([true, true, false, false], [.inl (.iload 1), .inl (.iconst 1), .inl (.iconst 99), .inr (5, 0, 1), .inl (.ifCond .ne 1), .inl (.aload 0), .inl (.iconst 0), .inr (5, 1, 0), .inl .ireturn]),
  ([true, true, false, false], [.inl (.aload 0), .inr (0, 6, 3), .inl (.ifCond .ne 2), .inl (.aload 0), .inl (.iconst 3), .inr (5, 1, 0), .inl .ireturn]),
  ([true, true, false, false], [.inl (.aload 0), .inl (.iload 1), .inr (5, 2, 0), .inl (.istore 2), .inl (.iconst 0), .inl (.istore 3), .inr (7, 3, 1)]),
  ([true, false, true, true], [.inl (.iload 3), .inl (.aload 0), .inr (0, 6, 3), .inl (.if_icmp .ge 4), .inl (.aload 0), .inr (0, 6, 5), .inl (.iload 3), .inl (.aload 0), .inr (0, 6, 23), .inl (.iload 3), .inl .iaload, .inl .iastore, .inl (.iinc 3 (1)), .inr (7, 3, 0)]),
  ([false, false, true, false], [.inl (.iload 2), .inl .ireturn])]
def g_6_tread : List (Nat × dk_S) := [(3, s_6_in), (2, s_6_finds), (2, s_6_worstBehind)]
def s_6_tread : dk_S := dk_MV 6 g_6_tread b_6_tread 4
theorem h_6_tread : dk_monoG g_6_tread := dk_monoG_cons o_6_in (dk_monoG_cons o_6_finds (dk_monoG_cons o_6_worstBehind (dk_monoG_nil)))
theorem o_6_tread : dk_mono s_6_tread := dk_MV_mono _ h_6_tread _ _
def t_6_tread : dk_Tm := (tc_6, [(88, 1, 0), (101, 0, 1), (246, 0, 2)], [0, 16, 29, 37, 63], 0)
def y_6_march : MethodName := ⟨nn_R6, "march", "(II)I"⟩
def b_6_march : dk_T := [
  ([true, true, true], [.inl (.aload 0), .inl (.iload 1), .inr (5, 0, 0), .inl (.ifCond .eq 1), .inl (.iload 2), .inl (.iconst 0), .inl (.iconst 200), .inr (5, 1, 1), .inl (.ifCond .ne 2), .inr (7, 1, 1)]),
  ([true, false, false], [.inl (.aload 0), .inl (.iconst 0), .inr (5, 2, 0), .inl .ireturn]),
  ([true, true, true], [.inl (.aload 0), .inr (5, 3, 0), .inl (.aload 0), .inl (.iload 2), .inr (5, 4, 0), .inl (.aload 0), .inr (0, 6, 23), .inl (.iload 1), .inl .iaload, .inl .ireturn])]
def g_6_march : List (Nat × dk_S) := [(2, s_6_isRank), (3, s_6_in), (2, s_6_finds), (1, s_6_beginMarch), (2, s_6_goesOn)]
def s_6_march : dk_S := dk_MV 6 g_6_march b_6_march 3
theorem h_6_march : dk_monoG g_6_march := dk_monoG_cons o_6_isRank (dk_monoG_cons o_6_in (dk_monoG_cons o_6_finds (dk_monoG_cons o_6_beginMarch (dk_monoG_cons o_6_goesOn (dk_monoG_nil)))))
theorem o_6_march : dk_mono s_6_march := dk_MV_mono _ h_6_march _ _
def t_6_march : dk_Tm := (tc_6, [(240, 0, 0), (88, 1, 1), (101, 0, 2), (230, 0, 3), (233, 0, 4)], [0, 19, 25], 0)
def y_6_worst : MethodName := ⟨nn_R6, "worst", "(I)I"⟩
def b_6_worst : dk_T := [
  ([true, true], [.inl (.iload 1), .inl (.iconst 0), .inl (.iconst 200), .inr (5, 0, 1), .inl (.ifCond .ne 1), .inl (.aload 0), .inl (.iconst 0), .inr (5, 1, 0), .inl .ireturn]),
  ([true, true], [.inl (.aload 0), .inr (0, 6, 3), .inl (.ifCond .ne 2), .inl (.aload 0), .inl (.iconst 3), .inr (5, 1, 0), .inr (7, 3, 0)]),
  ([true, true], [.inl (.aload 0), .inl (.iload 1), .inr (5, 2, 0), .inr (7, 3, 1)]),
  ([false, false], [.inl .ireturn])]
def g_6_worst : List (Nat × dk_S) := [(3, s_6_in), (2, s_6_finds), (2, s_6_worstBehind)]
def s_6_worst : dk_S := dk_MV 6 g_6_worst b_6_worst 2
theorem h_6_worst : dk_monoG g_6_worst := dk_monoG_cons o_6_in (dk_monoG_cons o_6_finds (dk_monoG_cons o_6_worstBehind (dk_monoG_nil)))
theorem o_6_worst : dk_mono s_6_worst := dk_MV_mono _ h_6_worst _ _
def t_6_worst : dk_Tm := (tc_6, [(88, 1, 0), (101, 0, 1), (246, 0, 2)], [0, 17, 32, 37], 0)
def y_6_right : MethodName := ⟨nn_R6, "right", "(II)I"⟩
def b_6_right : dk_T := [
  ([true, true, true, false, false], [.inl (.iload 1), .inl (.iconst 0), .inl (.iconst 999), .inr (5, 0, 1), .inl (.ifCond .eq 1), .inl (.iload 2), .inl (.iconst 0), .inl (.iconst 200), .inr (5, 0, 1), .inl (.ifCond .ne 2), .inr (7, 1, 1)]),
  ([true, false, false, false, false], [.inl (.aload 0), .inl (.iconst 0), .inr (5, 1, 0), .inl .ireturn]),
  ([true, true, true, false, false], [.inl (.aload 0), .inr (5, 2, 0), .inl (.aload 0), .inl (.iload 2), .inr (5, 3, 0), .inl (.iconst 0), .inl (.istore 3), .inl (.iconst 0), .inl (.istore 4), .inr (7, 3, 1)]),
  ([true, true, false, true, true], [.inl (.iload 4), .inl (.aload 0), .inr (0, 6, 3), .inl (.if_icmp .ge 6), .inl (.iload 3), .inl (.aload 0), .inr (0, 6, 23), .inl (.iload 4), .inl .iaload, .inr (5, 4, 1), .inl (.iload 1), .inl (.if_icmp .gt 4), .inl (.iconst 1), .inl (.iload 4), .inl .ishl, .inr (7, 5, 0)]),
  ([true, true, false, false, true], [.inl (.iconst 0), .inr (7, 5, 1)]),
  ([true, true, false, false, true], [.inl .ior, .inl (.istore 3), .inl (.iinc 4 (1)), .inr (7, 3, 0)]),
  ([false, false, false, true, false], [.inl (.iload 3), .inl .ireturn])]
def g_6_right : List (Nat × dk_S) := [(3, s_6_in), (2, s_6_finds), (1, s_6_beginMarch), (2, s_6_goesOn), (1, s_6_size)]
def s_6_right : dk_S := dk_MV 6 g_6_right b_6_right 5
theorem h_6_right : dk_monoG g_6_right := dk_monoG_cons o_6_in (dk_monoG_cons o_6_finds (dk_monoG_cons o_6_beginMarch (dk_monoG_cons o_6_goesOn (dk_monoG_cons o_6_size (dk_monoG_nil)))))
theorem o_6_right : dk_mono s_6_right := dk_MV_mono _ h_6_right _ _
def t_6_right : dk_Tm := (tc_6, [(88, 1, 0), (101, 0, 1), (230, 0, 2), (233, 0, 3), (203, 1, 4)], [0, 22, 28, 42, 73, 74, 82], 0)
def y_6_tellMarch : MethodName := ⟨nn_R6, "tellMarch", "(I)V"⟩
def b_6_tellMarch : dk_T := [
  ([true, true, false, false], [.inl (.aload 0), .inr (5, 0, 0), .inl (.iconst 0), .inl (.istore 2), .inr (7, 1, 1)]),
  ([true, true, true, false], [.inl (.iload 2), .inl (.iload 1), .inl (.if_icmp .gt 4), .inl (.iconst 0), .inl (.istore 3), .inr (7, 2, 1)]),
  ([true, true, true, true], [.inl (.iload 3), .inl (.aload 0), .inr (0, 6, 3), .inl (.if_icmp .ge 3), .inl (.aload 0), .inr (0, 6, 25), .inl (.iconst 24), .inl (.iload 2), .inl .imul, .inl (.iload 3), .inl .iadd, .inl (.aload 0), .inr (0, 6, 23), .inl (.iload 3), .inl .iaload, .inl .iastore, .inl (.iinc 3 (1)), .inr (7, 2, 0)]),
  ([true, true, true, false], [.inl (.aload 0), .inr (5, 1, 0), .inl (.iinc 2 (1)), .inr (7, 1, 0)]),
  ([false, false, false, false], [.inl .return_])]
def g_6_tellMarch : List (Nat × dk_S) := [(1, s_6_beginMarch), (1, s_6_goes)]
def s_6_tellMarch : dk_S := dk_MV 6 g_6_tellMarch b_6_tellMarch 4
theorem h_6_tellMarch : dk_monoG g_6_tellMarch := dk_monoG_cons o_6_beginMarch (dk_monoG_cons o_6_goes (dk_monoG_nil))
theorem o_6_tellMarch : dk_mono s_6_tellMarch := dk_MV_mono _ h_6_tellMarch _ _
def t_6_tellMarch : dk_Tm := (tc_6, [(230, 0, 0), (227, 0, 1)], [0, 6, 13, 44, 54], 2)
def y_6_isAlike : MethodName := ⟨nn_R6, "isAlike", "(II)Z"⟩
def b_6_isAlike : dk_T := [
  ([true, true, true, false], [.inl (.iconst 0), .inl (.istore 3), .inr (7, 1, 1)]),
  ([true, true, true, true], [.inl (.iload 3), .inl (.aload 0), .inr (0, 6, 3), .inl (.if_icmp .ge 3), .inl (.aload 0), .inr (0, 6, 25), .inl (.iconst 24), .inl (.iload 1), .inl .imul, .inl (.iload 3), .inl .iadd, .inl .iaload, .inl (.aload 0), .inr (0, 6, 25), .inl (.iconst 24), .inl (.iload 2), .inl .imul, .inl (.iload 3), .inl .iadd, .inl .iaload, .inl (.if_icmp .eq 2), .inl (.iconst 0), .inl .lreturn]),
  ([true, true, true, true], [.inl (.iinc 3 (1)), .inr (7, 1, 0)]),
  ([false, false, false, false], [.inl (.iconst 1), .inl .lreturn])]
def g_6_isAlike : List (Nat × dk_S) := []
def s_6_isAlike : dk_S := dk_MV 6 g_6_isAlike b_6_isAlike 4
theorem h_6_isAlike : dk_monoG g_6_isAlike := dk_monoG_nil
theorem o_6_isAlike : dk_mono s_6_isAlike := dk_MV_mono _ h_6_isAlike _ _
def t_6_isAlike : dk_Tm := (tc_6, [], [0, 2, 37, 43], 1)
def y_6_settles : MethodName := ⟨nn_R6, "settles", "()I"⟩
def b_6_settles : dk_T := [
  ([true, false], [.inl (.aload 0), .inl (.iconst 201), .inr (5, 0, 0), .inl (.iconst 0), .inl (.istore 1), .inr (7, 1, 1)]),
  ([true, true], [.inl (.iload 1), .inl (.iconst 200), .inl (.if_icmp .gt 3), .inl (.aload 0), .inl (.iload 1), .inl (.iload 1), .inl (.iconst 1), .inl .iadd, .inr (5, 1, 0), .inl (.ifCond .eq 2), .inl (.iload 1), .inl .ireturn]),
  ([true, true], [.inl (.iinc 1 (1)), .inr (7, 1, 0)]),
  ([true, false], [.inl (.aload 0), .inl (.iconst 3), .inr (5, 2, 0), .inl .ireturn])]
def g_6_settles : List (Nat × dk_S) := [(2, s_6_tellMarch), (3, s_6_isAlike), (2, s_6_finds)]
def s_6_settles : dk_S := dk_MV 6 g_6_settles b_6_settles 2
theorem h_6_settles : dk_monoG g_6_settles := dk_monoG_cons o_6_tellMarch (dk_monoG_cons o_6_isAlike (dk_monoG_cons o_6_finds (dk_monoG_nil)))
theorem o_6_settles : dk_mono s_6_settles := dk_MV_mono _ h_6_settles _ _
def t_6_settles : dk_Tm := (tc_6, [(249, 0, 0), (252, 0, 1), (101, 0, 2)], [0, 9, 29, 35], 0)
def y_6_round : MethodName := ⟨nn_R6, "round", "(I)I"⟩
def b_6_round : dk_T := [
  ([true, true, false, false], [.inl (.iload 1), .inl (.iconst 0), .inl (.iconst 1), .inr (5, 0, 1), .inl (.ifCond .ne 1), .inl (.aload 0), .inl (.iconst 0), .inr (5, 1, 0), .inl .ireturn]),
  ([true, true, false, false], [.inl (.aload 0), .inl (.iconst 200), .inr (5, 2, 0), .inl (.iconst 0), .inl (.istore 2), .inr (7, 2, 1)]),
  ([true, true, true, false], [.inl (.iload 2), .inl (.iconst 200), .inl (.if_icmp .ge 8), .inl (.iconst 1), .inl (.istore 3), .inr (7, 3, 1)]),
  ([true, true, true, true], [.inl (.iload 2), .inl (.iload 3), .inl .iadd, .inl (.iconst 200), .inl (.if_icmp .gt 7), .inl (.aload 0), .inl (.iload 2), .inl (.iload 2), .inl (.iload 3), .inl .iadd, .inr (5, 3, 0), .inl (.ifCond .eq 6), .inl (.iload 1), .inl (.ifCond .ne 4), .inl (.iload 2), .inr (7, 5, 0)]),
  ([false, false, false, true], [.inl (.iload 3), .inr (7, 5, 1)]),
  ([false, false, false, false], [.inl .ireturn]),
  ([true, true, true, true], [.inl (.iinc 3 (1)), .inr (7, 3, 0)]),
  ([true, true, true, false], [.inl (.iinc 2 (1)), .inr (7, 2, 0)]),
  ([true, false, false, false], [.inl (.aload 0), .inl (.iconst 3), .inr (5, 1, 0), .inl .ireturn])]
def g_6_round : List (Nat × dk_S) := [(3, s_6_in), (2, s_6_finds), (2, s_6_tellMarch), (3, s_6_isAlike)]
def s_6_round : dk_S := dk_MV 6 g_6_round b_6_round 4
theorem h_6_round : dk_monoG g_6_round := dk_monoG_cons o_6_in (dk_monoG_cons o_6_finds (dk_monoG_cons o_6_tellMarch (dk_monoG_cons o_6_isAlike (dk_monoG_nil))))
theorem o_6_round : dk_mono s_6_round := dk_MV_mono _ h_6_round _ _
def t_6_round : dk_Tm := (tc_6, [(88, 1, 0), (101, 0, 1), (249, 0, 2), (252, 0, 3)], [0, 15, 24, 33, 61, 62, 63, 69, 75], 0)
def y_6_better : MethodName := ⟨nn_R6, "better", "(I)I"⟩
def b_6_better : dk_T := [
  ([true, true, false, false, false, false], [.inl (.iload 1), .inl (.iconst 1), .inl (.iconst 200), .inr (5, 0, 1), .inl (.ifCond .ne 1), .inl (.aload 0), .inl (.iconst 0), .inr (5, 1, 0), .inl .ireturn]),
  ([true, true, false, false, false, false], [.inl (.aload 0), .inr (5, 2, 0), .inl (.iconst 0), .inl (.istore 2), .inl (.aload 0), .inr (5, 3, 0), .inl (.istore 3), .inl (.iconst 0), .inl (.istore 4), .inr (7, 2, 1)]),
  ([true, true, true, true, true, false], [.inl (.iload 4), .inl (.iload 1), .inl (.if_icmp .ge 5), .inl (.aload 0), .inr (5, 4, 0), .inl (.aload 0), .inr (5, 3, 0), .inl (.istore 5), .inl (.iload 2), .inl (.iload 5), .inl (.iload 3), .inl (.if_icmp .ge 3), .inl (.iconst 1), .inr (7, 4, 0)]),
  ([true, true, false, false, true, true], [.inl (.iconst 0), .inr (7, 4, 1)]),
  ([true, true, false, false, true, true], [.inl .iadd, .inl (.istore 2), .inl (.iload 5), .inl (.istore 3), .inl (.iinc 4 (1)), .inr (7, 2, 0)]),
  ([false, false, true, false, false, false], [.inl (.iload 2), .inl .ireturn])]
def g_6_better : List (Nat × dk_S) := [(3, s_6_in), (2, s_6_finds), (1, s_6_beginMarch), (1, s_6_worstNow), (1, s_6_goes)]
def s_6_better : dk_S := dk_MV 6 g_6_better b_6_better 6
theorem h_6_better : dk_monoG g_6_better := dk_monoG_cons o_6_in (dk_monoG_cons o_6_finds (dk_monoG_cons o_6_beginMarch (dk_monoG_cons o_6_worstNow (dk_monoG_cons o_6_goes (dk_monoG_nil)))))
theorem o_6_better : dk_mono s_6_better := dk_MV_mono _ h_6_better _ _
def t_6_better : dk_Tm := (tc_6, [(88, 1, 0), (101, 0, 1), (230, 0, 2), (237, 0, 3), (227, 0, 4)], [0, 17, 31, 58, 59, 70], 0)
def y_6_place : MethodName := ⟨nn_R6, "place", "(II)I"⟩
def b_6_place : dk_T := [
  ([true, true, true, false, false, false, false, false], [.inl (.aload 0), .inl (.iload 1), .inr (5, 0, 0), .inl (.ifCond .eq 1), .inl (.iload 2), .inl (.iconst 0), .inl (.iconst 50), .inr (5, 1, 1), .inl (.ifCond .ne 2), .inr (7, 1, 1)]),
  ([true, false, false, false, false, false, false, false], [.inl (.aload 0), .inl (.iconst 0), .inr (5, 2, 0), .inl .ireturn]),
  ([true, true, true, false, false, false, false, false], [.inl (.aload 0), .inr (0, 6, 3), .inl (.ifCond .ne 3), .inl (.aload 0), .inl (.iconst 3), .inr (5, 2, 0), .inl .ireturn]),
  ([true, true, true, false, false, false, false, false], [.inl (.aload 0), .inr (0, 6, 7), .inl (.iconst 3), .inl (.iload 1), .inl .imul, .inl .iaload, .inl (.istore 3), .inl (.iconst 0), .inl (.istore 4), .inl (.iconst (-1)), .inl (.istore 5), .inl (.iconst 0), .inl (.istore 6), .inr (7, 4, 1)]),
  ([true, true, true, true, true, true, true, false], [.inl (.iload 6), .inl (.aload 0), .inr (0, 6, 3), .inl (.if_icmp .ge 7), .inl (.aload 0), .inr (0, 6, 7), .inl (.iconst 3), .inl (.iload 1), .inl .imul, .inl (.aload 0), .inl (.iload 6), .inl (.iconst 1), .inr (5, 3, 0), .inl .iastore, .inl (.aload 0), .inl (.iload 2), .inr (5, 4, 0), .inl (.istore 7), .inl (.iload 5), .inl (.ifCond .lt 5), .inl (.iload 7), .inl (.iload 5), .inl (.if_icmp .ge 6), .inr (7, 5, 1)]),
  ([true, true, true, true, false, false, true, true], [.inl (.iload 7), .inl (.istore 5), .inl (.iload 6), .inl (.istore 4), .inr (7, 6, 1)]),
  ([true, true, true, true, true, true, true, false], [.inl (.iinc 6 (1)), .inr (7, 4, 0)]),
  ([true, true, false, true, true, false, false, false], [.inl (.aload 0), .inr (0, 6, 7), .inl (.iconst 3), .inl (.iload 1), .inl .imul, .inl (.iload 3), .inl .iastore, .inl (.iload 4), .inl .ireturn])]
def g_6_place : List (Nat × dk_S) := [(2, s_6_isDrum), (3, s_6_in), (2, s_6_finds), (3, s_6_its), (2, s_6_worstBehind)]
def s_6_place : dk_S := dk_MV 6 g_6_place b_6_place 8
theorem h_6_place : dk_monoG g_6_place := dk_monoG_cons o_6_isDrum (dk_monoG_cons o_6_in (dk_monoG_cons o_6_finds (dk_monoG_cons o_6_its (dk_monoG_cons o_6_worstBehind (dk_monoG_nil)))))
theorem o_6_place : dk_mono s_6_place := dk_MV_mono _ h_6_place _ _
def t_6_place : dk_Tm := (tc_6, [(243, 0, 0), (88, 1, 1), (101, 0, 2), (194, 0, 3), (246, 0, 4)], [0, 18, 24, 37, 55, 98, 106, 112], 0)
def y_6_areTwo : MethodName := ⟨nn_R6, "areTwo", "(II)Z"⟩
def b_6_areTwo : dk_T := [
  ([true, true, true], [.inl (.aload 0), .inl (.iload 1), .inr (5, 0, 0), .inl (.ifCond .eq 1), .inl (.aload 0), .inl (.iload 2), .inr (5, 0, 0), .inl (.ifCond .eq 1), .inl (.iload 1), .inl (.iload 2), .inl (.if_icmp .eq 1), .inl (.iconst 1), .inr (7, 2, 0)]),
  ([false, false, false], [.inl (.iconst 0), .inr (7, 2, 1)]),
  ([false, false, false], [.inl .lreturn])]
def g_6_areTwo : List (Nat × dk_S) := [(2, s_6_isDrum)]
def s_6_areTwo : dk_S := dk_MV 6 g_6_areTwo b_6_areTwo 3
theorem h_6_areTwo : dk_monoG g_6_areTwo := dk_monoG_cons o_6_isDrum (dk_monoG_nil)
theorem o_6_areTwo : dk_mono s_6_areTwo := dk_MV_mono _ h_6_areTwo _ _
def t_6_areTwo : dk_Tm := (tc_6, [(243, 0, 0)], [0, 25, 26], 1)
def y_6_both : MethodName := ⟨nn_R6, "both", "(III)I"⟩
def b_6_both : dk_T := [
  ([true, true, true, true, false, false, false, false, false, false, false], [.inl (.aload 0), .inl (.iload 1), .inl (.iload 2), .inr (5, 0, 0), .inl (.ifCond .eq 1), .inl (.iload 3), .inl (.iconst 0), .inl (.iconst 9), .inr (5, 1, 1), .inl (.ifCond .ne 2), .inr (7, 1, 1)]),
  ([true, false, false, false, false, false, false, false, false, false, false], [.inl (.aload 0), .inl (.iconst 0), .inr (5, 2, 0), .inl .ireturn]),
  ([true, true, true, true, false, false, false, false, false, false, false], [.inl (.aload 0), .inr (0, 6, 3), .inl (.ifCond .ne 3), .inl (.aload 0), .inl (.iconst 3), .inr (5, 2, 0), .inl .ireturn]),
  ([true, true, true, true, false, false, false, false, false, false, false], [.inl (.aload 0), .inr (0, 6, 7), .inl (.iconst 3), .inl (.iload 1), .inl .imul, .inl .iaload, .inl (.istore 4), .inl (.aload 0), .inr (0, 6, 7), .inl (.iconst 3), .inl (.iload 2), .inl .imul, .inl .iaload, .inl (.istore 5), .inl (.iconst 0), .inl (.istore 6), .inl (.iconst (-1)), .inl (.istore 7), .inl (.iconst 0), .inl (.istore 8), .inr (7, 4, 1)]),
  ([true, true, true, true, true, true, true, true, true, false, false], [.inl (.iload 8), .inl (.aload 0), .inr (0, 6, 3), .inl (.if_icmp .ge 9), .inl (.iconst 0), .inl (.istore 9), .inr (7, 5, 1)]),
  ([true, true, true, true, true, true, true, true, true, true, false], [.inl (.iload 9), .inl (.aload 0), .inr (0, 6, 3), .inl (.if_icmp .ge 8), .inl (.aload 0), .inr (0, 6, 7), .inl (.iconst 3), .inl (.iload 1), .inl .imul, .inl (.aload 0), .inl (.iload 8), .inl (.iconst 1), .inr (5, 3, 0), .inl .iastore, .inl (.aload 0), .inr (0, 6, 7), .inl (.iconst 3), .inl (.iload 2), .inl .imul, .inl (.aload 0), .inl (.iload 9), .inl (.iconst 1), .inr (5, 3, 0), .inl .iastore, .inl (.aload 0), .inl (.iload 3), .inr (5, 4, 0), .inl (.istore 10), .inl (.iload 7), .inl (.ifCond .lt 6), .inl (.iload 10), .inl (.iload 7), .inl (.if_icmp .ge 7), .inr (7, 6, 1)]),
  ([true, true, true, true, true, true, false, false, true, true, true], [.inl (.iload 10), .inl (.istore 7), .inl (.iconst 100), .inl (.iload 8), .inl .imul, .inl (.iload 9), .inl .iadd, .inl (.istore 6), .inr (7, 7, 1)]),
  ([true, true, true, true, true, true, true, true, true, true, false], [.inl (.iinc 9 (1)), .inr (7, 5, 0)]),
  ([true, true, true, true, true, true, true, true, true, false, false], [.inl (.iinc 8 (1)), .inr (7, 4, 0)]),
  ([true, true, true, false, true, true, true, false, false, false, false], [.inl (.aload 0), .inr (0, 6, 7), .inl (.iconst 3), .inl (.iload 1), .inl .imul, .inl (.iload 4), .inl .iastore, .inl (.aload 0), .inr (0, 6, 7), .inl (.iconst 3), .inl (.iload 2), .inl .imul, .inl (.iload 5), .inl .iastore, .inl (.iload 6), .inl .ireturn])]
def g_6_both : List (Nat × dk_S) := [(3, s_6_areTwo), (3, s_6_in), (2, s_6_finds), (3, s_6_its), (2, s_6_worstBehind)]
def s_6_both : dk_S := dk_MV 6 g_6_both b_6_both 11
theorem h_6_both : dk_monoG g_6_both := dk_monoG_cons o_6_areTwo (dk_monoG_cons o_6_in (dk_monoG_cons o_6_finds (dk_monoG_cons o_6_its (dk_monoG_cons o_6_worstBehind (dk_monoG_nil)))))
theorem o_6_both : dk_mono s_6_both := dk_MV_mono _ h_6_both _ _
def t_6_both : dk_Tm := (tc_6, [(256, 0, 0), (88, 1, 1), (101, 0, 2), (194, 0, 3), (246, 0, 4)], [0, 19, 25, 38, 67, 79, 137, 151, 157, 163], 0)
def y_6_two : MethodName := ⟨nn_R6, "two", "(IIII)I"⟩
def b_6_two : dk_T := [
  ([true, true, true, true, true, false, false, false, false, false], [.inl (.aload 0), .inl (.iload 1), .inl (.iload 2), .inr (5, 0, 0), .inl (.ifCond .eq 1), .inl (.iload 3), .inl (.iconst 1), .inl (.iconst 99), .inr (5, 1, 1), .inl (.ifCond .eq 1), .inl (.iload 4), .inl (.iconst 0), .inl (.iconst 1), .inr (5, 1, 1), .inl (.ifCond .ne 2), .inr (7, 1, 1)]),
  ([true, false, false, false, false, false, false, false, false, false], [.inl (.aload 0), .inl (.iconst 0), .inr (5, 2, 0), .inl .ireturn]),
  ([true, true, true, true, true, false, false, false, false, false], [.inl (.aload 0), .inr (0, 6, 7), .inl (.iconst 3), .inl (.iload 1), .inl .imul, .inl (.iconst 2), .inl .iadd, .inl .iaload, .inl (.istore 5), .inl (.aload 0), .inr (0, 6, 7), .inl (.iconst 3), .inl (.iload 2), .inl .imul, .inl (.iconst 2), .inl .iadd, .inl .iaload, .inl (.istore 6), .inl (.aload 0), .inl (.aload 0), .inr (0, 6, 7), .inl (.iconst 3), .inl (.iload 2), .inl .imul, .inl .iaload, .inl (.aload 0), .inr (0, 6, 7), .inl (.iconst 3), .inl (.iload 1), .inl .imul, .inl .iaload, .inr (5, 3, 0), .inl (.istore 7), .inl (.aload 0), .inl (.aload 0), .inr (0, 6, 7), .inl (.iconst 3), .inl (.iload 1), .inl .imul, .inl .iaload, .inl (.aload 0), .inr (0, 6, 7), .inl (.iconst 3), .inl (.iload 2), .inl .imul, .inl .iaload, .inr (5, 3, 0), .inl (.istore 8), .inl (.iconst 0), .inl (.istore 9), .inr (7, 3, 1)]),
  ([true, false, false, true, true, true, true, true, true, true], [.inl (.iload 9), .inl (.iload 3), .inl (.if_icmp .ge 4), .inl (.iload 5), .inl (.aload 0), .inl (.iload 5), .inl .i2l, .inl (.iload 7), .inl .i2l, .inl .ladd, .inl (.iload 6), .inl .i2l, .inl .lsub, .inr (5, 4, 0), .inl (.iconst 2), .inl .idiv, .inl .isub, .inl (.istore 5), .inl (.iload 6), .inl (.aload 0), .inl (.iload 6), .inl .i2l, .inl (.iload 8), .inl .i2l, .inl .ladd, .inl (.iload 5), .inl .i2l, .inl .lsub, .inr (5, 4, 0), .inl (.iconst 2), .inl .idiv, .inl .isub, .inl (.istore 6), .inl (.iinc 9 (1)), .inr (7, 3, 0)]),
  ([false, false, false, false, true, true, true, false, false, false], [.inl (.iload 4), .inl (.ifCond .ne 5), .inl (.iload 5), .inr (7, 6, 0)]),
  ([false, false, false, false, false, false, true, false, false, false], [.inl (.iload 6), .inr (7, 6, 1)]),
  ([false, false, false, false, false, false, false, false, false, false], [.inl .ireturn])]
def g_6_two : List (Nat × dk_S) := [(3, s_6_areTwo), (3, s_6_in), (2, s_6_finds), (3, s_6_lagOf), (2, s_6_wrapped)]
def s_6_two : dk_S := dk_MV 6 g_6_two b_6_two 10
theorem h_6_two : dk_monoG g_6_two := dk_monoG_cons o_6_areTwo (dk_monoG_cons o_6_in (dk_monoG_cons o_6_finds (dk_monoG_cons o_6_lagOf (dk_monoG_cons o_6_wrapped (dk_monoG_nil)))))
theorem o_6_two : dk_mono s_6_two := dk_MV_mono _ h_6_two _ _
def t_6_two : dk_Tm := (tc_6, [(256, 0, 0), (88, 1, 1), (101, 0, 2), (200, 0, 3), (105, 0, 4)], [0, 29, 35, 106, 162, 172, 174], 0)
def y_6_isOpposite : MethodName := ⟨nn_R6, "isOpposite", "(II)Z"⟩
def b_6_isOpposite : dk_T := [
  ([false, true, true], [.inl (.iconst 4), .inl (.iload 1), .inl .i2l, .inl (.iload 2), .inr (5, 0, 1), .inr (5, 1, 1), .inl .imul, .inl (.iload 2), .inl (.if_icmp .lt 1), .inl (.iconst 1), .inr (7, 2, 0)]),
  ([false, false, false], [.inl (.iconst 0), .inr (7, 2, 1)]),
  ([false, false, false], [.inl .lreturn])]
def g_6_isOpposite : List (Nat × dk_S) := [(2, s_6_wrappedBy), (1, s_6_size)]
def s_6_isOpposite : dk_S := dk_MV 6 g_6_isOpposite b_6_isOpposite 3
theorem h_6_isOpposite : dk_monoG g_6_isOpposite := dk_monoG_cons o_6_wrappedBy (dk_monoG_cons o_6_size (dk_monoG_nil))
theorem o_6_isOpposite : dk_mono s_6_isOpposite := dk_MV_mono _ h_6_isOpposite _ _
def t_6_isOpposite : dk_Tm := (tc_6, [(97, 1, 0), (203, 1, 1)], [0, 19, 20], 1)
def y_6_opposite : MethodName := ⟨nn_R6, "opposite", "(I)I"⟩
def b_6_opposite : dk_T := [
  ([true, true, false], [.inl (.aload 0), .inl (.iload 1), .inr (5, 0, 0), .inl (.ifCond .ne 1), .inl (.aload 0), .inl (.iconst 0), .inr (5, 1, 0), .inl .ireturn]),
  ([true, true, false], [.inl (.aload 0), .inl (.iload 1), .inr (5, 2, 0), .inl (.istore 2), .inl (.iload 2), .inl (.ifCond .ge 2), .inl (.aload 0), .inl (.iconst 3), .inr (5, 1, 0), .inl .ireturn]),
  ([true, true, true], [.inl (.aload 0), .inl (.aload 0), .inl (.aload 0), .inr (0, 6, 7), .inl (.iconst 3), .inl (.iload 2), .inl .imul, .inl .iaload, .inl (.aload 0), .inl (.iload 1), .inl (.iconst 1), .inr (5, 3, 0), .inr (5, 4, 0), .inl (.aload 0), .inr (0, 6, 0), .inl (.iconst 0), .inl .iaload, .inr (5, 5, 0), .inl (.ifCond .eq 3), .inl (.iconst 1), .inr (7, 4, 0)]),
  ([false, false, false], [.inl (.iconst 0), .inr (7, 4, 1)]),
  ([false, false, false], [.inl .ireturn])]
def g_6_opposite : List (Nat × dk_S) := [(2, s_6_isRank), (2, s_6_finds), (2, s_6_drumFor), (3, s_6_its), (3, s_6_lagOf), (3, s_6_isOpposite)]
def s_6_opposite : dk_S := dk_MV 6 g_6_opposite b_6_opposite 3
theorem h_6_opposite : dk_monoG g_6_opposite := dk_monoG_cons o_6_isRank (dk_monoG_cons o_6_finds (dk_monoG_cons o_6_drumFor (dk_monoG_cons o_6_its (dk_monoG_cons o_6_lagOf (dk_monoG_cons o_6_isOpposite (dk_monoG_nil))))))
theorem o_6_opposite : dk_mono s_6_opposite := dk_MV_mono _ h_6_opposite _ _
def t_6_opposite : dk_Tm := (tc_6, [(240, 0, 0), (101, 0, 1), (209, 0, 2), (194, 0, 3), (200, 0, 4), (259, 0, 5)], [0, 14, 30, 65, 66], 0)
def y_6_edges : MethodName := ⟨nn_R6, "edges", "(IIII)I"⟩
def b_6_edges : dk_T := [
  ([true, true, true, true, true, false, false, false, false, false, false], [.inl (.aload 0), .inl (.iload 1), .inr (5, 0, 0), .inl (.ifCond .eq 1), .inl (.iload 2), .inl (.iconst 100), .inl (.iconst 2000), .inr (5, 1, 1), .inl (.ifCond .eq 1), .inl (.iload 3), .inl (.iload 2), .inl (.iconst 2000), .inr (5, 1, 1), .inl (.ifCond .eq 1), .inl (.iload 4), .inl (.iconst 0), .inl (.iconst 1), .inr (5, 1, 1), .inl (.ifCond .ne 2), .inr (7, 1, 1)]),
  ([true, false, false, false, false, false, false, false, false, false, false], [.inl (.aload 0), .inl (.iconst 0), .inr (5, 2, 0), .inl .ireturn]),
  ([true, true, true, true, true, false, false, false, false, false, false], [.inl (.aload 0), .inl (.iload 1), .inr (5, 3, 0), .inl (.istore 5), .inl (.iload 5), .inl (.ifCond .ge 3), .inl (.aload 0), .inl (.iconst 3), .inr (5, 2, 0), .inl .ireturn]),
  ([true, true, true, true, true, true, false, false, false, false, false], [.inl (.aload 0), .inl (.aload 0), .inr (0, 6, 7), .inl (.iconst 3), .inl (.iload 5), .inl .imul, .inl .iaload, .inl (.aload 0), .inl (.iload 1), .inl (.iconst 1), .inr (5, 4, 0), .inr (5, 5, 0), .inl (.istore 6), .inl (.iconst 0), .inl (.istore 7), .inl (.iconst 0), .inl (.istore 8), .inl (.iload 3), .inl (.istore 9), .inr (7, 4, 1)]),
  ([true, false, true, false, true, false, true, true, true, true, false], [.inl (.iload 9), .inl (.iload 2), .inl (.if_icmp .lt 9), .inl (.aload 0), .inl (.iload 6), .inl (.iload 9), .inr (5, 6, 0), .inl (.istore 10), .inl (.iload 7), .inl (.iload 10), .inl (.ifCond .eq 5), .inl (.iconst 1), .inr (7, 6, 0)]),
  ([true, false, true, false, true, false, true, false, true, true, true], [.inl (.iconst 0), .inr (7, 6, 1)]),
  ([true, false, true, false, true, false, true, false, true, true, true], [.inl .iadd, .inl (.istore 7), .inl (.iload 10), .inl (.ifCond .eq 7), .inl (.iload 9), .inr (7, 8, 0)]),
  ([true, false, true, false, true, false, true, true, true, true, false], [.inl (.iload 8), .inr (7, 8, 1)]),
  ([true, false, true, false, true, false, true, true, false, true, false], [.inl (.istore 8), .inl (.iinc 9 (-1)), .inr (7, 4, 0)]),
  ([true, false, false, false, true, false, false, true, true, false, false], [.inl (.iload 4), .inl (.ifCond .ne 10), .inl (.iload 7), .inr (7, 12, 0)]),
  ([true, false, false, false, false, false, false, true, true, false, false], [.inl (.iload 7), .inl (.ifCond .ne 11), .inl (.aload 0), .inl (.iconst 3), .inr (5, 2, 0), .inr (7, 12, 0)]),
  ([false, false, false, false, false, false, false, false, true, false, false], [.inl (.iload 8), .inr (7, 12, 1)]),
  ([false, false, false, false, false, false, false, false, false, false, false], [.inl .ireturn])]
def g_6_edges : List (Nat × dk_S) := [(2, s_6_isRank), (3, s_6_in), (2, s_6_finds), (2, s_6_drumFor), (3, s_6_its), (3, s_6_lagOf), (3, s_6_isOpposite)]
def s_6_edges : dk_S := dk_MV 6 g_6_edges b_6_edges 11
theorem h_6_edges : dk_monoG g_6_edges := dk_monoG_cons o_6_isRank (dk_monoG_cons o_6_in (dk_monoG_cons o_6_finds (dk_monoG_cons o_6_drumFor (dk_monoG_cons o_6_its (dk_monoG_cons o_6_lagOf (dk_monoG_cons o_6_isOpposite (dk_monoG_nil)))))))
theorem o_6_edges : dk_mono s_6_edges := dk_MV_mono _ h_6_edges _ _
def t_6_edges : dk_Tm := (tc_6, [(240, 0, 0), (88, 1, 1), (101, 0, 2), (209, 0, 3), (194, 0, 4), (200, 0, 5), (259, 0, 6)], [0, 41, 47, 65, 95, 122, 123, 136, 138, 146, 156, 169, 171], 0)
def y_6_slip : MethodName := ⟨nn_R6, "slip", "(IIII)I"⟩
def b_6_slip : dk_T := [
  ([true, true, true, true, true, false, false, false, false, false, false], [.inl (.aload 0), .inl (.iload 1), .inr (5, 0, 0), .inl (.ifCond .eq 1), .inl (.iload 2), .inl (.iconst (-999)), .inl (.iconst 999), .inr (5, 1, 1), .inl (.ifCond .eq 1), .inl (.iload 3), .inl (.iconst 0), .inl (.iconst 99), .inr (5, 1, 1), .inl (.ifCond .eq 1), .inl (.iload 4), .inl (.iconst 0), .inl (.iconst 2), .inr (5, 1, 1), .inl (.ifCond .ne 2), .inr (7, 1, 1)]),
  ([true, false, false, false, false, false, false, false, false, false, false], [.inl (.aload 0), .inl (.iconst 0), .inr (5, 2, 0), .inl .ireturn]),
  ([true, true, true, true, true, false, false, false, false, false, false], [.inl (.aload 0), .inr (5, 3, 0), .inl (.iconst 0), .inl (.istore 5), .inr (7, 3, 1)]),
  ([true, true, true, true, true, true, false, false, false, false, false], [.inl (.iload 5), .inl (.iload 3), .inl (.if_icmp .gt 6), .inl (.iconst 0), .inl (.istore 6), .inr (7, 4, 1)]),
  ([true, true, true, true, true, true, true, false, false, false, false], [.inl (.iload 6), .inl (.aload 0), .inr (0, 6, 3), .inl (.if_icmp .ge 5), .inl (.aload 0), .inr (0, 6, 26), .inl (.iconst 24), .inl (.iload 5), .inl .imul, .inl (.iload 6), .inl .iadd, .inl (.aload 0), .inr (0, 6, 23), .inl (.iload 6), .inl .iaload, .inl .iastore, .inl (.iinc 6 (1)), .inr (7, 4, 0)]),
  ([true, true, true, true, true, true, false, false, false, false, false], [.inl (.aload 0), .inr (5, 4, 0), .inl (.iinc 5 (1)), .inr (7, 3, 0)]),
  ([true, true, true, true, true, false, false, false, false, false, false], [.inl (.aload 0), .inr (5, 3, 0), .inl (.aload 0), .inr (0, 6, 23), .inl (.iload 1), .inl (.aload 0), .inl (.aload 0), .inr (0, 6, 23), .inl (.iload 1), .inl .iaload, .inl .i2l, .inl (.iload 2), .inl .i2l, .inl .ladd, .inr (5, 5, 0), .inl .iastore, .inl (.iconst (-1)), .inl (.istore 5), .inl (.iconst 0), .inl (.istore 6), .inl (.iconst 0), .inl (.istore 7), .inl (.iconst 0), .inl (.istore 8), .inr (7, 7, 1)]),
  ([true, false, false, true, true, true, true, true, true, false, false], [.inl (.iload 8), .inl (.iload 3), .inl (.if_icmp .gt 16), .inl (.iconst 0), .inl (.istore 6), .inl (.iconst 0), .inl (.istore 7), .inl (.iconst 0), .inl (.istore 9), .inr (7, 8, 1)]),
  ([true, false, false, true, true, true, true, true, true, true, false], [.inl (.iload 9), .inl (.aload 0), .inr (0, 6, 3), .inl (.if_icmp .ge 13), .inl (.aload 0), .inl (.aload 0), .inr (0, 6, 23), .inl (.iload 9), .inl .iaload, .inl .i2l, .inl (.aload 0), .inr (0, 6, 26), .inl (.iconst 24), .inl (.iload 8), .inl .imul, .inl (.iload 9), .inl .iadd, .inl .iaload, .inl .i2l, .inl .lsub, .inr (5, 5, 0), .inr (5, 6, 1), .inl (.istore 10), .inl (.iload 6), .inl (.aload 0), .inr (0, 6, 23), .inl (.iload 9), .inl .iaload, .inl (.aload 0), .inr (0, 6, 26), .inl (.iconst 24), .inl (.iload 8), .inl .imul, .inl (.iload 9), .inl .iadd, .inl .iaload, .inl (.if_icmp .eq 9), .inl (.iconst 1), .inr (7, 10, 0)]),
  ([true, false, false, true, true, true, false, true, true, true, true], [.inl (.iconst 0), .inr (7, 10, 1)]),
  ([true, false, false, true, true, true, false, true, true, true, true], [.inl .iadd, .inl (.istore 6), .inl (.iload 10), .inl (.iload 7), .inl (.if_icmp .le 11), .inl (.iload 10), .inr (7, 12, 0)]),
  ([true, false, false, true, true, true, true, true, true, true, false], [.inl (.iload 7), .inr (7, 12, 1)]),
  ([true, false, false, true, true, true, true, false, true, true, false], [.inl (.istore 7), .inl (.iinc 9 (1)), .inr (7, 8, 0)]),
  ([true, false, false, true, true, true, true, true, true, false, false], [.inl (.iload 5), .inl (.ifCond .ge 14), .inl (.iload 6), .inl (.ifCond .ne 14), .inl (.iload 8), .inr (7, 15, 0)]),
  ([true, false, false, true, true, true, true, true, true, false, false], [.inl (.iload 5), .inr (7, 15, 1)]),
  ([true, false, false, true, true, false, true, true, true, false, false], [.inl (.istore 5), .inl (.aload 0), .inr (5, 4, 0), .inl (.iinc 8 (1)), .inr (7, 7, 0)]),
  ([true, false, false, false, true, true, true, true, false, false, false], [.inl (.iload 4), .inl (.ifCond .ne 17), .inl (.iload 6), .inr (7, 20, 0)]),
  ([true, false, false, false, true, true, false, true, false, false, false], [.inl (.iload 4), .inl (.iconst 1), .inl (.if_icmp .ne 18), .inl (.iload 7), .inr (7, 20, 0)]),
  ([true, false, false, false, false, true, false, false, false, false, false], [.inl (.iload 5), .inl (.ifCond .ge 19), .inl (.aload 0), .inl (.iconst 3), .inr (5, 2, 0), .inr (7, 20, 0)]),
  ([false, false, false, false, false, true, false, false, false, false, false], [.inl (.iload 5), .inr (7, 20, 1)]),
  ([false, false, false, false, false, false, false, false, false, false, false], [.inl .ireturn])]
def g_6_slip : List (Nat × dk_S) := [(2, s_6_isRank), (3, s_6_in), (2, s_6_finds), (1, s_6_beginMarch), (1, s_6_goes), (2, s_6_wrapped), (1, s_6_size)]
def s_6_slip : dk_S := dk_MV 6 g_6_slip b_6_slip 11
theorem h_6_slip : dk_monoG g_6_slip := dk_monoG_cons o_6_isRank (dk_monoG_cons o_6_in (dk_monoG_cons o_6_finds (dk_monoG_cons o_6_beginMarch (dk_monoG_cons o_6_goes (dk_monoG_cons o_6_wrapped (dk_monoG_cons o_6_size (dk_monoG_nil)))))))
theorem o_6_slip : dk_mono s_6_slip := dk_MV_mono _ h_6_slip _ _
def t_6_slip : dk_Tm := (tc_6, [(240, 0, 0), (88, 1, 1), (101, 0, 2), (230, 0, 3), (227, 0, 4), (105, 0, 5), (203, 1, 6)], [0, 41, 47, 54, 63, 98, 108, 144, 159, 229, 230, 245, 247, 255, 270, 272, 284, 294, 305, 318, 320], 0)
def y_6_findBegun : MethodName := ⟨nn_R6, "findBegun", "(I)V"⟩
def b_6_findBegun : dk_T := [
  ([true, true, false, false, false], [.inl (.iconst 0), .inl (.istore 2), .inr (7, 1, 1)]),
  ([true, true, true, false, false], [.inl (.iload 2), .inl (.aload 0), .inr (0, 6, 3), .inl (.if_icmp .ge 15), .inl (.aload 0), .inl (.iload 2), .inr (5, 0, 0), .inl (.istore 3), .inl (.aload 0), .inr (0, 6, 28), .inl (.iload 2), .inl (.iload 1), .inl (.iconst 1), .inl (.if_icmp .ne 2), .inl (.iload 3), .inl (.ifCond .lt 3), .inr (7, 2, 1)]),
  ([true, true, true, true, false], [.inl (.iconst 1), .inr (7, 4, 0)]),
  ([true, true, true, true, false], [.inl (.iconst 0), .inr (7, 4, 1)]),
  ([true, true, true, true, false], [.inl .bastore, .inl (.iload 1), .inl (.iconst 1), .inl (.if_icmp .ne 7), .inl (.aload 0), .inr (0, 6, 27), .inl (.iload 2), .inl (.iload 3), .inl (.ifCond .ge 5), .inl (.iconst 0), .inr (7, 6, 0)]),
  ([true, true, true, true, false], [.inl (.aload 0), .inl (.aload 0), .inr (0, 6, 7), .inl (.iconst 3), .inl (.iload 3), .inl .imul, .inl .iaload, .inl (.aload 0), .inl (.iload 2), .inl (.iconst 1), .inr (5, 1, 0), .inr (5, 2, 0), .inl (.aload 0), .inr (0, 6, 7), .inl (.iconst 3), .inl (.iload 3), .inl .imul, .inl (.iconst 2), .inl .iadd, .inl .iaload, .inl .isub, .inr (7, 6, 1)]),
  ([true, true, true, false, false], [.inl .iastore, .inr (7, 14, 0)]),
  ([true, true, true, false, false], [.inl (.iload 2), .inl (.ifCond .ne 8), .inl (.aload 0), .inr (0, 6, 27), .inl (.iload 2), .inl (.iconst 0), .inl .iastore, .inr (7, 14, 0)]),
  ([true, true, true, false, false], [.inl (.iload 1), .inl (.ifCond .eq 9), .inl (.aload 0), .inl (.iload 2), .inr (5, 3, 0), .inl (.ifCond .eq 10), .inr (7, 9, 1)]),
  ([true, true, true, false, false], [.inl (.iconst 1), .inr (7, 11, 0)]),
  ([true, true, true, false, false], [.inl (.iconst 0), .inr (7, 11, 1)]),
  ([true, true, true, false, false], [.inl (.istore 4), .inl (.aload 0), .inr (0, 6, 27), .inl (.iload 2), .inl (.aload 0), .inr (0, 6, 27), .inl (.iload 2), .inl (.iconst 1), .inl .isub, .inl .iaload, .inl (.iload 4), .inl (.ifCond .eq 12), .inl (.aload 0), .inr (0, 6, 0), .inl (.iconst 5), .inl .iaload, .inl (.aload 0), .inl (.aload 0), .inl (.iload 2), .inl (.iconst 1), .inl .isub, .inl (.iconst 1), .inr (5, 1, 0), .inl (.aload 0), .inl (.iload 2), .inl (.iconst 1), .inr (5, 1, 0), .inr (5, 2, 0), .inl .iadd, .inr (7, 13, 0)]),
  ([true, true, true, false, false], [.inl (.aload 0), .inr (0, 6, 0), .inl (.iconst 6), .inl .iaload, .inr (7, 13, 1)]),
  ([true, true, true, false, false], [.inl .iadd, .inl .iastore, .inr (7, 14, 1)]),
  ([true, true, true, false, false], [.inl (.iinc 2 (1)), .inr (7, 1, 0)]),
  ([false, false, false, false, false], [.inl .return_])]
def g_6_findBegun : List (Nat × dk_S) := [(2, s_6_drumFor), (3, s_6_its), (3, s_6_lagOf), (2, s_6_isBent)]
def s_6_findBegun : dk_S := dk_MV 6 g_6_findBegun b_6_findBegun 5
theorem h_6_findBegun : dk_monoG g_6_findBegun := dk_monoG_cons o_6_drumFor (dk_monoG_cons o_6_its (dk_monoG_cons o_6_lagOf (dk_monoG_cons o_6_isBent (dk_monoG_nil))))
theorem o_6_findBegun : dk_mono s_6_findBegun := dk_MV_mono _ h_6_findBegun _ _
def t_6_findBegun : dk_Tm := (tc_6, [(209, 0, 0), (194, 0, 1), (200, 0, 2), (212, 0, 3)], [0, 2, 30, 34, 35, 54, 83, 87, 101, 113, 117, 118, 166, 173, 175, 181], 2)
def y_6_begin : MethodName := ⟨nn_R6, "begin", "(II)I"⟩
def b_6_begin : dk_T := [
  ([true, true, true], [.inl (.iload 1), .inl (.iconst 0), .inl (.iconst 2), .inr (5, 0, 1), .inl (.ifCond .eq 1), .inl (.aload 0), .inl (.iload 2), .inr (5, 1, 0), .inl (.ifCond .ne 2), .inr (7, 1, 1)]),
  ([true, false, false], [.inl (.aload 0), .inl (.iconst 0), .inr (5, 2, 0), .inl .ireturn]),
  ([true, true, true], [.inl (.aload 0), .inl (.iload 1), .inr (5, 3, 0), .inl (.aload 0), .inr (0, 6, 28), .inl (.iload 2), .inl .baload, .inl (.ifCond .eq 3), .inl (.aload 0), .inr (0, 6, 27), .inl (.iload 2), .inl .iaload, .inr (7, 4, 0)]),
  ([true, false, false], [.inl (.aload 0), .inl (.iconst 3), .inr (5, 2, 0), .inr (7, 4, 1)]),
  ([false, false, false], [.inl .ireturn])]
def g_6_begin : List (Nat × dk_S) := [(3, s_6_in), (2, s_6_isRank), (2, s_6_finds), (2, s_6_findBegun)]
def s_6_begin : dk_S := dk_MV 6 g_6_begin b_6_begin 3
theorem h_6_begin : dk_monoG g_6_begin := dk_monoG_cons o_6_in (dk_monoG_cons o_6_isRank (dk_monoG_cons o_6_finds (dk_monoG_cons o_6_findBegun (dk_monoG_nil))))
theorem o_6_begin : dk_mono s_6_begin := dk_MV_mono _ h_6_begin _ _
def t_6_begin : dk_Tm := (tc_6, [(88, 1, 0), (240, 0, 1), (101, 0, 2), (262, 0, 3)], [0, 17, 23, 46, 51], 0)
def y_6_apart : MethodName := ⟨nn_R6, "apart", "(I)I"⟩
def b_6_apart : dk_T := [
  ([true, true, false, false, false, false], [.inl (.iload 1), .inl (.iconst 0), .inl (.iconst 2), .inr (5, 0, 1), .inl (.ifCond .ne 1), .inl (.aload 0), .inl (.iconst 0), .inr (5, 1, 0), .inl .ireturn]),
  ([true, true, false, false, false, false], [.inl (.aload 0), .inl (.iload 1), .inr (5, 2, 0), .inl (.iconst 0), .inl (.istore 2), .inl (.iconst 0), .inl (.istore 3), .inl (.iconst 0), .inl (.istore 4), .inl (.iconst 0), .inl (.istore 5), .inr (7, 2, 1)]),
  ([true, false, true, true, true, true], [.inl (.iload 5), .inl (.aload 0), .inr (0, 6, 3), .inl (.if_icmp .ge 10), .inl (.aload 0), .inr (0, 6, 28), .inl (.iload 5), .inl .baload, .inl (.ifCond .eq 9), .inl (.iload 2), .inl (.ifCond .eq 3), .inl (.aload 0), .inr (0, 6, 27), .inl (.iload 5), .inl .iaload, .inl (.iload 3), .inl (.if_icmp .ge 4), .inr (7, 3, 1)]),
  ([true, false, true, false, true, true], [.inl (.aload 0), .inr (0, 6, 27), .inl (.iload 5), .inl .iaload, .inr (7, 5, 0)]),
  ([true, false, true, true, true, true], [.inl (.iload 3), .inr (7, 5, 1)]),
  ([true, false, true, false, true, true], [.inl (.istore 3), .inl (.iload 2), .inl (.ifCond .eq 6), .inl (.aload 0), .inr (0, 6, 27), .inl (.iload 5), .inl .iaload, .inl (.iload 4), .inl (.if_icmp .le 7), .inr (7, 6, 1)]),
  ([true, false, true, true, false, true], [.inl (.aload 0), .inr (0, 6, 27), .inl (.iload 5), .inl .iaload, .inr (7, 8, 0)]),
  ([true, false, true, true, true, true], [.inl (.iload 4), .inr (7, 8, 1)]),
  ([true, false, true, true, false, true], [.inl (.istore 4), .inl (.iinc 2 (1)), .inr (7, 9, 1)]),
  ([true, false, true, true, true, true], [.inl (.iinc 5 (1)), .inr (7, 2, 0)]),
  ([true, false, true, true, true, false], [.inl (.iload 2), .inl (.ifCond .ne 11), .inl (.aload 0), .inl (.iconst 3), .inr (5, 1, 0), .inr (7, 12, 0)]),
  ([false, false, false, true, true, false], [.inl (.iload 4), .inl (.iload 3), .inl .isub, .inr (7, 12, 1)]),
  ([false, false, false, false, false, false], [.inl .ireturn])]
def g_6_apart : List (Nat × dk_S) := [(3, s_6_in), (2, s_6_finds), (2, s_6_findBegun)]
def s_6_apart : dk_S := dk_MV 6 g_6_apart b_6_apart 6
theorem h_6_apart : dk_monoG g_6_apart := dk_monoG_cons o_6_in (dk_monoG_cons o_6_finds (dk_monoG_cons o_6_findBegun (dk_monoG_nil)))
theorem o_6_apart : dk_mono s_6_apart := dk_MV_mono _ h_6_apart _ _
def t_6_apart : dk_Tm := (tc_6, [(88, 1, 0), (101, 0, 1), (262, 0, 2)], [0, 15, 30, 64, 74, 75, 92, 102, 104, 109, 115, 127, 131], 0)
def y_6_isBridge : MethodName := ⟨nn_R6, "isBridge", "(III)Z"⟩
def b_6_isBridge : dk_T := [
  ([true, true, true], [.inl (.iload 0), .inr (5, 0, 1), .inl (.ifCond .eq 1), .inl (.iload 1), .inl (.iload 0), .inl (.iconst 4999), .inr (5, 1, 1), .inl (.ifCond .eq 1), .inl (.iload 2), .inl (.iconst 0), .inl (.iconst 999), .inr (5, 1, 1), .inl (.ifCond .eq 1), .inl (.iconst 1), .inr (7, 2, 0)]),
  ([false, false, false], [.inl (.iconst 0), .inr (7, 2, 1)]),
  ([false, false, false], [.inl .lreturn])]
def g_6_isBridge : List (Nat × dk_S) := [(1, s_6_isPlace), (3, s_6_in)]
def s_6_isBridge : dk_S := dk_M g_6_isBridge b_6_isBridge 3
theorem h_6_isBridge : dk_monoG g_6_isBridge := dk_monoG_cons o_6_isPlace (dk_monoG_cons o_6_in (dk_monoG_nil))
theorem o_6_isBridge : dk_mono s_6_isBridge := dk_M_mono h_6_isBridge _ _
def t_6_isBridge : dk_Tm := (tc_6, [(197, 1, 0), (88, 1, 1)], [0, 33, 34], 1)
def y_6_together : MethodName := ⟨nn_R6, "together", "(III)I"⟩
def b_6_together : dk_T := [
  ([true, true, true, true, false, false, false, false, false], [.inl (.iconst 0), .inl (.istore 4), .inl (.iconst 0), .inl (.istore 5), .inr (7, 1, 1)]),
  ([true, true, true, true, true, true, false, false, false], [.inl (.iload 5), .inl (.aload 0), .inr (0, 6, 3), .inl (.if_icmp .ge 10), .inl (.iconst 0), .inl (.istore 6), .inl (.iconst 0), .inl (.istore 7), .inr (7, 2, 1)]),
  ([true, true, true, true, true, true, true, true, false], [.inl (.iload 7), .inl (.aload 0), .inr (0, 6, 3), .inl (.if_icmp .ge 7), .inl (.aload 0), .inr (0, 6, 23), .inl (.iload 7), .inl .iaload, .inl (.aload 0), .inr (0, 6, 23), .inl (.iload 5), .inl .iaload, .inl .isub, .inl (.istore 8), .inl (.iload 8), .inl (.ifCond .ge 3), .inl (.iload 8), .inl (.aload 0), .inr (0, 6, 0), .inl (.iconst 0), .inl .iaload, .inl .iadd, .inr (7, 4, 0)]),
  ([true, true, true, true, true, true, true, true, true], [.inl (.iload 8), .inr (7, 4, 1)]),
  ([true, true, true, true, true, true, true, true, false], [.inl (.istore 8), .inl (.iload 6), .inl (.aload 0), .inl (.iload 7), .inl (.iconst 1), .inr (5, 0, 0), .inl (.iload 1), .inl (.iload 2), .inr (5, 1, 1), .inl (.ifCond .eq 5), .inl (.iload 8), .inl (.iload 3), .inl (.if_icmp .gt 5), .inl (.iconst 1), .inr (7, 6, 0)]),
  ([true, true, true, true, true, true, false, true, false], [.inl (.iconst 0), .inr (7, 6, 1)]),
  ([true, true, true, true, true, true, false, true, false], [.inl .iadd, .inl (.istore 6), .inl (.iinc 7 (1)), .inr (7, 2, 0)]),
  ([true, true, true, true, true, true, true, false, false], [.inl (.aload 0), .inl (.iload 5), .inl (.iconst 1), .inr (5, 0, 0), .inl (.iload 1), .inl (.iload 2), .inr (5, 1, 1), .inl (.ifCond .eq 8), .inl (.iload 6), .inl (.iload 4), .inl (.if_icmp .le 8), .inl (.iload 6), .inr (7, 9, 0)]),
  ([true, true, true, true, true, true, false, false, false], [.inl (.iload 4), .inr (7, 9, 1)]),
  ([true, true, true, true, false, true, false, false, false], [.inl (.istore 4), .inl (.iinc 5 (1)), .inr (7, 1, 0)]),
  ([false, false, false, false, true, false, false, false, false], [.inl (.iload 4), .inl .ireturn])]
def g_6_together : List (Nat × dk_S) := [(3, s_6_its), (3, s_6_in)]
def s_6_together : dk_S := dk_MV 6 g_6_together b_6_together 9
theorem h_6_together : dk_monoG g_6_together := dk_monoG_cons o_6_its (dk_monoG_cons o_6_in (dk_monoG_nil))
theorem o_6_together : dk_mono s_6_together := dk_MV_mono _ h_6_together _ _
def t_6_together : dk_Tm := (tc_6, [(194, 0, 0), (88, 1, 1)], [0, 6, 21, 64, 66, 95, 96, 105, 132, 134, 142], 0)
def y_6_bridge : MethodName := ⟨nn_R6, "bridge", "(IIII)I"⟩
def b_6_bridge : dk_T := [
  ([true, true, true, true, true], [.inl (.iload 1), .inl (.iload 2), .inl (.iload 3), .inr (5, 0, 1), .inl (.ifCond .eq 1), .inl (.iload 4), .inl (.iconst 0), .inl (.iconst 200), .inr (5, 1, 1), .inl (.ifCond .ne 2), .inr (7, 1, 1)]),
  ([true, false, false, false, false], [.inl (.aload 0), .inl (.iconst 0), .inr (5, 2, 0), .inl .ireturn]),
  ([true, true, true, true, true], [.inl (.aload 0), .inr (5, 3, 0), .inl (.aload 0), .inl (.iload 4), .inr (5, 4, 0), .inl (.aload 0), .inl (.iload 1), .inl (.iload 2), .inl (.iload 3), .inr (5, 5, 0), .inl .ireturn])]
def g_6_bridge : List (Nat × dk_S) := [(3, s_6_isBridge), (3, s_6_in), (2, s_6_finds), (1, s_6_beginMarch), (2, s_6_goesOn), (4, s_6_together)]
def s_6_bridge : dk_S := dk_MV 6 g_6_bridge b_6_bridge 5
theorem h_6_bridge : dk_monoG g_6_bridge := dk_monoG_cons o_6_isBridge (dk_monoG_cons o_6_in (dk_monoG_cons o_6_finds (dk_monoG_cons o_6_beginMarch (dk_monoG_cons o_6_goesOn (dk_monoG_cons o_6_together (dk_monoG_nil))))))
theorem o_6_bridge : dk_mono s_6_bridge := dk_MV_mono _ h_6_bridge _ _
def t_6_bridge : dk_Tm := (tc_6, [(265, 1, 0), (88, 1, 1), (101, 0, 2), (230, 0, 3), (233, 0, 4), (268, 0, 5)], [0, 21, 27], 0)
def y_6_broken : MethodName := ⟨nn_R6, "broken", "(IIII)I"⟩
def b_6_broken : dk_T := [
  ([true, true, true, true, true, false], [.inl (.iload 1), .inl (.iload 2), .inl (.iload 3), .inr (5, 0, 1), .inl (.ifCond .eq 1), .inl (.iload 4), .inl (.iconst 0), .inl (.iconst 24), .inr (5, 1, 1), .inl (.ifCond .ne 2), .inr (7, 1, 1)]),
  ([true, false, false, false, false, false], [.inl (.aload 0), .inl (.iconst 0), .inr (5, 2, 0), .inl .ireturn]),
  ([true, true, true, true, true, false], [.inl (.aload 0), .inr (5, 3, 0), .inl (.iconst 0), .inl (.istore 5), .inr (7, 3, 1)]),
  ([true, true, true, true, true, true], [.inl (.iload 5), .inl (.iconst 200), .inl (.if_icmp .gt 5), .inl (.aload 0), .inl (.iload 1), .inl (.iload 2), .inl (.iload 3), .inr (5, 4, 0), .inl (.iload 4), .inl (.if_icmp .gt 4), .inl (.iload 5), .inl .ireturn]),
  ([true, true, true, true, true, true], [.inl (.aload 0), .inr (5, 5, 0), .inl (.iinc 5 (1)), .inr (7, 3, 0)]),
  ([true, false, false, false, false, false], [.inl (.aload 0), .inl (.iconst 3), .inr (5, 2, 0), .inl .ireturn])]
def g_6_broken : List (Nat × dk_S) := [(3, s_6_isBridge), (3, s_6_in), (2, s_6_finds), (1, s_6_beginMarch), (4, s_6_together), (1, s_6_goes)]
def s_6_broken : dk_S := dk_MV 6 g_6_broken b_6_broken 6
theorem h_6_broken : dk_monoG g_6_broken := dk_monoG_cons o_6_isBridge (dk_monoG_cons o_6_in (dk_monoG_cons o_6_finds (dk_monoG_cons o_6_beginMarch (dk_monoG_cons o_6_together (dk_monoG_cons o_6_goes (dk_monoG_nil))))))
theorem o_6_broken : dk_mono s_6_broken := dk_MV_mono _ h_6_broken _ _
def t_6_broken : dk_Tm := (tc_6, [(265, 1, 0), (88, 1, 1), (101, 0, 2), (230, 0, 3), (268, 0, 4), (227, 0, 5)], [0, 20, 26, 33, 56, 66], 0)
def y_6_seed : MethodName := ⟨nn_R6, "seed", "(I)I"⟩
def b_6_seed : dk_T := [
  ([true, true, false], [.inl (.aload 0), .inr (0, 6, 10), .inl (.istore 2), .inl (.aload 0), .inl (.iload 1), .inr (1, 6, 10), .inl (.iload 2), .inl .ireturn])]
def g_6_seed : List (Nat × dk_S) := []
def s_6_seed : dk_S := dk_MV 6 g_6_seed b_6_seed 3
theorem h_6_seed : dk_monoG g_6_seed := dk_monoG_nil
theorem o_6_seed : dk_mono s_6_seed := dk_MV_mono _ h_6_seed _ _
def t_6_seed : dk_Tm := (tc_6, [], [0], 0)
def y_6_shake : MethodName := ⟨nn_R6, "shake", "(I)I"⟩
def b_6_shake : dk_T := [
  ([true, true, false], [.inl (.iload 1), .inl (.iconst 0), .inl (.iconst 999), .inr (5, 0, 1), .inl (.ifCond .ne 1), .inl (.aload 0), .inl (.iconst 0), .inr (5, 1, 0), .inl .ireturn]),
  ([true, true, false], [.inl (.iconst 0), .inl (.istore 2), .inr (7, 2, 1)]),
  ([true, true, true], [.inl (.iload 2), .inl (.aload 0), .inr (0, 6, 3), .inl (.if_icmp .ge 3), .inl (.aload 0), .inl (.aload 0), .inr (0, 6, 10), .inl (.iconst (1103515245)), .inl .imul, .inl (.iconst 12345), .inl .iadd, .inr (1, 6, 10), .inl (.aload 0), .inr (0, 6, 5), .inl (.iload 2), .inl (.aload 0), .inl (.aload 0), .inr (0, 6, 5), .inl (.iload 2), .inl .iaload, .inl .i2l, .inl (.iload 1), .inl .i2l, .inl .lsub, .inl (.aload 0), .inr (0, 6, 10), .inl (.iconst 8), .inl .iushr, .inl (.iconst 2), .inl (.iload 1), .inl .imul, .inl (.iconst 1), .inl .iadd, .inl .irem, .inl .i2l, .inl .ladd, .inr (5, 2, 0), .inl .iastore, .inl (.iinc 2 (1)), .inr (7, 2, 0)]),
  ([true, false, false], [.inl (.aload 0), .inr (5, 3, 0), .inl (.aload 0), .inr (5, 4, 0), .inl .ireturn])]
def g_6_shake : List (Nat × dk_S) := [(3, s_6_in), (2, s_6_finds), (2, s_6_wrapped), (1, s_6_beginMarch), (1, s_6_worstNow)]
def s_6_shake : dk_S := dk_MV 6 g_6_shake b_6_shake 3
theorem h_6_shake : dk_monoG g_6_shake := dk_monoG_cons o_6_in (dk_monoG_cons o_6_finds (dk_monoG_cons o_6_wrapped (dk_monoG_cons o_6_beginMarch (dk_monoG_cons o_6_worstNow (dk_monoG_nil)))))
theorem o_6_shake : dk_mono s_6_shake := dk_MV_mono _ h_6_shake _ _
def t_6_shake : dk_Tm := (tc_6, [(88, 1, 0), (101, 0, 1), (105, 0, 2), (230, 0, 3), (237, 0, 4)], [0, 17, 19, 84], 0)
def y_6_hold : MethodName := ⟨nn_R6, "hold", "(II)I"⟩
def b_6_hold : dk_T := [
  ([true, true, true], [.inl (.iload 1), .inl (.iconst 0), .inl (.iconst 9), .inr (5, 0, 1), .inl (.ifCond .eq 1), .inl (.iload 2), .inl (.iconst (-1)), .inl (.if_icmp .eq 2), .inl (.aload 0), .inl (.iload 2), .inr (5, 1, 0), .inl (.ifCond .ne 2), .inr (7, 1, 1)]),
  ([true, false, false], [.inl (.aload 0), .inl (.iconst 0), .inr (5, 2, 0), .inl .ireturn]),
  ([true, true, true], [.inl (.aload 0), .inr (0, 6, 11), .inl (.iload 1), .inl (.iload 2), .inl .iastore, .inl (.iconst 1), .inl .ireturn])]
def g_6_hold : List (Nat × dk_S) := [(3, s_6_in), (2, s_6_isRank), (2, s_6_finds)]
def s_6_hold : dk_S := dk_MV 6 g_6_hold b_6_hold 3
theorem h_6_hold : dk_monoG g_6_hold := dk_monoG_cons o_6_in (dk_monoG_cons o_6_isRank (dk_monoG_cons o_6_finds (dk_monoG_nil)))
theorem o_6_hold : dk_mono s_6_hold := dk_MV_mono _ h_6_hold _ _
def t_6_hold : dk_Tm := (tc_6, [(88, 1, 0), (240, 0, 1), (101, 0, 2)], [0, 23, 29], 0)
def y_6_as : MethodName := ⟨nn_R6, "as", "(II)I"⟩
def b_6_as : dk_T := [
  ([true, true, true, false, false, false], [.inl (.iload 1), .inl (.iconst 0), .inl (.iconst 9), .inr (5, 0, 1), .inl (.ifCond .eq 1), .inl (.iload 2), .inl (.iconst 0), .inl (.iconst 6), .inr (5, 0, 1), .inl (.ifCond .ne 2), .inr (7, 1, 1)]),
  ([true, false, false, false, false, false], [.inl (.aload 0), .inl (.iconst 0), .inr (5, 1, 0), .inl .ireturn]),
  ([true, true, true, false, false, false], [.inl (.aload 0), .inr (0, 6, 11), .inl (.iload 1), .inl .iaload, .inl (.istore 3), .inl (.iload 3), .inl (.ifCond .ge 3), .inl (.aload 0), .inl (.iconst 5), .inr (5, 1, 0), .inl .ireturn]),
  ([true, false, true, true, false, false], [.inl (.aload 0), .inl (.iload 3), .inl (.iconst 0), .inr (5, 2, 0), .inl (.istore 4), .inl (.iload 2), .inl (.ifCond .eq 6), .inl (.iload 2), .inl (.iload 4), .inl (.if_icmp .eq 6), .inl (.iload 2), .inl (.iconst 1), .inl (.if_icmp .ne 4), .inl (.iload 4), .inl (.iconst 4), .inl (.if_icmp .eq 6), .inr (7, 4, 1)]),
  ([true, false, true, true, true, false], [.inl (.iload 2), .inl (.iconst 2), .inl (.if_icmp .ne 5), .inl (.iload 4), .inl (.iconst 3), .inl (.if_icmp .eq 6), .inr (7, 5, 1)]),
  ([true, false, true, true, true, false], [.inl (.iload 2), .inl (.iconst 5), .inl (.if_icmp .ne 7), .inl (.iload 4), .inl (.iconst 6), .inl (.if_icmp .ne 7), .inr (7, 6, 1)]),
  ([true, false, false, true, false, false], [.inl (.iconst 1), .inr (7, 8, 0)]),
  ([true, false, false, true, false, false], [.inl (.iconst 0), .inr (7, 8, 1)]),
  ([true, false, false, true, false, false], [.inl (.istore 5), .inl (.iload 5), .inl (.ifCond .eq 9), .inl (.iload 3), .inr (7, 10, 0)]),
  ([true, false, false, false, false, false], [.inl (.aload 0), .inl (.iconst 2), .inr (5, 1, 0), .inr (7, 10, 1)]),
  ([false, false, false, false, false, false], [.inl .ireturn])]
def g_6_as : List (Nat × dk_S) := [(3, s_6_in), (2, s_6_finds), (3, s_6_its)]
def s_6_as : dk_S := dk_MV 6 g_6_as b_6_as 6
theorem h_6_as : dk_monoG g_6_as := dk_monoG_cons o_6_in (dk_monoG_cons o_6_finds (dk_monoG_cons o_6_its (dk_monoG_nil)))
theorem o_6_as : dk_mono s_6_as := dk_MV_mono _ h_6_as _ _
def t_6_as : dk_Tm := (tc_6, [(88, 1, 0), (101, 0, 1), (194, 0, 2)], [0, 20, 26, 43, 72, 83, 95, 99, 100, 111, 116], 0)
def y_6_isSheet : MethodName := ⟨nn_R6, "isSheet", "(I)Z"⟩
def b_6_isSheet : dk_T := [
  ([true], [.inl (.iload 0), .inl (.iconst 0), .inl (.iconst 3), .inr (5, 0, 1), .inl .lreturn])]
def g_6_isSheet : List (Nat × dk_S) := [(3, s_6_in)]
def s_6_isSheet : dk_S := dk_M g_6_isSheet b_6_isSheet 1
theorem h_6_isSheet : dk_monoG g_6_isSheet := dk_monoG_cons o_6_in (dk_monoG_nil)
theorem o_6_isSheet : dk_mono s_6_isSheet := dk_M_mono h_6_isSheet _ _
def t_6_isSheet : dk_Tm := (tc_6, [(88, 1, 0)], [0], 1)
def y_6_sheet : MethodName := ⟨nn_R6, "sheet", "(III)I"⟩
def b_6_sheet : dk_T := [
  ([true, true, true, true, false], [.inl (.iload 1), .inr (5, 0, 1), .inl (.ifCond .eq 1), .inl (.iload 2), .inl (.ifCond .eq 2), .inl (.iload 2), .inl (.iconst 8), .inl (.if_icmp .eq 2), .inl (.iload 2), .inl (.iconst 16), .inl (.if_icmp .eq 2), .inl (.iload 2), .inl (.iconst 32), .inl (.if_icmp .eq 2), .inr (7, 1, 1)]),
  ([true, false, false, false, false], [.inl (.aload 0), .inl (.iconst 0), .inr (5, 1, 0), .inl .ireturn]),
  ([true, true, true, true, false], [.inl (.iload 3), .inl (.ifCond .ge 3), .inl (.aload 0), .inl (.iconst 6), .inr (5, 1, 0), .inl .ireturn]),
  ([true, true, true, true, false], [.inl (.iload 3), .inl (.iconst 40), .inl (.if_icmp .le 4), .inl (.aload 0), .inl (.iconst 0), .inr (5, 1, 0), .inl .ireturn]),
  ([true, true, true, true, false], [.inl (.aload 0), .inr (0, 6, 29), .inl (.iload 1), .inl (.iload 2), .inl .iastore, .inl (.aload 0), .inr (0, 6, 30), .inl (.iload 1), .inl (.iload 2), .inl (.ifCond .ne 5), .inl (.iconst 0), .inr (7, 6, 0)]),
  ([true, true, false, true, false], [.inl (.iload 3), .inr (7, 6, 1)]),
  ([true, true, false, false, false], [.inl .iastore, .inl (.iconst 0), .inl (.istore 4), .inr (7, 7, 1)]),
  ([true, true, false, false, true], [.inl (.iload 4), .inl (.iconst 40), .inl (.if_icmp .ge 8), .inl (.aload 0), .inr (0, 6, 31), .inl (.iconst 40), .inl (.iload 1), .inl .imul, .inl (.iload 4), .inl .iadd, .inl (.iconst 0), .inl .iastore, .inl (.iinc 4 (1)), .inr (7, 7, 0)]),
  ([true, true, false, false, false], [.inl (.aload 0), .inr (0, 6, 30), .inl (.iload 1), .inl .iaload, .inl .ireturn])]
def g_6_sheet : List (Nat × dk_S) := [(1, s_6_isSheet), (2, s_6_finds)]
def s_6_sheet : dk_S := dk_MV 6 g_6_sheet b_6_sheet 5
theorem h_6_sheet : dk_monoG g_6_sheet := dk_monoG_cons o_6_isSheet (dk_monoG_cons o_6_finds (dk_monoG_nil))
theorem o_6_sheet : dk_mono s_6_sheet := dk_MV_mono _ h_6_sheet _ _
def t_6_sheet : dk_Tm := (tc_6, [(273, 1, 0), (101, 0, 1)], [0, 29, 35, 46, 58, 78, 79, 83, 109], 0)
def y_6_write : MethodName := ⟨nn_R6, "write", "(III)I"⟩
def b_6_write : dk_T := [
  ([true, true, true, true], [.inl (.iload 1), .inr (5, 0, 1), .inl (.ifCond .ne 1), .inl (.aload 0), .inl (.iconst 0), .inr (5, 1, 0), .inl .ireturn]),
  ([true, true, true, true], [.inl (.aload 0), .inr (0, 6, 29), .inl (.iload 1), .inl .iaload, .inl (.ifCond .ne 2), .inl (.aload 0), .inl (.iconst 5), .inr (5, 1, 0), .inl .ireturn]),
  ([true, true, true, true], [.inl (.iload 2), .inl (.iconst 0), .inl (.aload 0), .inr (0, 6, 30), .inl (.iload 1), .inl .iaload, .inl (.iconst 1), .inl .isub, .inr (5, 2, 1), .inl (.ifCond .ne 3), .inl (.aload 0), .inl (.iconst 0), .inr (5, 1, 0), .inl .ireturn]),
  ([true, true, true, true], [.inl (.aload 0), .inr (0, 6, 31), .inl (.iconst 40), .inl (.iload 1), .inl .imul, .inl (.iload 2), .inl .iadd, .inl (.aload 0), .inr (0, 6, 29), .inl (.iload 1), .inl .iaload, .inl (.iconst 8), .inl (.if_icmp .ne 4), .inl (.iload 3), .inl .i2b, .inr (7, 6, 0)]),
  ([true, true, false, true], [.inl (.aload 0), .inr (0, 6, 29), .inl (.iload 1), .inl .iaload, .inl (.iconst 16), .inl (.if_icmp .ne 5), .inl (.iload 3), .inl .i2s, .inr (7, 6, 0)]),
  ([false, false, false, true], [.inl (.iload 3), .inr (7, 6, 1)]),
  ([false, false, false, false], [.inl .iastore, .inl (.iconst 1), .inl .ireturn])]
def g_6_write : List (Nat × dk_S) := [(1, s_6_isSheet), (2, s_6_finds), (3, s_6_in)]
def s_6_write : dk_S := dk_MV 6 g_6_write b_6_write 4
theorem h_6_write : dk_monoG g_6_write := dk_monoG_cons o_6_isSheet (dk_monoG_cons o_6_finds (dk_monoG_cons o_6_in (dk_monoG_nil)))
theorem o_6_write : dk_mono s_6_write := dk_MV_mono _ h_6_write _ _
def t_6_write : dk_Tm := (tc_6, [(273, 1, 0), (101, 0, 1), (88, 1, 2)], [0, 13, 28, 50, 76, 92, 93], 0)
def y_6_copy : MethodName := ⟨nn_R6, "copy", "(IIIII)I"⟩
def b_6_copy : dk_T := [
  ([true, true, true, true, true, true, false], [.inl (.iload 1), .inr (5, 0, 1), .inl (.ifCond .eq 1), .inl (.iload 3), .inr (5, 0, 1), .inl (.ifCond .ne 2), .inr (7, 1, 1)]),
  ([true, false, false, false, false, false, false], [.inl (.aload 0), .inl (.iconst 0), .inr (5, 1, 0), .inl .ireturn]),
  ([true, true, true, true, true, true, false], [.inl (.aload 0), .inr (0, 6, 29), .inl (.iload 1), .inl .iaload, .inl (.ifCond .eq 3), .inl (.aload 0), .inr (0, 6, 29), .inl (.iload 3), .inl .iaload, .inl (.ifCond .ne 4), .inr (7, 3, 1)]),
  ([true, false, false, false, false, false, false], [.inl (.aload 0), .inl (.iconst 5), .inr (5, 1, 0), .inl .ireturn]),
  ([true, true, true, true, true, true, false], [.inl (.aload 0), .inr (0, 6, 29), .inl (.iload 1), .inl .iaload, .inl (.aload 0), .inr (0, 6, 29), .inl (.iload 3), .inl .iaload, .inl (.if_icmp .eq 5), .inl (.aload 0), .inl (.iconst 2), .inr (5, 1, 0), .inl .ireturn]),
  ([true, true, true, true, true, true, false], [.inl (.iload 2), .inl (.ifCond .lt 6), .inl (.iload 4), .inl (.ifCond .lt 6), .inl (.iload 5), .inl (.ifCond .lt 6), .inl (.iload 2), .inl .i2l, .inl (.iload 5), .inl .i2l, .inl .ladd, .inl (.aload 0), .inr (0, 6, 30), .inl (.iload 1), .inl .iaload, .inl .i2l, .inl .lcmp, .inl (.ifCond .gt 6), .inl (.iload 4), .inl .i2l, .inl (.iload 5), .inl .i2l, .inl .ladd, .inl (.aload 0), .inr (0, 6, 30), .inl (.iload 3), .inl .iaload, .inl .i2l, .inl .lcmp, .inl (.ifCond .le 7), .inr (7, 6, 1)]),
  ([true, false, false, false, false, false, false], [.inl (.aload 0), .inl (.iconst 0), .inr (5, 1, 0), .inl .ireturn]),
  ([true, true, true, true, true, true, false], [.inl (.iconst 0), .inl (.istore 6), .inr (7, 8, 1)]),
  ([true, true, true, true, true, true, true], [.inl (.iload 6), .inl (.iload 5), .inl (.if_icmp .ge 9), .inl (.aload 0), .inr (0, 6, 32), .inl (.iload 6), .inl (.aload 0), .inr (0, 6, 31), .inl (.iconst 40), .inl (.iload 1), .inl .imul, .inl (.iload 2), .inl .iadd, .inl (.iload 6), .inl .iadd, .inl .iaload, .inl .iastore, .inl (.iinc 6 (1)), .inr (7, 8, 0)]),
  ([true, false, false, true, true, true, false], [.inl (.iconst 0), .inl (.istore 6), .inr (7, 10, 1)]),
  ([true, false, false, true, true, true, true], [.inl (.iload 6), .inl (.iload 5), .inl (.if_icmp .ge 11), .inl (.aload 0), .inr (0, 6, 31), .inl (.iconst 40), .inl (.iload 3), .inl .imul, .inl (.iload 4), .inl .iadd, .inl (.iload 6), .inl .iadd, .inl (.aload 0), .inr (0, 6, 32), .inl (.iload 6), .inl .iaload, .inl .iastore, .inl (.iinc 6 (1)), .inr (7, 10, 0)]),
  ([false, false, false, false, false, true, false], [.inl (.iload 5), .inl .ireturn])]
def g_6_copy : List (Nat × dk_S) := [(1, s_6_isSheet), (2, s_6_finds)]
def s_6_copy : dk_S := dk_MV 6 g_6_copy b_6_copy 7
theorem h_6_copy : dk_monoG g_6_copy := dk_monoG_cons o_6_isSheet (dk_monoG_cons o_6_finds (dk_monoG_nil))
theorem o_6_copy : dk_mono s_6_copy := dk_MV_mono _ h_6_copy _ _
def t_6_copy : dk_Tm := (tc_6, [(273, 1, 0), (101, 0, 1)], [0, 14, 20, 38, 44, 65, 114, 120, 123, 157, 160, 195], 0)
def y_6_load : MethodName := ⟨nn_R6, "load", "(I)I"⟩
def b_6_load : dk_T := [
  ([true, true, false, false], [.inl (.iload 1), .inr (5, 0, 1), .inl (.ifCond .ne 1), .inl (.aload 0), .inl (.iconst 0), .inr (5, 1, 0), .inl .ireturn]),
  ([true, true, false, false], [.inl (.aload 0), .inr (0, 6, 29), .inl (.iload 1), .inl .iaload, .inl (.ifCond .ne 2), .inl (.aload 0), .inl (.iconst 5), .inr (5, 1, 0), .inl .ireturn]),
  ([true, true, false, false], [.inl (.aload 0), .inr (0, 6, 30), .inl (.iload 1), .inl .iaload, .inl (.aload 0), .inr (0, 6, 3), .inl (.if_icmp .ge 3), .inl (.aload 0), .inr (0, 6, 30), .inl (.iload 1), .inl .iaload, .inr (7, 4, 0)]),
  ([true, true, false, false], [.inl (.aload 0), .inr (0, 6, 3), .inr (7, 4, 1)]),
  ([true, true, false, false], [.inl (.istore 2), .inl (.iconst 0), .inl (.istore 3), .inr (7, 5, 1)]),
  ([true, true, true, true], [.inl (.iload 3), .inl (.iload 2), .inl (.if_icmp .ge 6), .inl (.aload 0), .inr (0, 6, 5), .inl (.iload 3), .inl (.aload 0), .inl (.aload 0), .inr (0, 6, 31), .inl (.iconst 40), .inl (.iload 1), .inl .imul, .inl (.iload 3), .inl .iadd, .inl .iaload, .inl .i2l, .inr (5, 2, 0), .inl .iastore, .inl (.iinc 3 (1)), .inr (7, 5, 0)]),
  ([false, false, true, false], [.inl (.iload 2), .inl .ireturn])]
def g_6_load : List (Nat × dk_S) := [(1, s_6_isSheet), (2, s_6_finds), (2, s_6_wrapped)]
def s_6_load : dk_S := dk_MV 6 g_6_load b_6_load 4
theorem h_6_load : dk_monoG g_6_load := dk_monoG_cons o_6_isSheet (dk_monoG_cons o_6_finds (dk_monoG_cons o_6_wrapped (dk_monoG_nil)))
theorem o_6_load : dk_mono s_6_load := dk_MV_mono _ h_6_load _ _
def t_6_load : dk_Tm := (tc_6, [(273, 1, 0), (101, 0, 1), (105, 0, 2)], [0, 13, 28, 50, 54, 57, 90], 0)
def y_6_judge : MethodName := ⟨nn_R6, "judge", "(I)I"⟩
def b_6_judge : dk_T := [
  ([true, true, false], [.inl (.iload 1), .inr (5, 0, 1), .inl (.ifCond .ne 1), .inl (.aload 0), .inl (.iconst 0), .inr (5, 1, 0), .inl .ireturn]),
  ([true, true, false], [.inl (.aload 0), .inr (0, 6, 29), .inl (.iload 1), .inl .iaload, .inl (.ifCond .ne 2), .inl (.aload 0), .inl (.iconst 5), .inr (5, 1, 0), .inl .ireturn]),
  ([true, true, false], [.inl (.aload 0), .inr (0, 6, 3), .inl (.ifCond .ne 3), .inl (.aload 0), .inl (.iconst 3), .inr (5, 1, 0), .inl .ireturn]),
  ([true, true, false], [.inl (.aload 0), .inr (5, 2, 0), .inl (.iconst 0), .inl (.istore 2), .inr (7, 4, 1)]),
  ([true, true, true], [.inl (.iload 2), .inl (.aload 0), .inr (0, 6, 30), .inl (.iload 1), .inl .iaload, .inl (.if_icmp .ge 6), .inl (.aload 0), .inr (5, 3, 0), .inl (.aload 0), .inr (0, 6, 31), .inl (.iconst 40), .inl (.iload 1), .inl .imul, .inl (.iload 2), .inl .iadd, .inl .iaload, .inl (.aload 0), .inr (5, 4, 0), .inl (.if_icmp .eq 5), .inl (.iload 2), .inl .ireturn]),
  ([true, true, true], [.inl (.iinc 2 (1)), .inr (7, 4, 0)]),
  ([false, false, false], [.inl (.iconst (-1)), .inl .ireturn])]
def g_6_judge : List (Nat × dk_S) := [(1, s_6_isSheet), (2, s_6_finds), (1, s_6_beginMarch), (1, s_6_goes), (1, s_6_worstNow)]
def s_6_judge : dk_S := dk_MV 6 g_6_judge b_6_judge 3
theorem h_6_judge : dk_monoG g_6_judge := dk_monoG_cons o_6_isSheet (dk_monoG_cons o_6_finds (dk_monoG_cons o_6_beginMarch (dk_monoG_cons o_6_goes (dk_monoG_cons o_6_worstNow (dk_monoG_nil)))))
theorem o_6_judge : dk_mono s_6_judge := dk_MV_mono _ h_6_judge _ _
def t_6_judge : dk_Tm := (tc_6, [(273, 1, 0), (101, 0, 1), (230, 0, 2), (227, 0, 3), (237, 0, 4)], [0, 13, 28, 41, 47, 81, 87], 0)
def y_6_move : MethodName := ⟨nn_R6, "move", "([IIZ)V"⟩
def b_6_move : dk_T := [
  ([true, true, true, true, false], [.inl (.iconst 0), .inl (.istore 4), .inr (7, 1, 1)]),
  ([true, true, true, true, true], [.inl (.iload 4), .inl (.iload 2), .inl (.if_icmp .ge 4), .inl (.iload 3), .inl (.ifCond .eq 2), .inl (.aload 0), .inr (0, 6, 34), .inl (.aload 0), .inr (0, 6, 35), .inl (.aload 1), .inl (.iload 4), .inl .iaload, .inl .iastore, .inr (7, 3, 0)]),
  ([true, true, true, true, true], [.inl (.aload 1), .inl (.iload 4), .inl (.aload 0), .inr (0, 6, 34), .inl (.aload 0), .inr (0, 6, 35), .inl .iaload, .inl .iastore, .inr (7, 3, 1)]),
  ([true, true, true, true, true], [.inl (.aload 0), .inl .dup, .inr (0, 6, 35), .inl (.iconst 1), .inl .iadd, .inr (1, 6, 35), .inl (.iinc 4 (1)), .inr (7, 1, 0)]),
  ([false, false, false, false, false], [.inl .return_])]
def g_6_move : List (Nat × dk_S) := []
def s_6_move : dk_S := dk_MV 6 g_6_move b_6_move 5
theorem h_6_move : dk_monoG g_6_move := dk_monoG_nil
theorem o_6_move : dk_mono s_6_move := dk_MV_mono _ h_6_move _ _
def t_6_move : dk_Tm := (tc_6, [], [0, 3, 29, 42, 58], 2)
def y_6_moveAll : MethodName := ⟨nn_R6, "moveAll", "(Z)V"⟩
def b_6_moveAll : dk_T := [
  ([true, true], [.inl (.aload 0), .inl (.iconst 0), .inr (1, 6, 35), .inl (.aload 0), .inr (0, 6, 36), .inl (.iconst 0), .inl (.aload 0), .inr (0, 6, 3), .inl .iastore, .inl (.aload 0), .inr (0, 6, 36), .inl (.iconst 1), .inl (.aload 0), .inr (0, 6, 6), .inl .iastore, .inl (.aload 0), .inr (0, 6, 36), .inl (.iconst 2), .inl (.aload 0), .inr (0, 6, 8), .inl .iastore, .inl (.aload 0), .inr (0, 6, 36), .inl (.iconst 3), .inl (.aload 0), .inr (0, 6, 10), .inl .iastore, .inl (.aload 0), .inl (.aload 0), .inr (0, 6, 36), .inl (.iconst 4), .inl (.iload 1), .inr (5, 0, 0), .inl (.aload 0), .inl (.aload 0), .inr (0, 6, 0), .inl (.iconst 7), .inl (.iload 1), .inr (5, 0, 0), .inl (.aload 0), .inl (.aload 0), .inr (0, 6, 4), .inl (.iconst 120), .inl (.iload 1), .inr (5, 0, 0), .inl (.aload 0), .inl (.aload 0), .inr (0, 6, 5), .inl (.iconst 24), .inl (.iload 1), .inr (5, 0, 0), .inl (.aload 0), .inl (.aload 0), .inr (0, 6, 7), .inl (.iconst 18), .inl (.iload 1), .inr (5, 0, 0), .inl (.aload 0), .inl (.aload 0), .inr (0, 6, 9), .inl (.iconst 6), .inl (.iload 1), .inr (5, 0, 0), .inl (.aload 0), .inl (.aload 0), .inr (0, 6, 11), .inl (.iconst 10), .inl (.iload 1), .inr (5, 0, 0), .inl .return_])]
def g_6_moveAll : List (Nat × dk_S) := [(4, s_6_move)]
def s_6_moveAll : dk_S := dk_MV 6 g_6_moveAll b_6_moveAll 2
theorem h_6_moveAll : dk_monoG g_6_moveAll := dk_monoG_cons o_6_move (dk_monoG_nil)
theorem o_6_moveAll : dk_mono s_6_moveAll := dk_MV_mono _ h_6_moveAll _ _
def t_6_moveAll : dk_Tm := (tc_6, [(279, 0, 0)], [0], 2)
def y_6_image : MethodName := ⟨nn_R6, "image", "()I"⟩
def b_6_image : dk_T := [
  ([true], [.inl (.aload 0), .inl (.iconst 1), .inr (5, 0, 0), .inl (.aload 0), .inl (.iconst 1), .inr (2, 6, 33), .inl (.iconst 1), .inl .ireturn])]
def g_6_image : List (Nat × dk_S) := [(2, s_6_moveAll)]
def s_6_image : dk_S := dk_MV 6 g_6_image b_6_image 1
theorem h_6_image : dk_monoG g_6_image := dk_monoG_cons o_6_moveAll (dk_monoG_nil)
theorem o_6_image : dk_mono s_6_image := dk_MV_mono _ h_6_image _ _
def t_6_image : dk_Tm := (tc_6, [(283, 0, 0)], [0], 0)
def y_6_undo : MethodName := ⟨nn_R6, "undo", "()I"⟩
def b_6_undo : dk_T := [
  ([true], [.inl (.aload 0), .inr (0, 6, 33), .inl (.ifCond .ne 1), .inl (.aload 0), .inl (.iconst 3), .inr (5, 0, 0), .inl .ireturn]),
  ([true], [.inl (.aload 0), .inl (.iconst 0), .inr (5, 1, 0), .inl (.aload 0), .inl (.aload 0), .inr (0, 6, 36), .inl (.iconst 0), .inl .iaload, .inr (1, 6, 3), .inl (.aload 0), .inl (.aload 0), .inr (0, 6, 36), .inl (.iconst 1), .inl .iaload, .inr (1, 6, 6), .inl (.aload 0), .inl (.aload 0), .inr (0, 6, 36), .inl (.iconst 2), .inl .iaload, .inr (1, 6, 8), .inl (.aload 0), .inl (.aload 0), .inr (0, 6, 36), .inl (.iconst 3), .inl .iaload, .inr (1, 6, 10), .inl (.aload 0), .inr (0, 6, 3), .inl .ireturn])]
def g_6_undo : List (Nat × dk_S) := [(2, s_6_finds), (2, s_6_moveAll)]
def s_6_undo : dk_S := dk_MV 6 g_6_undo b_6_undo 1
theorem h_6_undo : dk_monoG g_6_undo := dk_monoG_cons o_6_finds (dk_monoG_cons o_6_moveAll (dk_monoG_nil))
theorem o_6_undo : dk_mono s_6_undo := dk_MV_mono _ h_6_undo _ _
def t_6_undo : dk_Tm := (tc_6, [(101, 0, 0), (283, 0, 1)], [0, 13], 0)
def y_6_tear : MethodName := ⟨nn_R6, "tear", "()I"⟩
def b_6_tear : dk_T := [
  ([true, false], [.inl (.aload 0), .inr (0, 6, 33), .inl (.ifCond .eq 1), .inl (.iconst 1), .inr (7, 2, 0)]),
  ([true, false], [.inl (.iconst 0), .inr (7, 2, 1)]),
  ([true, false], [.inl (.istore 1), .inl (.aload 0), .inl (.iconst 0), .inr (2, 6, 33), .inl (.iload 1), .inl .ireturn])]
def g_6_tear : List (Nat × dk_S) := []
def s_6_tear : dk_S := dk_MV 6 g_6_tear b_6_tear 2
theorem h_6_tear : dk_monoG g_6_tear := dk_monoG_nil
theorem o_6_tear : dk_mono s_6_tear := dk_MV_mono _ h_6_tear _ _
def t_6_tear : dk_Tm := (tc_6, [], [0, 11, 12], 0)
def y_6_count : MethodName := ⟨nn_R6, "count", "(I)I"⟩
def b_6_count : dk_T := [
  ([true, true, false, false], [.inl (.iconst 0), .inl (.istore 2), .inl (.iload 1), .inl (.tableswitch 11 0 5 #[1, 2, 3, 4, 5, 6])]),
  ([true, false, false, false], [.inl (.aload 0), .inr (0, 6, 3), .inl .ireturn]),
  ([true, false, false, false], [.inl (.aload 0), .inr (0, 6, 6), .inl .ireturn]),
  ([true, false, false, false], [.inl (.aload 0), .inr (0, 6, 8), .inl .ireturn]),
  ([true, false, false, false], [.inl (.aload 0), .inr (0, 6, 14), .inl .ireturn]),
  ([true, false, false, false], [.inl (.aload 0), .inr (0, 6, 10), .inl .ireturn]),
  ([true, false, true, false], [.inl (.iconst 0), .inl (.istore 3), .inr (7, 7, 1)]),
  ([true, false, true, true], [.inl (.iload 3), .inl (.iconst 10), .inl (.if_icmp .ge 10), .inl (.iload 2), .inl (.aload 0), .inr (0, 6, 11), .inl (.iload 3), .inl .iaload, .inl (.ifCond .lt 8), .inl (.iconst 1), .inr (7, 9, 0)]),
  ([true, false, false, true], [.inl (.iconst 0), .inr (7, 9, 1)]),
  ([true, false, false, true], [.inl .iadd, .inl (.istore 2), .inl (.iinc 3 (1)), .inr (7, 7, 0)]),
  ([false, false, true, false], [.inl (.iload 2), .inl .ireturn]),
  ([true, false, false, false], [.inl (.aload 0), .inl (.iconst 0), .inr (5, 0, 0), .inl .ireturn])]
def g_6_count : List (Nat × dk_S) := [(2, s_6_finds)]
def s_6_count : dk_S := dk_MV 6 g_6_count b_6_count 4
theorem h_6_count : dk_monoG g_6_count := dk_monoG_cons o_6_finds (dk_monoG_nil)
theorem o_6_count : dk_mono s_6_count := dk_MV_mono _ h_6_count _ _
def t_6_count : dk_Tm := (tc_6, [(101, 0, 0)], [0, 40, 45, 50, 55, 60, 65, 67, 87, 88, 96, 98], 0)
def y_6_status : MethodName := ⟨nn_R6, "status", "(I)I"⟩
def b_6_status : dk_T := [
  ([true, true, false, false], [.inl (.iload 1), .inl (.iconst (-1)), .inl (.iconst 6), .inr (5, 0, 1), .inl (.ifCond .ne 1), .inl (.aload 0), .inl (.iconst 0), .inr (5, 1, 0), .inl .ireturn]),
  ([true, true, false, false], [.inl (.iconst 0), .inl (.istore 2), .inl (.iconst 0), .inl (.istore 3), .inr (7, 2, 1)]),
  ([true, true, true, true], [.inl (.iload 3), .inl (.iconst 7), .inl (.if_icmp .ge 6), .inl (.iload 2), .inl (.iload 1), .inl (.ifCond .lt 3), .inl (.iload 3), .inl (.iload 1), .inl (.if_icmp .ne 4), .inr (7, 3, 1)]),
  ([true, true, false, true], [.inl (.aload 0), .inr (0, 6, 12), .inl (.iload 3), .inl .iaload, .inr (7, 5, 0)]),
  ([true, true, false, true], [.inl (.iconst 0), .inr (7, 5, 1)]),
  ([true, true, false, true], [.inl .iadd, .inl (.istore 2), .inl (.iinc 3 (1)), .inr (7, 2, 0)]),
  ([false, false, true, false], [.inl (.iload 2), .inl .ireturn])]
def g_6_status : List (Nat × dk_S) := [(3, s_6_in), (2, s_6_finds)]
def s_6_status : dk_S := dk_MV 6 g_6_status b_6_status 4
theorem h_6_status : dk_monoG g_6_status := dk_monoG_cons o_6_in (dk_monoG_cons o_6_finds (dk_monoG_nil))
theorem o_6_status : dk_mono s_6_status := dk_MV_mono _ h_6_status _ _
def t_6_status : dk_Tm := (tc_6, [(88, 1, 0), (101, 0, 1)], [0, 16, 20, 36, 45, 46, 54], 0)
