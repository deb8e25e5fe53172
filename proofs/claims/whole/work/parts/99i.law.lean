/-! THE LAW: its loop as blocks -/
def b_law : dk_T := [
  ([true, true, true, true], [.inl (.iload 3), .inl (.aload 0), .inl .arraylength, .inl (.iconst 6), .inl .isub, .inl (.if_icmp .gt 86), .inl (.aload 0), .inl (.iload 3), .inl .iaload, .inl (.iconst 63), .inl .iand, .inl (.tableswitch 85 0 41 #[1, 3, 5, 7, 9, 11, 13, 15, 17, 19, 21, 23, 25, 27, 29, 31, 33, 35, 37, 39, 41, 43, 45, 47, 49, 51, 53, 55, 57, 59, 61, 63, 65, 67, 69, 71, 73, 75, 77, 79, 81, 83])]),
  ([true, true, true, true], [.inl (.aload 1), .inl (.aload 0), .inl (.iload 3), .inl (.iconst 1), .inl .iadd, .inl .iaload, .inl (.aload 0), .inl (.iload 3), .inl (.iconst 2), .inl .iadd, .inl .iaload, .inr (5, 0, 0), .inr (7, 2, 1)]),
  ([true, true, true, true], [.inl (.aload 2), .inl (.aload 0), .inl (.iload 3), .inl (.iconst 1), .inl .iadd, .inl .iaload, .inl (.aload 0), .inl (.iload 3), .inl (.iconst 2), .inl .iadd, .inl .iaload, .inr (5, 1, 0), .inl (.if_icmp .eq 85), .inl (.iconst 0), .inl .lreturn]),
  ([true, true, true, true], [.inl (.aload 1), .inl (.aload 0), .inl (.iload 3), .inl (.iconst 1), .inl .iadd, .inl .iaload, .inl (.aload 0), .inl (.iload 3), .inl (.iconst 2), .inl .iadd, .inl .iaload, .inr (5, 2, 0), .inr (7, 4, 1)]),
  ([true, true, true, true], [.inl (.aload 2), .inl (.aload 0), .inl (.iload 3), .inl (.iconst 1), .inl .iadd, .inl .iaload, .inl (.aload 0), .inl (.iload 3), .inl (.iconst 2), .inl .iadd, .inl .iaload, .inr (5, 3, 0), .inl (.if_icmp .eq 85), .inl (.iconst 0), .inl .lreturn]),
  ([true, true, true, true], [.inl (.aload 1), .inr (5, 4, 0), .inr (7, 6, 1)]),
  ([true, true, true, true], [.inl (.aload 2), .inr (5, 5, 0), .inl (.if_icmp .eq 85), .inl (.iconst 0), .inl .lreturn]),
  ([true, true, true, true], [.inl (.aload 1), .inr (5, 6, 0), .inr (7, 8, 1)]),
  ([true, true, true, true], [.inl (.aload 2), .inr (5, 7, 0), .inl (.if_icmp .eq 85), .inl (.iconst 0), .inl .lreturn]),
  ([true, true, true, true], [.inl (.aload 1), .inl (.aload 0), .inl (.iload 3), .inl (.iconst 1), .inl .iadd, .inl .iaload, .inl (.aload 0), .inl (.iload 3), .inl (.iconst 2), .inl .iadd, .inl .iaload, .inr (5, 8, 0), .inr (7, 10, 1)]),
  ([true, true, true, true], [.inl (.aload 2), .inl (.aload 0), .inl (.iload 3), .inl (.iconst 1), .inl .iadd, .inl .iaload, .inl (.aload 0), .inl (.iload 3), .inl (.iconst 2), .inl .iadd, .inl .iaload, .inr (5, 9, 0), .inl (.if_icmp .eq 85), .inl (.iconst 0), .inl .lreturn]),
  ([true, true, true, true], [.inl (.aload 1), .inl (.aload 0), .inl (.iload 3), .inl (.iconst 1), .inl .iadd, .inl .iaload, .inl (.aload 0), .inl (.iload 3), .inl (.iconst 2), .inl .iadd, .inl .iaload, .inl (.aload 0), .inl (.iload 3), .inl (.iconst 3), .inl .iadd, .inl .iaload, .inr (5, 10, 0), .inr (7, 12, 1)]),
  ([true, true, true, true], [.inl (.aload 2), .inl (.aload 0), .inl (.iload 3), .inl (.iconst 1), .inl .iadd, .inl .iaload, .inl (.aload 0), .inl (.iload 3), .inl (.iconst 2), .inl .iadd, .inl .iaload, .inl (.aload 0), .inl (.iload 3), .inl (.iconst 3), .inl .iadd, .inl .iaload, .inr (5, 11, 0), .inl (.if_icmp .eq 85), .inl (.iconst 0), .inl .lreturn]),
  ([true, true, true, true], [.inl (.aload 1), .inl (.aload 0), .inl (.iload 3), .inl (.iconst 1), .inl .iadd, .inl .iaload, .inl (.aload 0), .inl (.iload 3), .inl (.iconst 2), .inl .iadd, .inl .iaload, .inl (.aload 0), .inl (.iload 3), .inl (.iconst 3), .inl .iadd, .inl .iaload, .inr (5, 12, 0), .inr (7, 14, 1)]),
  ([true, true, true, true], [.inl (.aload 2), .inl (.aload 0), .inl (.iload 3), .inl (.iconst 1), .inl .iadd, .inl .iaload, .inl (.aload 0), .inl (.iload 3), .inl (.iconst 2), .inl .iadd, .inl .iaload, .inl (.aload 0), .inl (.iload 3), .inl (.iconst 3), .inl .iadd, .inl .iaload, .inr (5, 13, 0), .inl (.if_icmp .eq 85), .inl (.iconst 0), .inl .lreturn]),
  ([true, true, true, true], [.inl (.aload 1), .inl (.aload 0), .inl (.iload 3), .inl (.iconst 1), .inl .iadd, .inl .iaload, .inl (.aload 0), .inl (.iload 3), .inl (.iconst 2), .inl .iadd, .inl .iaload, .inr (5, 14, 0), .inr (7, 16, 1)]),
  ([true, true, true, true], [.inl (.aload 2), .inl (.aload 0), .inl (.iload 3), .inl (.iconst 1), .inl .iadd, .inl .iaload, .inl (.aload 0), .inl (.iload 3), .inl (.iconst 2), .inl .iadd, .inl .iaload, .inr (5, 15, 0), .inl (.if_icmp .eq 85), .inl (.iconst 0), .inl .lreturn]),
  ([true, true, true, true], [.inl (.aload 1), .inl (.aload 0), .inl (.iload 3), .inl (.iconst 1), .inl .iadd, .inl .iaload, .inl (.aload 0), .inl (.iload 3), .inl (.iconst 2), .inl .iadd, .inl .iaload, .inr (5, 16, 0), .inr (7, 18, 1)]),
  ([true, true, true, true], [.inl (.aload 2), .inl (.aload 0), .inl (.iload 3), .inl (.iconst 1), .inl .iadd, .inl .iaload, .inl (.aload 0), .inl (.iload 3), .inl (.iconst 2), .inl .iadd, .inl .iaload, .inr (5, 17, 0), .inl (.if_icmp .eq 85), .inl (.iconst 0), .inl .lreturn]),
  ([true, true, true, true], [.inl (.aload 1), .inl (.aload 0), .inl (.iload 3), .inl (.iconst 1), .inl .iadd, .inl .iaload, .inr (5, 18, 0), .inr (7, 20, 1)]),
  ([true, true, true, true], [.inl (.aload 2), .inl (.aload 0), .inl (.iload 3), .inl (.iconst 1), .inl .iadd, .inl .iaload, .inr (5, 19, 0), .inl (.if_icmp .eq 85), .inl (.iconst 0), .inl .lreturn]),
  ([true, true, true, true], [.inl (.aload 1), .inl (.aload 0), .inl (.iload 3), .inl (.iconst 1), .inl .iadd, .inl .iaload, .inl (.aload 0), .inl (.iload 3), .inl (.iconst 2), .inl .iadd, .inl .iaload, .inr (5, 20, 0), .inr (7, 22, 1)]),
  ([true, true, true, true], [.inl (.aload 2), .inl (.aload 0), .inl (.iload 3), .inl (.iconst 1), .inl .iadd, .inl .iaload, .inl (.aload 0), .inl (.iload 3), .inl (.iconst 2), .inl .iadd, .inl .iaload, .inr (5, 21, 0), .inl (.if_icmp .eq 85), .inl (.iconst 0), .inl .lreturn]),
  ([true, true, true, true], [.inl (.aload 1), .inl (.aload 0), .inl (.iload 3), .inl (.iconst 1), .inl .iadd, .inl .iaload, .inr (5, 22, 0), .inr (7, 24, 1)]),
  ([true, true, true, true], [.inl (.aload 2), .inl (.aload 0), .inl (.iload 3), .inl (.iconst 1), .inl .iadd, .inl .iaload, .inr (5, 23, 0), .inl (.if_icmp .eq 85), .inl (.iconst 0), .inl .lreturn]),
  ([true, true, true, true], [.inl (.aload 1), .inl (.aload 0), .inl (.iload 3), .inl (.iconst 1), .inl .iadd, .inl .iaload, .inl (.aload 0), .inl (.iload 3), .inl (.iconst 2), .inl .iadd, .inl .iaload, .inr (5, 24, 0), .inr (7, 26, 1)]),
  ([true, true, true, true], [.inl (.aload 2), .inl (.aload 0), .inl (.iload 3), .inl (.iconst 1), .inl .iadd, .inl .iaload, .inl (.aload 0), .inl (.iload 3), .inl (.iconst 2), .inl .iadd, .inl .iaload, .inr (5, 25, 0), .inl (.if_icmp .eq 85), .inl (.iconst 0), .inl .lreturn]),
  ([true, true, true, true], [.inl (.aload 1), .inl (.aload 0), .inl (.iload 3), .inl (.iconst 1), .inl .iadd, .inl .iaload, .inr (5, 26, 0), .inr (7, 28, 1)]),
  ([true, true, true, true], [.inl (.aload 2), .inl (.aload 0), .inl (.iload 3), .inl (.iconst 1), .inl .iadd, .inl .iaload, .inr (5, 27, 0), .inl (.if_icmp .eq 85), .inl (.iconst 0), .inl .lreturn]),
  ([true, true, true, true], [.inl (.aload 1), .inl (.aload 0), .inl (.iload 3), .inl (.iconst 1), .inl .iadd, .inl .iaload, .inl (.aload 0), .inl (.iload 3), .inl (.iconst 2), .inl .iadd, .inl .iaload, .inr (5, 28, 0), .inr (7, 30, 1)]),
  ([true, true, true, true], [.inl (.aload 2), .inl (.aload 0), .inl (.iload 3), .inl (.iconst 1), .inl .iadd, .inl .iaload, .inl (.aload 0), .inl (.iload 3), .inl (.iconst 2), .inl .iadd, .inl .iaload, .inr (5, 29, 0), .inl (.if_icmp .eq 85), .inl (.iconst 0), .inl .lreturn]),
  ([true, true, true, true], [.inl (.aload 1), .inr (5, 30, 0), .inr (7, 32, 1)]),
  ([true, true, true, true], [.inl (.aload 2), .inr (5, 31, 0), .inl (.if_icmp .eq 85), .inl (.iconst 0), .inl .lreturn]),
  ([true, true, true, true], [.inl (.aload 1), .inl (.aload 0), .inl (.iload 3), .inl (.iconst 1), .inl .iadd, .inl .iaload, .inr (5, 32, 0), .inr (7, 34, 1)]),
  ([true, true, true, true], [.inl (.aload 2), .inl (.aload 0), .inl (.iload 3), .inl (.iconst 1), .inl .iadd, .inl .iaload, .inr (5, 33, 0), .inl (.if_icmp .eq 85), .inl (.iconst 0), .inl .lreturn]),
  ([true, true, true, true], [.inl (.aload 1), .inl (.aload 0), .inl (.iload 3), .inl (.iconst 1), .inl .iadd, .inl .iaload, .inr (5, 34, 0), .inr (7, 36, 1)]),
  ([true, true, true, true], [.inl (.aload 2), .inl (.aload 0), .inl (.iload 3), .inl (.iconst 1), .inl .iadd, .inl .iaload, .inr (5, 35, 0), .inl (.if_icmp .eq 85), .inl (.iconst 0), .inl .lreturn]),
  ([true, true, true, true], [.inl (.aload 1), .inl (.aload 0), .inl (.iload 3), .inl (.iconst 1), .inl .iadd, .inl .iaload, .inl (.aload 0), .inl (.iload 3), .inl (.iconst 2), .inl .iadd, .inl .iaload, .inr (5, 36, 0), .inr (7, 38, 1)]),
  ([true, true, true, true], [.inl (.aload 2), .inl (.aload 0), .inl (.iload 3), .inl (.iconst 1), .inl .iadd, .inl .iaload, .inl (.aload 0), .inl (.iload 3), .inl (.iconst 2), .inl .iadd, .inl .iaload, .inr (5, 37, 0), .inl (.if_icmp .eq 85), .inl (.iconst 0), .inl .lreturn]),
  ([true, true, true, true], [.inl (.aload 1), .inl (.aload 0), .inl (.iload 3), .inl (.iconst 1), .inl .iadd, .inl .iaload, .inl (.aload 0), .inl (.iload 3), .inl (.iconst 2), .inl .iadd, .inl .iaload, .inl (.aload 0), .inl (.iload 3), .inl (.iconst 3), .inl .iadd, .inl .iaload, .inr (5, 38, 0), .inr (7, 40, 1)]),
  ([true, true, true, true], [.inl (.aload 2), .inl (.aload 0), .inl (.iload 3), .inl (.iconst 1), .inl .iadd, .inl .iaload, .inl (.aload 0), .inl (.iload 3), .inl (.iconst 2), .inl .iadd, .inl .iaload, .inl (.aload 0), .inl (.iload 3), .inl (.iconst 3), .inl .iadd, .inl .iaload, .inr (5, 39, 0), .inl (.if_icmp .eq 85), .inl (.iconst 0), .inl .lreturn]),
  ([true, true, true, true], [.inl (.aload 1), .inl (.aload 0), .inl (.iload 3), .inl (.iconst 1), .inl .iadd, .inl .iaload, .inl (.aload 0), .inl (.iload 3), .inl (.iconst 2), .inl .iadd, .inl .iaload, .inl (.aload 0), .inl (.iload 3), .inl (.iconst 3), .inl .iadd, .inl .iaload, .inl (.aload 0), .inl (.iload 3), .inl (.iconst 4), .inl .iadd, .inl .iaload, .inr (5, 40, 0), .inr (7, 42, 1)]),
  ([true, true, true, true], [.inl (.aload 2), .inl (.aload 0), .inl (.iload 3), .inl (.iconst 1), .inl .iadd, .inl .iaload, .inl (.aload 0), .inl (.iload 3), .inl (.iconst 2), .inl .iadd, .inl .iaload, .inl (.aload 0), .inl (.iload 3), .inl (.iconst 3), .inl .iadd, .inl .iaload, .inl (.aload 0), .inl (.iload 3), .inl (.iconst 4), .inl .iadd, .inl .iaload, .inr (5, 41, 0), .inl (.if_icmp .eq 85), .inl (.iconst 0), .inl .lreturn]),
  ([true, true, true, true], [.inl (.aload 1), .inl (.aload 0), .inl (.iload 3), .inl (.iconst 1), .inl .iadd, .inl .iaload, .inr (5, 42, 0), .inr (7, 44, 1)]),
  ([true, true, true, true], [.inl (.aload 2), .inl (.aload 0), .inl (.iload 3), .inl (.iconst 1), .inl .iadd, .inl .iaload, .inr (5, 43, 0), .inl (.if_icmp .eq 85), .inl (.iconst 0), .inl .lreturn]),
  ([true, true, true, true], [.inl (.aload 1), .inl (.aload 0), .inl (.iload 3), .inl (.iconst 1), .inl .iadd, .inl .iaload, .inl (.aload 0), .inl (.iload 3), .inl (.iconst 2), .inl .iadd, .inl .iaload, .inl (.aload 0), .inl (.iload 3), .inl (.iconst 3), .inl .iadd, .inl .iaload, .inl (.aload 0), .inl (.iload 3), .inl (.iconst 4), .inl .iadd, .inl .iaload, .inr (5, 44, 0), .inr (7, 46, 1)]),
  ([true, true, true, true], [.inl (.aload 2), .inl (.aload 0), .inl (.iload 3), .inl (.iconst 1), .inl .iadd, .inl .iaload, .inl (.aload 0), .inl (.iload 3), .inl (.iconst 2), .inl .iadd, .inl .iaload, .inl (.aload 0), .inl (.iload 3), .inl (.iconst 3), .inl .iadd, .inl .iaload, .inl (.aload 0), .inl (.iload 3), .inl (.iconst 4), .inl .iadd, .inl .iaload, .inr (5, 45, 0), .inl (.if_icmp .eq 85), .inl (.iconst 0), .inl .lreturn]),
  ([true, true, true, true], [.inl (.aload 1), .inl (.aload 0), .inl (.iload 3), .inl (.iconst 1), .inl .iadd, .inl .iaload, .inl (.aload 0), .inl (.iload 3), .inl (.iconst 2), .inl .iadd, .inl .iaload, .inl (.aload 0), .inl (.iload 3), .inl (.iconst 3), .inl .iadd, .inl .iaload, .inl (.aload 0), .inl (.iload 3), .inl (.iconst 4), .inl .iadd, .inl .iaload, .inr (5, 46, 0), .inr (7, 48, 1)]),
  ([true, true, true, true], [.inl (.aload 2), .inl (.aload 0), .inl (.iload 3), .inl (.iconst 1), .inl .iadd, .inl .iaload, .inl (.aload 0), .inl (.iload 3), .inl (.iconst 2), .inl .iadd, .inl .iaload, .inl (.aload 0), .inl (.iload 3), .inl (.iconst 3), .inl .iadd, .inl .iaload, .inl (.aload 0), .inl (.iload 3), .inl (.iconst 4), .inl .iadd, .inl .iaload, .inr (5, 47, 0), .inl (.if_icmp .eq 85), .inl (.iconst 0), .inl .lreturn]),
  ([true, true, true, true], [.inl (.aload 1), .inl (.aload 0), .inl (.iload 3), .inl (.iconst 1), .inl .iadd, .inl .iaload, .inl (.aload 0), .inl (.iload 3), .inl (.iconst 2), .inl .iadd, .inl .iaload, .inr (5, 48, 0), .inr (7, 50, 1)]),
  ([true, true, true, true], [.inl (.aload 2), .inl (.aload 0), .inl (.iload 3), .inl (.iconst 1), .inl .iadd, .inl .iaload, .inl (.aload 0), .inl (.iload 3), .inl (.iconst 2), .inl .iadd, .inl .iaload, .inr (5, 49, 0), .inl (.if_icmp .eq 85), .inl (.iconst 0), .inl .lreturn]),
  ([true, true, true, true], [.inl (.aload 1), .inl (.aload 0), .inl (.iload 3), .inl (.iconst 1), .inl .iadd, .inl .iaload, .inr (5, 50, 0), .inr (7, 52, 1)]),
  ([true, true, true, true], [.inl (.aload 2), .inl (.aload 0), .inl (.iload 3), .inl (.iconst 1), .inl .iadd, .inl .iaload, .inr (5, 51, 0), .inl (.if_icmp .eq 85), .inl (.iconst 0), .inl .lreturn]),
  ([true, true, true, true], [.inl (.aload 1), .inl (.aload 0), .inl (.iload 3), .inl (.iconst 1), .inl .iadd, .inl .iaload, .inl (.aload 0), .inl (.iload 3), .inl (.iconst 2), .inl .iadd, .inl .iaload, .inl (.aload 0), .inl (.iload 3), .inl (.iconst 3), .inl .iadd, .inl .iaload, .inl (.aload 0), .inl (.iload 3), .inl (.iconst 4), .inl .iadd, .inl .iaload, .inr (5, 52, 0), .inr (7, 54, 1)]),
  ([true, true, true, true], [.inl (.aload 2), .inl (.aload 0), .inl (.iload 3), .inl (.iconst 1), .inl .iadd, .inl .iaload, .inl (.aload 0), .inl (.iload 3), .inl (.iconst 2), .inl .iadd, .inl .iaload, .inl (.aload 0), .inl (.iload 3), .inl (.iconst 3), .inl .iadd, .inl .iaload, .inl (.aload 0), .inl (.iload 3), .inl (.iconst 4), .inl .iadd, .inl .iaload, .inr (5, 53, 0), .inl (.if_icmp .eq 85), .inl (.iconst 0), .inl .lreturn]),
  ([true, true, true, true], [.inl (.aload 1), .inl (.aload 0), .inl (.iload 3), .inl (.iconst 1), .inl .iadd, .inl .iaload, .inl (.aload 0), .inl (.iload 3), .inl (.iconst 2), .inl .iadd, .inl .iaload, .inl (.aload 0), .inl (.iload 3), .inl (.iconst 3), .inl .iadd, .inl .iaload, .inl (.aload 0), .inl (.iload 3), .inl (.iconst 4), .inl .iadd, .inl .iaload, .inr (5, 54, 0), .inr (7, 56, 1)]),
  ([true, true, true, true], [.inl (.aload 2), .inl (.aload 0), .inl (.iload 3), .inl (.iconst 1), .inl .iadd, .inl .iaload, .inl (.aload 0), .inl (.iload 3), .inl (.iconst 2), .inl .iadd, .inl .iaload, .inl (.aload 0), .inl (.iload 3), .inl (.iconst 3), .inl .iadd, .inl .iaload, .inl (.aload 0), .inl (.iload 3), .inl (.iconst 4), .inl .iadd, .inl .iaload, .inr (5, 55, 0), .inl (.if_icmp .eq 85), .inl (.iconst 0), .inl .lreturn]),
  ([true, true, true, true], [.inl (.aload 1), .inl (.aload 0), .inl (.iload 3), .inl (.iconst 1), .inl .iadd, .inl .iaload, .inr (5, 56, 0), .inr (7, 58, 1)]),
  ([true, true, true, true], [.inl (.aload 2), .inl (.aload 0), .inl (.iload 3), .inl (.iconst 1), .inl .iadd, .inl .iaload, .inr (5, 57, 0), .inl (.if_icmp .eq 85), .inl (.iconst 0), .inl .lreturn]),
  ([true, true, true, true], [.inl (.aload 1), .inl (.aload 0), .inl (.iload 3), .inl (.iconst 1), .inl .iadd, .inl .iaload, .inr (5, 58, 0), .inr (7, 60, 1)]),
  ([true, true, true, true], [.inl (.aload 2), .inl (.aload 0), .inl (.iload 3), .inl (.iconst 1), .inl .iadd, .inl .iaload, .inr (5, 59, 0), .inl (.if_icmp .eq 85), .inl (.iconst 0), .inl .lreturn]),
  ([true, true, true, true], [.inl (.aload 1), .inl (.aload 0), .inl (.iload 3), .inl (.iconst 1), .inl .iadd, .inl .iaload, .inl (.aload 0), .inl (.iload 3), .inl (.iconst 2), .inl .iadd, .inl .iaload, .inr (5, 60, 0), .inr (7, 62, 1)]),
  ([true, true, true, true], [.inl (.aload 2), .inl (.aload 0), .inl (.iload 3), .inl (.iconst 1), .inl .iadd, .inl .iaload, .inl (.aload 0), .inl (.iload 3), .inl (.iconst 2), .inl .iadd, .inl .iaload, .inr (5, 61, 0), .inl (.if_icmp .eq 85), .inl (.iconst 0), .inl .lreturn]),
  ([true, true, true, true], [.inl (.aload 1), .inl (.aload 0), .inl (.iload 3), .inl (.iconst 1), .inl .iadd, .inl .iaload, .inl (.aload 0), .inl (.iload 3), .inl (.iconst 2), .inl .iadd, .inl .iaload, .inr (5, 62, 0), .inr (7, 64, 1)]),
  ([true, true, true, true], [.inl (.aload 2), .inl (.aload 0), .inl (.iload 3), .inl (.iconst 1), .inl .iadd, .inl .iaload, .inl (.aload 0), .inl (.iload 3), .inl (.iconst 2), .inl .iadd, .inl .iaload, .inr (5, 63, 0), .inl (.if_icmp .eq 85), .inl (.iconst 0), .inl .lreturn]),
  ([true, true, true, true], [.inl (.aload 1), .inl (.aload 0), .inl (.iload 3), .inl (.iconst 1), .inl .iadd, .inl .iaload, .inl (.aload 0), .inl (.iload 3), .inl (.iconst 2), .inl .iadd, .inl .iaload, .inl (.aload 0), .inl (.iload 3), .inl (.iconst 3), .inl .iadd, .inl .iaload, .inr (5, 64, 0), .inr (7, 66, 1)]),
  ([true, true, true, true], [.inl (.aload 2), .inl (.aload 0), .inl (.iload 3), .inl (.iconst 1), .inl .iadd, .inl .iaload, .inl (.aload 0), .inl (.iload 3), .inl (.iconst 2), .inl .iadd, .inl .iaload, .inl (.aload 0), .inl (.iload 3), .inl (.iconst 3), .inl .iadd, .inl .iaload, .inr (5, 65, 0), .inl (.if_icmp .eq 85), .inl (.iconst 0), .inl .lreturn]),
  ([true, true, true, true], [.inl (.aload 1), .inl (.aload 0), .inl (.iload 3), .inl (.iconst 1), .inl .iadd, .inl .iaload, .inl (.aload 0), .inl (.iload 3), .inl (.iconst 2), .inl .iadd, .inl .iaload, .inl (.aload 0), .inl (.iload 3), .inl (.iconst 3), .inl .iadd, .inl .iaload, .inr (5, 66, 0), .inr (7, 68, 1)]),
  ([true, true, true, true], [.inl (.aload 2), .inl (.aload 0), .inl (.iload 3), .inl (.iconst 1), .inl .iadd, .inl .iaload, .inl (.aload 0), .inl (.iload 3), .inl (.iconst 2), .inl .iadd, .inl .iaload, .inl (.aload 0), .inl (.iload 3), .inl (.iconst 3), .inl .iadd, .inl .iaload, .inr (5, 67, 0), .inl (.if_icmp .eq 85), .inl (.iconst 0), .inl .lreturn]),
  ([true, true, true, true], [.inl (.aload 1), .inl (.aload 0), .inl (.iload 3), .inl (.iconst 1), .inl .iadd, .inl .iaload, .inl (.aload 0), .inl (.iload 3), .inl (.iconst 2), .inl .iadd, .inl .iaload, .inl (.aload 0), .inl (.iload 3), .inl (.iconst 3), .inl .iadd, .inl .iaload, .inl (.aload 0), .inl (.iload 3), .inl (.iconst 4), .inl .iadd, .inl .iaload, .inl (.aload 0), .inl (.iload 3), .inl (.iconst 5), .inl .iadd, .inl .iaload, .inr (5, 68, 0), .inr (7, 70, 1)]),
  ([true, true, true, true], [.inl (.aload 2), .inl (.aload 0), .inl (.iload 3), .inl (.iconst 1), .inl .iadd, .inl .iaload, .inl (.aload 0), .inl (.iload 3), .inl (.iconst 2), .inl .iadd, .inl .iaload, .inl (.aload 0), .inl (.iload 3), .inl (.iconst 3), .inl .iadd, .inl .iaload, .inl (.aload 0), .inl (.iload 3), .inl (.iconst 4), .inl .iadd, .inl .iaload, .inl (.aload 0), .inl (.iload 3), .inl (.iconst 5), .inl .iadd, .inl .iaload, .inr (5, 69, 0), .inl (.if_icmp .eq 85), .inl (.iconst 0), .inl .lreturn]),
  ([true, true, true, true], [.inl (.aload 1), .inl (.aload 0), .inl (.iload 3), .inl (.iconst 1), .inl .iadd, .inl .iaload, .inr (5, 70, 0), .inr (7, 72, 1)]),
  ([true, true, true, true], [.inl (.aload 2), .inl (.aload 0), .inl (.iload 3), .inl (.iconst 1), .inl .iadd, .inl .iaload, .inr (5, 71, 0), .inl (.if_icmp .eq 85), .inl (.iconst 0), .inl .lreturn]),
  ([true, true, true, true], [.inl (.aload 1), .inl (.aload 0), .inl (.iload 3), .inl (.iconst 1), .inl .iadd, .inl .iaload, .inr (5, 72, 0), .inr (7, 74, 1)]),
  ([true, true, true, true], [.inl (.aload 2), .inl (.aload 0), .inl (.iload 3), .inl (.iconst 1), .inl .iadd, .inl .iaload, .inr (5, 73, 0), .inl (.if_icmp .eq 85), .inl (.iconst 0), .inl .lreturn]),
  ([true, true, true, true], [.inl (.aload 1), .inr (5, 74, 0), .inr (7, 76, 1)]),
  ([true, true, true, true], [.inl (.aload 2), .inr (5, 75, 0), .inl (.if_icmp .eq 85), .inl (.iconst 0), .inl .lreturn]),
  ([true, true, true, true], [.inl (.aload 1), .inr (5, 76, 0), .inr (7, 78, 1)]),
  ([true, true, true, true], [.inl (.aload 2), .inr (5, 77, 0), .inl (.if_icmp .eq 85), .inl (.iconst 0), .inl .lreturn]),
  ([true, true, true, true], [.inl (.aload 1), .inr (5, 78, 0), .inr (7, 80, 1)]),
  ([true, true, true, true], [.inl (.aload 2), .inr (5, 79, 0), .inl (.if_icmp .eq 85), .inl (.iconst 0), .inl .lreturn]),
  ([true, true, true, true], [.inl (.aload 1), .inl (.aload 0), .inl (.iload 3), .inl (.iconst 1), .inl .iadd, .inl .iaload, .inr (5, 80, 0), .inr (7, 82, 1)]),
  ([true, true, true, true], [.inl (.aload 2), .inl (.aload 0), .inl (.iload 3), .inl (.iconst 1), .inl .iadd, .inl .iaload, .inr (5, 81, 0), .inl (.if_icmp .eq 85), .inl (.iconst 0), .inl .lreturn]),
  ([true, true, true, true], [.inl (.aload 1), .inl (.aload 0), .inl (.iload 3), .inl (.iconst 1), .inl .iadd, .inl .iaload, .inr (5, 82, 0), .inr (7, 84, 1)]),
  ([true, true, true, true], [.inl (.aload 2), .inl (.aload 0), .inl (.iload 3), .inl (.iconst 1), .inl .iadd, .inl .iaload, .inr (5, 83, 0), .inl (.if_icmp .eq 85), .inl (.iconst 0), .inl .lreturn]),
  ([true, true, true, true], [.inl (.iinc 3 (6)), .inr (7, 0, 0)]),
  ([true, true, true, true], [.inl (.iconst 1), .inl .lreturn])]
def g_law : List (Nat × dk_S) := [(3, s_5_rule), (3, s_6_rule), (3, s_5_feed), (3, s_6_feed), (1, s_5_wipe), (1, s_6_wipe), (1, s_5_column), (1, s_6_column), (3, s_5_rankOf), (3, s_6_rankOf), (4, s_5_change), (4, s_6_change), (4, s_5_drum), (4, s_6_drum), (3, s_5_drumOf), (3, s_6_drumOf), (3, s_5_carry), (3, s_6_carry), (2, s_5_bend), (2, s_6_bend), (3, s_5_lag), (3, s_6_lag), (2, s_5_tread), (2, s_6_tread), (3, s_5_march), (3, s_6_march), (2, s_5_worst), (2, s_6_worst), (3, s_5_right), (3, s_6_right), (1, s_5_settles), (1, s_6_settles), (2, s_5_round), (2, s_6_round), (2, s_5_better), (2, s_6_better), (3, s_5_place), (3, s_6_place), (4, s_5_both), (4, s_6_both), (5, s_5_two), (5, s_6_two), (2, s_5_opposite), (2, s_6_opposite), (5, s_5_edges), (5, s_6_edges), (5, s_5_slip), (5, s_6_slip), (3, s_5_begin), (3, s_6_begin), (2, s_5_apart), (2, s_6_apart), (5, s_5_bridge), (5, s_6_bridge), (5, s_5_broken), (5, s_6_broken), (2, s_5_seed), (2, s_6_seed), (2, s_5_shake), (2, s_6_shake), (3, s_5_hold), (3, s_6_hold), (3, s_5_as), (3, s_6_as), (4, s_5_sheet), (4, s_6_sheet), (4, s_5_write), (4, s_6_write), (6, s_5_copy), (6, s_6_copy), (2, s_5_load), (2, s_6_load), (2, s_5_judge), (2, s_6_judge), (1, s_5_image), (1, s_6_image), (1, s_5_undo), (1, s_6_undo), (1, s_5_tear), (1, s_6_tear), (2, s_5_count), (2, s_6_count), (2, s_5_status), (2, s_6_status)]
theorem h_law : dk_monoG g_law := dk_monoG_cons o_5_rule (dk_monoG_cons o_6_rule (dk_monoG_cons o_5_feed (dk_monoG_cons o_6_feed (dk_monoG_cons o_5_wipe (dk_monoG_cons o_6_wipe (dk_monoG_cons o_5_column (dk_monoG_cons o_6_column (dk_monoG_cons o_5_rankOf (dk_monoG_cons o_6_rankOf (dk_monoG_cons o_5_change (dk_monoG_cons o_6_change (dk_monoG_cons o_5_drum (dk_monoG_cons o_6_drum (dk_monoG_cons o_5_drumOf (dk_monoG_cons o_6_drumOf (dk_monoG_cons o_5_carry (dk_monoG_cons o_6_carry (dk_monoG_cons o_5_bend (dk_monoG_cons o_6_bend (dk_monoG_cons o_5_lag (dk_monoG_cons o_6_lag (dk_monoG_cons o_5_tread (dk_monoG_cons o_6_tread (dk_monoG_cons o_5_march (dk_monoG_cons o_6_march (dk_monoG_cons o_5_worst (dk_monoG_cons o_6_worst (dk_monoG_cons o_5_right (dk_monoG_cons o_6_right (dk_monoG_cons o_5_settles (dk_monoG_cons o_6_settles (dk_monoG_cons o_5_round (dk_monoG_cons o_6_round (dk_monoG_cons o_5_better (dk_monoG_cons o_6_better (dk_monoG_cons o_5_place (dk_monoG_cons o_6_place (dk_monoG_cons o_5_both (dk_monoG_cons o_6_both (dk_monoG_cons o_5_two (dk_monoG_cons o_6_two (dk_monoG_cons o_5_opposite (dk_monoG_cons o_6_opposite (dk_monoG_cons o_5_edges (dk_monoG_cons o_6_edges (dk_monoG_cons o_5_slip (dk_monoG_cons o_6_slip (dk_monoG_cons o_5_begin (dk_monoG_cons o_6_begin (dk_monoG_cons o_5_apart (dk_monoG_cons o_6_apart (dk_monoG_cons o_5_bridge (dk_monoG_cons o_6_bridge (dk_monoG_cons o_5_broken (dk_monoG_cons o_6_broken (dk_monoG_cons o_5_seed (dk_monoG_cons o_6_seed (dk_monoG_cons o_5_shake (dk_monoG_cons o_6_shake (dk_monoG_cons o_5_hold (dk_monoG_cons o_6_hold (dk_monoG_cons o_5_as (dk_monoG_cons o_6_as (dk_monoG_cons o_5_sheet (dk_monoG_cons o_6_sheet (dk_monoG_cons o_5_write (dk_monoG_cons o_6_write (dk_monoG_cons o_5_copy (dk_monoG_cons o_6_copy (dk_monoG_cons o_5_load (dk_monoG_cons o_6_load (dk_monoG_cons o_5_judge (dk_monoG_cons o_6_judge (dk_monoG_cons o_5_image (dk_monoG_cons o_6_image (dk_monoG_cons o_5_undo (dk_monoG_cons o_6_undo (dk_monoG_cons o_5_tear (dk_monoG_cons o_6_tear (dk_monoG_cons o_5_count (dk_monoG_cons o_6_count (dk_monoG_cons o_5_status (dk_monoG_cons o_6_status (dk_monoG_nil))))))))))))))))))))))))))))))))))))))))))))))))))))))))))))))))))))))))))))))))))))
def t_law : dk_Tm := (tc_n, [(13, 0, 0), (17, 0, 1), (18, 0, 2), (21, 0, 3), (22, 0, 4), (26, 0, 5), (27, 0, 6), (30, 0, 7), (31, 0, 8), (34, 0, 9), (35, 0, 10), (39, 0, 11), (40, 0, 12), (43, 0, 13), (44, 0, 14), (47, 0, 15), (48, 0, 16), (51, 0, 17), (52, 0, 18), (56, 0, 19), (57, 0, 20), (60, 0, 21), (61, 0, 22), (64, 0, 23), (65, 0, 24), (68, 0, 25), (69, 0, 26), (72, 0, 27), (73, 0, 28), (76, 0, 29), (77, 0, 30), (80, 0, 31), (81, 0, 32), (84, 0, 33), (85, 0, 34), (88, 0, 35), (89, 0, 36), (92, 0, 37), (93, 0, 38), (96, 0, 39), (97, 0, 40), (101, 0, 41), (102, 0, 42), (105, 0, 43), (106, 0, 44), (109, 0, 45), (110, 0, 46), (113, 0, 47), (114, 0, 48), (117, 0, 49), (118, 0, 50), (121, 0, 51), (122, 0, 52), (125, 0, 53), (126, 0, 54), (129, 0, 55), (130, 0, 56), (133, 0, 57), (134, 0, 58), (137, 0, 59), (138, 0, 60), (141, 0, 61), (142, 0, 62), (145, 0, 63), (146, 0, 64), (149, 0, 65), (150, 0, 66), (153, 0, 67), (154, 0, 68), (158, 0, 69), (159, 0, 70), (162, 0, 71), (163, 0, 72), (166, 0, 73), (167, 0, 74), (170, 0, 75), (171, 0, 76), (174, 0, 77), (175, 0, 78), (178, 0, 79), (179, 0, 80), (182, 0, 81), (183, 0, 82), (186, 0, 83)], [18, 216, 230, 249, 263, 282, 286, 295, 299, 308, 322, 341, 360, 384, 403, 427, 441, 460, 474, 493, 502, 516, 530, 549, 558, 572, 586, 605, 614, 628, 642, 661, 665, 674, 683, 697, 706, 720, 734, 753, 772, 796, 820, 849, 858, 872, 896, 925, 949, 978, 992, 1011, 1020, 1034, 1058, 1087, 1111, 1140, 1149, 1163, 1172, 1186, 1200, 1219, 1233, 1252, 1271, 1295, 1314, 1338, 1367, 1401, 1410, 1424, 1433, 1447, 1451, 1460, 1464, 1473, 1477, 1486, 1495, 1509, 1518, 1532, 1538], 1)
theorem dk_ckT_cons {T : dk_Tm} {cc : ByteArray} {nL pc : Nat} {pcs : List Nat} {mk1 : List Bool} {is : List dk_N} {tb : dk_T} (h1 : mk1.length = nL) (h2 : dk_ck T cc pc is = true) (h3 : dk_ckT T cc nL pcs tb = true) : dk_ckT T cc nL (pc :: pcs) ((mk1, is) :: tb) = true := by
  simp only [dk_ckT, h1, h2, h3, decide_true, Bool.and_self]
theorem kl_0 : dk_ck t_law code 18 [.inl (.iload 3), .inl (.aload 0), .inl .arraylength, .inl (.iconst 6), .inl .isub, .inl (.if_icmp .gt 86), .inl (.aload 0), .inl (.iload 3), .inl .iaload, .inl (.iconst 63), .inl .iand, .inl (.tableswitch 85 0 41 #[1, 3, 5, 7, 9, 11, 13, 15, 17, 19, 21, 23, 25, 27, 29, 31, 33, 35, 37, 39, 41, 43, 45, 47, 49, 51, 53, 55, 57, 59, 61, 63, 65, 67, 69, 71, 73, 75, 77, 79, 81, 83])] = true := by decide +kernel
theorem kl_1 : dk_ck t_law code 216 [.inl (.aload 1), .inl (.aload 0), .inl (.iload 3), .inl (.iconst 1), .inl .iadd, .inl .iaload, .inl (.aload 0), .inl (.iload 3), .inl (.iconst 2), .inl .iadd, .inl .iaload, .inr (5, 0, 0), .inr (7, 2, 1)] = true := by decide +kernel
theorem kl_2 : dk_ck t_law code 230 [.inl (.aload 2), .inl (.aload 0), .inl (.iload 3), .inl (.iconst 1), .inl .iadd, .inl .iaload, .inl (.aload 0), .inl (.iload 3), .inl (.iconst 2), .inl .iadd, .inl .iaload, .inr (5, 1, 0), .inl (.if_icmp .eq 85), .inl (.iconst 0), .inl .lreturn] = true := by decide +kernel
theorem kl_3 : dk_ck t_law code 249 [.inl (.aload 1), .inl (.aload 0), .inl (.iload 3), .inl (.iconst 1), .inl .iadd, .inl .iaload, .inl (.aload 0), .inl (.iload 3), .inl (.iconst 2), .inl .iadd, .inl .iaload, .inr (5, 2, 0), .inr (7, 4, 1)] = true := by decide +kernel
theorem kl_4 : dk_ck t_law code 263 [.inl (.aload 2), .inl (.aload 0), .inl (.iload 3), .inl (.iconst 1), .inl .iadd, .inl .iaload, .inl (.aload 0), .inl (.iload 3), .inl (.iconst 2), .inl .iadd, .inl .iaload, .inr (5, 3, 0), .inl (.if_icmp .eq 85), .inl (.iconst 0), .inl .lreturn] = true := by decide +kernel
theorem kl_5 : dk_ck t_law code 282 [.inl (.aload 1), .inr (5, 4, 0), .inr (7, 6, 1)] = true := by decide +kernel
theorem kl_6 : dk_ck t_law code 286 [.inl (.aload 2), .inr (5, 5, 0), .inl (.if_icmp .eq 85), .inl (.iconst 0), .inl .lreturn] = true := by decide +kernel
theorem kl_7 : dk_ck t_law code 295 [.inl (.aload 1), .inr (5, 6, 0), .inr (7, 8, 1)] = true := by decide +kernel
theorem kl_8 : dk_ck t_law code 299 [.inl (.aload 2), .inr (5, 7, 0), .inl (.if_icmp .eq 85), .inl (.iconst 0), .inl .lreturn] = true := by decide +kernel
theorem kl_9 : dk_ck t_law code 308 [.inl (.aload 1), .inl (.aload 0), .inl (.iload 3), .inl (.iconst 1), .inl .iadd, .inl .iaload, .inl (.aload 0), .inl (.iload 3), .inl (.iconst 2), .inl .iadd, .inl .iaload, .inr (5, 8, 0), .inr (7, 10, 1)] = true := by decide +kernel
theorem kl_10 : dk_ck t_law code 322 [.inl (.aload 2), .inl (.aload 0), .inl (.iload 3), .inl (.iconst 1), .inl .iadd, .inl .iaload, .inl (.aload 0), .inl (.iload 3), .inl (.iconst 2), .inl .iadd, .inl .iaload, .inr (5, 9, 0), .inl (.if_icmp .eq 85), .inl (.iconst 0), .inl .lreturn] = true := by decide +kernel
theorem kl_11 : dk_ck t_law code 341 [.inl (.aload 1), .inl (.aload 0), .inl (.iload 3), .inl (.iconst 1), .inl .iadd, .inl .iaload, .inl (.aload 0), .inl (.iload 3), .inl (.iconst 2), .inl .iadd, .inl .iaload, .inl (.aload 0), .inl (.iload 3), .inl (.iconst 3), .inl .iadd, .inl .iaload, .inr (5, 10, 0), .inr (7, 12, 1)] = true := by decide +kernel
theorem kl_12 : dk_ck t_law code 360 [.inl (.aload 2), .inl (.aload 0), .inl (.iload 3), .inl (.iconst 1), .inl .iadd, .inl .iaload, .inl (.aload 0), .inl (.iload 3), .inl (.iconst 2), .inl .iadd, .inl .iaload, .inl (.aload 0), .inl (.iload 3), .inl (.iconst 3), .inl .iadd, .inl .iaload, .inr (5, 11, 0), .inl (.if_icmp .eq 85), .inl (.iconst 0), .inl .lreturn] = true := by decide +kernel
theorem kl_13 : dk_ck t_law code 384 [.inl (.aload 1), .inl (.aload 0), .inl (.iload 3), .inl (.iconst 1), .inl .iadd, .inl .iaload, .inl (.aload 0), .inl (.iload 3), .inl (.iconst 2), .inl .iadd, .inl .iaload, .inl (.aload 0), .inl (.iload 3), .inl (.iconst 3), .inl .iadd, .inl .iaload, .inr (5, 12, 0), .inr (7, 14, 1)] = true := by decide +kernel
theorem kl_14 : dk_ck t_law code 403 [.inl (.aload 2), .inl (.aload 0), .inl (.iload 3), .inl (.iconst 1), .inl .iadd, .inl .iaload, .inl (.aload 0), .inl (.iload 3), .inl (.iconst 2), .inl .iadd, .inl .iaload, .inl (.aload 0), .inl (.iload 3), .inl (.iconst 3), .inl .iadd, .inl .iaload, .inr (5, 13, 0), .inl (.if_icmp .eq 85), .inl (.iconst 0), .inl .lreturn] = true := by decide +kernel
theorem kl_15 : dk_ck t_law code 427 [.inl (.aload 1), .inl (.aload 0), .inl (.iload 3), .inl (.iconst 1), .inl .iadd, .inl .iaload, .inl (.aload 0), .inl (.iload 3), .inl (.iconst 2), .inl .iadd, .inl .iaload, .inr (5, 14, 0), .inr (7, 16, 1)] = true := by decide +kernel
theorem kl_16 : dk_ck t_law code 441 [.inl (.aload 2), .inl (.aload 0), .inl (.iload 3), .inl (.iconst 1), .inl .iadd, .inl .iaload, .inl (.aload 0), .inl (.iload 3), .inl (.iconst 2), .inl .iadd, .inl .iaload, .inr (5, 15, 0), .inl (.if_icmp .eq 85), .inl (.iconst 0), .inl .lreturn] = true := by decide +kernel
theorem kl_17 : dk_ck t_law code 460 [.inl (.aload 1), .inl (.aload 0), .inl (.iload 3), .inl (.iconst 1), .inl .iadd, .inl .iaload, .inl (.aload 0), .inl (.iload 3), .inl (.iconst 2), .inl .iadd, .inl .iaload, .inr (5, 16, 0), .inr (7, 18, 1)] = true := by decide +kernel
theorem kl_18 : dk_ck t_law code 474 [.inl (.aload 2), .inl (.aload 0), .inl (.iload 3), .inl (.iconst 1), .inl .iadd, .inl .iaload, .inl (.aload 0), .inl (.iload 3), .inl (.iconst 2), .inl .iadd, .inl .iaload, .inr (5, 17, 0), .inl (.if_icmp .eq 85), .inl (.iconst 0), .inl .lreturn] = true := by decide +kernel
theorem kl_19 : dk_ck t_law code 493 [.inl (.aload 1), .inl (.aload 0), .inl (.iload 3), .inl (.iconst 1), .inl .iadd, .inl .iaload, .inr (5, 18, 0), .inr (7, 20, 1)] = true := by decide +kernel
theorem kl_20 : dk_ck t_law code 502 [.inl (.aload 2), .inl (.aload 0), .inl (.iload 3), .inl (.iconst 1), .inl .iadd, .inl .iaload, .inr (5, 19, 0), .inl (.if_icmp .eq 85), .inl (.iconst 0), .inl .lreturn] = true := by decide +kernel
theorem kl_21 : dk_ck t_law code 516 [.inl (.aload 1), .inl (.aload 0), .inl (.iload 3), .inl (.iconst 1), .inl .iadd, .inl .iaload, .inl (.aload 0), .inl (.iload 3), .inl (.iconst 2), .inl .iadd, .inl .iaload, .inr (5, 20, 0), .inr (7, 22, 1)] = true := by decide +kernel
theorem kl_22 : dk_ck t_law code 530 [.inl (.aload 2), .inl (.aload 0), .inl (.iload 3), .inl (.iconst 1), .inl .iadd, .inl .iaload, .inl (.aload 0), .inl (.iload 3), .inl (.iconst 2), .inl .iadd, .inl .iaload, .inr (5, 21, 0), .inl (.if_icmp .eq 85), .inl (.iconst 0), .inl .lreturn] = true := by decide +kernel
theorem kl_23 : dk_ck t_law code 549 [.inl (.aload 1), .inl (.aload 0), .inl (.iload 3), .inl (.iconst 1), .inl .iadd, .inl .iaload, .inr (5, 22, 0), .inr (7, 24, 1)] = true := by decide +kernel
theorem kl_24 : dk_ck t_law code 558 [.inl (.aload 2), .inl (.aload 0), .inl (.iload 3), .inl (.iconst 1), .inl .iadd, .inl .iaload, .inr (5, 23, 0), .inl (.if_icmp .eq 85), .inl (.iconst 0), .inl .lreturn] = true := by decide +kernel
theorem kl_25 : dk_ck t_law code 572 [.inl (.aload 1), .inl (.aload 0), .inl (.iload 3), .inl (.iconst 1), .inl .iadd, .inl .iaload, .inl (.aload 0), .inl (.iload 3), .inl (.iconst 2), .inl .iadd, .inl .iaload, .inr (5, 24, 0), .inr (7, 26, 1)] = true := by decide +kernel
theorem kl_26 : dk_ck t_law code 586 [.inl (.aload 2), .inl (.aload 0), .inl (.iload 3), .inl (.iconst 1), .inl .iadd, .inl .iaload, .inl (.aload 0), .inl (.iload 3), .inl (.iconst 2), .inl .iadd, .inl .iaload, .inr (5, 25, 0), .inl (.if_icmp .eq 85), .inl (.iconst 0), .inl .lreturn] = true := by decide +kernel
theorem kl_27 : dk_ck t_law code 605 [.inl (.aload 1), .inl (.aload 0), .inl (.iload 3), .inl (.iconst 1), .inl .iadd, .inl .iaload, .inr (5, 26, 0), .inr (7, 28, 1)] = true := by decide +kernel
theorem kl_28 : dk_ck t_law code 614 [.inl (.aload 2), .inl (.aload 0), .inl (.iload 3), .inl (.iconst 1), .inl .iadd, .inl .iaload, .inr (5, 27, 0), .inl (.if_icmp .eq 85), .inl (.iconst 0), .inl .lreturn] = true := by decide +kernel
theorem kl_29 : dk_ck t_law code 628 [.inl (.aload 1), .inl (.aload 0), .inl (.iload 3), .inl (.iconst 1), .inl .iadd, .inl .iaload, .inl (.aload 0), .inl (.iload 3), .inl (.iconst 2), .inl .iadd, .inl .iaload, .inr (5, 28, 0), .inr (7, 30, 1)] = true := by decide +kernel
theorem kl_30 : dk_ck t_law code 642 [.inl (.aload 2), .inl (.aload 0), .inl (.iload 3), .inl (.iconst 1), .inl .iadd, .inl .iaload, .inl (.aload 0), .inl (.iload 3), .inl (.iconst 2), .inl .iadd, .inl .iaload, .inr (5, 29, 0), .inl (.if_icmp .eq 85), .inl (.iconst 0), .inl .lreturn] = true := by decide +kernel
theorem kl_31 : dk_ck t_law code 661 [.inl (.aload 1), .inr (5, 30, 0), .inr (7, 32, 1)] = true := by decide +kernel
theorem kl_32 : dk_ck t_law code 665 [.inl (.aload 2), .inr (5, 31, 0), .inl (.if_icmp .eq 85), .inl (.iconst 0), .inl .lreturn] = true := by decide +kernel
theorem kl_33 : dk_ck t_law code 674 [.inl (.aload 1), .inl (.aload 0), .inl (.iload 3), .inl (.iconst 1), .inl .iadd, .inl .iaload, .inr (5, 32, 0), .inr (7, 34, 1)] = true := by decide +kernel
theorem kl_34 : dk_ck t_law code 683 [.inl (.aload 2), .inl (.aload 0), .inl (.iload 3), .inl (.iconst 1), .inl .iadd, .inl .iaload, .inr (5, 33, 0), .inl (.if_icmp .eq 85), .inl (.iconst 0), .inl .lreturn] = true := by decide +kernel
theorem kl_35 : dk_ck t_law code 697 [.inl (.aload 1), .inl (.aload 0), .inl (.iload 3), .inl (.iconst 1), .inl .iadd, .inl .iaload, .inr (5, 34, 0), .inr (7, 36, 1)] = true := by decide +kernel
theorem kl_36 : dk_ck t_law code 706 [.inl (.aload 2), .inl (.aload 0), .inl (.iload 3), .inl (.iconst 1), .inl .iadd, .inl .iaload, .inr (5, 35, 0), .inl (.if_icmp .eq 85), .inl (.iconst 0), .inl .lreturn] = true := by decide +kernel
theorem kl_37 : dk_ck t_law code 720 [.inl (.aload 1), .inl (.aload 0), .inl (.iload 3), .inl (.iconst 1), .inl .iadd, .inl .iaload, .inl (.aload 0), .inl (.iload 3), .inl (.iconst 2), .inl .iadd, .inl .iaload, .inr (5, 36, 0), .inr (7, 38, 1)] = true := by decide +kernel
theorem kl_38 : dk_ck t_law code 734 [.inl (.aload 2), .inl (.aload 0), .inl (.iload 3), .inl (.iconst 1), .inl .iadd, .inl .iaload, .inl (.aload 0), .inl (.iload 3), .inl (.iconst 2), .inl .iadd, .inl .iaload, .inr (5, 37, 0), .inl (.if_icmp .eq 85), .inl (.iconst 0), .inl .lreturn] = true := by decide +kernel
theorem kl_39 : dk_ck t_law code 753 [.inl (.aload 1), .inl (.aload 0), .inl (.iload 3), .inl (.iconst 1), .inl .iadd, .inl .iaload, .inl (.aload 0), .inl (.iload 3), .inl (.iconst 2), .inl .iadd, .inl .iaload, .inl (.aload 0), .inl (.iload 3), .inl (.iconst 3), .inl .iadd, .inl .iaload, .inr (5, 38, 0), .inr (7, 40, 1)] = true := by decide +kernel
theorem kl_40 : dk_ck t_law code 772 [.inl (.aload 2), .inl (.aload 0), .inl (.iload 3), .inl (.iconst 1), .inl .iadd, .inl .iaload, .inl (.aload 0), .inl (.iload 3), .inl (.iconst 2), .inl .iadd, .inl .iaload, .inl (.aload 0), .inl (.iload 3), .inl (.iconst 3), .inl .iadd, .inl .iaload, .inr (5, 39, 0), .inl (.if_icmp .eq 85), .inl (.iconst 0), .inl .lreturn] = true := by decide +kernel
theorem kl_41 : dk_ck t_law code 796 [.inl (.aload 1), .inl (.aload 0), .inl (.iload 3), .inl (.iconst 1), .inl .iadd, .inl .iaload, .inl (.aload 0), .inl (.iload 3), .inl (.iconst 2), .inl .iadd, .inl .iaload, .inl (.aload 0), .inl (.iload 3), .inl (.iconst 3), .inl .iadd, .inl .iaload, .inl (.aload 0), .inl (.iload 3), .inl (.iconst 4), .inl .iadd, .inl .iaload, .inr (5, 40, 0), .inr (7, 42, 1)] = true := by decide +kernel
theorem kl_42 : dk_ck t_law code 820 [.inl (.aload 2), .inl (.aload 0), .inl (.iload 3), .inl (.iconst 1), .inl .iadd, .inl .iaload, .inl (.aload 0), .inl (.iload 3), .inl (.iconst 2), .inl .iadd, .inl .iaload, .inl (.aload 0), .inl (.iload 3), .inl (.iconst 3), .inl .iadd, .inl .iaload, .inl (.aload 0), .inl (.iload 3), .inl (.iconst 4), .inl .iadd, .inl .iaload, .inr (5, 41, 0), .inl (.if_icmp .eq 85), .inl (.iconst 0), .inl .lreturn] = true := by decide +kernel
theorem kl_43 : dk_ck t_law code 849 [.inl (.aload 1), .inl (.aload 0), .inl (.iload 3), .inl (.iconst 1), .inl .iadd, .inl .iaload, .inr (5, 42, 0), .inr (7, 44, 1)] = true := by decide +kernel
theorem kl_44 : dk_ck t_law code 858 [.inl (.aload 2), .inl (.aload 0), .inl (.iload 3), .inl (.iconst 1), .inl .iadd, .inl .iaload, .inr (5, 43, 0), .inl (.if_icmp .eq 85), .inl (.iconst 0), .inl .lreturn] = true := by decide +kernel
theorem kl_45 : dk_ck t_law code 872 [.inl (.aload 1), .inl (.aload 0), .inl (.iload 3), .inl (.iconst 1), .inl .iadd, .inl .iaload, .inl (.aload 0), .inl (.iload 3), .inl (.iconst 2), .inl .iadd, .inl .iaload, .inl (.aload 0), .inl (.iload 3), .inl (.iconst 3), .inl .iadd, .inl .iaload, .inl (.aload 0), .inl (.iload 3), .inl (.iconst 4), .inl .iadd, .inl .iaload, .inr (5, 44, 0), .inr (7, 46, 1)] = true := by decide +kernel
theorem kl_46 : dk_ck t_law code 896 [.inl (.aload 2), .inl (.aload 0), .inl (.iload 3), .inl (.iconst 1), .inl .iadd, .inl .iaload, .inl (.aload 0), .inl (.iload 3), .inl (.iconst 2), .inl .iadd, .inl .iaload, .inl (.aload 0), .inl (.iload 3), .inl (.iconst 3), .inl .iadd, .inl .iaload, .inl (.aload 0), .inl (.iload 3), .inl (.iconst 4), .inl .iadd, .inl .iaload, .inr (5, 45, 0), .inl (.if_icmp .eq 85), .inl (.iconst 0), .inl .lreturn] = true := by decide +kernel
theorem kl_47 : dk_ck t_law code 925 [.inl (.aload 1), .inl (.aload 0), .inl (.iload 3), .inl (.iconst 1), .inl .iadd, .inl .iaload, .inl (.aload 0), .inl (.iload 3), .inl (.iconst 2), .inl .iadd, .inl .iaload, .inl (.aload 0), .inl (.iload 3), .inl (.iconst 3), .inl .iadd, .inl .iaload, .inl (.aload 0), .inl (.iload 3), .inl (.iconst 4), .inl .iadd, .inl .iaload, .inr (5, 46, 0), .inr (7, 48, 1)] = true := by decide +kernel
theorem kl_48 : dk_ck t_law code 949 [.inl (.aload 2), .inl (.aload 0), .inl (.iload 3), .inl (.iconst 1), .inl .iadd, .inl .iaload, .inl (.aload 0), .inl (.iload 3), .inl (.iconst 2), .inl .iadd, .inl .iaload, .inl (.aload 0), .inl (.iload 3), .inl (.iconst 3), .inl .iadd, .inl .iaload, .inl (.aload 0), .inl (.iload 3), .inl (.iconst 4), .inl .iadd, .inl .iaload, .inr (5, 47, 0), .inl (.if_icmp .eq 85), .inl (.iconst 0), .inl .lreturn] = true := by decide +kernel
theorem kl_49 : dk_ck t_law code 978 [.inl (.aload 1), .inl (.aload 0), .inl (.iload 3), .inl (.iconst 1), .inl .iadd, .inl .iaload, .inl (.aload 0), .inl (.iload 3), .inl (.iconst 2), .inl .iadd, .inl .iaload, .inr (5, 48, 0), .inr (7, 50, 1)] = true := by decide +kernel
theorem kl_50 : dk_ck t_law code 992 [.inl (.aload 2), .inl (.aload 0), .inl (.iload 3), .inl (.iconst 1), .inl .iadd, .inl .iaload, .inl (.aload 0), .inl (.iload 3), .inl (.iconst 2), .inl .iadd, .inl .iaload, .inr (5, 49, 0), .inl (.if_icmp .eq 85), .inl (.iconst 0), .inl .lreturn] = true := by decide +kernel
theorem kl_51 : dk_ck t_law code 1011 [.inl (.aload 1), .inl (.aload 0), .inl (.iload 3), .inl (.iconst 1), .inl .iadd, .inl .iaload, .inr (5, 50, 0), .inr (7, 52, 1)] = true := by decide +kernel
theorem kl_52 : dk_ck t_law code 1020 [.inl (.aload 2), .inl (.aload 0), .inl (.iload 3), .inl (.iconst 1), .inl .iadd, .inl .iaload, .inr (5, 51, 0), .inl (.if_icmp .eq 85), .inl (.iconst 0), .inl .lreturn] = true := by decide +kernel
theorem kl_53 : dk_ck t_law code 1034 [.inl (.aload 1), .inl (.aload 0), .inl (.iload 3), .inl (.iconst 1), .inl .iadd, .inl .iaload, .inl (.aload 0), .inl (.iload 3), .inl (.iconst 2), .inl .iadd, .inl .iaload, .inl (.aload 0), .inl (.iload 3), .inl (.iconst 3), .inl .iadd, .inl .iaload, .inl (.aload 0), .inl (.iload 3), .inl (.iconst 4), .inl .iadd, .inl .iaload, .inr (5, 52, 0), .inr (7, 54, 1)] = true := by decide +kernel
theorem kl_54 : dk_ck t_law code 1058 [.inl (.aload 2), .inl (.aload 0), .inl (.iload 3), .inl (.iconst 1), .inl .iadd, .inl .iaload, .inl (.aload 0), .inl (.iload 3), .inl (.iconst 2), .inl .iadd, .inl .iaload, .inl (.aload 0), .inl (.iload 3), .inl (.iconst 3), .inl .iadd, .inl .iaload, .inl (.aload 0), .inl (.iload 3), .inl (.iconst 4), .inl .iadd, .inl .iaload, .inr (5, 53, 0), .inl (.if_icmp .eq 85), .inl (.iconst 0), .inl .lreturn] = true := by decide +kernel
theorem kl_55 : dk_ck t_law code 1087 [.inl (.aload 1), .inl (.aload 0), .inl (.iload 3), .inl (.iconst 1), .inl .iadd, .inl .iaload, .inl (.aload 0), .inl (.iload 3), .inl (.iconst 2), .inl .iadd, .inl .iaload, .inl (.aload 0), .inl (.iload 3), .inl (.iconst 3), .inl .iadd, .inl .iaload, .inl (.aload 0), .inl (.iload 3), .inl (.iconst 4), .inl .iadd, .inl .iaload, .inr (5, 54, 0), .inr (7, 56, 1)] = true := by decide +kernel
theorem kl_56 : dk_ck t_law code 1111 [.inl (.aload 2), .inl (.aload 0), .inl (.iload 3), .inl (.iconst 1), .inl .iadd, .inl .iaload, .inl (.aload 0), .inl (.iload 3), .inl (.iconst 2), .inl .iadd, .inl .iaload, .inl (.aload 0), .inl (.iload 3), .inl (.iconst 3), .inl .iadd, .inl .iaload, .inl (.aload 0), .inl (.iload 3), .inl (.iconst 4), .inl .iadd, .inl .iaload, .inr (5, 55, 0), .inl (.if_icmp .eq 85), .inl (.iconst 0), .inl .lreturn] = true := by decide +kernel
theorem kl_57 : dk_ck t_law code 1140 [.inl (.aload 1), .inl (.aload 0), .inl (.iload 3), .inl (.iconst 1), .inl .iadd, .inl .iaload, .inr (5, 56, 0), .inr (7, 58, 1)] = true := by decide +kernel
theorem kl_58 : dk_ck t_law code 1149 [.inl (.aload 2), .inl (.aload 0), .inl (.iload 3), .inl (.iconst 1), .inl .iadd, .inl .iaload, .inr (5, 57, 0), .inl (.if_icmp .eq 85), .inl (.iconst 0), .inl .lreturn] = true := by decide +kernel
theorem kl_59 : dk_ck t_law code 1163 [.inl (.aload 1), .inl (.aload 0), .inl (.iload 3), .inl (.iconst 1), .inl .iadd, .inl .iaload, .inr (5, 58, 0), .inr (7, 60, 1)] = true := by decide +kernel
theorem kl_60 : dk_ck t_law code 1172 [.inl (.aload 2), .inl (.aload 0), .inl (.iload 3), .inl (.iconst 1), .inl .iadd, .inl .iaload, .inr (5, 59, 0), .inl (.if_icmp .eq 85), .inl (.iconst 0), .inl .lreturn] = true := by decide +kernel
theorem kl_61 : dk_ck t_law code 1186 [.inl (.aload 1), .inl (.aload 0), .inl (.iload 3), .inl (.iconst 1), .inl .iadd, .inl .iaload, .inl (.aload 0), .inl (.iload 3), .inl (.iconst 2), .inl .iadd, .inl .iaload, .inr (5, 60, 0), .inr (7, 62, 1)] = true := by decide +kernel
theorem kl_62 : dk_ck t_law code 1200 [.inl (.aload 2), .inl (.aload 0), .inl (.iload 3), .inl (.iconst 1), .inl .iadd, .inl .iaload, .inl (.aload 0), .inl (.iload 3), .inl (.iconst 2), .inl .iadd, .inl .iaload, .inr (5, 61, 0), .inl (.if_icmp .eq 85), .inl (.iconst 0), .inl .lreturn] = true := by decide +kernel
theorem kl_63 : dk_ck t_law code 1219 [.inl (.aload 1), .inl (.aload 0), .inl (.iload 3), .inl (.iconst 1), .inl .iadd, .inl .iaload, .inl (.aload 0), .inl (.iload 3), .inl (.iconst 2), .inl .iadd, .inl .iaload, .inr (5, 62, 0), .inr (7, 64, 1)] = true := by decide +kernel
theorem kl_64 : dk_ck t_law code 1233 [.inl (.aload 2), .inl (.aload 0), .inl (.iload 3), .inl (.iconst 1), .inl .iadd, .inl .iaload, .inl (.aload 0), .inl (.iload 3), .inl (.iconst 2), .inl .iadd, .inl .iaload, .inr (5, 63, 0), .inl (.if_icmp .eq 85), .inl (.iconst 0), .inl .lreturn] = true := by decide +kernel
theorem kl_65 : dk_ck t_law code 1252 [.inl (.aload 1), .inl (.aload 0), .inl (.iload 3), .inl (.iconst 1), .inl .iadd, .inl .iaload, .inl (.aload 0), .inl (.iload 3), .inl (.iconst 2), .inl .iadd, .inl .iaload, .inl (.aload 0), .inl (.iload 3), .inl (.iconst 3), .inl .iadd, .inl .iaload, .inr (5, 64, 0), .inr (7, 66, 1)] = true := by decide +kernel
theorem kl_66 : dk_ck t_law code 1271 [.inl (.aload 2), .inl (.aload 0), .inl (.iload 3), .inl (.iconst 1), .inl .iadd, .inl .iaload, .inl (.aload 0), .inl (.iload 3), .inl (.iconst 2), .inl .iadd, .inl .iaload, .inl (.aload 0), .inl (.iload 3), .inl (.iconst 3), .inl .iadd, .inl .iaload, .inr (5, 65, 0), .inl (.if_icmp .eq 85), .inl (.iconst 0), .inl .lreturn] = true := by decide +kernel
theorem kl_67 : dk_ck t_law code 1295 [.inl (.aload 1), .inl (.aload 0), .inl (.iload 3), .inl (.iconst 1), .inl .iadd, .inl .iaload, .inl (.aload 0), .inl (.iload 3), .inl (.iconst 2), .inl .iadd, .inl .iaload, .inl (.aload 0), .inl (.iload 3), .inl (.iconst 3), .inl .iadd, .inl .iaload, .inr (5, 66, 0), .inr (7, 68, 1)] = true := by decide +kernel
theorem kl_68 : dk_ck t_law code 1314 [.inl (.aload 2), .inl (.aload 0), .inl (.iload 3), .inl (.iconst 1), .inl .iadd, .inl .iaload, .inl (.aload 0), .inl (.iload 3), .inl (.iconst 2), .inl .iadd, .inl .iaload, .inl (.aload 0), .inl (.iload 3), .inl (.iconst 3), .inl .iadd, .inl .iaload, .inr (5, 67, 0), .inl (.if_icmp .eq 85), .inl (.iconst 0), .inl .lreturn] = true := by decide +kernel
theorem kl_69 : dk_ck t_law code 1338 [.inl (.aload 1), .inl (.aload 0), .inl (.iload 3), .inl (.iconst 1), .inl .iadd, .inl .iaload, .inl (.aload 0), .inl (.iload 3), .inl (.iconst 2), .inl .iadd, .inl .iaload, .inl (.aload 0), .inl (.iload 3), .inl (.iconst 3), .inl .iadd, .inl .iaload, .inl (.aload 0), .inl (.iload 3), .inl (.iconst 4), .inl .iadd, .inl .iaload, .inl (.aload 0), .inl (.iload 3), .inl (.iconst 5), .inl .iadd, .inl .iaload, .inr (5, 68, 0), .inr (7, 70, 1)] = true := by decide +kernel
theorem kl_70 : dk_ck t_law code 1367 [.inl (.aload 2), .inl (.aload 0), .inl (.iload 3), .inl (.iconst 1), .inl .iadd, .inl .iaload, .inl (.aload 0), .inl (.iload 3), .inl (.iconst 2), .inl .iadd, .inl .iaload, .inl (.aload 0), .inl (.iload 3), .inl (.iconst 3), .inl .iadd, .inl .iaload, .inl (.aload 0), .inl (.iload 3), .inl (.iconst 4), .inl .iadd, .inl .iaload, .inl (.aload 0), .inl (.iload 3), .inl (.iconst 5), .inl .iadd, .inl .iaload, .inr (5, 69, 0), .inl (.if_icmp .eq 85), .inl (.iconst 0), .inl .lreturn] = true := by decide +kernel
theorem kl_71 : dk_ck t_law code 1401 [.inl (.aload 1), .inl (.aload 0), .inl (.iload 3), .inl (.iconst 1), .inl .iadd, .inl .iaload, .inr (5, 70, 0), .inr (7, 72, 1)] = true := by decide +kernel
theorem kl_72 : dk_ck t_law code 1410 [.inl (.aload 2), .inl (.aload 0), .inl (.iload 3), .inl (.iconst 1), .inl .iadd, .inl .iaload, .inr (5, 71, 0), .inl (.if_icmp .eq 85), .inl (.iconst 0), .inl .lreturn] = true := by decide +kernel
theorem kl_73 : dk_ck t_law code 1424 [.inl (.aload 1), .inl (.aload 0), .inl (.iload 3), .inl (.iconst 1), .inl .iadd, .inl .iaload, .inr (5, 72, 0), .inr (7, 74, 1)] = true := by decide +kernel
theorem kl_74 : dk_ck t_law code 1433 [.inl (.aload 2), .inl (.aload 0), .inl (.iload 3), .inl (.iconst 1), .inl .iadd, .inl .iaload, .inr (5, 73, 0), .inl (.if_icmp .eq 85), .inl (.iconst 0), .inl .lreturn] = true := by decide +kernel
theorem kl_75 : dk_ck t_law code 1447 [.inl (.aload 1), .inr (5, 74, 0), .inr (7, 76, 1)] = true := by decide +kernel
theorem kl_76 : dk_ck t_law code 1451 [.inl (.aload 2), .inr (5, 75, 0), .inl (.if_icmp .eq 85), .inl (.iconst 0), .inl .lreturn] = true := by decide +kernel
theorem kl_77 : dk_ck t_law code 1460 [.inl (.aload 1), .inr (5, 76, 0), .inr (7, 78, 1)] = true := by decide +kernel
theorem kl_78 : dk_ck t_law code 1464 [.inl (.aload 2), .inr (5, 77, 0), .inl (.if_icmp .eq 85), .inl (.iconst 0), .inl .lreturn] = true := by decide +kernel
theorem kl_79 : dk_ck t_law code 1473 [.inl (.aload 1), .inr (5, 78, 0), .inr (7, 80, 1)] = true := by decide +kernel
theorem kl_80 : dk_ck t_law code 1477 [.inl (.aload 2), .inr (5, 79, 0), .inl (.if_icmp .eq 85), .inl (.iconst 0), .inl .lreturn] = true := by decide +kernel
theorem kl_81 : dk_ck t_law code 1486 [.inl (.aload 1), .inl (.aload 0), .inl (.iload 3), .inl (.iconst 1), .inl .iadd, .inl .iaload, .inr (5, 80, 0), .inr (7, 82, 1)] = true := by decide +kernel
theorem kl_82 : dk_ck t_law code 1495 [.inl (.aload 2), .inl (.aload 0), .inl (.iload 3), .inl (.iconst 1), .inl .iadd, .inl .iaload, .inr (5, 81, 0), .inl (.if_icmp .eq 85), .inl (.iconst 0), .inl .lreturn] = true := by decide +kernel
theorem kl_83 : dk_ck t_law code 1509 [.inl (.aload 1), .inl (.aload 0), .inl (.iload 3), .inl (.iconst 1), .inl .iadd, .inl .iaload, .inr (5, 82, 0), .inr (7, 84, 1)] = true := by decide +kernel
theorem kl_84 : dk_ck t_law code 1518 [.inl (.aload 2), .inl (.aload 0), .inl (.iload 3), .inl (.iconst 1), .inl .iadd, .inl .iaload, .inr (5, 83, 0), .inl (.if_icmp .eq 85), .inl (.iconst 0), .inl .lreturn] = true := by decide +kernel
theorem kl_85 : dk_ck t_law code 1532 [.inl (.iinc 3 (6)), .inr (7, 0, 0)] = true := by decide +kernel
theorem kl_86 : dk_ck t_law code 1538 [.inl (.iconst 1), .inl .lreturn] = true := by decide +kernel
theorem k_law : dk_ckT t_law code 4 t_law.2.2.1 b_law = true := dk_ckT_cons rfl kl_0 (dk_ckT_cons rfl kl_1 (dk_ckT_cons rfl kl_2 (dk_ckT_cons rfl kl_3 (dk_ckT_cons rfl kl_4 (dk_ckT_cons rfl kl_5 (dk_ckT_cons rfl kl_6 (dk_ckT_cons rfl kl_7 (dk_ckT_cons rfl kl_8 (dk_ckT_cons rfl kl_9 (dk_ckT_cons rfl kl_10 (dk_ckT_cons rfl kl_11 (dk_ckT_cons rfl kl_12 (dk_ckT_cons rfl kl_13 (dk_ckT_cons rfl kl_14 (dk_ckT_cons rfl kl_15 (dk_ckT_cons rfl kl_16 (dk_ckT_cons rfl kl_17 (dk_ckT_cons rfl kl_18 (dk_ckT_cons rfl kl_19 (dk_ckT_cons rfl kl_20 (dk_ckT_cons rfl kl_21 (dk_ckT_cons rfl kl_22 (dk_ckT_cons rfl kl_23 (dk_ckT_cons rfl kl_24 (dk_ckT_cons rfl kl_25 (dk_ckT_cons rfl kl_26 (dk_ckT_cons rfl kl_27 (dk_ckT_cons rfl kl_28 (dk_ckT_cons rfl kl_29 (dk_ckT_cons rfl kl_30 (dk_ckT_cons rfl kl_31 (dk_ckT_cons rfl kl_32 (dk_ckT_cons rfl kl_33 (dk_ckT_cons rfl kl_34 (dk_ckT_cons rfl kl_35 (dk_ckT_cons rfl kl_36 (dk_ckT_cons rfl kl_37 (dk_ckT_cons rfl kl_38 (dk_ckT_cons rfl kl_39 (dk_ckT_cons rfl kl_40 (dk_ckT_cons rfl kl_41 (dk_ckT_cons rfl kl_42 (dk_ckT_cons rfl kl_43 (dk_ckT_cons rfl kl_44 (dk_ckT_cons rfl kl_45 (dk_ckT_cons rfl kl_46 (dk_ckT_cons rfl kl_47 (dk_ckT_cons rfl kl_48 (dk_ckT_cons rfl kl_49 (dk_ckT_cons rfl kl_50 (dk_ckT_cons rfl kl_51 (dk_ckT_cons rfl kl_52 (dk_ckT_cons rfl kl_53 (dk_ckT_cons rfl kl_54 (dk_ckT_cons rfl kl_55 (dk_ckT_cons rfl kl_56 (dk_ckT_cons rfl kl_57 (dk_ckT_cons rfl kl_58 (dk_ckT_cons rfl kl_59 (dk_ckT_cons rfl kl_60 (dk_ckT_cons rfl kl_61 (dk_ckT_cons rfl kl_62 (dk_ckT_cons rfl kl_63 (dk_ckT_cons rfl kl_64 (dk_ckT_cons rfl kl_65 (dk_ckT_cons rfl kl_66 (dk_ckT_cons rfl kl_67 (dk_ckT_cons rfl kl_68 (dk_ckT_cons rfl kl_69 (dk_ckT_cons rfl kl_70 (dk_ckT_cons rfl kl_71 (dk_ckT_cons rfl kl_72 (dk_ckT_cons rfl kl_73 (dk_ckT_cons rfl kl_74 (dk_ckT_cons rfl kl_75 (dk_ckT_cons rfl kl_76 (dk_ckT_cons rfl kl_77 (dk_ckT_cons rfl kl_78 (dk_ckT_cons rfl kl_79 (dk_ckT_cons rfl kl_80 (dk_ckT_cons rfl kl_81 (dk_ckT_cons rfl kl_82 (dk_ckT_cons rfl kl_83 (dk_ckT_cons rfl kl_84 (dk_ckT_cons rfl kl_85 (dk_ckT_cons rfl kl_86 (rfl)))))))))))))))))))))))))))))))))))))))))))))))))))))))))))))))))))))))))))))))))))))))
section LWP
variable {R : dk_Q} {J : Nat → dk_L → List dk_V → dk_H → Prop} {is : List dk_N} {S : List dk_V} {h : dk_H} {n : Nat} {xs : Int → Int} {k : Int}
def lL (k : Int) : dk_L := [some (.inr (.inr 100)), some (.inr (.inr 0)), some (.inr (.inr 53)), some (.inl k)]
theorem lw_ld {e : Int} {L : dk_L} (hq : h 100 = .inl (4, n, xs)) (h0 : 0 ≤ e) (h1 : e < n) (h2 : e < 2147483648) (q : dk_r g_law R J is L (.inl (xs e) :: S) h) : dk_r g_law R J (.inl .iaload :: is) L (.inl e :: .inr (.inr 100) :: S) h := by
  have e1 : dk_1 (.inl .iaload) L (.inl e :: .inr (.inr 100) :: S) h = some ((0 ≤ e ∧ e < n ∧ e < 2147483648), L, .inl (xs e) :: S, h) := by
    simp only [dk_1, dk_pi, dk_pr, hq, dk_rd, dk_bd]
  show (match dk_1 (.inl .iaload) L (.inl e :: .inr (.inr 100) :: S) h with
    | some (vc, L2, S2, h2) => vc ∧ dk_r g_law R J is L2 S2 h2
    | none => False)
  rw [e1]
  exact ⟨⟨h0, h1, h2⟩, q⟩
theorem lw_argI {c : Int} (hq : h 100 = .inl (4, n, xs)) (h0 : 0 ≤ k + c) (h1 : k + c < n) (h2 : k + c < 2147483648) (q : dk_r g_law R J is (lL k) (.inl (xs (k + c)) :: S) h) : dk_r g_law R J (.inl (.aload 0) :: .inl (.iload 3) :: .inl (.iconst c) :: .inl .iadd :: .inl .iaload :: is) (lL k) S h := by
  unfold lL at q ⊢
  rw [xl_aload0, xl_iload3, xr_iconst, xr_iadd]
  exact lw_ld hq h0 h1 h2 q
theorem lw_a1 (q : dk_r g_law R J is (lL k) (.inr (.inr 0) :: S) h) : dk_r g_law R J (.inl (.aload 1) :: is) (lL k) S h := by
  unfold lL at q ⊢
  rw [xl_aload1]
  exact q
theorem lw_a2 (q : dk_r g_law R J is (lL k) (.inr (.inr 53) :: S) h) : dk_r g_law R J (.inl (.aload 2) :: is) (lL k) S h := by
  unfold lL at q ⊢
  rw [xl_aload2]
  exact q
theorem lw_callI {j nn kd : Nat} {T : dk_S} {L : dk_L} (hj : dk_nth g_law j = some (nn, T)) (hl : nn ≤ S.length) (hz : dk_sz (S.drop nn) ≤ 8) (q : T (S.take nn).reverse h (fun r h2 => dk_r g_law R J is L (r.toList ++ S.drop nn) h2)) : dk_r g_law R J (.inr (5, j, kd) :: is) L S h := by
  show (match dk_nth g_law j with
    | some (n, T) => n ≤ S.length ∧ dk_sz (S.drop n) ≤ 8 ∧ T (S.take n).reverse h (fun r h2 => dk_r g_law R J is L (r.toList ++ S.drop n) h2)
    | none => False)
  rw [hj]
  exact ⟨hl, hz, q⟩
theorem lw_szr (r : Option dk_V) : dk_sz r.toList ≤ 8 := by
  match r with
  | none => decide
  | some (.inl _) => show 0 + 1 ≤ 8; decide
  | some (.inr (.inl _)) => show 0 + 2 ≤ 8; decide
  | some (.inr (.inr _)) => show 0 + 1 ≤ 8; decide
theorem lw_eq {e : Int} {t : Int} {L : dk_L} (e1 : -2147483648 ≤ e) (e2 : e ≤ 2147483647) (q : J t.toNat L S h) : dk_r g_law R J (.inl (.if_icmp .eq t) :: is) L (.inl e :: .inl e :: S) h := by
  rw [xr_ic_eq e1 e2 e1 e2]
  exact ⟨fun _ => q, fun z => absurd rfl z⟩
end LWP
section LWC
variable {Rq : dk_Q} {P : Nat → dk_L → List dk_V → dk_H → Prop} {n : Nat} {xs : Int → Int} {N k : Int} {w : Nat → Nat} {a : Nat → Int → Int} {i : Nat → Int}
/-- what the law's walk rests on -/
def lw_H (Rq : dk_Q) (P : Nat → dk_L → List dk_V → dk_H → Prop) (n : Nat) (xs : Int → Int) : Prop := (∀ b L S h, dk_B g_law b_law Rq P b L S h → P b L S h) ∧ (∀ b L S h, (h 100 = .inl (4, n, xs) → P b L S h) → P b L S h) ∧ (∀ j, -2147483648 ≤ xs j ∧ xs j ≤ 2147483647) ∧ n ≤ 384
theorem lw_blk (hH : lw_H Rq P n xs) {b : Nat} {is : List dk_N} {S : List dk_V} {h : dk_H} (hb : dk_nth b_law b = some ([true, true, true, true], is)) (q : h 100 = .inl (4, n, xs) → dk_r g_law Rq P is (lL k) S h) : P b (lL k) S h := hH.2.1 b (lL k) S h (fun hq => hH.1 b (lL k) S h ⟨_, _, hb, q hq⟩)
theorem lc_rule (hH : lw_H Rq P n xs) (hI : Inv N w a i) (hk0 : 0 ≤ k) (hk6 : k + 6 ≤ n) (hend : ∀ w a i, Inv (N + 1) w a i → P 85 (lL k) [] (HH n xs w a i)) : P 1 (lL k) [] (HH n xs w a i) := by
  have hn := hH.2.2.2
  refine lw_blk hH rfl (fun hq => ?_)
  refine lw_a1 ?_
  refine lw_argI hq (by omega) (by omega) (by omega) ?_
  refine lw_argI hq (by omega) (by omega) (by omega) ?_
  refine lw_callI rfl (Nat.le_of_ble_eq_true rfl) (Nat.le_of_ble_eq_true rfl) ?_
  refine o_5_rule [.inr (.inr 0), .inl (xs (k + 1)), .inl (xs (k + 2))] (HH n xs w a i) _ _ (fun r h2 q2 => ?_) (op_rule hI (hH.2.2.1 _).1 (hH.2.2.1 _).2 (hH.2.2.1 _).1 (hH.2.2.1 _).2)
  show P 2 (lL k) (r.toList ++ []) h2
  rw [List.append_nil]
  refine lw_blk hH rfl (fun hq => ?_)
  refine lw_a2 ?_
  refine lw_argI hq (by omega) (by omega) (by omega) ?_
  refine lw_argI hq (by omega) (by omega) (by omega) ?_
  refine lw_callI rfl (by simp) (lw_szr r) ?_
  refine o_6_rule [.inr (.inr 53), .inl (xs (k + 1)), .inl (xs (k + 2))] h2 _ _ (fun r2 h3 q3 => ?_) q2
  obtain ⟨e, rfl, rfl, ⟨e1, e2⟩, w2, a2, i2, rfl, hI2⟩ := q3
  exact lw_eq e1 e2 (hend w2 a2 i2 hI2)
theorem lc_feed (hH : lw_H Rq P n xs) (hI : Inv N w a i) (hk0 : 0 ≤ k) (hk6 : k + 6 ≤ n) (hend : ∀ w a i, Inv (N + 1) w a i → P 85 (lL k) [] (HH n xs w a i)) : P 3 (lL k) [] (HH n xs w a i) := by
  have hn := hH.2.2.2
  refine lw_blk hH rfl (fun hq => ?_)
  refine lw_a1 ?_
  refine lw_argI hq (by omega) (by omega) (by omega) ?_
  refine lw_argI hq (by omega) (by omega) (by omega) ?_
  refine lw_callI rfl (Nat.le_of_ble_eq_true rfl) (Nat.le_of_ble_eq_true rfl) ?_
  refine o_5_feed [.inr (.inr 0), .inl (xs (k + 1)), .inl (xs (k + 2))] (HH n xs w a i) _ _ (fun r h2 q2 => ?_) (op_feed hI (hH.2.2.1 _).1 (hH.2.2.1 _).2 (hH.2.2.1 _).1 (hH.2.2.1 _).2)
  show P 4 (lL k) (r.toList ++ []) h2
  rw [List.append_nil]
  refine lw_blk hH rfl (fun hq => ?_)
  refine lw_a2 ?_
  refine lw_argI hq (by omega) (by omega) (by omega) ?_
  refine lw_argI hq (by omega) (by omega) (by omega) ?_
  refine lw_callI rfl (by simp) (lw_szr r) ?_
  refine o_6_feed [.inr (.inr 53), .inl (xs (k + 1)), .inl (xs (k + 2))] h2 _ _ (fun r2 h3 q3 => ?_) q2
  obtain ⟨e, rfl, rfl, ⟨e1, e2⟩, w2, a2, i2, rfl, hI2⟩ := q3
  exact lw_eq e1 e2 (hend w2 a2 i2 hI2)
theorem lc_wipe (hH : lw_H Rq P n xs) (hI : Inv N w a i) (hk0 : 0 ≤ k) (hk6 : k + 6 ≤ n) (hend : ∀ w a i, Inv (N + 1) w a i → P 85 (lL k) [] (HH n xs w a i)) : P 5 (lL k) [] (HH n xs w a i) := by
  have hn := hH.2.2.2
  refine lw_blk hH rfl (fun hq => ?_)
  refine lw_a1 ?_
  refine lw_callI rfl (Nat.le_of_ble_eq_true rfl) (Nat.le_of_ble_eq_true rfl) ?_
  refine o_5_wipe [.inr (.inr 0)] (HH n xs w a i) _ _ (fun r h2 q2 => ?_) (op_wipe hI )
  show P 6 (lL k) (r.toList ++ []) h2
  rw [List.append_nil]
  refine lw_blk hH rfl (fun hq => ?_)
  refine lw_a2 ?_
  refine lw_callI rfl (by simp) (lw_szr r) ?_
  refine o_6_wipe [.inr (.inr 53)] h2 _ _ (fun r2 h3 q3 => ?_) q2
  obtain ⟨e, rfl, rfl, ⟨e1, e2⟩, w2, a2, i2, rfl, hI2⟩ := q3
  exact lw_eq e1 e2 (hend w2 a2 i2 hI2)
theorem lc_column (hH : lw_H Rq P n xs) (hI : Inv N w a i) (hk0 : 0 ≤ k) (hk6 : k + 6 ≤ n) (hend : ∀ w a i, Inv (N + 1) w a i → P 85 (lL k) [] (HH n xs w a i)) : P 7 (lL k) [] (HH n xs w a i) := by
  have hn := hH.2.2.2
  refine lw_blk hH rfl (fun hq => ?_)
  refine lw_a1 ?_
  refine lw_callI rfl (Nat.le_of_ble_eq_true rfl) (Nat.le_of_ble_eq_true rfl) ?_
  refine o_5_column [.inr (.inr 0)] (HH n xs w a i) _ _ (fun r h2 q2 => ?_) (op_column hI )
  show P 8 (lL k) (r.toList ++ []) h2
  rw [List.append_nil]
  refine lw_blk hH rfl (fun hq => ?_)
  refine lw_a2 ?_
  refine lw_callI rfl (by simp) (lw_szr r) ?_
  refine o_6_column [.inr (.inr 53)] h2 _ _ (fun r2 h3 q3 => ?_) q2
  obtain ⟨e, rfl, rfl, ⟨e1, e2⟩, w2, a2, i2, rfl, hI2⟩ := q3
  exact lw_eq e1 e2 (hend w2 a2 i2 hI2)
theorem lc_rankOf (hH : lw_H Rq P n xs) (hI : Inv N w a i) (hk0 : 0 ≤ k) (hk6 : k + 6 ≤ n) (hend : ∀ w a i, Inv (N + 1) w a i → P 85 (lL k) [] (HH n xs w a i)) : P 9 (lL k) [] (HH n xs w a i) := by
  have hn := hH.2.2.2
  refine lw_blk hH rfl (fun hq => ?_)
  refine lw_a1 ?_
  refine lw_argI hq (by omega) (by omega) (by omega) ?_
  refine lw_argI hq (by omega) (by omega) (by omega) ?_
  refine lw_callI rfl (Nat.le_of_ble_eq_true rfl) (Nat.le_of_ble_eq_true rfl) ?_
  refine o_5_rankOf [.inr (.inr 0), .inl (xs (k + 1)), .inl (xs (k + 2))] (HH n xs w a i) _ _ (fun r h2 q2 => ?_) (op_rankOf hI (hH.2.2.1 _).1 (hH.2.2.1 _).2 (hH.2.2.1 _).1 (hH.2.2.1 _).2)
  show P 10 (lL k) (r.toList ++ []) h2
  rw [List.append_nil]
  refine lw_blk hH rfl (fun hq => ?_)
  refine lw_a2 ?_
  refine lw_argI hq (by omega) (by omega) (by omega) ?_
  refine lw_argI hq (by omega) (by omega) (by omega) ?_
  refine lw_callI rfl (by simp) (lw_szr r) ?_
  refine o_6_rankOf [.inr (.inr 53), .inl (xs (k + 1)), .inl (xs (k + 2))] h2 _ _ (fun r2 h3 q3 => ?_) q2
  obtain ⟨e, rfl, rfl, ⟨e1, e2⟩, w2, a2, i2, rfl, hI2⟩ := q3
  exact lw_eq e1 e2 (hend w2 a2 i2 hI2)
theorem lc_change (hH : lw_H Rq P n xs) (hI : Inv N w a i) (hk0 : 0 ≤ k) (hk6 : k + 6 ≤ n) (hend : ∀ w a i, Inv (N + 1) w a i → P 85 (lL k) [] (HH n xs w a i)) : P 11 (lL k) [] (HH n xs w a i) := by
  have hn := hH.2.2.2
  refine lw_blk hH rfl (fun hq => ?_)
  refine lw_a1 ?_
  refine lw_argI hq (by omega) (by omega) (by omega) ?_
  refine lw_argI hq (by omega) (by omega) (by omega) ?_
  refine lw_argI hq (by omega) (by omega) (by omega) ?_
  refine lw_callI rfl (Nat.le_of_ble_eq_true rfl) (Nat.le_of_ble_eq_true rfl) ?_
  refine o_5_change [.inr (.inr 0), .inl (xs (k + 1)), .inl (xs (k + 2)), .inl (xs (k + 3))] (HH n xs w a i) _ _ (fun r h2 q2 => ?_) (op_change hI (hH.2.2.1 _).1 (hH.2.2.1 _).2 (hH.2.2.1 _).1 (hH.2.2.1 _).2 (hH.2.2.1 _).1 (hH.2.2.1 _).2)
  show P 12 (lL k) (r.toList ++ []) h2
  rw [List.append_nil]
  refine lw_blk hH rfl (fun hq => ?_)
  refine lw_a2 ?_
  refine lw_argI hq (by omega) (by omega) (by omega) ?_
  refine lw_argI hq (by omega) (by omega) (by omega) ?_
  refine lw_argI hq (by omega) (by omega) (by omega) ?_
  refine lw_callI rfl (by simp) (lw_szr r) ?_
  refine o_6_change [.inr (.inr 53), .inl (xs (k + 1)), .inl (xs (k + 2)), .inl (xs (k + 3))] h2 _ _ (fun r2 h3 q3 => ?_) q2
  obtain ⟨e, rfl, rfl, ⟨e1, e2⟩, w2, a2, i2, rfl, hI2⟩ := q3
  exact lw_eq e1 e2 (hend w2 a2 i2 hI2)
theorem lc_drum (hH : lw_H Rq P n xs) (hI : Inv N w a i) (hk0 : 0 ≤ k) (hk6 : k + 6 ≤ n) (hend : ∀ w a i, Inv (N + 1) w a i → P 85 (lL k) [] (HH n xs w a i)) : P 13 (lL k) [] (HH n xs w a i) := by
  have hn := hH.2.2.2
  refine lw_blk hH rfl (fun hq => ?_)
  refine lw_a1 ?_
  refine lw_argI hq (by omega) (by omega) (by omega) ?_
  refine lw_argI hq (by omega) (by omega) (by omega) ?_
  refine lw_argI hq (by omega) (by omega) (by omega) ?_
  refine lw_callI rfl (Nat.le_of_ble_eq_true rfl) (Nat.le_of_ble_eq_true rfl) ?_
  refine o_5_drum [.inr (.inr 0), .inl (xs (k + 1)), .inl (xs (k + 2)), .inl (xs (k + 3))] (HH n xs w a i) _ _ (fun r h2 q2 => ?_) (op_drum hI (hH.2.2.1 _).1 (hH.2.2.1 _).2 (hH.2.2.1 _).1 (hH.2.2.1 _).2 (hH.2.2.1 _).1 (hH.2.2.1 _).2)
  show P 14 (lL k) (r.toList ++ []) h2
  rw [List.append_nil]
  refine lw_blk hH rfl (fun hq => ?_)
  refine lw_a2 ?_
  refine lw_argI hq (by omega) (by omega) (by omega) ?_
  refine lw_argI hq (by omega) (by omega) (by omega) ?_
  refine lw_argI hq (by omega) (by omega) (by omega) ?_
  refine lw_callI rfl (by simp) (lw_szr r) ?_
  refine o_6_drum [.inr (.inr 53), .inl (xs (k + 1)), .inl (xs (k + 2)), .inl (xs (k + 3))] h2 _ _ (fun r2 h3 q3 => ?_) q2
  obtain ⟨e, rfl, rfl, ⟨e1, e2⟩, w2, a2, i2, rfl, hI2⟩ := q3
  exact lw_eq e1 e2 (hend w2 a2 i2 hI2)
theorem lc_drumOf (hH : lw_H Rq P n xs) (hI : Inv N w a i) (hk0 : 0 ≤ k) (hk6 : k + 6 ≤ n) (hend : ∀ w a i, Inv (N + 1) w a i → P 85 (lL k) [] (HH n xs w a i)) : P 15 (lL k) [] (HH n xs w a i) := by
  have hn := hH.2.2.2
  refine lw_blk hH rfl (fun hq => ?_)
  refine lw_a1 ?_
  refine lw_argI hq (by omega) (by omega) (by omega) ?_
  refine lw_argI hq (by omega) (by omega) (by omega) ?_
  refine lw_callI rfl (Nat.le_of_ble_eq_true rfl) (Nat.le_of_ble_eq_true rfl) ?_
  refine o_5_drumOf [.inr (.inr 0), .inl (xs (k + 1)), .inl (xs (k + 2))] (HH n xs w a i) _ _ (fun r h2 q2 => ?_) (op_drumOf hI (hH.2.2.1 _).1 (hH.2.2.1 _).2 (hH.2.2.1 _).1 (hH.2.2.1 _).2)
  show P 16 (lL k) (r.toList ++ []) h2
  rw [List.append_nil]
  refine lw_blk hH rfl (fun hq => ?_)
  refine lw_a2 ?_
  refine lw_argI hq (by omega) (by omega) (by omega) ?_
  refine lw_argI hq (by omega) (by omega) (by omega) ?_
  refine lw_callI rfl (by simp) (lw_szr r) ?_
  refine o_6_drumOf [.inr (.inr 53), .inl (xs (k + 1)), .inl (xs (k + 2))] h2 _ _ (fun r2 h3 q3 => ?_) q2
  obtain ⟨e, rfl, rfl, ⟨e1, e2⟩, w2, a2, i2, rfl, hI2⟩ := q3
  exact lw_eq e1 e2 (hend w2 a2 i2 hI2)
theorem lc_carry (hH : lw_H Rq P n xs) (hI : Inv N w a i) (hk0 : 0 ≤ k) (hk6 : k + 6 ≤ n) (hend : ∀ w a i, Inv (N + 1) w a i → P 85 (lL k) [] (HH n xs w a i)) : P 17 (lL k) [] (HH n xs w a i) := by
  have hn := hH.2.2.2
  refine lw_blk hH rfl (fun hq => ?_)
  refine lw_a1 ?_
  refine lw_argI hq (by omega) (by omega) (by omega) ?_
  refine lw_argI hq (by omega) (by omega) (by omega) ?_
  refine lw_callI rfl (Nat.le_of_ble_eq_true rfl) (Nat.le_of_ble_eq_true rfl) ?_
  refine o_5_carry [.inr (.inr 0), .inl (xs (k + 1)), .inl (xs (k + 2))] (HH n xs w a i) _ _ (fun r h2 q2 => ?_) (op_carry hI (hH.2.2.1 _).1 (hH.2.2.1 _).2 (hH.2.2.1 _).1 (hH.2.2.1 _).2)
  show P 18 (lL k) (r.toList ++ []) h2
  rw [List.append_nil]
  refine lw_blk hH rfl (fun hq => ?_)
  refine lw_a2 ?_
  refine lw_argI hq (by omega) (by omega) (by omega) ?_
  refine lw_argI hq (by omega) (by omega) (by omega) ?_
  refine lw_callI rfl (by simp) (lw_szr r) ?_
  refine o_6_carry [.inr (.inr 53), .inl (xs (k + 1)), .inl (xs (k + 2))] h2 _ _ (fun r2 h3 q3 => ?_) q2
  obtain ⟨e, rfl, rfl, ⟨e1, e2⟩, w2, a2, i2, rfl, hI2⟩ := q3
  exact lw_eq e1 e2 (hend w2 a2 i2 hI2)
theorem lc_bend (hH : lw_H Rq P n xs) (hI : Inv N w a i) (hk0 : 0 ≤ k) (hk6 : k + 6 ≤ n) (hend : ∀ w a i, Inv (N + 1) w a i → P 85 (lL k) [] (HH n xs w a i)) : P 19 (lL k) [] (HH n xs w a i) := by
  have hn := hH.2.2.2
  refine lw_blk hH rfl (fun hq => ?_)
  refine lw_a1 ?_
  refine lw_argI hq (by omega) (by omega) (by omega) ?_
  refine lw_callI rfl (Nat.le_of_ble_eq_true rfl) (Nat.le_of_ble_eq_true rfl) ?_
  refine o_5_bend [.inr (.inr 0), .inl (xs (k + 1))] (HH n xs w a i) _ _ (fun r h2 q2 => ?_) (op_bend hI (hH.2.2.1 _).1 (hH.2.2.1 _).2)
  show P 20 (lL k) (r.toList ++ []) h2
  rw [List.append_nil]
  refine lw_blk hH rfl (fun hq => ?_)
  refine lw_a2 ?_
  refine lw_argI hq (by omega) (by omega) (by omega) ?_
  refine lw_callI rfl (by simp) (lw_szr r) ?_
  refine o_6_bend [.inr (.inr 53), .inl (xs (k + 1))] h2 _ _ (fun r2 h3 q3 => ?_) q2
  obtain ⟨e, rfl, rfl, ⟨e1, e2⟩, w2, a2, i2, rfl, hI2⟩ := q3
  exact lw_eq e1 e2 (hend w2 a2 i2 hI2)
theorem lc_lag (hH : lw_H Rq P n xs) (hI : Inv N w a i) (hk0 : 0 ≤ k) (hk6 : k + 6 ≤ n) (hend : ∀ w a i, Inv (N + 1) w a i → P 85 (lL k) [] (HH n xs w a i)) : P 21 (lL k) [] (HH n xs w a i) := by
  have hn := hH.2.2.2
  refine lw_blk hH rfl (fun hq => ?_)
  refine lw_a1 ?_
  refine lw_argI hq (by omega) (by omega) (by omega) ?_
  refine lw_argI hq (by omega) (by omega) (by omega) ?_
  refine lw_callI rfl (Nat.le_of_ble_eq_true rfl) (Nat.le_of_ble_eq_true rfl) ?_
  refine o_5_lag [.inr (.inr 0), .inl (xs (k + 1)), .inl (xs (k + 2))] (HH n xs w a i) _ _ (fun r h2 q2 => ?_) (op_lag hI (hH.2.2.1 _).1 (hH.2.2.1 _).2 (hH.2.2.1 _).1 (hH.2.2.1 _).2)
  show P 22 (lL k) (r.toList ++ []) h2
  rw [List.append_nil]
  refine lw_blk hH rfl (fun hq => ?_)
  refine lw_a2 ?_
  refine lw_argI hq (by omega) (by omega) (by omega) ?_
  refine lw_argI hq (by omega) (by omega) (by omega) ?_
  refine lw_callI rfl (by simp) (lw_szr r) ?_
  refine o_6_lag [.inr (.inr 53), .inl (xs (k + 1)), .inl (xs (k + 2))] h2 _ _ (fun r2 h3 q3 => ?_) q2
  obtain ⟨e, rfl, rfl, ⟨e1, e2⟩, w2, a2, i2, rfl, hI2⟩ := q3
  exact lw_eq e1 e2 (hend w2 a2 i2 hI2)
theorem lc_tread (hH : lw_H Rq P n xs) (hI : Inv N w a i) (hk0 : 0 ≤ k) (hk6 : k + 6 ≤ n) (hend : ∀ w a i, Inv (N + 1) w a i → P 85 (lL k) [] (HH n xs w a i)) : P 23 (lL k) [] (HH n xs w a i) := by
  have hn := hH.2.2.2
  refine lw_blk hH rfl (fun hq => ?_)
  refine lw_a1 ?_
  refine lw_argI hq (by omega) (by omega) (by omega) ?_
  refine lw_callI rfl (Nat.le_of_ble_eq_true rfl) (Nat.le_of_ble_eq_true rfl) ?_
  refine o_5_tread [.inr (.inr 0), .inl (xs (k + 1))] (HH n xs w a i) _ _ (fun r h2 q2 => ?_) (op_tread hI (hH.2.2.1 _).1 (hH.2.2.1 _).2)
  show P 24 (lL k) (r.toList ++ []) h2
  rw [List.append_nil]
  refine lw_blk hH rfl (fun hq => ?_)
  refine lw_a2 ?_
  refine lw_argI hq (by omega) (by omega) (by omega) ?_
  refine lw_callI rfl (by simp) (lw_szr r) ?_
  refine o_6_tread [.inr (.inr 53), .inl (xs (k + 1))] h2 _ _ (fun r2 h3 q3 => ?_) q2
  obtain ⟨e, rfl, rfl, ⟨e1, e2⟩, w2, a2, i2, rfl, hI2⟩ := q3
  exact lw_eq e1 e2 (hend w2 a2 i2 hI2)
theorem lc_march (hH : lw_H Rq P n xs) (hI : Inv N w a i) (hk0 : 0 ≤ k) (hk6 : k + 6 ≤ n) (hend : ∀ w a i, Inv (N + 1) w a i → P 85 (lL k) [] (HH n xs w a i)) : P 25 (lL k) [] (HH n xs w a i) := by
  have hn := hH.2.2.2
  refine lw_blk hH rfl (fun hq => ?_)
  refine lw_a1 ?_
  refine lw_argI hq (by omega) (by omega) (by omega) ?_
  refine lw_argI hq (by omega) (by omega) (by omega) ?_
  refine lw_callI rfl (Nat.le_of_ble_eq_true rfl) (Nat.le_of_ble_eq_true rfl) ?_
  refine o_5_march [.inr (.inr 0), .inl (xs (k + 1)), .inl (xs (k + 2))] (HH n xs w a i) _ _ (fun r h2 q2 => ?_) (op_march hI (hH.2.2.1 _).1 (hH.2.2.1 _).2 (hH.2.2.1 _).1 (hH.2.2.1 _).2)
  show P 26 (lL k) (r.toList ++ []) h2
  rw [List.append_nil]
  refine lw_blk hH rfl (fun hq => ?_)
  refine lw_a2 ?_
  refine lw_argI hq (by omega) (by omega) (by omega) ?_
  refine lw_argI hq (by omega) (by omega) (by omega) ?_
  refine lw_callI rfl (by simp) (lw_szr r) ?_
  refine o_6_march [.inr (.inr 53), .inl (xs (k + 1)), .inl (xs (k + 2))] h2 _ _ (fun r2 h3 q3 => ?_) q2
  obtain ⟨e, rfl, rfl, ⟨e1, e2⟩, w2, a2, i2, rfl, hI2⟩ := q3
  exact lw_eq e1 e2 (hend w2 a2 i2 hI2)
theorem lc_worst (hH : lw_H Rq P n xs) (hI : Inv N w a i) (hk0 : 0 ≤ k) (hk6 : k + 6 ≤ n) (hend : ∀ w a i, Inv (N + 1) w a i → P 85 (lL k) [] (HH n xs w a i)) : P 27 (lL k) [] (HH n xs w a i) := by
  have hn := hH.2.2.2
  refine lw_blk hH rfl (fun hq => ?_)
  refine lw_a1 ?_
  refine lw_argI hq (by omega) (by omega) (by omega) ?_
  refine lw_callI rfl (Nat.le_of_ble_eq_true rfl) (Nat.le_of_ble_eq_true rfl) ?_
  refine o_5_worst [.inr (.inr 0), .inl (xs (k + 1))] (HH n xs w a i) _ _ (fun r h2 q2 => ?_) (op_worst hI (hH.2.2.1 _).1 (hH.2.2.1 _).2)
  show P 28 (lL k) (r.toList ++ []) h2
  rw [List.append_nil]
  refine lw_blk hH rfl (fun hq => ?_)
  refine lw_a2 ?_
  refine lw_argI hq (by omega) (by omega) (by omega) ?_
  refine lw_callI rfl (by simp) (lw_szr r) ?_
  refine o_6_worst [.inr (.inr 53), .inl (xs (k + 1))] h2 _ _ (fun r2 h3 q3 => ?_) q2
  obtain ⟨e, rfl, rfl, ⟨e1, e2⟩, w2, a2, i2, rfl, hI2⟩ := q3
  exact lw_eq e1 e2 (hend w2 a2 i2 hI2)
theorem lc_right (hH : lw_H Rq P n xs) (hI : Inv N w a i) (hk0 : 0 ≤ k) (hk6 : k + 6 ≤ n) (hend : ∀ w a i, Inv (N + 1) w a i → P 85 (lL k) [] (HH n xs w a i)) : P 29 (lL k) [] (HH n xs w a i) := by
  have hn := hH.2.2.2
  refine lw_blk hH rfl (fun hq => ?_)
  refine lw_a1 ?_
  refine lw_argI hq (by omega) (by omega) (by omega) ?_
  refine lw_argI hq (by omega) (by omega) (by omega) ?_
  refine lw_callI rfl (Nat.le_of_ble_eq_true rfl) (Nat.le_of_ble_eq_true rfl) ?_
  refine o_5_right [.inr (.inr 0), .inl (xs (k + 1)), .inl (xs (k + 2))] (HH n xs w a i) _ _ (fun r h2 q2 => ?_) (op_right hI (hH.2.2.1 _).1 (hH.2.2.1 _).2 (hH.2.2.1 _).1 (hH.2.2.1 _).2)
  show P 30 (lL k) (r.toList ++ []) h2
  rw [List.append_nil]
  refine lw_blk hH rfl (fun hq => ?_)
  refine lw_a2 ?_
  refine lw_argI hq (by omega) (by omega) (by omega) ?_
  refine lw_argI hq (by omega) (by omega) (by omega) ?_
  refine lw_callI rfl (by simp) (lw_szr r) ?_
  refine o_6_right [.inr (.inr 53), .inl (xs (k + 1)), .inl (xs (k + 2))] h2 _ _ (fun r2 h3 q3 => ?_) q2
  obtain ⟨e, rfl, rfl, ⟨e1, e2⟩, w2, a2, i2, rfl, hI2⟩ := q3
  exact lw_eq e1 e2 (hend w2 a2 i2 hI2)
theorem lc_settles (hH : lw_H Rq P n xs) (hI : Inv N w a i) (hk0 : 0 ≤ k) (hk6 : k + 6 ≤ n) (hend : ∀ w a i, Inv (N + 1) w a i → P 85 (lL k) [] (HH n xs w a i)) : P 31 (lL k) [] (HH n xs w a i) := by
  have hn := hH.2.2.2
  refine lw_blk hH rfl (fun hq => ?_)
  refine lw_a1 ?_
  refine lw_callI rfl (Nat.le_of_ble_eq_true rfl) (Nat.le_of_ble_eq_true rfl) ?_
  refine o_5_settles [.inr (.inr 0)] (HH n xs w a i) _ _ (fun r h2 q2 => ?_) (op_settles hI )
  show P 32 (lL k) (r.toList ++ []) h2
  rw [List.append_nil]
  refine lw_blk hH rfl (fun hq => ?_)
  refine lw_a2 ?_
  refine lw_callI rfl (by simp) (lw_szr r) ?_
  refine o_6_settles [.inr (.inr 53)] h2 _ _ (fun r2 h3 q3 => ?_) q2
  obtain ⟨e, rfl, rfl, ⟨e1, e2⟩, w2, a2, i2, rfl, hI2⟩ := q3
  exact lw_eq e1 e2 (hend w2 a2 i2 hI2)
theorem lc_round (hH : lw_H Rq P n xs) (hI : Inv N w a i) (hk0 : 0 ≤ k) (hk6 : k + 6 ≤ n) (hend : ∀ w a i, Inv (N + 1) w a i → P 85 (lL k) [] (HH n xs w a i)) : P 33 (lL k) [] (HH n xs w a i) := by
  have hn := hH.2.2.2
  refine lw_blk hH rfl (fun hq => ?_)
  refine lw_a1 ?_
  refine lw_argI hq (by omega) (by omega) (by omega) ?_
  refine lw_callI rfl (Nat.le_of_ble_eq_true rfl) (Nat.le_of_ble_eq_true rfl) ?_
  refine o_5_round [.inr (.inr 0), .inl (xs (k + 1))] (HH n xs w a i) _ _ (fun r h2 q2 => ?_) (op_round hI (hH.2.2.1 _).1 (hH.2.2.1 _).2)
  show P 34 (lL k) (r.toList ++ []) h2
  rw [List.append_nil]
  refine lw_blk hH rfl (fun hq => ?_)
  refine lw_a2 ?_
  refine lw_argI hq (by omega) (by omega) (by omega) ?_
  refine lw_callI rfl (by simp) (lw_szr r) ?_
  refine o_6_round [.inr (.inr 53), .inl (xs (k + 1))] h2 _ _ (fun r2 h3 q3 => ?_) q2
  obtain ⟨e, rfl, rfl, ⟨e1, e2⟩, w2, a2, i2, rfl, hI2⟩ := q3
  exact lw_eq e1 e2 (hend w2 a2 i2 hI2)
theorem lc_better (hH : lw_H Rq P n xs) (hI : Inv N w a i) (hk0 : 0 ≤ k) (hk6 : k + 6 ≤ n) (hend : ∀ w a i, Inv (N + 1) w a i → P 85 (lL k) [] (HH n xs w a i)) : P 35 (lL k) [] (HH n xs w a i) := by
  have hn := hH.2.2.2
  refine lw_blk hH rfl (fun hq => ?_)
  refine lw_a1 ?_
  refine lw_argI hq (by omega) (by omega) (by omega) ?_
  refine lw_callI rfl (Nat.le_of_ble_eq_true rfl) (Nat.le_of_ble_eq_true rfl) ?_
  refine o_5_better [.inr (.inr 0), .inl (xs (k + 1))] (HH n xs w a i) _ _ (fun r h2 q2 => ?_) (op_better hI (hH.2.2.1 _).1 (hH.2.2.1 _).2)
  show P 36 (lL k) (r.toList ++ []) h2
  rw [List.append_nil]
  refine lw_blk hH rfl (fun hq => ?_)
  refine lw_a2 ?_
  refine lw_argI hq (by omega) (by omega) (by omega) ?_
  refine lw_callI rfl (by simp) (lw_szr r) ?_
  refine o_6_better [.inr (.inr 53), .inl (xs (k + 1))] h2 _ _ (fun r2 h3 q3 => ?_) q2
  obtain ⟨e, rfl, rfl, ⟨e1, e2⟩, w2, a2, i2, rfl, hI2⟩ := q3
  exact lw_eq e1 e2 (hend w2 a2 i2 hI2)
theorem lc_place (hH : lw_H Rq P n xs) (hI : Inv N w a i) (hk0 : 0 ≤ k) (hk6 : k + 6 ≤ n) (hend : ∀ w a i, Inv (N + 1) w a i → P 85 (lL k) [] (HH n xs w a i)) : P 37 (lL k) [] (HH n xs w a i) := by
  have hn := hH.2.2.2
  refine lw_blk hH rfl (fun hq => ?_)
  refine lw_a1 ?_
  refine lw_argI hq (by omega) (by omega) (by omega) ?_
  refine lw_argI hq (by omega) (by omega) (by omega) ?_
  refine lw_callI rfl (Nat.le_of_ble_eq_true rfl) (Nat.le_of_ble_eq_true rfl) ?_
  refine o_5_place [.inr (.inr 0), .inl (xs (k + 1)), .inl (xs (k + 2))] (HH n xs w a i) _ _ (fun r h2 q2 => ?_) (op_place hI (hH.2.2.1 _).1 (hH.2.2.1 _).2 (hH.2.2.1 _).1 (hH.2.2.1 _).2)
  show P 38 (lL k) (r.toList ++ []) h2
  rw [List.append_nil]
  refine lw_blk hH rfl (fun hq => ?_)
  refine lw_a2 ?_
  refine lw_argI hq (by omega) (by omega) (by omega) ?_
  refine lw_argI hq (by omega) (by omega) (by omega) ?_
  refine lw_callI rfl (by simp) (lw_szr r) ?_
  refine o_6_place [.inr (.inr 53), .inl (xs (k + 1)), .inl (xs (k + 2))] h2 _ _ (fun r2 h3 q3 => ?_) q2
  obtain ⟨e, rfl, rfl, ⟨e1, e2⟩, w2, a2, i2, rfl, hI2⟩ := q3
  exact lw_eq e1 e2 (hend w2 a2 i2 hI2)
theorem lc_both (hH : lw_H Rq P n xs) (hI : Inv N w a i) (hk0 : 0 ≤ k) (hk6 : k + 6 ≤ n) (hend : ∀ w a i, Inv (N + 1) w a i → P 85 (lL k) [] (HH n xs w a i)) : P 39 (lL k) [] (HH n xs w a i) := by
  have hn := hH.2.2.2
  refine lw_blk hH rfl (fun hq => ?_)
  refine lw_a1 ?_
  refine lw_argI hq (by omega) (by omega) (by omega) ?_
  refine lw_argI hq (by omega) (by omega) (by omega) ?_
  refine lw_argI hq (by omega) (by omega) (by omega) ?_
  refine lw_callI rfl (Nat.le_of_ble_eq_true rfl) (Nat.le_of_ble_eq_true rfl) ?_
  refine o_5_both [.inr (.inr 0), .inl (xs (k + 1)), .inl (xs (k + 2)), .inl (xs (k + 3))] (HH n xs w a i) _ _ (fun r h2 q2 => ?_) (op_both hI (hH.2.2.1 _).1 (hH.2.2.1 _).2 (hH.2.2.1 _).1 (hH.2.2.1 _).2 (hH.2.2.1 _).1 (hH.2.2.1 _).2)
  show P 40 (lL k) (r.toList ++ []) h2
  rw [List.append_nil]
  refine lw_blk hH rfl (fun hq => ?_)
  refine lw_a2 ?_
  refine lw_argI hq (by omega) (by omega) (by omega) ?_
  refine lw_argI hq (by omega) (by omega) (by omega) ?_
  refine lw_argI hq (by omega) (by omega) (by omega) ?_
  refine lw_callI rfl (by simp) (lw_szr r) ?_
  refine o_6_both [.inr (.inr 53), .inl (xs (k + 1)), .inl (xs (k + 2)), .inl (xs (k + 3))] h2 _ _ (fun r2 h3 q3 => ?_) q2
  obtain ⟨e, rfl, rfl, ⟨e1, e2⟩, w2, a2, i2, rfl, hI2⟩ := q3
  exact lw_eq e1 e2 (hend w2 a2 i2 hI2)
theorem lc_two (hH : lw_H Rq P n xs) (hI : Inv N w a i) (hk0 : 0 ≤ k) (hk6 : k + 6 ≤ n) (hend : ∀ w a i, Inv (N + 1) w a i → P 85 (lL k) [] (HH n xs w a i)) : P 41 (lL k) [] (HH n xs w a i) := by
  have hn := hH.2.2.2
  refine lw_blk hH rfl (fun hq => ?_)
  refine lw_a1 ?_
  refine lw_argI hq (by omega) (by omega) (by omega) ?_
  refine lw_argI hq (by omega) (by omega) (by omega) ?_
  refine lw_argI hq (by omega) (by omega) (by omega) ?_
  refine lw_argI hq (by omega) (by omega) (by omega) ?_
  refine lw_callI rfl (Nat.le_of_ble_eq_true rfl) (Nat.le_of_ble_eq_true rfl) ?_
  refine o_5_two [.inr (.inr 0), .inl (xs (k + 1)), .inl (xs (k + 2)), .inl (xs (k + 3)), .inl (xs (k + 4))] (HH n xs w a i) _ _ (fun r h2 q2 => ?_) (op_two hI (hH.2.2.1 _).1 (hH.2.2.1 _).2 (hH.2.2.1 _).1 (hH.2.2.1 _).2 (hH.2.2.1 _).1 (hH.2.2.1 _).2 (hH.2.2.1 _).1 (hH.2.2.1 _).2)
  show P 42 (lL k) (r.toList ++ []) h2
  rw [List.append_nil]
  refine lw_blk hH rfl (fun hq => ?_)
  refine lw_a2 ?_
  refine lw_argI hq (by omega) (by omega) (by omega) ?_
  refine lw_argI hq (by omega) (by omega) (by omega) ?_
  refine lw_argI hq (by omega) (by omega) (by omega) ?_
  refine lw_argI hq (by omega) (by omega) (by omega) ?_
  refine lw_callI rfl (by simp) (lw_szr r) ?_
  refine o_6_two [.inr (.inr 53), .inl (xs (k + 1)), .inl (xs (k + 2)), .inl (xs (k + 3)), .inl (xs (k + 4))] h2 _ _ (fun r2 h3 q3 => ?_) q2
  obtain ⟨e, rfl, rfl, ⟨e1, e2⟩, w2, a2, i2, rfl, hI2⟩ := q3
  exact lw_eq e1 e2 (hend w2 a2 i2 hI2)
theorem lc_opposite (hH : lw_H Rq P n xs) (hI : Inv N w a i) (hk0 : 0 ≤ k) (hk6 : k + 6 ≤ n) (hend : ∀ w a i, Inv (N + 1) w a i → P 85 (lL k) [] (HH n xs w a i)) : P 43 (lL k) [] (HH n xs w a i) := by
  have hn := hH.2.2.2
  refine lw_blk hH rfl (fun hq => ?_)
  refine lw_a1 ?_
  refine lw_argI hq (by omega) (by omega) (by omega) ?_
  refine lw_callI rfl (Nat.le_of_ble_eq_true rfl) (Nat.le_of_ble_eq_true rfl) ?_
  refine o_5_opposite [.inr (.inr 0), .inl (xs (k + 1))] (HH n xs w a i) _ _ (fun r h2 q2 => ?_) (op_opposite hI (hH.2.2.1 _).1 (hH.2.2.1 _).2)
  show P 44 (lL k) (r.toList ++ []) h2
  rw [List.append_nil]
  refine lw_blk hH rfl (fun hq => ?_)
  refine lw_a2 ?_
  refine lw_argI hq (by omega) (by omega) (by omega) ?_
  refine lw_callI rfl (by simp) (lw_szr r) ?_
  refine o_6_opposite [.inr (.inr 53), .inl (xs (k + 1))] h2 _ _ (fun r2 h3 q3 => ?_) q2
  obtain ⟨e, rfl, rfl, ⟨e1, e2⟩, w2, a2, i2, rfl, hI2⟩ := q3
  exact lw_eq e1 e2 (hend w2 a2 i2 hI2)
theorem lc_edges (hH : lw_H Rq P n xs) (hI : Inv N w a i) (hk0 : 0 ≤ k) (hk6 : k + 6 ≤ n) (hend : ∀ w a i, Inv (N + 1) w a i → P 85 (lL k) [] (HH n xs w a i)) : P 45 (lL k) [] (HH n xs w a i) := by
  have hn := hH.2.2.2
  refine lw_blk hH rfl (fun hq => ?_)
  refine lw_a1 ?_
  refine lw_argI hq (by omega) (by omega) (by omega) ?_
  refine lw_argI hq (by omega) (by omega) (by omega) ?_
  refine lw_argI hq (by omega) (by omega) (by omega) ?_
  refine lw_argI hq (by omega) (by omega) (by omega) ?_
  refine lw_callI rfl (Nat.le_of_ble_eq_true rfl) (Nat.le_of_ble_eq_true rfl) ?_
  refine o_5_edges [.inr (.inr 0), .inl (xs (k + 1)), .inl (xs (k + 2)), .inl (xs (k + 3)), .inl (xs (k + 4))] (HH n xs w a i) _ _ (fun r h2 q2 => ?_) (op_edges hI (hH.2.2.1 _).1 (hH.2.2.1 _).2 (hH.2.2.1 _).1 (hH.2.2.1 _).2 (hH.2.2.1 _).1 (hH.2.2.1 _).2 (hH.2.2.1 _).1 (hH.2.2.1 _).2)
  show P 46 (lL k) (r.toList ++ []) h2
  rw [List.append_nil]
  refine lw_blk hH rfl (fun hq => ?_)
  refine lw_a2 ?_
  refine lw_argI hq (by omega) (by omega) (by omega) ?_
  refine lw_argI hq (by omega) (by omega) (by omega) ?_
  refine lw_argI hq (by omega) (by omega) (by omega) ?_
  refine lw_argI hq (by omega) (by omega) (by omega) ?_
  refine lw_callI rfl (by simp) (lw_szr r) ?_
  refine o_6_edges [.inr (.inr 53), .inl (xs (k + 1)), .inl (xs (k + 2)), .inl (xs (k + 3)), .inl (xs (k + 4))] h2 _ _ (fun r2 h3 q3 => ?_) q2
  obtain ⟨e, rfl, rfl, ⟨e1, e2⟩, w2, a2, i2, rfl, hI2⟩ := q3
  exact lw_eq e1 e2 (hend w2 a2 i2 hI2)
theorem lc_slip (hH : lw_H Rq P n xs) (hI : Inv N w a i) (hk0 : 0 ≤ k) (hk6 : k + 6 ≤ n) (hend : ∀ w a i, Inv (N + 1) w a i → P 85 (lL k) [] (HH n xs w a i)) : P 47 (lL k) [] (HH n xs w a i) := by
  have hn := hH.2.2.2
  refine lw_blk hH rfl (fun hq => ?_)
  refine lw_a1 ?_
  refine lw_argI hq (by omega) (by omega) (by omega) ?_
  refine lw_argI hq (by omega) (by omega) (by omega) ?_
  refine lw_argI hq (by omega) (by omega) (by omega) ?_
  refine lw_argI hq (by omega) (by omega) (by omega) ?_
  refine lw_callI rfl (Nat.le_of_ble_eq_true rfl) (Nat.le_of_ble_eq_true rfl) ?_
  refine o_5_slip [.inr (.inr 0), .inl (xs (k + 1)), .inl (xs (k + 2)), .inl (xs (k + 3)), .inl (xs (k + 4))] (HH n xs w a i) _ _ (fun r h2 q2 => ?_) (op_slip hI (hH.2.2.1 _).1 (hH.2.2.1 _).2 (hH.2.2.1 _).1 (hH.2.2.1 _).2 (hH.2.2.1 _).1 (hH.2.2.1 _).2 (hH.2.2.1 _).1 (hH.2.2.1 _).2)
  show P 48 (lL k) (r.toList ++ []) h2
  rw [List.append_nil]
  refine lw_blk hH rfl (fun hq => ?_)
  refine lw_a2 ?_
  refine lw_argI hq (by omega) (by omega) (by omega) ?_
  refine lw_argI hq (by omega) (by omega) (by omega) ?_
  refine lw_argI hq (by omega) (by omega) (by omega) ?_
  refine lw_argI hq (by omega) (by omega) (by omega) ?_
  refine lw_callI rfl (by simp) (lw_szr r) ?_
  refine o_6_slip [.inr (.inr 53), .inl (xs (k + 1)), .inl (xs (k + 2)), .inl (xs (k + 3)), .inl (xs (k + 4))] h2 _ _ (fun r2 h3 q3 => ?_) q2
  obtain ⟨e, rfl, rfl, ⟨e1, e2⟩, w2, a2, i2, rfl, hI2⟩ := q3
  exact lw_eq e1 e2 (hend w2 a2 i2 hI2)
theorem lc_begin (hH : lw_H Rq P n xs) (hI : Inv N w a i) (hk0 : 0 ≤ k) (hk6 : k + 6 ≤ n) (hend : ∀ w a i, Inv (N + 1) w a i → P 85 (lL k) [] (HH n xs w a i)) : P 49 (lL k) [] (HH n xs w a i) := by
  have hn := hH.2.2.2
  refine lw_blk hH rfl (fun hq => ?_)
  refine lw_a1 ?_
  refine lw_argI hq (by omega) (by omega) (by omega) ?_
  refine lw_argI hq (by omega) (by omega) (by omega) ?_
  refine lw_callI rfl (Nat.le_of_ble_eq_true rfl) (Nat.le_of_ble_eq_true rfl) ?_
  refine o_5_begin [.inr (.inr 0), .inl (xs (k + 1)), .inl (xs (k + 2))] (HH n xs w a i) _ _ (fun r h2 q2 => ?_) (op_begin hI (hH.2.2.1 _).1 (hH.2.2.1 _).2 (hH.2.2.1 _).1 (hH.2.2.1 _).2)
  show P 50 (lL k) (r.toList ++ []) h2
  rw [List.append_nil]
  refine lw_blk hH rfl (fun hq => ?_)
  refine lw_a2 ?_
  refine lw_argI hq (by omega) (by omega) (by omega) ?_
  refine lw_argI hq (by omega) (by omega) (by omega) ?_
  refine lw_callI rfl (by simp) (lw_szr r) ?_
  refine o_6_begin [.inr (.inr 53), .inl (xs (k + 1)), .inl (xs (k + 2))] h2 _ _ (fun r2 h3 q3 => ?_) q2
  obtain ⟨e, rfl, rfl, ⟨e1, e2⟩, w2, a2, i2, rfl, hI2⟩ := q3
  exact lw_eq e1 e2 (hend w2 a2 i2 hI2)
theorem lc_apart (hH : lw_H Rq P n xs) (hI : Inv N w a i) (hk0 : 0 ≤ k) (hk6 : k + 6 ≤ n) (hend : ∀ w a i, Inv (N + 1) w a i → P 85 (lL k) [] (HH n xs w a i)) : P 51 (lL k) [] (HH n xs w a i) := by
  have hn := hH.2.2.2
  refine lw_blk hH rfl (fun hq => ?_)
  refine lw_a1 ?_
  refine lw_argI hq (by omega) (by omega) (by omega) ?_
  refine lw_callI rfl (Nat.le_of_ble_eq_true rfl) (Nat.le_of_ble_eq_true rfl) ?_
  refine o_5_apart [.inr (.inr 0), .inl (xs (k + 1))] (HH n xs w a i) _ _ (fun r h2 q2 => ?_) (op_apart hI (hH.2.2.1 _).1 (hH.2.2.1 _).2)
  show P 52 (lL k) (r.toList ++ []) h2
  rw [List.append_nil]
  refine lw_blk hH rfl (fun hq => ?_)
  refine lw_a2 ?_
  refine lw_argI hq (by omega) (by omega) (by omega) ?_
  refine lw_callI rfl (by simp) (lw_szr r) ?_
  refine o_6_apart [.inr (.inr 53), .inl (xs (k + 1))] h2 _ _ (fun r2 h3 q3 => ?_) q2
  obtain ⟨e, rfl, rfl, ⟨e1, e2⟩, w2, a2, i2, rfl, hI2⟩ := q3
  exact lw_eq e1 e2 (hend w2 a2 i2 hI2)
theorem lc_bridge (hH : lw_H Rq P n xs) (hI : Inv N w a i) (hk0 : 0 ≤ k) (hk6 : k + 6 ≤ n) (hend : ∀ w a i, Inv (N + 1) w a i → P 85 (lL k) [] (HH n xs w a i)) : P 53 (lL k) [] (HH n xs w a i) := by
  have hn := hH.2.2.2
  refine lw_blk hH rfl (fun hq => ?_)
  refine lw_a1 ?_
  refine lw_argI hq (by omega) (by omega) (by omega) ?_
  refine lw_argI hq (by omega) (by omega) (by omega) ?_
  refine lw_argI hq (by omega) (by omega) (by omega) ?_
  refine lw_argI hq (by omega) (by omega) (by omega) ?_
  refine lw_callI rfl (Nat.le_of_ble_eq_true rfl) (Nat.le_of_ble_eq_true rfl) ?_
  refine o_5_bridge [.inr (.inr 0), .inl (xs (k + 1)), .inl (xs (k + 2)), .inl (xs (k + 3)), .inl (xs (k + 4))] (HH n xs w a i) _ _ (fun r h2 q2 => ?_) (op_bridge hI (hH.2.2.1 _).1 (hH.2.2.1 _).2 (hH.2.2.1 _).1 (hH.2.2.1 _).2 (hH.2.2.1 _).1 (hH.2.2.1 _).2 (hH.2.2.1 _).1 (hH.2.2.1 _).2)
  show P 54 (lL k) (r.toList ++ []) h2
  rw [List.append_nil]
  refine lw_blk hH rfl (fun hq => ?_)
  refine lw_a2 ?_
  refine lw_argI hq (by omega) (by omega) (by omega) ?_
  refine lw_argI hq (by omega) (by omega) (by omega) ?_
  refine lw_argI hq (by omega) (by omega) (by omega) ?_
  refine lw_argI hq (by omega) (by omega) (by omega) ?_
  refine lw_callI rfl (by simp) (lw_szr r) ?_
  refine o_6_bridge [.inr (.inr 53), .inl (xs (k + 1)), .inl (xs (k + 2)), .inl (xs (k + 3)), .inl (xs (k + 4))] h2 _ _ (fun r2 h3 q3 => ?_) q2
  obtain ⟨e, rfl, rfl, ⟨e1, e2⟩, w2, a2, i2, rfl, hI2⟩ := q3
  exact lw_eq e1 e2 (hend w2 a2 i2 hI2)
theorem lc_broken (hH : lw_H Rq P n xs) (hI : Inv N w a i) (hk0 : 0 ≤ k) (hk6 : k + 6 ≤ n) (hend : ∀ w a i, Inv (N + 1) w a i → P 85 (lL k) [] (HH n xs w a i)) : P 55 (lL k) [] (HH n xs w a i) := by
  have hn := hH.2.2.2
  refine lw_blk hH rfl (fun hq => ?_)
  refine lw_a1 ?_
  refine lw_argI hq (by omega) (by omega) (by omega) ?_
  refine lw_argI hq (by omega) (by omega) (by omega) ?_
  refine lw_argI hq (by omega) (by omega) (by omega) ?_
  refine lw_argI hq (by omega) (by omega) (by omega) ?_
  refine lw_callI rfl (Nat.le_of_ble_eq_true rfl) (Nat.le_of_ble_eq_true rfl) ?_
  refine o_5_broken [.inr (.inr 0), .inl (xs (k + 1)), .inl (xs (k + 2)), .inl (xs (k + 3)), .inl (xs (k + 4))] (HH n xs w a i) _ _ (fun r h2 q2 => ?_) (op_broken hI (hH.2.2.1 _).1 (hH.2.2.1 _).2 (hH.2.2.1 _).1 (hH.2.2.1 _).2 (hH.2.2.1 _).1 (hH.2.2.1 _).2 (hH.2.2.1 _).1 (hH.2.2.1 _).2)
  show P 56 (lL k) (r.toList ++ []) h2
  rw [List.append_nil]
  refine lw_blk hH rfl (fun hq => ?_)
  refine lw_a2 ?_
  refine lw_argI hq (by omega) (by omega) (by omega) ?_
  refine lw_argI hq (by omega) (by omega) (by omega) ?_
  refine lw_argI hq (by omega) (by omega) (by omega) ?_
  refine lw_argI hq (by omega) (by omega) (by omega) ?_
  refine lw_callI rfl (by simp) (lw_szr r) ?_
  refine o_6_broken [.inr (.inr 53), .inl (xs (k + 1)), .inl (xs (k + 2)), .inl (xs (k + 3)), .inl (xs (k + 4))] h2 _ _ (fun r2 h3 q3 => ?_) q2
  obtain ⟨e, rfl, rfl, ⟨e1, e2⟩, w2, a2, i2, rfl, hI2⟩ := q3
  exact lw_eq e1 e2 (hend w2 a2 i2 hI2)
theorem lc_seed (hH : lw_H Rq P n xs) (hI : Inv N w a i) (hk0 : 0 ≤ k) (hk6 : k + 6 ≤ n) (hend : ∀ w a i, Inv (N + 1) w a i → P 85 (lL k) [] (HH n xs w a i)) : P 57 (lL k) [] (HH n xs w a i) := by
  have hn := hH.2.2.2
  refine lw_blk hH rfl (fun hq => ?_)
  refine lw_a1 ?_
  refine lw_argI hq (by omega) (by omega) (by omega) ?_
  refine lw_callI rfl (Nat.le_of_ble_eq_true rfl) (Nat.le_of_ble_eq_true rfl) ?_
  refine o_5_seed [.inr (.inr 0), .inl (xs (k + 1))] (HH n xs w a i) _ _ (fun r h2 q2 => ?_) (op_seed hI (hH.2.2.1 _).1 (hH.2.2.1 _).2)
  show P 58 (lL k) (r.toList ++ []) h2
  rw [List.append_nil]
  refine lw_blk hH rfl (fun hq => ?_)
  refine lw_a2 ?_
  refine lw_argI hq (by omega) (by omega) (by omega) ?_
  refine lw_callI rfl (by simp) (lw_szr r) ?_
  refine o_6_seed [.inr (.inr 53), .inl (xs (k + 1))] h2 _ _ (fun r2 h3 q3 => ?_) q2
  obtain ⟨e, rfl, rfl, ⟨e1, e2⟩, w2, a2, i2, rfl, hI2⟩ := q3
  exact lw_eq e1 e2 (hend w2 a2 i2 hI2)
theorem lc_shake (hH : lw_H Rq P n xs) (hI : Inv N w a i) (hk0 : 0 ≤ k) (hk6 : k + 6 ≤ n) (hend : ∀ w a i, Inv (N + 1) w a i → P 85 (lL k) [] (HH n xs w a i)) : P 59 (lL k) [] (HH n xs w a i) := by
  have hn := hH.2.2.2
  refine lw_blk hH rfl (fun hq => ?_)
  refine lw_a1 ?_
  refine lw_argI hq (by omega) (by omega) (by omega) ?_
  refine lw_callI rfl (Nat.le_of_ble_eq_true rfl) (Nat.le_of_ble_eq_true rfl) ?_
  refine o_5_shake [.inr (.inr 0), .inl (xs (k + 1))] (HH n xs w a i) _ _ (fun r h2 q2 => ?_) (op_shake hI (hH.2.2.1 _).1 (hH.2.2.1 _).2)
  show P 60 (lL k) (r.toList ++ []) h2
  rw [List.append_nil]
  refine lw_blk hH rfl (fun hq => ?_)
  refine lw_a2 ?_
  refine lw_argI hq (by omega) (by omega) (by omega) ?_
  refine lw_callI rfl (by simp) (lw_szr r) ?_
  refine o_6_shake [.inr (.inr 53), .inl (xs (k + 1))] h2 _ _ (fun r2 h3 q3 => ?_) q2
  obtain ⟨e, rfl, rfl, ⟨e1, e2⟩, w2, a2, i2, rfl, hI2⟩ := q3
  exact lw_eq e1 e2 (hend w2 a2 i2 hI2)
theorem lc_hold (hH : lw_H Rq P n xs) (hI : Inv N w a i) (hk0 : 0 ≤ k) (hk6 : k + 6 ≤ n) (hend : ∀ w a i, Inv (N + 1) w a i → P 85 (lL k) [] (HH n xs w a i)) : P 61 (lL k) [] (HH n xs w a i) := by
  have hn := hH.2.2.2
  refine lw_blk hH rfl (fun hq => ?_)
  refine lw_a1 ?_
  refine lw_argI hq (by omega) (by omega) (by omega) ?_
  refine lw_argI hq (by omega) (by omega) (by omega) ?_
  refine lw_callI rfl (Nat.le_of_ble_eq_true rfl) (Nat.le_of_ble_eq_true rfl) ?_
  refine o_5_hold [.inr (.inr 0), .inl (xs (k + 1)), .inl (xs (k + 2))] (HH n xs w a i) _ _ (fun r h2 q2 => ?_) (op_hold hI (hH.2.2.1 _).1 (hH.2.2.1 _).2 (hH.2.2.1 _).1 (hH.2.2.1 _).2)
  show P 62 (lL k) (r.toList ++ []) h2
  rw [List.append_nil]
  refine lw_blk hH rfl (fun hq => ?_)
  refine lw_a2 ?_
  refine lw_argI hq (by omega) (by omega) (by omega) ?_
  refine lw_argI hq (by omega) (by omega) (by omega) ?_
  refine lw_callI rfl (by simp) (lw_szr r) ?_
  refine o_6_hold [.inr (.inr 53), .inl (xs (k + 1)), .inl (xs (k + 2))] h2 _ _ (fun r2 h3 q3 => ?_) q2
  obtain ⟨e, rfl, rfl, ⟨e1, e2⟩, w2, a2, i2, rfl, hI2⟩ := q3
  exact lw_eq e1 e2 (hend w2 a2 i2 hI2)
theorem lc_as (hH : lw_H Rq P n xs) (hI : Inv N w a i) (hk0 : 0 ≤ k) (hk6 : k + 6 ≤ n) (hend : ∀ w a i, Inv (N + 1) w a i → P 85 (lL k) [] (HH n xs w a i)) : P 63 (lL k) [] (HH n xs w a i) := by
  have hn := hH.2.2.2
  refine lw_blk hH rfl (fun hq => ?_)
  refine lw_a1 ?_
  refine lw_argI hq (by omega) (by omega) (by omega) ?_
  refine lw_argI hq (by omega) (by omega) (by omega) ?_
  refine lw_callI rfl (Nat.le_of_ble_eq_true rfl) (Nat.le_of_ble_eq_true rfl) ?_
  refine o_5_as [.inr (.inr 0), .inl (xs (k + 1)), .inl (xs (k + 2))] (HH n xs w a i) _ _ (fun r h2 q2 => ?_) (op_as hI (hH.2.2.1 _).1 (hH.2.2.1 _).2 (hH.2.2.1 _).1 (hH.2.2.1 _).2)
  show P 64 (lL k) (r.toList ++ []) h2
  rw [List.append_nil]
  refine lw_blk hH rfl (fun hq => ?_)
  refine lw_a2 ?_
  refine lw_argI hq (by omega) (by omega) (by omega) ?_
  refine lw_argI hq (by omega) (by omega) (by omega) ?_
  refine lw_callI rfl (by simp) (lw_szr r) ?_
  refine o_6_as [.inr (.inr 53), .inl (xs (k + 1)), .inl (xs (k + 2))] h2 _ _ (fun r2 h3 q3 => ?_) q2
  obtain ⟨e, rfl, rfl, ⟨e1, e2⟩, w2, a2, i2, rfl, hI2⟩ := q3
  exact lw_eq e1 e2 (hend w2 a2 i2 hI2)
theorem lc_sheet (hH : lw_H Rq P n xs) (hI : Inv N w a i) (hk0 : 0 ≤ k) (hk6 : k + 6 ≤ n) (hend : ∀ w a i, Inv (N + 1) w a i → P 85 (lL k) [] (HH n xs w a i)) : P 65 (lL k) [] (HH n xs w a i) := by
  have hn := hH.2.2.2
  refine lw_blk hH rfl (fun hq => ?_)
  refine lw_a1 ?_
  refine lw_argI hq (by omega) (by omega) (by omega) ?_
  refine lw_argI hq (by omega) (by omega) (by omega) ?_
  refine lw_argI hq (by omega) (by omega) (by omega) ?_
  refine lw_callI rfl (Nat.le_of_ble_eq_true rfl) (Nat.le_of_ble_eq_true rfl) ?_
  refine o_5_sheet [.inr (.inr 0), .inl (xs (k + 1)), .inl (xs (k + 2)), .inl (xs (k + 3))] (HH n xs w a i) _ _ (fun r h2 q2 => ?_) (op_sheet hI (hH.2.2.1 _).1 (hH.2.2.1 _).2 (hH.2.2.1 _).1 (hH.2.2.1 _).2 (hH.2.2.1 _).1 (hH.2.2.1 _).2)
  show P 66 (lL k) (r.toList ++ []) h2
  rw [List.append_nil]
  refine lw_blk hH rfl (fun hq => ?_)
  refine lw_a2 ?_
  refine lw_argI hq (by omega) (by omega) (by omega) ?_
  refine lw_argI hq (by omega) (by omega) (by omega) ?_
  refine lw_argI hq (by omega) (by omega) (by omega) ?_
  refine lw_callI rfl (by simp) (lw_szr r) ?_
  refine o_6_sheet [.inr (.inr 53), .inl (xs (k + 1)), .inl (xs (k + 2)), .inl (xs (k + 3))] h2 _ _ (fun r2 h3 q3 => ?_) q2
  obtain ⟨e, rfl, rfl, ⟨e1, e2⟩, w2, a2, i2, rfl, hI2⟩ := q3
  exact lw_eq e1 e2 (hend w2 a2 i2 hI2)
theorem lc_write (hH : lw_H Rq P n xs) (hI : Inv N w a i) (hk0 : 0 ≤ k) (hk6 : k + 6 ≤ n) (hend : ∀ w a i, Inv (N + 1) w a i → P 85 (lL k) [] (HH n xs w a i)) : P 67 (lL k) [] (HH n xs w a i) := by
  have hn := hH.2.2.2
  refine lw_blk hH rfl (fun hq => ?_)
  refine lw_a1 ?_
  refine lw_argI hq (by omega) (by omega) (by omega) ?_
  refine lw_argI hq (by omega) (by omega) (by omega) ?_
  refine lw_argI hq (by omega) (by omega) (by omega) ?_
  refine lw_callI rfl (Nat.le_of_ble_eq_true rfl) (Nat.le_of_ble_eq_true rfl) ?_
  refine o_5_write [.inr (.inr 0), .inl (xs (k + 1)), .inl (xs (k + 2)), .inl (xs (k + 3))] (HH n xs w a i) _ _ (fun r h2 q2 => ?_) (op_write hI (hH.2.2.1 _).1 (hH.2.2.1 _).2 (hH.2.2.1 _).1 (hH.2.2.1 _).2 (hH.2.2.1 _).1 (hH.2.2.1 _).2)
  show P 68 (lL k) (r.toList ++ []) h2
  rw [List.append_nil]
  refine lw_blk hH rfl (fun hq => ?_)
  refine lw_a2 ?_
  refine lw_argI hq (by omega) (by omega) (by omega) ?_
  refine lw_argI hq (by omega) (by omega) (by omega) ?_
  refine lw_argI hq (by omega) (by omega) (by omega) ?_
  refine lw_callI rfl (by simp) (lw_szr r) ?_
  refine o_6_write [.inr (.inr 53), .inl (xs (k + 1)), .inl (xs (k + 2)), .inl (xs (k + 3))] h2 _ _ (fun r2 h3 q3 => ?_) q2
  obtain ⟨e, rfl, rfl, ⟨e1, e2⟩, w2, a2, i2, rfl, hI2⟩ := q3
  exact lw_eq e1 e2 (hend w2 a2 i2 hI2)
theorem lc_copy (hH : lw_H Rq P n xs) (hI : Inv N w a i) (hk0 : 0 ≤ k) (hk6 : k + 6 ≤ n) (hend : ∀ w a i, Inv (N + 1) w a i → P 85 (lL k) [] (HH n xs w a i)) : P 69 (lL k) [] (HH n xs w a i) := by
  have hn := hH.2.2.2
  refine lw_blk hH rfl (fun hq => ?_)
  refine lw_a1 ?_
  refine lw_argI hq (by omega) (by omega) (by omega) ?_
  refine lw_argI hq (by omega) (by omega) (by omega) ?_
  refine lw_argI hq (by omega) (by omega) (by omega) ?_
  refine lw_argI hq (by omega) (by omega) (by omega) ?_
  refine lw_argI hq (by omega) (by omega) (by omega) ?_
  refine lw_callI rfl (Nat.le_of_ble_eq_true rfl) (Nat.le_of_ble_eq_true rfl) ?_
  refine o_5_copy [.inr (.inr 0), .inl (xs (k + 1)), .inl (xs (k + 2)), .inl (xs (k + 3)), .inl (xs (k + 4)), .inl (xs (k + 5))] (HH n xs w a i) _ _ (fun r h2 q2 => ?_) (op_copy hI (hH.2.2.1 _).1 (hH.2.2.1 _).2 (hH.2.2.1 _).1 (hH.2.2.1 _).2 (hH.2.2.1 _).1 (hH.2.2.1 _).2 (hH.2.2.1 _).1 (hH.2.2.1 _).2 (hH.2.2.1 _).1 (hH.2.2.1 _).2)
  show P 70 (lL k) (r.toList ++ []) h2
  rw [List.append_nil]
  refine lw_blk hH rfl (fun hq => ?_)
  refine lw_a2 ?_
  refine lw_argI hq (by omega) (by omega) (by omega) ?_
  refine lw_argI hq (by omega) (by omega) (by omega) ?_
  refine lw_argI hq (by omega) (by omega) (by omega) ?_
  refine lw_argI hq (by omega) (by omega) (by omega) ?_
  refine lw_argI hq (by omega) (by omega) (by omega) ?_
  refine lw_callI rfl (by simp) (lw_szr r) ?_
  refine o_6_copy [.inr (.inr 53), .inl (xs (k + 1)), .inl (xs (k + 2)), .inl (xs (k + 3)), .inl (xs (k + 4)), .inl (xs (k + 5))] h2 _ _ (fun r2 h3 q3 => ?_) q2
  obtain ⟨e, rfl, rfl, ⟨e1, e2⟩, w2, a2, i2, rfl, hI2⟩ := q3
  exact lw_eq e1 e2 (hend w2 a2 i2 hI2)
theorem lc_load (hH : lw_H Rq P n xs) (hI : Inv N w a i) (hk0 : 0 ≤ k) (hk6 : k + 6 ≤ n) (hend : ∀ w a i, Inv (N + 1) w a i → P 85 (lL k) [] (HH n xs w a i)) : P 71 (lL k) [] (HH n xs w a i) := by
  have hn := hH.2.2.2
  refine lw_blk hH rfl (fun hq => ?_)
  refine lw_a1 ?_
  refine lw_argI hq (by omega) (by omega) (by omega) ?_
  refine lw_callI rfl (Nat.le_of_ble_eq_true rfl) (Nat.le_of_ble_eq_true rfl) ?_
  refine o_5_load [.inr (.inr 0), .inl (xs (k + 1))] (HH n xs w a i) _ _ (fun r h2 q2 => ?_) (op_load hI (hH.2.2.1 _).1 (hH.2.2.1 _).2)
  show P 72 (lL k) (r.toList ++ []) h2
  rw [List.append_nil]
  refine lw_blk hH rfl (fun hq => ?_)
  refine lw_a2 ?_
  refine lw_argI hq (by omega) (by omega) (by omega) ?_
  refine lw_callI rfl (by simp) (lw_szr r) ?_
  refine o_6_load [.inr (.inr 53), .inl (xs (k + 1))] h2 _ _ (fun r2 h3 q3 => ?_) q2
  obtain ⟨e, rfl, rfl, ⟨e1, e2⟩, w2, a2, i2, rfl, hI2⟩ := q3
  exact lw_eq e1 e2 (hend w2 a2 i2 hI2)
theorem lc_judge (hH : lw_H Rq P n xs) (hI : Inv N w a i) (hk0 : 0 ≤ k) (hk6 : k + 6 ≤ n) (hend : ∀ w a i, Inv (N + 1) w a i → P 85 (lL k) [] (HH n xs w a i)) : P 73 (lL k) [] (HH n xs w a i) := by
  have hn := hH.2.2.2
  refine lw_blk hH rfl (fun hq => ?_)
  refine lw_a1 ?_
  refine lw_argI hq (by omega) (by omega) (by omega) ?_
  refine lw_callI rfl (Nat.le_of_ble_eq_true rfl) (Nat.le_of_ble_eq_true rfl) ?_
  refine o_5_judge [.inr (.inr 0), .inl (xs (k + 1))] (HH n xs w a i) _ _ (fun r h2 q2 => ?_) (op_judge hI (hH.2.2.1 _).1 (hH.2.2.1 _).2)
  show P 74 (lL k) (r.toList ++ []) h2
  rw [List.append_nil]
  refine lw_blk hH rfl (fun hq => ?_)
  refine lw_a2 ?_
  refine lw_argI hq (by omega) (by omega) (by omega) ?_
  refine lw_callI rfl (by simp) (lw_szr r) ?_
  refine o_6_judge [.inr (.inr 53), .inl (xs (k + 1))] h2 _ _ (fun r2 h3 q3 => ?_) q2
  obtain ⟨e, rfl, rfl, ⟨e1, e2⟩, w2, a2, i2, rfl, hI2⟩ := q3
  exact lw_eq e1 e2 (hend w2 a2 i2 hI2)
theorem lc_image (hH : lw_H Rq P n xs) (hI : Inv N w a i) (hk0 : 0 ≤ k) (hk6 : k + 6 ≤ n) (hend : ∀ w a i, Inv (N + 1) w a i → P 85 (lL k) [] (HH n xs w a i)) : P 75 (lL k) [] (HH n xs w a i) := by
  have hn := hH.2.2.2
  refine lw_blk hH rfl (fun hq => ?_)
  refine lw_a1 ?_
  refine lw_callI rfl (Nat.le_of_ble_eq_true rfl) (Nat.le_of_ble_eq_true rfl) ?_
  refine o_5_image [.inr (.inr 0)] (HH n xs w a i) _ _ (fun r h2 q2 => ?_) (op_image hI )
  show P 76 (lL k) (r.toList ++ []) h2
  rw [List.append_nil]
  refine lw_blk hH rfl (fun hq => ?_)
  refine lw_a2 ?_
  refine lw_callI rfl (by simp) (lw_szr r) ?_
  refine o_6_image [.inr (.inr 53)] h2 _ _ (fun r2 h3 q3 => ?_) q2
  obtain ⟨e, rfl, rfl, ⟨e1, e2⟩, w2, a2, i2, rfl, hI2⟩ := q3
  exact lw_eq e1 e2 (hend w2 a2 i2 hI2)
theorem lc_undo (hH : lw_H Rq P n xs) (hI : Inv N w a i) (hk0 : 0 ≤ k) (hk6 : k + 6 ≤ n) (hend : ∀ w a i, Inv (N + 1) w a i → P 85 (lL k) [] (HH n xs w a i)) : P 77 (lL k) [] (HH n xs w a i) := by
  have hn := hH.2.2.2
  refine lw_blk hH rfl (fun hq => ?_)
  refine lw_a1 ?_
  refine lw_callI rfl (Nat.le_of_ble_eq_true rfl) (Nat.le_of_ble_eq_true rfl) ?_
  refine o_5_undo [.inr (.inr 0)] (HH n xs w a i) _ _ (fun r h2 q2 => ?_) (op_undo hI )
  show P 78 (lL k) (r.toList ++ []) h2
  rw [List.append_nil]
  refine lw_blk hH rfl (fun hq => ?_)
  refine lw_a2 ?_
  refine lw_callI rfl (by simp) (lw_szr r) ?_
  refine o_6_undo [.inr (.inr 53)] h2 _ _ (fun r2 h3 q3 => ?_) q2
  obtain ⟨e, rfl, rfl, ⟨e1, e2⟩, w2, a2, i2, rfl, hI2⟩ := q3
  exact lw_eq e1 e2 (hend w2 a2 i2 hI2)
theorem lc_tear (hH : lw_H Rq P n xs) (hI : Inv N w a i) (hk0 : 0 ≤ k) (hk6 : k + 6 ≤ n) (hend : ∀ w a i, Inv (N + 1) w a i → P 85 (lL k) [] (HH n xs w a i)) : P 79 (lL k) [] (HH n xs w a i) := by
  have hn := hH.2.2.2
  refine lw_blk hH rfl (fun hq => ?_)
  refine lw_a1 ?_
  refine lw_callI rfl (Nat.le_of_ble_eq_true rfl) (Nat.le_of_ble_eq_true rfl) ?_
  refine o_5_tear [.inr (.inr 0)] (HH n xs w a i) _ _ (fun r h2 q2 => ?_) (op_tear hI )
  show P 80 (lL k) (r.toList ++ []) h2
  rw [List.append_nil]
  refine lw_blk hH rfl (fun hq => ?_)
  refine lw_a2 ?_
  refine lw_callI rfl (by simp) (lw_szr r) ?_
  refine o_6_tear [.inr (.inr 53)] h2 _ _ (fun r2 h3 q3 => ?_) q2
  obtain ⟨e, rfl, rfl, ⟨e1, e2⟩, w2, a2, i2, rfl, hI2⟩ := q3
  exact lw_eq e1 e2 (hend w2 a2 i2 hI2)
theorem lc_count (hH : lw_H Rq P n xs) (hI : Inv N w a i) (hk0 : 0 ≤ k) (hk6 : k + 6 ≤ n) (hend : ∀ w a i, Inv (N + 1) w a i → P 85 (lL k) [] (HH n xs w a i)) : P 81 (lL k) [] (HH n xs w a i) := by
  have hn := hH.2.2.2
  refine lw_blk hH rfl (fun hq => ?_)
  refine lw_a1 ?_
  refine lw_argI hq (by omega) (by omega) (by omega) ?_
  refine lw_callI rfl (Nat.le_of_ble_eq_true rfl) (Nat.le_of_ble_eq_true rfl) ?_
  refine o_5_count [.inr (.inr 0), .inl (xs (k + 1))] (HH n xs w a i) _ _ (fun r h2 q2 => ?_) (op_count hI (hH.2.2.1 _).1 (hH.2.2.1 _).2)
  show P 82 (lL k) (r.toList ++ []) h2
  rw [List.append_nil]
  refine lw_blk hH rfl (fun hq => ?_)
  refine lw_a2 ?_
  refine lw_argI hq (by omega) (by omega) (by omega) ?_
  refine lw_callI rfl (by simp) (lw_szr r) ?_
  refine o_6_count [.inr (.inr 53), .inl (xs (k + 1))] h2 _ _ (fun r2 h3 q3 => ?_) q2
  obtain ⟨e, rfl, rfl, ⟨e1, e2⟩, w2, a2, i2, rfl, hI2⟩ := q3
  exact lw_eq e1 e2 (hend w2 a2 i2 hI2)
theorem lc_status (hH : lw_H Rq P n xs) (hI : Inv N w a i) (hN : N ≤ 100) (hk0 : 0 ≤ k) (hk6 : k + 6 ≤ n) (hend : ∀ w a i, Inv (N + 1) w a i → P 85 (lL k) [] (HH n xs w a i)) : P 83 (lL k) [] (HH n xs w a i) := by
  have hn := hH.2.2.2
  refine lw_blk hH rfl (fun hq => ?_)
  refine lw_a1 ?_
  refine lw_argI hq (by omega) (by omega) (by omega) ?_
  refine lw_callI rfl (Nat.le_of_ble_eq_true rfl) (Nat.le_of_ble_eq_true rfl) ?_
  refine o_5_status [.inr (.inr 0), .inl (xs (k + 1))] (HH n xs w a i) _ _ (fun r h2 q2 => ?_) (op_status hI hN (hH.2.2.1 _).1 (hH.2.2.1 _).2)
  show P 84 (lL k) (r.toList ++ []) h2
  rw [List.append_nil]
  refine lw_blk hH rfl (fun hq => ?_)
  refine lw_a2 ?_
  refine lw_argI hq (by omega) (by omega) (by omega) ?_
  refine lw_callI rfl (by simp) (lw_szr r) ?_
  refine o_6_status [.inr (.inr 53), .inl (xs (k + 1))] h2 _ _ (fun r2 h3 q3 => ?_) q2
  obtain ⟨e, rfl, rfl, ⟨e1, e2⟩, w2, a2, i2, rfl, hI2⟩ := q3
  exact lw_eq e1 e2 (hend w2 a2 i2 hI2)
end LWC
