/-! the program as tables: by wip/whole/gen.py out of what TURN printed of the class, the law and the reference -/
abbrev ex_cn : List String := [RX0, RX1, RX2, RX3, RX4, RX5, RX6, RX7, RX8, RX9, RX10, RX11, RX12, RJ6, RJ9, RJ7, RL]
/-- a method: kind (0 static, 1 instance, 2 constructor), its class, how many arguments, locals, answer (0 none, 1 int, 2 boolean) -/
def ex_mt : List (Nat × Nat × Nat × Nat × Nat) := [(2, 0, 1, 1, 0),
  (1, 0, 3, 6, 1),
  (1, 0, 2, 5, 1),
  (1, 0, 4, 8, 2),
  (1, 0, 3, 6, 1),
  (1, 0, 3, 4, 1),
  (2, 1, 1, 1, 0),
  (1, 1, 2, 2, 0),
  (1, 1, 2, 3, 1),
  (2, 2, 1, 1, 0),
  (1, 2, 2, 2, 0),
  (0, 2, 1, 1, 2),
  (0, 2, 2, 2, 2),
  (1, 2, 2, 2, 2),
  (1, 2, 2, 2, 2),
  (1, 2, 5, 6, 1),
  (1, 2, 7, 9, 1),
  (1, 2, 3, 3, 1),
  (1, 2, 4, 5, 1),
  (1, 2, 3, 5, 2),
  (1, 2, 2, 2, 1),
  (1, 2, 2, 2, 1),
  (1, 2, 3, 3, 2),
  (1, 2, 3, 3, 1),
  (1, 2, 2, 4, 1),
  (1, 2, 2, 2, 2),
  (1, 2, 2, 3, 2),
  (1, 2, 3, 3, 1),
  (1, 2, 3, 3, 1),
  (1, 2, 3, 3, 0),
  (1, 2, 2, 3, 0),
  (1, 2, 3, 3, 0),
  (1, 2, 3, 4, 0),
  (1, 2, 1, 3, 1),
  (1, 2, 2, 5, 1),
  (1, 2, 1, 3, 1),
  (1, 2, 2, 6, 1),
  (1, 2, 2, 2, 1),
  (2, 3, 1, 1, 0),
  (1, 3, 2, 2, 0),
  (1, 3, 4, 4, 0),
  (1, 3, 4, 7, 2),
  (1, 3, 3, 5, 1),
  (2, 4, 1, 1, 0),
  (1, 4, 2, 2, 0),
  (1, 4, 3, 3, 0),
  (1, 4, 4, 11, 1),
  (1, 4, 2, 3, 1),
  (1, 4, 3, 4, 1),
  (1, 4, 5, 7, 1),
  (2, 5, 1, 1, 0),
  (1, 5, 2, 2, 1),
  (1, 5, 4, 8, 0),
  (1, 5, 3, 7, 1),
  (2, 6, 1, 1, 0),
  (1, 6, 3, 3, 1),
  (1, 6, 6, 7, 0),
  (1, 6, 3, 5, 1),
  (2, 7, 1, 1, 0),
  (1, 7, 3, 4, 1),
  (1, 7, 5, 8, 0),
  (2, 8, 1, 1, 0),
  (0, 8, 1, 1, 2),
  (1, 8, 7, 7, 0),
  (1, 8, 3, 3, 2),
  (1, 8, 3, 7, 1),
  (0, 8, 1, 1, 1),
  (1, 8, 3, 5, 1),
  (1, 8, 2, 2, 1),
  (0, 8, 3, 3, 2),
  (2, 9, 1, 1, 0),
  (1, 9, 2, 2, 2),
  (1, 9, 2, 2, 2),
  (1, 9, 4, 4, 0),
  (1, 9, 3, 3, 1),
  (1, 9, 4, 4, 0),
  (1, 9, 4, 4, 2),
  (1, 9, 6, 6, 0),
  (2, 10, 1, 1, 0),
  (1, 10, 3, 3, 0),
  (1, 10, 2, 2, 2),
  (1, 10, 4, 5, 1),
  (1, 10, 4, 9, 2),
  (1, 10, 3, 5, 2),
  (2, 11, 1, 2, 0),
  (1, 11, 5, 5, 1),
  (1, 11, 3, 3, 1),
  (1, 11, 3, 4, 1),
  (1, 11, 3, 5, 1),
  (1, 11, 7, 7, 1),
  (1, 11, 3, 4, 1),
  (1, 11, 4, 4, 1),
  (1, 11, 3, 4, 1),
  (1, 11, 3, 3, 1),
  (1, 11, 3, 5, 1),
  (1, 11, 3, 5, 1),
  (1, 11, 2, 4, 1),
  (1, 11, 1, 1, 1),
  (1, 11, 2, 3, 1),
  (1, 11, 2, 3, 1),
  (1, 11, 2, 4, 1),
  (1, 11, 3, 5, 1),
  (1, 11, 3, 4, 1),
  (1, 11, 2, 4, 1),
  (1, 11, 2, 2, 1),
  (1, 11, 1, 2, 1),
  (1, 11, 1, 2, 1),
  (1, 11, 2, 3, 1),
  (1, 11, 2, 3, 1),
  (1, 11, 1, 1, 1),
  (1, 11, 2, 3, 1),
  (1, 11, 4, 5, 1),
  (1, 11, 2, 2, 1),
  (1, 11, 2, 2, 1),
  (1, 11, 1, 1, 1),
  (1, 11, 2, 3, 1),
  (1, 11, 3, 3, 1),
  (1, 11, 4, 5, 1),
  (1, 11, 2, 4, 1),
  (1, 11, 1, 1, 1),
  (1, 11, 4, 4, 1),
  (1, 11, 3, 4, 1),
  (1, 11, 2, 3, 1),
  (1, 11, 1, 1, 1),
  (1, 11, 2, 2, 1),
  (1, 11, 4, 4, 1),
  (1, 11, 4, 4, 1),
  (1, 11, 4, 4, 1),
  (1, 11, 4, 4, 1),
  (1, 11, 6, 6, 1),
  (1, 11, 1, 2, 1),
  (1, 11, 2, 2, 1),
  (1, 11, 2, 2, 1),
  (1, 11, 1, 2, 0),
  (1, 11, 2, 2, 1),
  (1, 11, 1, 1, 1),
  (1, 11, 4, 5, 2),
  (0, 11, 3, 3, 2),
  (0, 11, 1, 1, 2),
  (0, 11, 1, 1, 2),
  (0, 11, 1, 1, 2),
  (2, 12, 1, 2, 0),
  (1, 12, 2, 2, 1),
  (0, 12, 3, 3, 2),
  (1, 12, 2, 2, 2),
  (1, 12, 2, 2, 2),
  (0, 12, 1, 1, 2),
  (1, 12, 1, 2, 0),
  (1, 12, 1, 2, 1),
  (1, 12, 5, 6, 1),
  (1, 12, 2, 2, 2),
  (1, 12, 3, 4, 1),
  (1, 12, 3, 3, 1),
  (1, 12, 2, 4, 1),
  (1, 12, 3, 3, 1),
  (1, 12, 3, 4, 1),
  (1, 12, 7, 9, 1),
  (1, 12, 2, 4, 1),
  (1, 12, 2, 2, 1),
  (1, 12, 3, 4, 1),
  (1, 12, 4, 5, 1),
  (1, 12, 3, 3, 1),
  (1, 12, 3, 3, 2),
  (1, 12, 3, 3, 1),
  (1, 12, 2, 2, 2),
  (1, 12, 2, 3, 2),
  (1, 12, 2, 2, 0),
  (1, 12, 3, 3, 0),
  (1, 12, 2, 2, 0),
  (1, 12, 3, 3, 1),
  (1, 12, 3, 4, 1),
  (1, 12, 3, 3, 0),
  (1, 12, 2, 3, 0),
  (1, 12, 3, 4, 1),
  (1, 12, 2, 3, 1),
  (1, 12, 1, 3, 1),
  (1, 12, 2, 3, 1),
  (1, 12, 2, 5, 1),
  (1, 12, 2, 3, 0),
  (1, 12, 2, 3, 0),
  (1, 12, 4, 6, 2),
  (1, 12, 2, 3, 1),
  (1, 12, 2, 3, 1),
  (1, 12, 3, 4, 1),
  (1, 12, 3, 6, 1),
  (1, 12, 2, 5, 1),
  (1, 12, 2, 4, 1),
  (1, 12, 2, 3, 1),
  (1, 12, 2, 2, 1),
  (1, 12, 1, 2, 1),
  (1, 12, 3, 8, 1),
  (1, 12, 3, 5, 0),
  (1, 12, 1, 1, 0),
  (1, 12, 1, 1, 1),
  (1, 12, 2, 3, 1),
  (1, 12, 2, 3, 1),
  (1, 12, 2, 3, 0),
  (1, 12, 2, 7, 1),
  (1, 12, 2, 4, 2),
  (0, 12, 1, 3, 1),
  (1, 12, 1, 4, 1),
  (1, 12, 1, 1, 1),
  (1, 12, 2, 4, 1),
  (1, 12, 4, 5, 1),
  (1, 12, 4, 6, 1),
  (1, 12, 1, 6, 1),
  (1, 12, 2, 3, 1),
  (1, 12, 2, 3, 1),
  (1, 12, 1, 1, 1),
  (1, 12, 2, 3, 1),
  (1, 12, 3, 3, 1),
  (1, 12, 4, 11, 1),
  (0, 12, 1, 1, 2),
  (1, 12, 2, 3, 1),
  (1, 12, 1, 5, 1),
  (1, 12, 1, 1, 1),
  (1, 12, 5, 5, 1),
  (0, 12, 3, 3, 2),
  (1, 12, 4, 7, 2),
  (1, 12, 4, 4, 1),
  (1, 12, 3, 4, 1),
  (1, 12, 2, 3, 1),
  (1, 12, 2, 3, 1),
  (1, 12, 3, 5, 0),
  (1, 12, 1, 1, 0),
  (1, 12, 1, 1, 1),
  (1, 12, 2, 2, 1),
  (1, 12, 4, 4, 1),
  (1, 12, 4, 9, 2),
  (1, 12, 4, 4, 1),
  (0, 12, 1, 1, 2),
  (1, 12, 4, 5, 1),
  (1, 12, 4, 5, 1),
  (1, 12, 6, 7, 1),
  (1, 12, 2, 4, 1),
  (0, 13, 1, 1, 1),
  (0, 14, 2, 2, 1),
  (0, 14, 2, 2, 1),
  (0, 15, 3, 3, 0),
  (0, 15, 2, 4, 0),
  (0, 15, 4, 5, 0),
  (0, 16, 1, 4, 2)]
def ex_cf : List (List (Option (Option Nat))) := [[some none, some none],
  [some none, some none, some none, some none, some none, some none, none, none, none, none, none, none, none],
  [none, none, some none, some none, some none, some none, some none, some none, some none, some none, some none, some none, some none],
  [none, some none, some none, some none],
  [none, some none, some none],
  [some none, some none, some none, none],
  [some none, some none, none],
  [some none, none, some none, some none, none],
  [some none, some none],
  [some none, some none, some none],
  [some none, some none, none],
  [some none, some none, some none, some none, some none, some none, some none, some none, some none, none, none, none],
  [some none, some none, none, none, some none, some none, some none, some none, some none, some none, some none, none, some none, some none, some none, none, none, some none, some none, some none, some none]]
def bk_0_0 : List Instr := [.aload 0, .invokedynamic 1, .aload 0, .sipush 24, .newarray .int, .putfield 0, .aload 0, .sipush 8, .newarray .int, .putfield 1, .return_]
def bk_1_0 : List Instr := [.aload 0, .aload 1, .invokevirtual 2, .istore 3, .sipush 0, .istore 4, .sipush 1, .istore 5, .goto_w 1]
def bk_1_1 : List Instr := [.iload 5, .iload 3, .if_icmp .gt 3, .iload 5, .iload 3, .sipush (-1), .ixor, .iand, .ifCond .ne 2, .iload 5, .invokestatic 235, .iload 4, .invokestatic 235, .if_icmp .le 2, .aload 0, .aload 1, .iload 2, .iload 5, .invokevirtual 3, .ifCond .eq 2, .iload 5, .istore 4, .goto_w 2]
def bk_1_2 : List Instr := [.iinc 5 1, .goto 1]
def bk_1_3 : List Instr := [.iload 4, .ireturn]
def bk_2_0 : List Instr := [.sipush 0, .istore 2, .sipush 0, .istore 3, .goto_w 1]
def bk_2_1 : List Instr := [.iload 3, .aload 1, .getfield 65, .if_icmp .ge 6, .aload 1, .getfield 76, .iload 3, .iaload, .sipush (-1), .if_icmp .eq 2, .aload 1, .iload 3, .sipush 4, .invokevirtual 17, .ifCond .le 2, .sipush 1, .goto 3]
def bk_2_2 : List Instr := [.sipush 0, .goto_w 3]
def bk_2_3 : List Instr := [.istore 4, .iload 2, .iload 4, .ifCond .eq 4, .sipush 1, .iload 3, .ishl, .goto 5]
def bk_2_4 : List Instr := [.sipush 0, .goto_w 5]
def bk_2_5 : List Instr := [.ior, .istore 2, .iinc 3 1, .goto 1]
def bk_2_6 : List Instr := [.iload 2, .ireturn]
def bk_3_0 : List Instr := [.sipush 0, .istore 4, .sipush 0, .istore 5, .goto_w 1]
def bk_3_1 : List Instr := [.iload 5, .aload 1, .getfield 65, .if_icmp .ge 4, .aload 0, .getfield 1, .iload 5, .iload 3, .iload 5, .ishr, .sipush 1, .iand, .ifCond .ne 2, .sipush 0, .goto 3]
def bk_3_2 : List Instr := [.aload 1, .iload 5, .sipush 4, .invokevirtual 17, .goto_w 3]
def bk_3_3 : List Instr := [.iastore, .iload 4, .aload 0, .getfield 1, .iload 5, .iaload, .iadd, .istore 4, .iinc 5 1, .goto 1]
def bk_3_4 : List Instr := [.sipush 23, .istore 5, .goto_w 5]
def bk_3_5 : List Instr := [.iload 5, .ifCond .lt 9, .aload 0, .getfield 0, .iload 5, .sipush 0, .iastore, .sipush 0, .istore 6, .goto_w 6]
def bk_3_6 : List Instr := [.iload 6, .iload 2, .if_icmp .ge 8, .aload 0, .aload 1, .iload 5, .invokevirtual 4, .istore 7, .iload 7, .sipush (-1), .if_icmp .eq 7, .aload 0, .getfield 0, .iload 5, .dup2, .iaload, .sipush 1, .iload 7, .ishl, .ior, .iastore, .goto_w 7]
def bk_3_7 : List Instr := [.iinc 6 1, .goto 6]
def bk_3_8 : List Instr := [.iload 4, .aload 0, .aload 1, .aload 0, .getfield 0, .iload 5, .iaload, .invokevirtual 5, .isub, .istore 4, .iinc 5 (-1), .goto 5]
def bk_3_9 : List Instr := [.iload 4, .ifCond .ne 10, .sipush 1, .goto 11]
def bk_3_10 : List Instr := [.sipush 0, .goto_w 11]
def bk_3_11 : List Instr := [.ireturn]
def bk_4_0 : List Instr := [.sipush (-1), .istore 3, .sipush 0, .istore 4, .sipush 0, .istore 5, .goto_w 1]
def bk_4_1 : List Instr := [.iload 5, .aload 1, .getfield 65, .if_icmp .ge 3, .aload 0, .getfield 1, .iload 5, .iaload, .iload 4, .if_icmp .le 2, .aload 0, .getfield 0, .iload 2, .iaload, .iload 5, .ishr, .sipush 1, .iand, .ifCond .ne 2, .aload 1, .iload 5, .sipush 3, .invokevirtual 17, .iload 2, .if_icmp .le 2, .iload 5, .istore 3, .aload 0, .getfield 1, .iload 5, .iaload, .istore 4, .goto_w 2]
def bk_4_2 : List Instr := [.iinc 5 1, .goto 1]
def bk_4_3 : List Instr := [.iload 3, .ireturn]
def bk_5_0 : List Instr := [.sipush 0, .istore 3, .goto_w 1]
def bk_5_1 : List Instr := [.iload 3, .aload 1, .getfield 65, .if_icmp .ge 2, .aload 0, .getfield 1, .iload 3, .dup2, .iaload, .iload 2, .iload 3, .ishr, .sipush 1, .iand, .isub, .iastore, .iinc 3 1, .goto 1]
def bk_5_2 : List Instr := [.iload 2, .invokestatic 235, .ireturn]
def bk_6_0 : List Instr := [.aload 0, .invokedynamic 1, .aload 0, .new 2, .dup, .invokespecial 9, .putfield 32, .aload 0, .new 4, .dup, .invokespecial 43, .putfield 33, .aload 0, .new 3, .dup, .invokespecial 38, .putfield 34, .aload 0, .sipush 25, .newarray .int, .putfield 35, .aload 0, .sipush 16, .newarray .int, .putfield 36, .aload 0, .sipush 7, .newarray .int, .putfield 37, .aload 0, .sipush 0, .putfield 38, .aload 0, .sipush 0, .putfield 39, .aload 0, .sipush 0, .putfield 40, .aload 0, .sipush 1, .putfield 41, .aload 0, .sipush 0, .putfield 42, .aload 0, .sipush 10, .putfield 43, .aload 0, .sipush 0, .putfield 44, .return_]
def bk_7_0 : List Instr := [.aload 0, .getfield 32, .aload 1, .getfield 32, .invokevirtual 10, .aload 0, .getfield 33, .aload 1, .getfield 33, .invokevirtual 44, .aload 0, .getfield 34, .aload 1, .getfield 34, .invokevirtual 39, .aload 1, .getfield 35, .sipush 0, .aload 0, .getfield 35, .sipush 0, .aload 0, .getfield 35, .arraylength, .invokedynamic 0, .aload 1, .getfield 36, .sipush 0, .aload 0, .getfield 36, .sipush 0, .aload 0, .getfield 36, .arraylength, .invokedynamic 0, .aload 1, .getfield 37, .sipush 0, .aload 0, .getfield 37, .sipush 0, .aload 0, .getfield 37, .arraylength, .invokedynamic 0, .aload 0, .aload 1, .getfield 38, .putfield 38, .aload 0, .aload 1, .getfield 39, .putfield 39, .aload 0, .aload 1, .getfield 40, .putfield 40, .aload 0, .aload 1, .getfield 41, .putfield 41, .aload 0, .aload 1, .getfield 42, .putfield 42, .aload 0, .aload 1, .getfield 43, .putfield 43, .aload 0, .aload 1, .getfield 44, .putfield 44, .return_]
def bk_8_0 : List Instr := [.sipush 0, .istore 2, .goto_w 1]
def bk_8_1 : List Instr := [.iload 2, .aload 0, .getfield 39, .if_icmp .ge 3, .aload 0, .getfield 37, .iload 2, .iaload, .iload 1, .if_icmp .ne 2, .iload 2, .ireturn]
def bk_8_2 : List Instr := [.iinc 2 1, .goto 1]
def bk_8_3 : List Instr := [.sipush (-1), .ireturn]
def bk_9_0 : List Instr := [.aload 0, .invokedynamic 1, .aload 0, .sipush 0, .putfield 64, .aload 0, .sipush 0, .putfield 65, .aload 0, .sipush 5, .newarray .int, .putfield 66, .aload 0, .sipush 5, .newarray .int, .putfield 67, .aload 0, .sipush 5, .newarray .int, .putfield 68, .aload 0, .sipush 5, .newarray .int, .putfield 69, .aload 0, .sipush 5, .newarray .int, .putfield 70, .aload 0, .sipush 5, .newarray .int, .putfield 71, .aload 0, .sipush 5, .newarray .int, .putfield 72, .aload 0, .sipush 5, .newarray .int, .putfield 73, .aload 0, .sipush 40, .newarray .int, .putfield 74, .aload 0, .sipush 48, .newarray .int, .putfield 75, .aload 0, .sipush 8, .newarray .int, .putfield 76, .return_]
def bk_10_0 : List Instr := [.aload 0, .aload 1, .getfield 64, .putfield 64, .aload 0, .aload 1, .getfield 65, .putfield 65, .aload 1, .getfield 66, .sipush 0, .aload 0, .getfield 66, .sipush 0, .aload 0, .getfield 66, .arraylength, .invokedynamic 0, .aload 1, .getfield 67, .sipush 0, .aload 0, .getfield 67, .sipush 0, .aload 0, .getfield 67, .arraylength, .invokedynamic 0, .aload 1, .getfield 68, .sipush 0, .aload 0, .getfield 68, .sipush 0, .aload 0, .getfield 68, .arraylength, .invokedynamic 0, .aload 1, .getfield 69, .sipush 0, .aload 0, .getfield 69, .sipush 0, .aload 0, .getfield 69, .arraylength, .invokedynamic 0, .aload 1, .getfield 70, .sipush 0, .aload 0, .getfield 70, .sipush 0, .aload 0, .getfield 70, .arraylength, .invokedynamic 0, .aload 1, .getfield 71, .sipush 0, .aload 0, .getfield 71, .sipush 0, .aload 0, .getfield 71, .arraylength, .invokedynamic 0, .aload 1, .getfield 72, .sipush 0, .aload 0, .getfield 72, .sipush 0, .aload 0, .getfield 72, .arraylength, .invokedynamic 0, .aload 1, .getfield 73, .sipush 0, .aload 0, .getfield 73, .sipush 0, .aload 0, .getfield 73, .arraylength, .invokedynamic 0, .aload 1, .getfield 74, .sipush 0, .aload 0, .getfield 74, .sipush 0, .aload 0, .getfield 74, .arraylength, .invokedynamic 0, .aload 1, .getfield 75, .sipush 0, .aload 0, .getfield 75, .sipush 0, .aload 0, .getfield 75, .arraylength, .invokedynamic 0, .aload 1, .getfield 76, .sipush 0, .aload 0, .getfield 76, .sipush 0, .aload 0, .getfield 76, .arraylength, .invokedynamic 0, .return_]
def bk_11_0 : List Instr := [.iload 0, .ifCond .lt 1, .iload 0, .getstatic 0, .arraylength, .if_icmp .ge 1, .sipush 1, .goto 2]
def bk_11_1 : List Instr := [.sipush 0, .goto_w 2]
def bk_11_2 : List Instr := [.ireturn]
def bk_12_0 : List Instr := [.iload 0, .ifCond .lt 1, .iload 0, .sipush 6, .if_icmp .ge 1, .iload 1, .getstatic 1, .iload 0, .iaload, .if_icmp .lt 1, .iload 1, .getstatic 2, .iload 0, .iaload, .if_icmp .gt 1, .sipush 1, .goto 2]
def bk_12_1 : List Instr := [.sipush 0, .goto_w 2]
def bk_12_2 : List Instr := [.ireturn]
def bk_13_0 : List Instr := [.iload 1, .ifCond .lt 1, .iload 1, .aload 0, .getfield 64, .if_icmp .ge 1, .sipush 1, .goto 2]
def bk_13_1 : List Instr := [.sipush 0, .goto_w 2]
def bk_13_2 : List Instr := [.ireturn]
def bk_14_0 : List Instr := [.iload 1, .ifCond .lt 1, .iload 1, .aload 0, .getfield 65, .if_icmp .ge 1, .sipush 1, .goto 2]
def bk_14_1 : List Instr := [.sipush 0, .goto_w 2]
def bk_14_2 : List Instr := [.ireturn]
def bk_15_0 : List Instr := [.aload 0, .getfield 64, .istore 5, .aload 0, .getfield 66, .iload 5, .iload 1, .iastore, .aload 0, .getfield 67, .iload 5, .iload 2, .iastore, .aload 0, .getfield 68, .iload 5, .iload 3, .iastore, .aload 0, .getfield 69, .iload 5, .iload 4, .iastore, .aload 0, .getfield 70, .iload 5, .sipush 100, .iastore, .aload 0, .getfield 71, .iload 5, .sipush 0, .iastore, .aload 0, .getfield 72, .iload 5, .sipush 0, .iastore, .aload 0, .getfield 73, .iload 5, .sipush 0, .iastore, .aload 0, .dup, .getfield 64, .sipush 1, .iadd, .putfield 64, .iload 5, .ireturn]
def bk_16_0 : List Instr := [.aload 0, .getfield 65, .istore 7, .iload 7, .sipush 6, .imul, .istore 8, .aload 0, .getfield 75, .iload 8, .sipush 0, .iadd, .iload 1, .iastore, .aload 0, .getfield 75, .iload 8, .sipush 1, .iadd, .iload 2, .iastore, .aload 0, .getfield 75, .iload 8, .sipush 2, .iadd, .iload 3, .iastore, .aload 0, .getfield 75, .iload 8, .sipush 3, .iadd, .iload 4, .iastore, .aload 0, .getfield 75, .iload 8, .sipush 4, .iadd, .iload 5, .iastore, .aload 0, .getfield 75, .iload 8, .sipush 5, .iadd, .iload 6, .iastore, .aload 0, .getfield 76, .iload 7, .sipush (-1), .iastore, .aload 0, .dup, .getfield 65, .sipush 1, .iadd, .putfield 65, .iload 7, .ireturn]
def bk_17_0 : List Instr := [.aload 0, .getfield 75, .iload 1, .sipush 6, .imul, .iload 2, .iadd, .iaload, .ireturn]
def bk_18_0 : List Instr := [.aload 0, .getfield 75, .iload 1, .sipush 6, .imul, .iload 2, .iadd, .iaload, .istore 4, .aload 0, .getfield 75, .iload 1, .sipush 6, .imul, .iload 2, .iadd, .iload 3, .iastore, .iload 4, .ireturn]
def bk_19_0 : List Instr := [.aload 0, .getfield 66, .iload 1, .iaload, .istore 3, .sipush 0, .istore 4, .goto_w 1]
def bk_19_1 : List Instr := [.iload 4, .getstatic 0, .arraylength, .if_icmp .ge 3, .iload 3, .sipush (-1), .if_icmp .eq 3, .iload 3, .iload 2, .if_icmp .ne 2, .sipush 1, .ireturn]
def bk_19_2 : List Instr := [.getstatic 0, .iload 3, .iaload, .istore 3, .iinc 4 1, .goto 1]
def bk_19_3 : List Instr := [.sipush 0, .ireturn]
def bk_20_0 : List Instr := [.aload 0, .getfield 66, .iload 1, .iaload, .sipush 1, .if_icmp .eq 1, .aload 0, .getfield 66, .iload 1, .iaload, .sipush 3, .if_icmp .ne 2, .goto_w 1]
def bk_20_1 : List Instr := [.sipush 1, .goto 3]
def bk_20_2 : List Instr := [.sipush 0, .goto_w 3]
def bk_20_3 : List Instr := [.ireturn]
def bk_21_0 : List Instr := [.aload 0, .getfield 66, .iload 1, .iaload, .sipush 3, .if_icmp .ne 1, .aload 0, .getfield 69, .iload 1, .iaload, .sipush 2, .idiv, .goto 2]
def bk_21_1 : List Instr := [.aload 0, .getfield 69, .iload 1, .iaload, .goto_w 2]
def bk_21_2 : List Instr := [.ireturn]
def bk_22_0 : List Instr := [.aload 0, .iload 1, .sipush 1, .invokevirtual 17, .aload 0, .getfield 68, .iload 2, .iaload, .if_icmp .gt 1, .aload 0, .iload 1, .sipush 2, .invokevirtual 17, .aload 0, .iload 2, .invokevirtual 21, .if_icmp .gt 1, .sipush 1, .goto 2]
def bk_22_1 : List Instr := [.sipush 0, .goto_w 2]
def bk_22_2 : List Instr := [.ireturn]
def bk_23_0 : List Instr := [.aload 0, .getfield 74, .iload 1, .sipush 8, .imul, .iload 2, .iadd, .iaload, .ireturn]
def bk_24_0 : List Instr := [.aload 0, .getfield 67, .iload 1, .iaload, .istore 2, .sipush 0, .istore 3, .goto_w 1]
def bk_24_1 : List Instr := [.iload 3, .aload 0, .getfield 73, .iload 1, .iaload, .if_icmp .ge 2, .iload 2, .aload 0, .aload 0, .iload 1, .iload 3, .invokevirtual 23, .sipush 0, .invokevirtual 17, .isub, .istore 2, .iinc 3 1, .goto 1]
def bk_24_2 : List Instr := [.iload 2, .ireturn]
def bk_25_0 : List Instr := [.aload 0, .getfield 72, .iload 1, .iaload, .ifCond .ne 1, .aload 0, .getfield 71, .iload 1, .iaload, .sipush 12, .if_icmp .lt 2, .goto_w 1]
def bk_25_1 : List Instr := [.sipush 1, .goto 3]
def bk_25_2 : List Instr := [.sipush 0, .goto_w 3]
def bk_25_3 : List Instr := [.ireturn]
def bk_26_0 : List Instr := [.aload 0, .getfield 76, .iload 1, .iaload, .istore 2, .iload 2, .sipush (-1), .if_icmp .eq 1, .aload 0, .getfield 73, .iload 2, .iaload, .ifCond .gt 2, .goto_w 1]
def bk_26_1 : List Instr := [.sipush 0, .ireturn]
def bk_26_2 : List Instr := [.aload 0, .iload 2, .aload 0, .getfield 73, .iload 2, .iaload, .sipush 1, .isub, .invokevirtual 23, .iload 1, .if_icmp .ne 3, .aload 0, .iload 2, .invokevirtual 25, .ifCond .ne 3, .sipush 1, .goto 4]
def bk_26_3 : List Instr := [.sipush 0, .goto_w 4]
def bk_26_4 : List Instr := [.ireturn]
def bk_27_0 : List Instr := [.aload 0, .getfield 76, .iload 1, .iaload, .sipush (-1), .if_icmp .eq 1, .sipush (-100007), .ireturn]
def bk_27_1 : List Instr := [.aload 0, .iload 1, .iload 2, .invokevirtual 22, .ifCond .ne 2, .sipush (-100004), .ireturn]
def bk_27_2 : List Instr := [.aload 0, .iload 2, .invokevirtual 25, .ifCond .eq 3, .sipush (-100008), .ireturn]
def bk_27_3 : List Instr := [.aload 0, .iload 1, .sipush 0, .invokevirtual 17, .aload 0, .iload 2, .invokevirtual 24, .if_icmp .le 4, .sipush (-100005), .goto 5]
def bk_27_4 : List Instr := [.sipush 0, .goto_w 5]
def bk_27_5 : List Instr := [.ireturn]
def bk_28_0 : List Instr := [.aload 0, .getfield 76, .iload 1, .iaload, .sipush (-1), .if_icmp .ne 1, .sipush (-100006), .ireturn]
def bk_28_1 : List Instr := [.aload 0, .getfield 76, .iload 1, .iaload, .iload 2, .if_icmp .ne 2, .sipush (-100007), .ireturn]
def bk_28_2 : List Instr := [.aload 0, .iload 1, .invokevirtual 26, .ifCond .eq 3, .aload 0, .iload 2, .invokevirtual 25, .ifCond .eq 4, .goto_w 3]
def bk_28_3 : List Instr := [.sipush (-100008), .ireturn]
def bk_28_4 : List Instr := [.aload 0, .iload 1, .iload 2, .invokevirtual 22, .ifCond .ne 5, .sipush (-100004), .ireturn]
def bk_28_5 : List Instr := [.aload 0, .iload 1, .sipush 0, .invokevirtual 17, .aload 0, .iload 2, .invokevirtual 24, .if_icmp .le 6, .sipush (-100005), .goto 7]
def bk_28_6 : List Instr := [.sipush 0, .goto_w 7]
def bk_28_7 : List Instr := [.ireturn]
def bk_29_0 : List Instr := [.aload 0, .getfield 73, .iload 2, .iaload, .sipush 8, .if_icmp .lt 1, .return_]
def bk_29_1 : List Instr := [.aload 0, .getfield 74, .iload 2, .sipush 8, .imul, .aload 0, .getfield 73, .iload 2, .iaload, .iadd, .iload 1, .iastore, .aload 0, .getfield 73, .iload 2, .dup2, .iaload, .sipush 1, .iadd, .iastore, .aload 0, .getfield 76, .iload 1, .iload 2, .iastore, .aload 0, .getfield 71, .iload 2, .dup2, .iaload, .aload 0, .iload 2, .invokevirtual 20, .iadd, .iastore, .return_]
def bk_30_0 : List Instr := [.aload 0, .getfield 76, .iload 1, .iaload, .istore 2, .aload 0, .getfield 73, .iload 2, .dup2, .iaload, .sipush 1, .isub, .iastore, .aload 0, .getfield 76, .iload 1, .sipush (-1), .iastore, .aload 0, .getfield 71, .iload 2, .dup2, .iaload, .aload 0, .iload 2, .invokevirtual 20, .iadd, .iastore, .return_]
def bk_31_0 : List Instr := [.aload 0, .iload 1, .invokevirtual 30, .aload 0, .iload 1, .iload 2, .invokevirtual 29, .return_]
def bk_32_0 : List Instr := [.aload 0, .getfield 76, .iload 1, .iaload, .istore 3, .aload 0, .iload 1, .iload 2, .invokevirtual 31, .aload 0, .getfield 71, .iload 3, .dup2, .iaload, .sipush 2, .aload 0, .iload 3, .invokevirtual 20, .imul, .isub, .iastore, .aload 0, .getfield 71, .iload 2, .dup2, .iaload, .sipush 2, .aload 0, .iload 2, .invokevirtual 20, .imul, .isub, .iastore, .return_]
def bk_33_0 : List Instr := [.sipush 0, .istore 1, .sipush 0, .istore 2, .goto_w 1]
def bk_33_1 : List Instr := [.iload 2, .aload 0, .getfield 64, .if_icmp .ge 2, .iload 1, .aload 0, .getfield 71, .iload 2, .iaload, .iadd, .istore 1, .aload 0, .getfield 71, .iload 2, .sipush 0, .iastore, .iinc 2 1, .goto 1]
def bk_33_2 : List Instr := [.iload 1, .ireturn]
def bk_34_0 : List Instr := [.sipush 0, .istore 2, .aload 0, .getfield 76, .iload 1, .iaload, .istore 3, .iload 3, .sipush (-1), .if_icmp .ne 1, .iload 2, .ireturn]
def bk_34_1 : List Instr := [.aload 0, .getfield 73, .iload 3, .iaload, .sipush 1, .isub, .istore 4, .goto_w 2]
def bk_34_2 : List Instr := [.iload 4, .ifCond .lt 3, .aload 0, .iload 3, .iload 4, .invokevirtual 23, .iload 1, .if_icmp .eq 3, .iload 2, .sipush 1, .aload 0, .iload 3, .iload 4, .invokevirtual 23, .ishl, .ior, .istore 2, .iinc 4 (-1), .goto 2]
def bk_34_3 : List Instr := [.iload 2, .ireturn]
def bk_35_0 : List Instr := [.sipush 0, .istore 1, .sipush 0, .istore 2, .goto_w 1]
def bk_35_1 : List Instr := [.iload 2, .aload 0, .getfield 64, .if_icmp .ge 2, .iload 1, .aload 0, .getfield 73, .iload 2, .iaload, .iadd, .istore 1, .iinc 2 1, .goto 1]
def bk_35_2 : List Instr := [.iload 1, .ireturn]
def bk_36_0 : List Instr := [.sipush 0, .istore 2, .sipush 1, .istore 3, .goto_w 1]
def bk_36_1 : List Instr := [.iload 3, .aload 0, .getfield 73, .iload 1, .iaload, .if_icmp .ge 6, .aload 0, .aload 0, .iload 1, .iload 3, .invokevirtual 23, .sipush 3, .invokevirtual 17, .istore 4, .sipush 0, .istore 5, .goto_w 2]
def bk_36_2 : List Instr := [.iload 5, .iload 3, .if_icmp .ge 5, .iload 2, .iload 4, .aload 0, .aload 0, .iload 1, .iload 5, .invokevirtual 23, .sipush 3, .invokevirtual 17, .if_icmp .le 3, .sipush 2, .goto 4]
def bk_36_3 : List Instr := [.sipush 0, .goto_w 4]
def bk_36_4 : List Instr := [.iadd, .istore 2, .iinc 5 1, .goto 2]
def bk_36_5 : List Instr := [.iinc 3 1, .goto 1]
def bk_36_6 : List Instr := [.iload 2, .ireturn]
def bk_37_0 : List Instr := [.aload 0, .getfield 66, .iload 1, .iaload, .sipush 2, .if_icmp .ne 1, .sipush 0, .aload 0, .getfield 70, .iload 1, .iaload, .sipush 60, .isub, .invokestatic 236, .goto 2]
def bk_37_1 : List Instr := [.aload 0, .getfield 70, .iload 1, .iaload, .goto_w 2]
def bk_37_2 : List Instr := [.ireturn]
def bk_38_0 : List Instr := [.aload 0, .invokedynamic 1, .aload 0, .sipush 0, .putfield 96, .aload 0, .sipush 30, .newarray .int, .putfield 97, .aload 0, .sipush 30, .newarray .int, .putfield 98, .aload 0, .sipush 30, .newarray .int, .putfield 99, .return_]
def bk_39_0 : List Instr := [.aload 0, .aload 1, .getfield 96, .putfield 96, .aload 1, .getfield 97, .sipush 0, .aload 0, .getfield 97, .sipush 0, .aload 0, .getfield 97, .arraylength, .invokedynamic 0, .aload 1, .getfield 98, .sipush 0, .aload 0, .getfield 98, .sipush 0, .aload 0, .getfield 98, .arraylength, .invokedynamic 0, .aload 1, .getfield 99, .sipush 0, .aload 0, .getfield 99, .sipush 0, .aload 0, .getfield 99, .arraylength, .invokedynamic 0, .return_]
def bk_40_0 : List Instr := [.aload 0, .getfield 97, .aload 0, .getfield 96, .iload 1, .iastore, .aload 0, .getfield 98, .aload 0, .getfield 96, .iload 2, .iastore, .aload 0, .getfield 99, .aload 0, .getfield 96, .iload 3, .ifCond .eq 1, .sipush 1, .goto 2]
def bk_40_1 : List Instr := [.sipush 0, .goto_w 2]
def bk_40_2 : List Instr := [.iastore, .aload 0, .dup, .getfield 96, .sipush 1, .iadd, .putfield 96, .return_]
def bk_41_0 : List Instr := [.sipush (-1), .istore 4, .sipush 0, .istore 5, .sipush 0, .istore 6, .goto_w 1]
def bk_41_1 : List Instr := [.iload 6, .iload 3, .if_icmp .ge 5, .iload 6, .aload 0, .getfield 96, .if_icmp .ge 5, .aload 0, .getfield 97, .iload 6, .iaload, .iload 1, .if_icmp .ne 4, .aload 0, .getfield 98, .iload 6, .iaload, .iload 2, .if_icmp .gt 4, .aload 0, .getfield 98, .iload 6, .iaload, .iload 4, .if_icmp .lt 4, .aload 0, .getfield 98, .iload 6, .iaload, .istore 4, .aload 0, .getfield 99, .iload 6, .iaload, .ifCond .eq 2, .sipush 1, .goto 3]
def bk_41_2 : List Instr := [.sipush 0, .goto_w 3]
def bk_41_3 : List Instr := [.istore 5, .goto_w 4]
def bk_41_4 : List Instr := [.iinc 6 1, .goto 1]
def bk_41_5 : List Instr := [.iload 5, .ireturn]
def bk_42_0 : List Instr := [.sipush 0, .istore 3, .sipush 0, .istore 4, .goto_w 1]
def bk_42_1 : List Instr := [.iload 4, .iload 1, .if_icmp .ge 4, .iload 3, .aload 0, .iload 4, .iload 2, .aload 0, .getfield 96, .invokevirtual 41, .ifCond .eq 2, .sipush 1, .iload 4, .ishl, .goto 3]
def bk_42_2 : List Instr := [.sipush 0, .goto_w 3]
def bk_42_3 : List Instr := [.ior, .istore 3, .iinc 4 1, .goto 1]
def bk_42_4 : List Instr := [.iload 3, .ireturn]
def bk_43_0 : List Instr := [.aload 0, .invokedynamic 1, .aload 0, .sipush 0, .putfield 128, .aload 0, .sipush 60, .newarray .int, .putfield 129, .aload 0, .sipush 60, .newarray .int, .putfield 130, .return_]
def bk_44_0 : List Instr := [.aload 0, .aload 1, .getfield 128, .putfield 128, .aload 1, .getfield 129, .sipush 0, .aload 0, .getfield 129, .sipush 0, .aload 0, .getfield 129, .arraylength, .invokedynamic 0, .aload 1, .getfield 130, .sipush 0, .aload 0, .getfield 130, .sipush 0, .aload 0, .getfield 130, .arraylength, .invokedynamic 0, .return_]
def bk_45_0 : List Instr := [.aload 0, .getfield 128, .sipush 60, .if_icmp .lt 1, .aload 0, .sipush 59, .putfield 128, .aload 0, .getfield 129, .sipush 1, .aload 0, .getfield 129, .sipush 0, .aload 0, .getfield 128, .invokedynamic 0, .aload 0, .getfield 130, .sipush 1, .aload 0, .getfield 130, .sipush 0, .aload 0, .getfield 128, .invokedynamic 0, .goto_w 1]
def bk_45_1 : List Instr := [.aload 0, .getfield 129, .aload 0, .getfield 128, .iload 1, .iastore, .aload 0, .getfield 130, .aload 0, .getfield 128, .iload 2, .iastore, .aload 0, .dup, .getfield 128, .sipush 1, .iadd, .putfield 128, .return_]
def bk_46_0 : List Instr := [.aload 0, .iload 1, .invokevirtual 47, .istore 4, .iload 4, .sipush (-1), .if_icmp .ne 1, .sipush (-1), .goto 2]
def bk_46_1 : List Instr := [.aload 0, .iload 1, .iload 4, .invokevirtual 48, .goto_w 2]
def bk_46_2 : List Instr := [.istore 5, .iload 5, .sipush (-1), .if_icmp .ne 3, .sipush (-1), .ireturn]
def bk_46_3 : List Instr := [.sipush 0, .istore 6, .sipush 0, .istore 7, .goto_w 4]
def bk_46_4 : List Instr := [.iload 7, .sipush 4, .if_icmp .ge 5, .iload 6, .aload 0, .iload 7, .iload 1, .iload 4, .iload 5, .invokevirtual 49, .iadd, .istore 6, .iinc 7 1, .goto 4]
def bk_46_5 : List Instr := [.iload 6, .ifCond .gt 6, .sipush (-1), .ireturn]
def bk_46_6 : List Instr := [.iload 3, .istore 7, .sipush (-1), .istore 8, .sipush 3, .istore 9, .goto_w 7]
def bk_46_7 : List Instr := [.iload 9, .ifCond .lt 10, .aload 0, .iload 9, .iload 1, .iload 4, .iload 5, .invokevirtual 49, .istore 10, .iload 7, .iload 3, .iload 10, .imul, .iload 6, .idiv, .isub, .istore 7, .iload 10, .ifCond .le 8, .iload 9, .goto 9]
def bk_46_8 : List Instr := [.iload 8, .goto_w 9]
def bk_46_9 : List Instr := [.istore 8, .iinc 9 (-1), .goto 7]
def bk_46_10 : List Instr := [.iload 3, .aload 0, .iload 2, .iload 1, .iload 4, .iload 5, .invokevirtual 49, .imul, .iload 6, .idiv, .istore 9, .iload 2, .iload 8, .if_icmp .ne 11, .iload 9, .iload 7, .iadd, .goto 12]
def bk_46_11 : List Instr := [.iload 9, .goto_w 12]
def bk_46_12 : List Instr := [.ireturn]
def bk_47_0 : List Instr := [.aload 0, .getfield 128, .sipush 1, .isub, .istore 2, .goto_w 1]
def bk_47_1 : List Instr := [.iload 2, .ifCond .lt 3, .aload 0, .getfield 129, .iload 2, .iaload, .iload 1, .if_icmp .ne 2, .aload 0, .getfield 130, .iload 2, .iaload, .sipush 4, .if_icmp .ne 2, .iload 2, .ireturn]
def bk_47_2 : List Instr := [.iinc 2 (-1), .goto 1]
def bk_47_3 : List Instr := [.sipush (-1), .ireturn]
def bk_48_0 : List Instr := [.iload 2, .sipush 1, .iadd, .istore 3, .goto_w 1]
def bk_48_1 : List Instr := [.iload 3, .aload 0, .getfield 128, .if_icmp .ge 3, .aload 0, .getfield 129, .iload 3, .iaload, .iload 1, .if_icmp .ne 2, .aload 0, .getfield 130, .iload 3, .iaload, .sipush 5, .if_icmp .ne 2, .iload 3, .ireturn]
def bk_48_2 : List Instr := [.iinc 3 1, .goto 1]
def bk_48_3 : List Instr := [.sipush (-1), .ireturn]
def bk_49_0 : List Instr := [.sipush 0, .istore 5, .iload 3, .sipush 1, .iadd, .istore 6, .goto_w 1]
def bk_49_1 : List Instr := [.iload 6, .iload 4, .if_icmp .ge 4, .iload 5, .aload 0, .getfield 129, .iload 6, .iaload, .iload 2, .if_icmp .ne 2, .aload 0, .getfield 130, .iload 6, .iaload, .iload 1, .if_icmp .ne 2, .sipush 1, .goto 3]
def bk_49_2 : List Instr := [.sipush 0, .goto_w 3]
def bk_49_3 : List Instr := [.iadd, .istore 5, .iinc 6 1, .goto 1]
def bk_49_4 : List Instr := [.iload 5, .ireturn]
def bk_50_0 : List Instr := [.aload 0, .invokedynamic 1, .aload 0, .sipush 7, .newarray .int, .putfield 160, .aload 0, .sipush 7, .newarray .int, .putfield 161, .aload 0, .sipush 5, .newarray .int, .putfield 162, .aload 0, .sipush (-1), .putfield 163, .return_]
def bk_51_0 : List Instr := [.aload 0, .sipush (-1), .putfield 163, .aload 0, .getfield 162, .sipush 0, .invokestatic 239, .aload 0, .aload 1, .sipush 0, .sipush 0, .invokevirtual 52, .aload 0, .getfield 163, .ireturn]
def bk_52_0 : List Instr := [.aload 0, .getfield 163, .sipush (-1), .if_icmp .eq 1, .iload 3, .aload 0, .getfield 163, .if_icmp .lt 1, .return_]
def bk_52_1 : List Instr := [.iload 2, .aload 1, .getfield 39, .if_icmp .lt 2, .aload 0, .iload 3, .putfield 163, .aload 0, .getfield 161, .sipush 0, .aload 0, .getfield 160, .sipush 0, .aload 0, .getfield 160, .arraylength, .invokedynamic 0, .return_]
def bk_52_2 : List Instr := [.aload 1, .getfield 32, .astore 4, .aload 1, .getfield 37, .iload 2, .iaload, .istore 5, .aload 4, .iload 5, .sipush 0, .invokevirtual 17, .istore 6, .sipush 0, .istore 7, .goto_w 3]
def bk_52_3 : List Instr := [.iload 7, .aload 4, .getfield 64, .if_icmp .ge 6, .aload 0, .getfield 162, .iload 7, .iaload, .iload 6, .iadd, .aload 4, .getfield 67, .iload 7, .iaload, .if_icmp .gt 5, .aload 4, .iload 5, .iload 7, .invokevirtual 22, .ifCond .ne 4, .goto 5]
def bk_52_4 : List Instr := [.aload 0, .getfield 161, .iload 2, .iload 7, .iastore, .aload 0, .getfield 162, .iload 7, .dup2, .iaload, .iload 6, .iadd, .iastore, .aload 0, .aload 1, .iload 2, .sipush 1, .iadd, .iload 3, .aload 0, .aload 1, .iload 2, .invokevirtual 53, .iadd, .invokevirtual 52, .aload 0, .getfield 162, .iload 7, .dup2, .iaload, .iload 6, .isub, .iastore, .goto_w 5]
def bk_52_5 : List Instr := [.iinc 7 1, .goto 3]
def bk_52_6 : List Instr := [.return_]
def bk_53_0 : List Instr := [.aload 1, .getfield 32, .aload 1, .getfield 37, .iload 2, .iaload, .sipush 3, .invokevirtual 17, .istore 3, .sipush 0, .istore 4, .sipush 0, .istore 5, .goto_w 1]
def bk_53_1 : List Instr := [.iload 5, .iload 2, .if_icmp .ge 6, .aload 0, .getfield 161, .iload 5, .iaload, .aload 0, .getfield 161, .iload 2, .iaload, .if_icmp .ne 2, .iload 3, .aload 1, .getfield 32, .aload 1, .getfield 37, .iload 5, .iaload, .sipush 3, .invokevirtual 17, .if_icmp .le 2, .sipush 1, .goto 3]
def bk_53_2 : List Instr := [.sipush 0, .goto_w 3]
def bk_53_3 : List Instr := [.istore 6, .iload 4, .iload 6, .ifCond .eq 4, .sipush 2, .goto 5]
def bk_53_4 : List Instr := [.sipush 0, .goto_w 5]
def bk_53_5 : List Instr := [.iadd, .istore 4, .iinc 5 1, .goto 1]
def bk_53_6 : List Instr := [.iload 4, .ireturn]
def bk_54_0 : List Instr := [.aload 0, .invokedynamic 1, .aload 0, .sipush 5, .newarray .int, .putfield 192, .aload 0, .sipush 5, .newarray .int, .putfield 193, .aload 0, .sipush (-1), .putfield 194, .return_]
def bk_55_0 : List Instr := [.aload 0, .sipush (-1), .putfield 194, .aload 0, .aload 1, .iload 2, .sipush 0, .sipush 0, .sipush 0, .invokevirtual 56, .aload 0, .getfield 194, .ireturn]
def bk_56_0 : List Instr := [.iload 3, .sipush 5, .if_icmp .lt 2, .iload 5, .aload 0, .getfield 194, .if_icmp .le 1, .aload 0, .iload 5, .putfield 194, .aload 0, .getfield 193, .sipush 0, .aload 0, .getfield 192, .sipush 0, .aload 0, .getfield 192, .arraylength, .invokedynamic 0, .goto_w 1]
def bk_56_1 : List Instr := [.return_]
def bk_56_2 : List Instr := [.iload 3, .iload 2, .if_icmp .ne 3, .aload 0, .aload 1, .iload 2, .iload 3, .sipush 1, .iadd, .iload 4, .iload 5, .invokevirtual 56, .return_]
def bk_56_3 : List Instr := [.sipush 0, .istore 6, .goto_w 4]
def bk_56_4 : List Instr := [.iload 6, .sipush 5, .if_icmp .ge 6, .iload 4, .iload 6, .ishr, .sipush 1, .iand, .ifCond .ne 5, .aload 0, .getfield 193, .iload 3, .iload 6, .iastore, .aload 0, .aload 1, .iload 2, .iload 3, .sipush 1, .iadd, .iload 4, .sipush 1, .iload 6, .ishl, .ior, .iload 5, .aload 1, .iload 3, .sipush 5, .imul, .iload 6, .iadd, .iaload, .iadd, .invokevirtual 56, .goto_w 5]
def bk_56_5 : List Instr := [.iinc 6 1, .goto 4]
def bk_56_6 : List Instr := [.return_]
def bk_57_0 : List Instr := [.aload 0, .aload 1, .sipush (-1), .invokevirtual 55, .istore 3, .iload 3, .aload 1, .iload 2, .sipush 5, .imul, .aload 0, .getfield 192, .iload 2, .iaload, .iadd, .iaload, .isub, .istore 4, .aload 0, .aload 1, .iload 2, .invokevirtual 55, .iload 4, .isub, .ireturn]
def bk_58_0 : List Instr := [.aload 0, .invokedynamic 1, .aload 0, .sipush 8, .newarray .int, .putfield 224, .aload 0, .sipush 0, .putfield 225, .aload 0, .sipush 8, .newarray .int, .putfield 226, .aload 0, .sipush 5, .newarray .int, .putfield 227, .aload 0, .sipush (-1), .putfield 228, .return_]
def bk_59_0 : List Instr := [.aload 0, .sipush (-1), .putfield 228, .sipush 0, .istore 3, .goto_w 1]
def bk_59_1 : List Instr := [.iload 3, .aload 1, .getfield 64, .if_icmp .ge 4, .aload 0, .getfield 227, .iload 3, .aload 1, .getfield 72, .iload 3, .iaload, .ifCond .eq 2, .sipush 0, .goto 3]
def bk_59_2 : List Instr := [.aload 1, .getfield 73, .iload 3, .iaload, .goto_w 3]
def bk_59_3 : List Instr := [.iastore, .iinc 3 1, .goto 1]
def bk_59_4 : List Instr := [.aload 0, .aload 1, .iload 2, .sipush 0, .sipush 0, .invokevirtual 60, .aload 0, .getfield 228, .ireturn]
def bk_60_0 : List Instr := [.iload 4, .aload 0, .getfield 228, .if_icmp .gt 1, .iload 4, .aload 0, .getfield 228, .if_icmp .ne 2, .iload 3, .aload 0, .getfield 225, .if_icmp .ge 2, .goto_w 1]
def bk_60_1 : List Instr := [.aload 0, .iload 4, .putfield 228, .aload 0, .iload 3, .putfield 225, .aload 0, .getfield 226, .sipush 0, .aload 0, .getfield 224, .sipush 0, .aload 0, .getfield 224, .arraylength, .invokedynamic 0, .goto_w 2]
def bk_60_2 : List Instr := [.iload 3, .sipush 8, .if_icmp .lt 3, .return_]
def bk_60_3 : List Instr := [.iload 2, .iload 3, .sipush 1, .iadd, .imul, .istore 5, .sipush 0, .istore 6, .goto_w 4]
def bk_60_4 : List Instr := [.iload 6, .aload 1, .getfield 64, .if_icmp .ge 7, .aload 0, .getfield 227, .iload 6, .iaload, .ifCond .le 6, .aload 1, .iload 6, .invokevirtual 37, .iload 5, .if_icmp .ge 5, .goto 6]
def bk_60_5 : List Instr := [.aload 0, .getfield 227, .iload 6, .dup2, .iaload, .sipush 1, .isub, .iastore, .aload 1, .iload 6, .aload 0, .getfield 227, .iload 6, .iaload, .invokevirtual 23, .istore 7, .aload 0, .getfield 226, .iload 3, .iload 7, .iastore, .aload 0, .aload 1, .iload 2, .iload 3, .sipush 1, .iadd, .iload 4, .aload 1, .iload 7, .sipush 5, .invokevirtual 17, .iadd, .invokevirtual 60, .aload 0, .getfield 227, .iload 6, .dup2, .iaload, .sipush 1, .iadd, .iastore, .goto_w 6]
def bk_60_6 : List Instr := [.iinc 6 1, .goto 4]
def bk_60_7 : List Instr := [.return_]
def bk_61_0 : List Instr := [.aload 0, .invokedynamic 1, .aload 0, .sipush 5, .newarray .int, .putfield 256, .aload 0, .sipush 7, .newarray .int, .putfield 257, .return_]
def bk_62_0 : List Instr := [.iload 0, .sipush 1, .if_icmp .lt 1, .iload 0, .sipush 6, .if_icmp .le 3, .goto_w 1]
def bk_62_1 : List Instr := [.iload 0, .sipush 10, .if_icmp .lt 2, .iload 0, .sipush 34, .if_icmp .lt 3, .goto_w 2]
def bk_62_2 : List Instr := [.iload 0, .sipush 40, .if_icmp .lt 4, .iload 0, .sipush 44, .if_icmp .gt 4, .goto_w 3]
def bk_62_3 : List Instr := [.sipush 1, .goto 5]
def bk_62_4 : List Instr := [.sipush 0, .goto_w 5]
def bk_62_5 : List Instr := [.ireturn]
def bk_63_0 : List Instr := [.aload 0, .getfield 257, .sipush 1, .iload 1, .iastore, .aload 0, .getfield 257, .sipush 2, .iload 2, .iastore, .aload 0, .getfield 257, .sipush 3, .iload 3, .iastore, .aload 0, .getfield 257, .sipush 4, .iload 4, .iastore, .aload 0, .getfield 257, .sipush 5, .iload 5, .iastore, .aload 0, .getfield 257, .sipush 6, .iload 6, .iastore, .return_]
def bk_64_0 : List Instr := [.iload 2, .ifCond .eq 1, .aload 0, .aload 1, .iload 2, .invokevirtual 65, .sipush (-1), .if_icmp .ne 2, .aload 0, .getfield 256, .sipush 0, .iaload, .ifCond .eq 2, .goto_w 1]
def bk_64_1 : List Instr := [.sipush 1, .goto 3]
def bk_64_2 : List Instr := [.sipush 0, .goto_w 3]
def bk_64_3 : List Instr := [.ireturn]
def bk_65_0 : List Instr := [.sipush 0, .istore 3, .sipush 0, .istore 4, .goto_w 1]
def bk_65_1 : List Instr := [.iload 4, .iload 2, .if_icmp .ge 4, .aload 1, .iload 4, .iaload, .invokestatic 66, .istore 5, .iload 3, .iload 5, .isub, .istore 6, .iload 6, .ifCond .lt 2, .iload 6, .sipush 5, .if_icmp .lt 3, .goto_w 2]
def bk_65_2 : List Instr := [.iload 4, .ireturn]
def bk_65_3 : List Instr := [.aload 0, .getfield 256, .iload 6, .aload 0, .aload 1, .iload 4, .iaload, .iload 6, .invokevirtual 67, .iastore, .iload 6, .sipush 1, .iadd, .istore 3, .iinc 4 1, .goto 1]
def bk_65_4 : List Instr := [.iload 2, .ifCond .eq 5, .iload 3, .sipush 1, .if_icmp .ne 6, .goto_w 5]
def bk_65_5 : List Instr := [.sipush (-1), .goto 7]
def bk_65_6 : List Instr := [.iload 2, .goto_w 7]
def bk_65_7 : List Instr := [.ireturn]
def bk_66_0 : List Instr := [.iload 0, .sipush 40, .if_icmp .ge 1, .sipush 0, .ireturn]
def bk_66_1 : List Instr := [.iload 0, .sipush 42, .if_icmp .ne 2, .sipush 1, .goto 3]
def bk_66_2 : List Instr := [.sipush 2, .goto_w 3]
def bk_66_3 : List Instr := [.ireturn]
def bk_67_0 : List Instr := [.iload 1, .sipush 40, .if_icmp .ge 3, .iload 1, .sipush 10, .if_icmp .lt 1, .iload 1, .sipush 10, .isub, .goto 2]
def bk_67_1 : List Instr := [.aload 0, .iload 1, .invokevirtual 68, .goto_w 2]
def bk_67_2 : List Instr := [.ireturn]
def bk_67_3 : List Instr := [.aload 0, .getfield 256, .iload 2, .iaload, .istore 3, .iload 1, .sipush 42, .if_icmp .ne 6, .iload 3, .ifCond .ne 4, .sipush 1, .goto 5]
def bk_67_4 : List Instr := [.sipush 0, .goto_w 5]
def bk_67_5 : List Instr := [.ireturn]
def bk_67_6 : List Instr := [.iload 2, .sipush 1, .iadd, .sipush 5, .if_icmp .ge 7, .aload 0, .getfield 256, .iload 2, .sipush 1, .iadd, .iaload, .goto 8]
def bk_67_7 : List Instr := [.sipush 0, .goto_w 8]
def bk_67_8 : List Instr := [.istore 4, .iload 1, .iload 3, .iload 4, .invokestatic 69, .ifCond .eq 9, .sipush 1, .goto 10]
def bk_67_9 : List Instr := [.sipush 0, .goto_w 10]
def bk_67_10 : List Instr := [.ireturn]
def bk_68_0 : List Instr := [.iload 1, .sipush 1, .if_icmp .lt 1, .iload 1, .sipush 6, .if_icmp .gt 1, .aload 0, .getfield 257, .iload 1, .iaload, .goto 2]
def bk_68_1 : List Instr := [.sipush 0, .goto_w 2]
def bk_68_2 : List Instr := [.ireturn]
def bk_69_0 : List Instr := [.iload 0, .tableswitch 10 40 43 #[1, 4, 10, 7]]
def bk_69_1 : List Instr := [.iload 1, .iload 2, .if_icmp .ge 2, .sipush 1, .goto 3]
def bk_69_2 : List Instr := [.sipush 0, .goto_w 3]
def bk_69_3 : List Instr := [.ireturn]
def bk_69_4 : List Instr := [.iload 1, .iload 2, .if_icmp .ne 5, .sipush 1, .goto 6]
def bk_69_5 : List Instr := [.sipush 0, .goto_w 6]
def bk_69_6 : List Instr := [.ireturn]
def bk_69_7 : List Instr := [.iload 1, .ifCond .eq 8, .iload 2, .ifCond .eq 8, .sipush 1, .goto 9]
def bk_69_8 : List Instr := [.sipush 0, .goto_w 9]
def bk_69_9 : List Instr := [.ireturn]
def bk_69_10 : List Instr := [.iload 1, .ifCond .ne 11, .iload 2, .ifCond .eq 12, .goto_w 11]
def bk_69_11 : List Instr := [.sipush 1, .goto 13]
def bk_69_12 : List Instr := [.sipush 0, .goto_w 13]
def bk_69_13 : List Instr := [.ireturn]
def bk_70_0 : List Instr := [.aload 0, .invokedynamic 1, .aload 0, .sipush 4, .newarray .int, .putfield 288, .aload 0, .sipush 4, .newarray .int, .putfield 289, .aload 0, .sipush 80, .newarray .int, .putfield 290, .return_]
def bk_71_0 : List Instr := [.iload 1, .ifCond .lt 1, .iload 1, .sipush 4, .if_icmp .ge 1, .sipush 1, .goto 2]
def bk_71_1 : List Instr := [.sipush 0, .goto_w 2]
def bk_71_2 : List Instr := [.ireturn]
def bk_72_0 : List Instr := [.aload 0, .getfield 288, .iload 1, .iaload, .ifCond .ne 1, .sipush 1, .goto 2]
def bk_72_1 : List Instr := [.sipush 0, .goto_w 2]
def bk_72_2 : List Instr := [.ireturn]
def bk_73_0 : List Instr := [.aload 0, .getfield 288, .iload 1, .iload 2, .iastore, .aload 0, .getfield 289, .iload 1, .iload 3, .iastore, .aload 0, .getfield 290, .iload 1, .sipush 20, .imul, .iload 1, .sipush 1, .iadd, .sipush 20, .imul, .sipush 0, .invokestatic 240, .return_]
def bk_74_0 : List Instr := [.aload 0, .getfield 290, .iload 1, .sipush 20, .imul, .iload 2, .iadd, .iaload, .ireturn]
def bk_75_0 : List Instr := [.aload 0, .getfield 290, .iload 1, .sipush 20, .imul, .iload 2, .iadd, .aload 0, .getfield 288, .iload 1, .iaload, .sipush 32, .if_icmp .ne 1, .iload 3, .goto 2]
def bk_75_1 : List Instr := [.iload 3, .sipush 1, .aload 0, .getfield 288, .iload 1, .iaload, .ishl, .sipush 1, .isub, .iand, .goto_w 2]
def bk_75_2 : List Instr := [.iastore, .return_]
def bk_76_0 : List Instr := [.iload 2, .ifCond .lt 1, .iload 3, .ifCond .lt 1, .iload 2, .aload 0, .getfield 289, .iload 1, .iaload, .if_icmp .gt 1, .iload 3, .aload 0, .getfield 289, .iload 1, .iaload, .iload 2, .isub, .if_icmp .gt 1, .sipush 1, .goto 2]
def bk_76_1 : List Instr := [.sipush 0, .goto_w 2]
def bk_76_2 : List Instr := [.ireturn]
def bk_77_0 : List Instr := [.aload 0, .getfield 290, .iload 1, .sipush 20, .imul, .iload 2, .iadd, .aload 0, .getfield 290, .iload 3, .sipush 20, .imul, .iload 4, .iadd, .iload 5, .invokedynamic 0, .return_]
def bk_78_0 : List Instr := [.aload 0, .invokedynamic 1, .aload 0, .sipush 3, .newarray .int, .putfield 320, .aload 0, .new 2, .dup, .invokespecial 9, .putfield 321, .aload 0, .sipush 0, .putfield 322, .return_]
def bk_79_0 : List Instr := [.aload 0, .getfield 321, .aload 1, .invokevirtual 10, .aload 0, .iload 2, .putfield 322, .return_]
def bk_80_0 : List Instr := [.aload 0, .getfield 321, .iload 1, .invokevirtual 26, .ireturn]
def bk_81_0 : List Instr := [.aload 0, .aload 1, .iload 3, .invokevirtual 79, .sipush 0, .istore 4, .goto_w 1]
def bk_81_1 : List Instr := [.iload 4, .sipush 3, .if_icmp .gt 3, .aload 0, .iload 2, .sipush 0, .iload 4, .invokevirtual 82, .ifCond .eq 2, .iload 4, .ireturn]
def bk_81_2 : List Instr := [.iinc 4 1, .goto 1]
def bk_81_3 : List Instr := [.sipush (-1), .ireturn]
def bk_82_0 : List Instr := [.iload 2, .iload 3, .if_icmp .lt 1, .aload 0, .iload 1, .invokevirtual 80, .ireturn]
def bk_82_1 : List Instr := [.aload 0, .getfield 321, .iload 1, .invokevirtual 34, .invokestatic 235, .iload 3, .iload 2, .isub, .if_icmp .le 2, .sipush 0, .ireturn]
def bk_82_2 : List Instr := [.sipush 0, .istore 4, .goto_w 3]
def bk_82_3 : List Instr := [.iload 4, .aload 0, .getfield 321, .getfield 65, .if_icmp .ge 8, .aload 0, .getfield 321, .getfield 76, .iload 4, .iaload, .istore 5, .sipush 0, .istore 6, .goto_w 4]
def bk_82_4 : List Instr := [.iload 6, .aload 0, .getfield 321, .getfield 64, .if_icmp .ge 7, .iload 4, .sipush 8, .imul, .iload 6, .iadd, .istore 7, .aload 0, .iload 1, .iload 7, .invokevirtual 83, .ifCond .ne 5, .goto 6]
def bk_82_5 : List Instr := [.aload 0, .getfield 320, .iload 2, .iload 7, .iastore, .aload 0, .iload 1, .iload 2, .sipush 1, .iadd, .iload 3, .invokevirtual 82, .istore 8, .aload 0, .getfield 321, .iload 4, .iload 5, .invokevirtual 32, .iload 8, .ifCond .eq 6, .sipush 1, .ireturn]
def bk_82_6 : List Instr := [.iinc 6 1, .goto 4]
def bk_82_7 : List Instr := [.iinc 4 1, .goto 3]
def bk_82_8 : List Instr := [.sipush 0, .ireturn]
def bk_83_0 : List Instr := [.iload 2, .ifCond .ge 1, .sipush 0, .ireturn]
def bk_83_1 : List Instr := [.iload 2, .sipush 8, .idiv, .istore 3, .iload 2, .sipush 8, .irem, .istore 4, .aload 0, .getfield 321, .iload 3, .invokevirtual 14, .ifCond .eq 2, .aload 0, .getfield 321, .iload 4, .invokevirtual 13, .ifCond .eq 2, .iload 3, .iload 1, .if_icmp .eq 2, .aload 0, .getfield 322, .iload 3, .ishr, .sipush 1, .iand, .ifCond .eq 2, .aload 0, .getfield 321, .iload 3, .iload 4, .invokevirtual 28, .ifCond .eq 3, .goto_w 2]
def bk_83_2 : List Instr := [.sipush 0, .ireturn]
def bk_83_3 : List Instr := [.aload 0, .getfield 321, .iload 3, .iload 4, .invokevirtual 31, .sipush 1, .ireturn]
def bk_84_0 : List Instr := [.aload 0, .invokedynamic 1, .aload 0, .new 1, .dup, .invokespecial 6, .putfield 352, .aload 0, .sipush 16, .anewarray 1, .putfield 353, .aload 0, .new 9, .dup, .invokespecial 70, .putfield 354, .aload 0, .new 10, .dup, .invokespecial 78, .putfield 355, .aload 0, .new 5, .dup, .invokespecial 50, .putfield 356, .aload 0, .new 0, .dup, .invokespecial 0, .putfield 357, .aload 0, .new 6, .dup, .invokespecial 54, .putfield 358, .aload 0, .new 8, .dup, .invokespecial 61, .putfield 359, .aload 0, .new 7, .dup, .invokespecial 58, .putfield 360, .aload 0, .sipush 0, .putfield 361, .aload 0, .sipush 0, .putfield 362, .aload 0, .sipush 0, .putfield 363, .sipush 0, .istore 1, .goto_w 1]
def bk_84_1 : List Instr := [.iload 1, .sipush 16, .if_icmp .ge 2, .aload 0, .getfield 353, .iload 1, .new 1, .dup, .invokespecial 6, .aastore, .iinc 1 1, .goto 1]
def bk_84_2 : List Instr := [.return_]
def bk_85_0 : List Instr := [.iload 1, .invokestatic 11, .ifCond .eq 1, .iload 2, .sipush 1, .sipush 30, .invokestatic 137, .ifCond .eq 1, .iload 3, .sipush 1, .sipush 30, .invokestatic 137, .ifCond .eq 1, .iload 4, .sipush 1, .sipush 99, .invokestatic 137, .ifCond .ne 2, .goto_w 1]
def bk_85_1 : List Instr := [.aload 0, .sipush (-100001), .invokevirtual 132, .ireturn]
def bk_85_2 : List Instr := [.aload 0, .getfield 352, .getfield 32, .getfield 64, .sipush 5, .if_icmp .lt 3, .aload 0, .sipush (-100005), .invokevirtual 132, .ireturn]
def bk_85_3 : List Instr := [.aload 0, .invokevirtual 133, .aload 0, .getfield 352, .getfield 32, .iload 1, .iload 2, .iload 3, .iload 4, .invokevirtual 15, .ireturn]
def bk_86_0 : List Instr := [.aload 0, .getfield 352, .getfield 32, .iload 1, .invokevirtual 13, .ifCond .eq 1, .iload 2, .invokestatic 11, .ifCond .ne 2, .goto_w 1]
def bk_86_1 : List Instr := [.aload 0, .sipush (-100001), .invokevirtual 132, .ireturn]
def bk_86_2 : List Instr := [.aload 0, .getfield 352, .getfield 32, .iload 1, .iload 2, .invokevirtual 19, .ifCond .eq 3, .iload 1, .goto 4]
def bk_86_3 : List Instr := [.aload 0, .sipush (-100004), .invokevirtual 132, .goto_w 4]
def bk_86_4 : List Instr := [.ireturn]
def bk_87_0 : List Instr := [.aload 0, .getfield 352, .getfield 32, .astore 3, .aload 3, .iload 1, .invokevirtual 13, .ifCond .ne 1, .aload 0, .sipush (-100001), .invokevirtual 132, .ireturn]
def bk_87_1 : List Instr := [.iload 2, .tableswitch 10 0 7 #[2, 3, 4, 5, 6, 7, 8, 9]]
def bk_87_2 : List Instr := [.aload 3, .getfield 66, .iload 1, .iaload, .ireturn]
def bk_87_3 : List Instr := [.aload 3, .getfield 67, .iload 1, .iaload, .ireturn]
def bk_87_4 : List Instr := [.aload 3, .getfield 68, .iload 1, .iaload, .ireturn]
def bk_87_5 : List Instr := [.aload 3, .iload 1, .invokevirtual 21, .ireturn]
def bk_87_6 : List Instr := [.aload 3, .getfield 73, .iload 1, .iaload, .ireturn]
def bk_87_7 : List Instr := [.aload 3, .iload 1, .invokevirtual 24, .ireturn]
def bk_87_8 : List Instr := [.aload 3, .getfield 71, .iload 1, .iaload, .ireturn]
def bk_87_9 : List Instr := [.aload 3, .getfield 72, .iload 1, .iaload, .ireturn]
def bk_87_10 : List Instr := [.aload 0, .sipush (-100001), .invokevirtual 132, .ireturn]
def bk_88_0 : List Instr := [.aload 0, .getfield 352, .getfield 32, .astore 3, .aload 3, .iload 1, .invokevirtual 13, .ifCond .ne 1, .aload 0, .sipush (-100001), .invokevirtual 132, .ireturn]
def bk_88_1 : List Instr := [.aload 3, .iload 1, .sipush 1, .invokevirtual 19, .ifCond .ne 2, .aload 0, .sipush (-100004), .invokevirtual 132, .ireturn]
def bk_88_2 : List Instr := [.aload 0, .invokevirtual 133, .aload 3, .getfield 72, .iload 1, .iaload, .istore 4, .aload 3, .getfield 72, .iload 1, .iload 2, .ifCond .eq 3, .sipush 1, .goto 4]
def bk_88_3 : List Instr := [.sipush 0, .goto_w 4]
def bk_88_4 : List Instr := [.iastore, .aload 3, .getfield 72, .iload 1, .iaload, .iload 4, .if_icmp .ne 5, .sipush 0, .goto 6]
def bk_88_5 : List Instr := [.sipush 1, .goto_w 6]
def bk_88_6 : List Instr := [.ireturn]
def bk_89_0 : List Instr := [.sipush 0, .iload 1, .invokestatic 12, .ifCond .eq 1, .sipush 1, .iload 2, .invokestatic 12, .ifCond .eq 1, .sipush 2, .iload 3, .invokestatic 12, .ifCond .eq 1, .sipush 3, .iload 4, .invokestatic 12, .ifCond .eq 1, .sipush 4, .iload 5, .invokestatic 12, .ifCond .eq 1, .sipush 5, .iload 6, .invokestatic 12, .ifCond .ne 2, .goto_w 1]
def bk_89_1 : List Instr := [.aload 0, .sipush (-100001), .invokevirtual 132, .ireturn]
def bk_89_2 : List Instr := [.aload 0, .getfield 352, .getfield 32, .getfield 65, .sipush 8, .if_icmp .lt 3, .aload 0, .sipush (-100005), .invokevirtual 132, .ireturn]
def bk_89_3 : List Instr := [.aload 0, .invokevirtual 133, .aload 0, .getfield 352, .getfield 32, .iload 1, .iload 2, .iload 3, .iload 4, .iload 5, .iload 6, .invokevirtual 16, .ireturn]
def bk_90_0 : List Instr := [.aload 0, .getfield 352, .getfield 32, .astore 3, .aload 3, .iload 1, .invokevirtual 14, .ifCond .eq 1, .iload 2, .sipush 0, .sipush 7, .invokestatic 137, .ifCond .ne 2, .goto_w 1]
def bk_90_1 : List Instr := [.aload 0, .sipush (-100001), .invokevirtual 132, .ireturn]
def bk_90_2 : List Instr := [.iload 2, .sipush 6, .if_icmp .ge 3, .aload 3, .iload 1, .iload 2, .invokevirtual 17, .ireturn]
def bk_90_3 : List Instr := [.iload 2, .sipush 6, .if_icmp .ne 4, .aload 3, .getfield 76, .iload 1, .iaload, .goto 5]
def bk_90_4 : List Instr := [.aload 3, .iload 1, .invokevirtual 34, .invokestatic 235, .goto_w 5]
def bk_90_5 : List Instr := [.ireturn]
def bk_91_0 : List Instr := [.aload 0, .getfield 352, .getfield 32, .iload 1, .invokevirtual 14, .ifCond .eq 1, .iload 2, .sipush 0, .sipush 2, .invokestatic 137, .ifCond .eq 1, .sipush 3, .iload 2, .iadd, .iload 3, .invokestatic 12, .ifCond .ne 2, .goto_w 1]
def bk_91_1 : List Instr := [.aload 0, .sipush (-100001), .invokevirtual 132, .ireturn]
def bk_91_2 : List Instr := [.aload 0, .invokevirtual 133, .aload 0, .getfield 352, .getfield 32, .iload 1, .sipush 3, .iload 2, .iadd, .iload 3, .invokevirtual 18, .ireturn]
def bk_92_0 : List Instr := [.aload 0, .getfield 352, .getfield 32, .astore 3, .aload 3, .iload 1, .invokevirtual 13, .ifCond .ne 1, .aload 0, .sipush (-100001), .invokevirtual 132, .ireturn]
def bk_92_1 : List Instr := [.iload 2, .ifCond .lt 2, .iload 2, .aload 3, .getfield 73, .iload 1, .iaload, .if_icmp .lt 3, .goto_w 2]
def bk_92_2 : List Instr := [.aload 0, .sipush (-100006), .invokevirtual 132, .ireturn]
def bk_92_3 : List Instr := [.aload 3, .iload 1, .iload 2, .invokevirtual 23, .ireturn]
def bk_93_0 : List Instr := [.aload 0, .getfield 352, .getfield 32, .iload 1, .invokevirtual 14, .ifCond .eq 1, .aload 0, .getfield 352, .getfield 32, .iload 2, .invokevirtual 13, .ifCond .ne 2, .goto_w 1]
def bk_93_1 : List Instr := [.aload 0, .sipush (-100001), .invokevirtual 132, .ireturn]
def bk_93_2 : List Instr := [.aload 0, .getfield 352, .getfield 32, .iload 1, .iload 2, .invokevirtual 22, .ifCond .eq 3, .sipush 1, .goto 4]
def bk_93_3 : List Instr := [.sipush 0, .goto_w 4]
def bk_93_4 : List Instr := [.ireturn]
def bk_94_0 : List Instr := [.aload 0, .getfield 352, .getfield 32, .astore 3, .aload 3, .iload 1, .invokevirtual 14, .ifCond .eq 1, .aload 3, .iload 2, .invokevirtual 13, .ifCond .ne 2, .goto_w 1]
def bk_94_1 : List Instr := [.aload 0, .sipush (-100001), .invokevirtual 132, .ireturn]
def bk_94_2 : List Instr := [.aload 3, .iload 1, .iload 2, .invokevirtual 27, .istore 4, .iload 4, .ifCond .eq 3, .aload 0, .iload 4, .invokevirtual 132, .ireturn]
def bk_94_3 : List Instr := [.aload 0, .invokevirtual 133, .aload 3, .iload 1, .iload 2, .invokevirtual 29, .aload 3, .getfield 73, .iload 2, .iaload, .ireturn]
def bk_95_0 : List Instr := [.aload 0, .getfield 352, .getfield 32, .astore 3, .aload 3, .iload 1, .invokevirtual 14, .ifCond .eq 1, .aload 3, .iload 2, .invokevirtual 13, .ifCond .ne 2, .goto_w 1]
def bk_95_1 : List Instr := [.aload 0, .sipush (-100001), .invokevirtual 132, .ireturn]
def bk_95_2 : List Instr := [.aload 3, .iload 1, .iload 2, .invokevirtual 28, .istore 4, .iload 4, .ifCond .eq 3, .aload 0, .iload 4, .invokevirtual 132, .ireturn]
def bk_95_3 : List Instr := [.aload 0, .getfield 352, .getfield 34, .iload 1, .aload 0, .getfield 352, .getfield 40, .aload 0, .getfield 352, .getfield 34, .getfield 96, .invokevirtual 41, .ifCond .ne 4, .aload 0, .sipush (-100002), .invokevirtual 132, .ireturn]
def bk_95_4 : List Instr := [.aload 0, .iload 1, .iload 2, .aload 0, .getfield 352, .getfield 40, .invokevirtual 136, .ifCond .ne 5, .aload 0, .sipush (-100009), .invokevirtual 132, .ireturn]
def bk_95_5 : List Instr := [.aload 0, .invokevirtual 133, .aload 3, .iload 1, .iload 2, .invokevirtual 31, .aload 0, .getfield 352, .getfield 33, .iload 1, .aload 0, .getfield 352, .getfield 42, .invokevirtual 45, .aload 0, .getfield 352, .dup, .getfield 44, .sipush 1, .iadd, .putfield 44, .aload 0, .getfield 352, .getfield 44, .ireturn]
def bk_96_0 : List Instr := [.aload 0, .getfield 352, .getfield 32, .astore 2, .aload 0, .iload 1, .invokevirtual 134, .istore 3, .iload 3, .ifCond .eq 1, .aload 0, .iload 3, .invokevirtual 132, .ireturn]
def bk_96_1 : List Instr := [.aload 2, .iload 1, .invokevirtual 26, .ifCond .ne 2, .aload 0, .sipush (-100008), .invokevirtual 132, .ireturn]
def bk_96_2 : List Instr := [.aload 0, .invokevirtual 133, .aload 2, .iload 1, .invokevirtual 30, .aload 2, .iload 1, .sipush 3, .invokevirtual 17, .ireturn]
def bk_97_0 : List Instr := [.aload 0, .invokevirtual 133, .aload 0, .getfield 352, .sipush 0, .putfield 40, .aload 0, .getfield 352, .getfield 32, .invokevirtual 33, .ireturn]
def bk_98_0 : List Instr := [.iload 1, .invokestatic 138, .ifCond .ne 1, .aload 0, .sipush (-100001), .invokevirtual 132, .ireturn]
def bk_98_1 : List Instr := [.aload 0, .invokevirtual 133, .aload 0, .getfield 352, .getfield 40, .istore 2, .aload 0, .getfield 352, .iload 1, .putfield 40, .iload 2, .ireturn]
def bk_99_0 : List Instr := [.aload 0, .iload 1, .invokevirtual 134, .istore 2, .iload 2, .ifCond .ne 1, .aload 0, .getfield 352, .getfield 32, .iload 1, .invokevirtual 34, .goto 2]
def bk_99_1 : List Instr := [.aload 0, .iload 2, .invokevirtual 132, .goto_w 2]
def bk_99_2 : List Instr := [.ireturn]
def bk_100_0 : List Instr := [.aload 0, .iload 1, .invokevirtual 134, .istore 2, .iload 2, .ifCond .eq 1, .aload 0, .iload 2, .invokevirtual 132, .ireturn]
def bk_100_1 : List Instr := [.aload 0, .getfield 355, .aload 0, .getfield 352, .getfield 32, .iload 1, .aload 0, .invokevirtual 135, .invokevirtual 81, .istore 3, .iload 3, .sipush (-1), .if_icmp .ne 2, .aload 0, .sipush (-100006), .invokevirtual 132, .goto 3]
def bk_100_2 : List Instr := [.iload 3, .goto_w 3]
def bk_100_3 : List Instr := [.ireturn]
def bk_101_0 : List Instr := [.iload 2, .ifCond .ge 1, .sipush (-100001), .goto 2]
def bk_101_1 : List Instr := [.aload 0, .iload 1, .invokevirtual 134, .goto_w 2]
def bk_101_2 : List Instr := [.istore 3, .iload 3, .ifCond .eq 3, .aload 0, .iload 3, .invokevirtual 132, .ireturn]
def bk_101_3 : List Instr := [.aload 0, .getfield 355, .aload 0, .getfield 352, .getfield 32, .iload 1, .aload 0, .invokevirtual 135, .invokevirtual 81, .istore 4, .iload 2, .iload 4, .if_icmp .ge 4, .aload 0, .getfield 355, .getfield 320, .iload 2, .iaload, .goto 5]
def bk_101_4 : List Instr := [.aload 0, .sipush (-100006), .invokevirtual 132, .goto_w 5]
def bk_101_5 : List Instr := [.ireturn]
def bk_102_0 : List Instr := [.aload 0, .getfield 352, .getfield 32, .iload 1, .invokevirtual 14, .ifCond .eq 1, .aload 0, .getfield 354, .iload 2, .invokevirtual 71, .ifCond .ne 2, .goto_w 1]
def bk_102_1 : List Instr := [.aload 0, .sipush (-100001), .invokevirtual 132, .ireturn]
def bk_102_2 : List Instr := [.aload 0, .getfield 354, .iload 2, .invokevirtual 72, .ifCond .eq 3, .aload 0, .sipush (-100002), .invokevirtual 132, .ireturn]
def bk_102_3 : List Instr := [.aload 0, .getfield 352, .getfield 32, .getfield 76, .iload 1, .iaload, .sipush (-1), .if_icmp .ne 4, .aload 0, .sipush (-100006), .invokevirtual 132, .ireturn]
def bk_102_4 : List Instr := [.aload 0, .getfield 355, .aload 0, .getfield 352, .getfield 32, .aload 0, .invokevirtual 135, .invokevirtual 79, .sipush 0, .istore 3, .goto_w 5]
def bk_102_5 : List Instr := [.iload 3, .aload 0, .getfield 354, .getfield 289, .iload 2, .iaload, .if_icmp .ge 7, .aload 0, .getfield 355, .iload 1, .aload 0, .getfield 354, .iload 2, .iload 3, .invokevirtual 74, .invokevirtual 83, .ifCond .ne 6, .iload 3, .ireturn]
def bk_102_6 : List Instr := [.iinc 3 1, .goto 5]
def bk_102_7 : List Instr := [.aload 0, .getfield 355, .iload 1, .invokevirtual 80, .ifCond .eq 8, .sipush (-1), .goto 9]
def bk_102_8 : List Instr := [.aload 0, .getfield 354, .getfield 289, .iload 2, .iaload, .goto_w 9]
def bk_102_9 : List Instr := [.ireturn]
def bk_103_0 : List Instr := [.iload 1, .sipush (-1), .if_icmp .eq 3, .aload 0, .getfield 352, .getfield 32, .iload 1, .invokevirtual 13, .ifCond .eq 1, .aload 0, .getfield 352, .getfield 32, .iload 1, .invokevirtual 36, .goto 2]
def bk_103_1 : List Instr := [.aload 0, .sipush (-100001), .invokevirtual 132, .goto_w 2]
def bk_103_2 : List Instr := [.ireturn]
def bk_103_3 : List Instr := [.sipush 0, .istore 2, .sipush 0, .istore 3, .goto_w 4]
def bk_103_4 : List Instr := [.iload 3, .aload 0, .getfield 352, .getfield 32, .getfield 64, .if_icmp .ge 5, .iload 2, .aload 0, .getfield 352, .getfield 32, .iload 3, .invokevirtual 36, .iadd, .istore 2, .iinc 3 1, .goto 4]
def bk_103_5 : List Instr := [.iload 2, .ireturn]
def bk_104_0 : List Instr := [.aload 0, .getfield 352, .getfield 32, .iload 1, .invokevirtual 14, .ifCond .ne 1, .aload 0, .sipush (-100001), .invokevirtual 132, .ireturn]
def bk_104_1 : List Instr := [.aload 0, .getfield 352, .iload 1, .invokevirtual 8, .sipush (-1), .if_icmp .eq 2, .aload 0, .sipush (-100007), .invokevirtual 132, .ireturn]
def bk_104_2 : List Instr := [.aload 0, .getfield 352, .getfield 39, .sipush 7, .if_icmp .lt 3, .aload 0, .sipush (-100005), .invokevirtual 132, .ireturn]
def bk_104_3 : List Instr := [.aload 0, .invokevirtual 133, .aload 0, .getfield 352, .getfield 37, .aload 0, .getfield 352, .getfield 39, .iload 1, .iastore, .aload 0, .getfield 352, .dup, .getfield 39, .sipush 1, .iadd, .putfield 39, .aload 0, .getfield 352, .getfield 39, .ireturn]
def bk_105_0 : List Instr := [.aload 0, .invokevirtual 133, .aload 0, .getfield 352, .getfield 39, .istore 1, .aload 0, .getfield 352, .sipush 0, .putfield 39, .iload 1, .ireturn]
def bk_106_0 : List Instr := [.aload 0, .getfield 356, .aload 0, .getfield 352, .invokevirtual 51, .istore 1, .iload 1, .sipush (-1), .if_icmp .ne 1, .aload 0, .sipush (-100006), .invokevirtual 132, .goto 2]
def bk_106_1 : List Instr := [.iload 1, .goto_w 2]
def bk_106_2 : List Instr := [.ireturn]
def bk_107_0 : List Instr := [.aload 0, .getfield 352, .getfield 32, .iload 1, .invokevirtual 14, .ifCond .ne 1, .aload 0, .sipush (-100001), .invokevirtual 132, .ireturn]
def bk_107_1 : List Instr := [.aload 0, .getfield 352, .iload 1, .invokevirtual 8, .istore 2, .iload 2, .sipush (-1), .if_icmp .eq 2, .aload 0, .getfield 356, .aload 0, .getfield 352, .invokevirtual 51, .sipush (-1), .if_icmp .ne 3, .goto_w 2]
def bk_107_2 : List Instr := [.aload 0, .sipush (-100006), .invokevirtual 132, .ireturn]
def bk_107_3 : List Instr := [.aload 0, .getfield 356, .getfield 160, .iload 2, .iaload, .ireturn]
def bk_108_0 : List Instr := [.iload 1, .sipush 0, .sipush 3, .invokestatic 137, .ifCond .ne 1, .aload 0, .sipush (-100001), .invokevirtual 132, .ireturn]
def bk_108_1 : List Instr := [.aload 0, .invokevirtual 133, .aload 0, .getfield 352, .getfield 41, .istore 2, .aload 0, .getfield 352, .iload 1, .putfield 41, .iload 2, .ireturn]
def bk_109_0 : List Instr := [.aload 0, .getfield 357, .aload 0, .getfield 352, .getfield 32, .aload 0, .getfield 352, .getfield 41, .invokevirtual 1, .ireturn]
def bk_110_0 : List Instr := [.iload 1, .invokestatic 138, .ifCond .ne 1, .aload 0, .sipush (-100001), .invokevirtual 132, .ireturn]
def bk_110_1 : List Instr := [.aload 0, .getfield 357, .aload 0, .getfield 352, .getfield 32, .aload 0, .getfield 352, .getfield 41, .invokevirtual 1, .istore 2, .aload 0, .getfield 357, .aload 0, .getfield 352, .getfield 32, .aload 0, .getfield 352, .getfield 41, .iload 2, .invokevirtual 3, .pop, .aload 0, .getfield 357, .getfield 0, .iload 1, .iaload, .ireturn]
def bk_111_0 : List Instr := [.iload 1, .invokestatic 139, .ifCond .eq 1, .iload 2, .invokestatic 139, .ifCond .eq 1, .iload 3, .sipush 0, .sipush 999, .invokestatic 137, .ifCond .ne 2, .goto_w 1]
def bk_111_1 : List Instr := [.aload 0, .sipush (-100001), .invokevirtual 132, .ireturn]
def bk_111_2 : List Instr := [.aload 0, .invokevirtual 133, .aload 0, .getfield 352, .getfield 35, .iload 1, .sipush 5, .imul, .iload 2, .iadd, .iaload, .istore 4, .aload 0, .getfield 352, .getfield 35, .iload 1, .sipush 5, .imul, .iload 2, .iadd, .iload 3, .iastore, .iload 4, .ireturn]
def bk_112_0 : List Instr := [.iload 1, .invokestatic 139, .ifCond .ne 1, .aload 0, .sipush (-100001), .invokevirtual 132, .ireturn]
def bk_112_1 : List Instr := [.aload 0, .getfield 358, .aload 0, .getfield 352, .getfield 35, .sipush (-1), .invokevirtual 55, .pop, .aload 0, .getfield 358, .getfield 192, .iload 1, .iaload, .ireturn]
def bk_113_0 : List Instr := [.iload 1, .invokestatic 139, .ifCond .eq 1, .aload 0, .getfield 358, .aload 0, .getfield 352, .getfield 35, .iload 1, .invokevirtual 57, .goto 2]
def bk_113_1 : List Instr := [.aload 0, .sipush (-100001), .invokevirtual 132, .goto_w 2]
def bk_113_2 : List Instr := [.ireturn]
def bk_114_0 : List Instr := [.aload 0, .getfield 358, .aload 0, .getfield 352, .getfield 35, .sipush (-1), .invokevirtual 55, .ireturn]
def bk_115_0 : List Instr := [.iload 1, .invokestatic 140, .ifCond .ne 1, .aload 0, .sipush (-100001), .invokevirtual 132, .ireturn]
def bk_115_1 : List Instr := [.aload 0, .invokevirtual 133, .aload 0, .getfield 352, .getfield 42, .istore 2, .aload 0, .getfield 352, .iload 1, .putfield 42, .iload 2, .ireturn]
def bk_116_0 : List Instr := [.aload 0, .getfield 352, .getfield 32, .iload 1, .invokevirtual 14, .ifCond .ne 1, .aload 0, .sipush (-100001), .invokevirtual 132, .ireturn]
def bk_116_1 : List Instr := [.aload 0, .invokevirtual 133, .aload 0, .getfield 352, .getfield 33, .iload 1, .iload 2, .ifCond .eq 2, .sipush 5, .goto 3]
def bk_116_2 : List Instr := [.sipush 4, .goto_w 3]
def bk_116_3 : List Instr := [.invokevirtual 45, .aload 0, .getfield 352, .getfield 33, .getfield 128, .ireturn]
def bk_117_0 : List Instr := [.aload 0, .getfield 352, .getfield 32, .iload 1, .invokevirtual 14, .ifCond .eq 1, .iload 2, .invokestatic 140, .ifCond .eq 1, .iload 3, .sipush 0, .sipush 9999, .invokestatic 137, .ifCond .ne 2, .goto_w 1]
def bk_117_1 : List Instr := [.aload 0, .sipush (-100001), .invokevirtual 132, .ireturn]
def bk_117_2 : List Instr := [.aload 0, .getfield 352, .getfield 33, .iload 1, .iload 2, .iload 3, .invokevirtual 46, .istore 4, .iload 4, .sipush (-1), .if_icmp .ne 3, .aload 0, .sipush (-100006), .invokevirtual 132, .goto 4]
def bk_117_3 : List Instr := [.iload 4, .goto_w 4]
def bk_117_4 : List Instr := [.ireturn]
def bk_118_0 : List Instr := [.aload 0, .getfield 354, .iload 1, .invokevirtual 71, .ifCond .ne 1, .aload 0, .sipush (-100001), .invokevirtual 132, .ireturn]
def bk_118_1 : List Instr := [.aload 0, .getfield 354, .iload 1, .invokevirtual 72, .ifCond .eq 2, .aload 0, .sipush (-100002), .invokevirtual 132, .ireturn]
def bk_118_2 : List Instr := [.aload 0, .getfield 354, .getfield 289, .iload 1, .iaload, .istore 2, .iload 2, .sipush 16, .if_icmp .le 3, .aload 0, .sipush (-100003), .invokevirtual 132, .ireturn]
def bk_118_3 : List Instr := [.sipush 0, .istore 3, .goto_w 4]
def bk_118_4 : List Instr := [.iload 3, .iload 2, .if_icmp .ge 6, .aload 0, .getfield 354, .iload 1, .iload 3, .invokevirtual 74, .invokestatic 62, .ifCond .ne 5, .aload 0, .sipush (-100001), .invokevirtual 132, .ireturn]
def bk_118_5 : List Instr := [.iinc 3 1, .goto 4]
def bk_118_6 : List Instr := [.aload 0, .invokevirtual 133, .sipush 0, .istore 3, .goto_w 7]
def bk_118_7 : List Instr := [.iload 3, .iload 2, .if_icmp .ge 8, .aload 0, .getfield 352, .getfield 36, .iload 3, .aload 0, .getfield 354, .iload 1, .iload 3, .invokevirtual 74, .iastore, .iinc 3 1, .goto 7]
def bk_118_8 : List Instr := [.aload 0, .getfield 352, .iload 2, .putfield 38, .iload 2, .ireturn]
def bk_119_0 : List Instr := [.aload 0, .getfield 359, .aload 0, .getfield 352, .getfield 36, .aload 0, .getfield 352, .getfield 38, .invokevirtual 65, .ireturn]
def bk_120_0 : List Instr := [.aload 0, .getfield 352, .getfield 32, .iload 1, .invokevirtual 14, .ifCond .eq 1, .aload 0, .getfield 352, .getfield 32, .iload 2, .invokevirtual 13, .ifCond .eq 1, .iload 3, .invokestatic 138, .ifCond .ne 2, .goto_w 1]
def bk_120_1 : List Instr := [.aload 0, .sipush (-100001), .invokevirtual 132, .ireturn]
def bk_120_2 : List Instr := [.aload 0, .iload 1, .iload 2, .iload 3, .invokevirtual 136, .ifCond .eq 3, .sipush 1, .goto 4]
def bk_120_3 : List Instr := [.sipush 0, .goto_w 4]
def bk_120_4 : List Instr := [.ireturn]
def bk_121_0 : List Instr := [.aload 0, .getfield 352, .getfield 32, .iload 1, .invokevirtual 13, .ifCond .eq 1, .iload 2, .sipush 0, .sipush 200, .invokestatic 137, .ifCond .ne 2, .goto_w 1]
def bk_121_1 : List Instr := [.aload 0, .sipush (-100001), .invokevirtual 132, .ireturn]
def bk_121_2 : List Instr := [.aload 0, .invokevirtual 133, .aload 0, .getfield 352, .getfield 32, .getfield 70, .iload 1, .iaload, .istore 3, .aload 0, .getfield 352, .getfield 32, .getfield 70, .iload 1, .iload 2, .iastore, .iload 3, .ireturn]
def bk_122_0 : List Instr := [.iload 1, .sipush 1, .sipush 30, .invokestatic 137, .ifCond .ne 1, .aload 0, .sipush (-100001), .invokevirtual 132, .ireturn]
def bk_122_1 : List Instr := [.aload 0, .invokevirtual 133, .aload 0, .getfield 352, .getfield 43, .istore 2, .aload 0, .getfield 352, .iload 1, .putfield 43, .iload 2, .ireturn]
def bk_123_0 : List Instr := [.aload 0, .getfield 360, .aload 0, .getfield 352, .getfield 32, .aload 0, .getfield 352, .getfield 43, .invokevirtual 59, .ireturn]
def bk_124_0 : List Instr := [.iload 1, .ifCond .ge 1, .aload 0, .sipush (-100001), .invokevirtual 132, .ireturn]
def bk_124_1 : List Instr := [.aload 0, .getfield 360, .aload 0, .getfield 352, .getfield 32, .aload 0, .getfield 352, .getfield 43, .invokevirtual 59, .pop, .iload 1, .aload 0, .getfield 360, .getfield 225, .if_icmp .ge 2, .aload 0, .getfield 360, .getfield 224, .iload 1, .iaload, .goto 3]
def bk_124_2 : List Instr := [.aload 0, .sipush (-100006), .invokevirtual 132, .goto_w 3]
def bk_124_3 : List Instr := [.ireturn]
def bk_125_0 : List Instr := [.aload 0, .getfield 352, .getfield 32, .iload 1, .invokevirtual 14, .ifCond .eq 1, .iload 2, .invokestatic 138, .ifCond .ne 2, .goto_w 1]
def bk_125_1 : List Instr := [.aload 0, .sipush (-100001), .invokevirtual 132, .ireturn]
def bk_125_2 : List Instr := [.aload 0, .getfield 352, .getfield 34, .getfield 96, .sipush 30, .if_icmp .lt 3, .aload 0, .sipush (-100005), .invokevirtual 132, .ireturn]
def bk_125_3 : List Instr := [.aload 0, .invokevirtual 133, .aload 0, .getfield 352, .getfield 34, .iload 1, .iload 2, .iload 3, .invokevirtual 40, .aload 0, .getfield 352, .getfield 34, .getfield 96, .ireturn]
def bk_126_0 : List Instr := [.aload 0, .getfield 352, .getfield 32, .iload 1, .invokevirtual 14, .ifCond .eq 1, .iload 2, .invokestatic 138, .ifCond .eq 1, .iload 3, .sipush 0, .aload 0, .getfield 352, .getfield 34, .getfield 96, .invokestatic 137, .ifCond .ne 2, .goto_w 1]
def bk_126_1 : List Instr := [.aload 0, .sipush (-100001), .invokevirtual 132, .ireturn]
def bk_126_2 : List Instr := [.aload 0, .getfield 352, .getfield 34, .iload 1, .iload 2, .iload 3, .invokevirtual 41, .ifCond .eq 3, .sipush 1, .goto 4]
def bk_126_3 : List Instr := [.sipush 0, .goto_w 4]
def bk_126_4 : List Instr := [.ireturn]
def bk_127_0 : List Instr := [.aload 0, .getfield 354, .iload 1, .invokevirtual 71, .ifCond .eq 1, .iload 2, .ifCond .eq 2, .iload 2, .sipush 8, .if_icmp .eq 2, .iload 2, .sipush 16, .if_icmp .eq 2, .iload 2, .sipush 32, .if_icmp .eq 2, .goto_w 1]
def bk_127_1 : List Instr := [.aload 0, .sipush (-100001), .invokevirtual 132, .ireturn]
def bk_127_2 : List Instr := [.iload 3, .ifCond .ge 3, .aload 0, .sipush (-100003), .invokevirtual 132, .ireturn]
def bk_127_3 : List Instr := [.iload 3, .sipush 20, .if_icmp .le 4, .aload 0, .sipush (-100001), .invokevirtual 132, .ireturn]
def bk_127_4 : List Instr := [.aload 0, .getfield 354, .iload 1, .iload 2, .iload 2, .ifCond .ne 5, .sipush 0, .goto 6]
def bk_127_5 : List Instr := [.iload 3, .goto_w 6]
def bk_127_6 : List Instr := [.invokevirtual 73, .aload 0, .getfield 354, .getfield 289, .iload 1, .iaload, .ireturn]
def bk_128_0 : List Instr := [.aload 0, .getfield 354, .iload 1, .invokevirtual 71, .ifCond .ne 1, .aload 0, .sipush (-100001), .invokevirtual 132, .ireturn]
def bk_128_1 : List Instr := [.aload 0, .getfield 354, .iload 1, .invokevirtual 72, .ifCond .eq 2, .aload 0, .sipush (-100002), .invokevirtual 132, .ireturn]
def bk_128_2 : List Instr := [.iload 2, .ifCond .lt 3, .iload 2, .aload 0, .getfield 354, .getfield 289, .iload 1, .iaload, .if_icmp .lt 4, .goto_w 3]
def bk_128_3 : List Instr := [.aload 0, .sipush (-100001), .invokevirtual 132, .ireturn]
def bk_128_4 : List Instr := [.aload 0, .getfield 354, .iload 1, .iload 2, .iload 3, .invokevirtual 75, .sipush 0, .ireturn]
def bk_129_0 : List Instr := [.aload 0, .getfield 354, .iload 1, .invokevirtual 71, .ifCond .eq 1, .aload 0, .getfield 354, .iload 3, .invokevirtual 71, .ifCond .ne 2, .goto_w 1]
def bk_129_1 : List Instr := [.aload 0, .sipush (-100001), .invokevirtual 132, .ireturn]
def bk_129_2 : List Instr := [.aload 0, .getfield 354, .iload 1, .invokevirtual 72, .ifCond .ne 3, .aload 0, .getfield 354, .iload 3, .invokevirtual 72, .ifCond .eq 4, .goto_w 3]
def bk_129_3 : List Instr := [.aload 0, .sipush (-100002), .invokevirtual 132, .ireturn]
def bk_129_4 : List Instr := [.aload 0, .getfield 354, .getfield 288, .iload 1, .iaload, .aload 0, .getfield 354, .getfield 288, .iload 3, .iaload, .if_icmp .eq 5, .aload 0, .sipush (-100004), .invokevirtual 132, .ireturn]
def bk_129_5 : List Instr := [.aload 0, .getfield 354, .iload 1, .iload 2, .iload 5, .invokevirtual 76, .ifCond .eq 6, .aload 0, .getfield 354, .iload 3, .iload 4, .iload 5, .invokevirtual 76, .ifCond .ne 7, .goto_w 6]
def bk_129_6 : List Instr := [.aload 0, .sipush (-100001), .invokevirtual 132, .ireturn]
def bk_129_7 : List Instr := [.aload 0, .getfield 354, .iload 1, .iload 2, .iload 3, .iload 4, .iload 5, .invokevirtual 77, .iload 5, .ireturn]
def bk_130_0 : List Instr := [.aload 0, .getfield 362, .ifCond .gt 1, .aload 0, .sipush (-100006), .invokevirtual 132, .ireturn]
def bk_130_1 : List Instr := [.aload 0, .aload 0, .getfield 361, .sipush 16, .iadd, .sipush 1, .isub, .sipush 16, .irem, .putfield 361, .aload 0, .dup, .getfield 362, .sipush 1, .isub, .putfield 362, .aload 0, .getfield 353, .aload 0, .getfield 361, .aaload, .astore 1, .aload 1, .ifnull 2, .aload 0, .getfield 352, .aload 1, .invokevirtual 7, .goto_w 2]
def bk_130_2 : List Instr := [.aload 0, .getfield 362, .ireturn]
def bk_131_0 : List Instr := [.iload 1, .tableswitch 8 0 6 #[1, 2, 3, 4, 5, 6, 7]]
def bk_131_1 : List Instr := [.aload 0, .getfield 352, .getfield 32, .getfield 64, .ireturn]
def bk_131_2 : List Instr := [.aload 0, .getfield 352, .getfield 32, .getfield 65, .ireturn]
def bk_131_3 : List Instr := [.aload 0, .getfield 352, .getfield 32, .invokevirtual 35, .ireturn]
def bk_131_4 : List Instr := [.aload 0, .getfield 352, .getfield 44, .ireturn]
def bk_131_5 : List Instr := [.aload 0, .getfield 352, .getfield 34, .getfield 96, .ireturn]
def bk_131_6 : List Instr := [.aload 0, .getfield 352, .getfield 33, .getfield 128, .ireturn]
def bk_131_7 : List Instr := [.aload 0, .getfield 363, .ireturn]
def bk_131_8 : List Instr := [.aload 0, .sipush (-100001), .invokevirtual 132, .ireturn]
def bk_132_0 : List Instr := [.aload 0, .dup, .getfield 363, .sipush 1, .iadd, .putfield 363, .iload 1, .ireturn]
def bk_133_0 : List Instr := [.aload 0, .getfield 353, .aload 0, .getfield 361, .aaload, .astore 1, .aload 1, .ifnull 1, .aload 1, .aload 0, .getfield 352, .invokevirtual 7, .goto_w 1]
def bk_133_1 : List Instr := [.aload 0, .aload 0, .getfield 361, .sipush 1, .iadd, .sipush 16, .irem, .putfield 361, .aload 0, .aload 0, .getfield 362, .sipush 1, .iadd, .sipush 16, .invokestatic 237, .putfield 362, .return_]
def bk_134_0 : List Instr := [.aload 0, .getfield 352, .getfield 32, .iload 1, .invokevirtual 14, .ifCond .ne 1, .sipush (-100001), .ireturn]
def bk_134_1 : List Instr := [.aload 0, .getfield 352, .getfield 32, .getfield 76, .iload 1, .iaload, .sipush (-1), .if_icmp .ne 2, .sipush (-100006), .goto 3]
def bk_134_2 : List Instr := [.sipush 0, .goto_w 3]
def bk_134_3 : List Instr := [.ireturn]
def bk_135_0 : List Instr := [.aload 0, .getfield 352, .getfield 34, .aload 0, .getfield 352, .getfield 32, .getfield 65, .aload 0, .getfield 352, .getfield 40, .invokevirtual 42, .ireturn]
def bk_136_0 : List Instr := [.aload 0, .getfield 352, .getfield 32, .astore 4, .aload 0, .getfield 359, .iload 3, .aload 4, .iload 1, .sipush 0, .invokevirtual 17, .aload 4, .iload 1, .sipush 2, .invokevirtual 17, .iload 2, .aload 4, .getfield 66, .iload 2, .iaload, .aload 0, .getfield 352, .getfield 42, .invokevirtual 63, .aload 0, .getfield 359, .aload 0, .getfield 352, .getfield 36, .aload 0, .getfield 352, .getfield 38, .invokevirtual 64, .ireturn]
def bk_137_0 : List Instr := [.iload 0, .iload 1, .if_icmp .lt 1, .iload 0, .iload 2, .if_icmp .gt 1, .sipush 1, .goto 2]
def bk_137_1 : List Instr := [.sipush 0, .goto_w 2]
def bk_137_2 : List Instr := [.ireturn]
def bk_138_0 : List Instr := [.iload 0, .sipush 0, .sipush 23, .invokestatic 137, .ireturn]
def bk_139_0 : List Instr := [.iload 0, .sipush 0, .sipush 4, .invokestatic 137, .ireturn]
def bk_140_0 : List Instr := [.iload 0, .sipush 0, .sipush 3, .invokestatic 137, .ireturn]
def bk_141_0 : List Instr := [.aload 0, .invokedynamic 1, .aload 0, .sipush 277, .newarray .int, .putfield 384, .aload 0, .sipush 4432, .newarray .int, .putfield 385, .aload 0, .sipush 4, .newarray .int, .putfield 388, .aload 0, .sipush 4, .newarray .int, .putfield 389, .aload 0, .sipush 80, .newarray .int, .putfield 390, .aload 0, .sipush 200, .newarray .int, .putfield 391, .aload 0, .sipush 3, .newarray .int, .putfield 392, .aload 0, .sipush 7, .newarray .int, .putfield 393, .aload 0, .sipush 7, .newarray .int, .putfield 394, .aload 0, .sipush 8, .newarray .int, .putfield 396, .aload 0, .sipush 5, .newarray .int, .putfield 397, .aload 0, .sipush 5, .newarray .int, .putfield 398, .aload 0, .sipush 8, .newarray .int, .putfield 401, .aload 0, .sipush 8, .newarray .int, .putfield 402, .aload 0, .sipush 5, .newarray .int, .putfield 403, .aload 0, .sipush 20, .newarray .int, .putfield 404, .aload 0, .getfield 384, .sipush 3, .sipush 1, .iastore, .aload 0, .getfield 384, .sipush 5, .sipush 10, .iastore, .sipush 0, .istore 1, .goto_w 1]
def bk_141_1 : List Instr := [.iload 1, .sipush 5, .if_icmp .ge 2, .aload 0, .getfield 384, .sipush 36, .iload 1, .iadd, .sipush 100, .iastore, .iinc 1 1, .goto 1]
def bk_141_2 : List Instr := [.return_]
def bk_142_0 : List Instr := [.aload 0, .dup, .getfield 387, .sipush 1, .iadd, .putfield 387, .iload 1, .ireturn]
def bk_143_0 : List Instr := [.iload 0, .iload 1, .if_icmp .lt 1, .iload 0, .iload 2, .if_icmp .gt 1, .sipush 1, .goto 2]
def bk_143_1 : List Instr := [.sipush 0, .goto_w 2]
def bk_143_2 : List Instr := [.ireturn]
def bk_144_0 : List Instr := [.iload 1, .sipush 0, .aload 0, .getfield 384, .sipush 0, .iaload, .sipush 1, .isub, .invokestatic 143, .ireturn]
def bk_145_0 : List Instr := [.iload 1, .sipush 0, .aload 0, .getfield 384, .sipush 1, .iaload, .sipush 1, .isub, .invokestatic 143, .ireturn]
def bk_146_0 : List Instr := [.iload 0, .sipush 0, .sipush 23, .invokestatic 143, .ireturn]
def bk_147_0 : List Instr := [.aload 0, .getfield 386, .sipush 16, .if_icmp .ne 3, .sipush 0, .istore 1, .goto_w 1]
def bk_147_1 : List Instr := [.iload 1, .sipush 4155, .if_icmp .ge 2, .aload 0, .getfield 385, .iload 1, .aload 0, .getfield 385, .iload 1, .sipush 277, .iadd, .iaload, .iastore, .iinc 1 1, .goto 1]
def bk_147_2 : List Instr := [.aload 0, .dup, .getfield 386, .sipush 1, .isub, .putfield 386, .goto_w 3]
def bk_147_3 : List Instr := [.sipush 0, .istore 1, .goto_w 4]
def bk_147_4 : List Instr := [.iload 1, .sipush 277, .if_icmp .ge 5, .aload 0, .getfield 385, .aload 0, .getfield 386, .sipush 277, .imul, .iload 1, .iadd, .aload 0, .getfield 384, .iload 1, .iaload, .iastore, .iinc 1 1, .goto 4]
def bk_147_5 : List Instr := [.aload 0, .dup, .getfield 386, .sipush 1, .iadd, .putfield 386, .return_]
def bk_148_0 : List Instr := [.aload 0, .getfield 386, .ifCond .ne 1, .aload 0, .sipush (-100006), .invokevirtual 142, .ireturn]
def bk_148_1 : List Instr := [.aload 0, .dup, .getfield 386, .sipush 1, .isub, .putfield 386, .sipush 0, .istore 1, .goto_w 2]
def bk_148_2 : List Instr := [.iload 1, .sipush 277, .if_icmp .ge 3, .aload 0, .getfield 384, .iload 1, .aload 0, .getfield 385, .aload 0, .getfield 386, .sipush 277, .imul, .iload 1, .iadd, .iaload, .iastore, .iinc 1 1, .goto 2]
def bk_148_3 : List Instr := [.aload 0, .getfield 386, .ireturn]
def bk_149_0 : List Instr := [.iload 1, .sipush 0, .sipush 3, .invokestatic 143, .ifCond .eq 1, .iload 2, .sipush 1, .sipush 30, .invokestatic 143, .ifCond .eq 1, .iload 3, .sipush 1, .sipush 30, .invokestatic 143, .ifCond .eq 1, .iload 4, .sipush 1, .sipush 99, .invokestatic 143, .ifCond .ne 2, .goto_w 1]
def bk_149_1 : List Instr := [.aload 0, .sipush (-100001), .invokevirtual 142, .ireturn]
def bk_149_2 : List Instr := [.aload 0, .getfield 384, .sipush 0, .iaload, .istore 5, .iload 5, .sipush 5, .if_icmp .ne 3, .aload 0, .sipush (-100005), .invokevirtual 142, .ireturn]
def bk_149_3 : List Instr := [.aload 0, .invokevirtual 147, .aload 0, .getfield 384, .sipush 11, .iload 5, .iadd, .iload 1, .iastore, .aload 0, .getfield 384, .sipush 16, .iload 5, .iadd, .iload 2, .iastore, .aload 0, .getfield 384, .sipush 21, .iload 5, .iadd, .iload 3, .iastore, .aload 0, .getfield 384, .sipush 26, .iload 5, .iadd, .iload 1, .sipush 3, .if_icmp .ne 4, .iload 4, .sipush 2, .idiv, .goto 5]
def bk_149_4 : List Instr := [.iload 4, .goto_w 5]
def bk_149_5 : List Instr := [.iastore, .aload 0, .getfield 384, .sipush 0, .dup2, .iaload, .sipush 1, .iadd, .iastore, .iload 5, .ireturn]
def bk_150_0 : List Instr := [.aload 0, .getfield 384, .sipush 11, .iload 1, .iadd, .iaload, .sipush 1, .if_icmp .eq 1, .aload 0, .getfield 384, .sipush 11, .iload 1, .iadd, .iaload, .sipush 3, .if_icmp .ne 2, .goto_w 1]
def bk_150_1 : List Instr := [.sipush 1, .goto 3]
def bk_150_2 : List Instr := [.sipush 0, .goto_w 3]
def bk_150_3 : List Instr := [.ireturn]
def bk_151_0 : List Instr := [.aload 0, .iload 1, .invokevirtual 144, .ifCond .eq 1, .iload 2, .sipush 0, .sipush 3, .invokestatic 143, .ifCond .ne 2, .goto_w 1]
def bk_151_1 : List Instr := [.aload 0, .sipush (-100001), .invokevirtual 142, .ireturn]
def bk_151_2 : List Instr := [.aload 0, .getfield 384, .sipush 11, .iload 1, .iadd, .iaload, .istore 3, .iload 2, .ifCond .eq 3, .iload 3, .iload 2, .if_icmp .eq 3, .iload 2, .sipush 1, .if_icmp .ne 4, .iload 3, .sipush 3, .if_icmp .ne 4, .goto_w 3]
def bk_151_3 : List Instr := [.iload 1, .goto 5]
def bk_151_4 : List Instr := [.aload 0, .sipush (-100004), .invokevirtual 142, .goto_w 5]
def bk_151_5 : List Instr := [.ireturn]
def bk_152_0 : List Instr := [.aload 0, .getfield 384, .sipush 51, .sipush 8, .iload 1, .imul, .iadd, .iload 2, .iadd, .iaload, .ireturn]
def bk_153_0 : List Instr := [.aload 0, .getfield 384, .sipush 16, .iload 1, .iadd, .iaload, .istore 2, .sipush 0, .istore 3, .goto_w 1]
def bk_153_1 : List Instr := [.iload 3, .aload 0, .getfield 384, .sipush 46, .iload 1, .iadd, .iaload, .if_icmp .ge 2, .iload 2, .aload 0, .getfield 384, .sipush 91, .aload 0, .iload 1, .iload 3, .invokevirtual 152, .iadd, .iaload, .isub, .istore 2, .iinc 3 1, .goto 1]
def bk_153_2 : List Instr := [.iload 2, .ireturn]
def bk_154_0 : List Instr := [.aload 0, .iload 1, .invokevirtual 144, .ifCond .eq 1, .iload 2, .sipush 0, .sipush 7, .invokestatic 143, .ifCond .ne 2, .goto_w 1]
def bk_154_1 : List Instr := [.aload 0, .sipush (-100001), .invokevirtual 142, .ireturn]
def bk_154_2 : List Instr := [.iload 2, .tableswitch 7 4 7 #[3, 4, 5, 6]]
def bk_154_3 : List Instr := [.aload 0, .getfield 384, .sipush 46, .iload 1, .iadd, .iaload, .ireturn]
def bk_154_4 : List Instr := [.aload 0, .iload 1, .invokevirtual 153, .ireturn]
def bk_154_5 : List Instr := [.aload 0, .getfield 384, .sipush 41, .iload 1, .iadd, .iaload, .ireturn]
def bk_154_6 : List Instr := [.aload 0, .getfield 384, .sipush 31, .iload 1, .iadd, .iaload, .ireturn]
def bk_154_7 : List Instr := [.aload 0, .getfield 384, .sipush 11, .sipush 5, .iload 2, .imul, .iadd, .iload 1, .iadd, .iaload, .ireturn]
def bk_155_0 : List Instr := [.aload 0, .iload 1, .invokevirtual 144, .ifCond .ne 1, .aload 0, .sipush (-100001), .invokevirtual 142, .ireturn]
def bk_155_1 : List Instr := [.aload 0, .iload 1, .invokevirtual 150, .ifCond .ne 2, .aload 0, .sipush (-100004), .invokevirtual 142, .ireturn]
def bk_155_2 : List Instr := [.aload 0, .invokevirtual 147, .aload 0, .getfield 384, .sipush 31, .iload 1, .iadd, .iaload, .istore 3, .aload 0, .getfield 384, .sipush 31, .iload 1, .iadd, .iload 2, .ifCond .eq 3, .sipush 1, .goto 4]
def bk_155_3 : List Instr := [.sipush 0, .goto_w 4]
def bk_155_4 : List Instr := [.iastore, .iload 3, .aload 0, .getfield 384, .sipush 31, .iload 1, .iadd, .iaload, .if_icmp .ne 5, .sipush 0, .goto 6]
def bk_155_5 : List Instr := [.sipush 1, .goto_w 6]
def bk_155_6 : List Instr := [.ireturn]
def bk_156_0 : List Instr := [.iload 1, .sipush 1, .sipush 9, .invokestatic 143, .ifCond .eq 1, .iload 2, .sipush 1, .sipush 30, .invokestatic 143, .ifCond .eq 1, .iload 3, .sipush 1, .sipush 99, .invokestatic 143, .ifCond .eq 1, .sipush 1, .goto 2]
def bk_156_1 : List Instr := [.sipush 0, .goto_w 2]
def bk_156_2 : List Instr := [.istore 7, .iload 7, .ifCond .eq 3, .iload 4, .invokestatic 146, .ifCond .eq 3, .iload 5, .sipush 0, .sipush 9, .invokestatic 143, .ifCond .eq 3, .iload 6, .sipush 0, .sipush 99, .invokestatic 143, .ifCond .ne 4, .goto_w 3]
def bk_156_3 : List Instr := [.aload 0, .sipush (-100001), .invokevirtual 142, .ireturn]
def bk_156_4 : List Instr := [.aload 0, .getfield 384, .sipush 1, .iaload, .istore 8, .iload 8, .sipush 8, .if_icmp .ne 5, .aload 0, .sipush (-100005), .invokevirtual 142, .ireturn]
def bk_156_5 : List Instr := [.aload 0, .invokevirtual 147, .aload 0, .getfield 384, .sipush 91, .iload 8, .iadd, .iload 1, .iastore, .aload 0, .getfield 384, .sipush 99, .iload 8, .iadd, .iload 2, .iastore, .aload 0, .getfield 384, .sipush 107, .iload 8, .iadd, .iload 3, .iastore, .aload 0, .getfield 384, .sipush 115, .iload 8, .iadd, .iload 4, .iastore, .aload 0, .getfield 384, .sipush 123, .iload 8, .iadd, .iload 5, .iastore, .aload 0, .getfield 384, .sipush 131, .iload 8, .iadd, .iload 6, .iastore, .aload 0, .getfield 384, .sipush 1, .dup2, .iaload, .sipush 1, .iadd, .iastore, .iload 8, .ireturn]
def bk_157_0 : List Instr := [.sipush 0, .istore 2, .goto_w 1]
def bk_157_1 : List Instr := [.iload 2, .aload 0, .getfield 384, .sipush 0, .iaload, .if_icmp .ge 5, .sipush 0, .istore 3, .goto_w 2]
def bk_157_2 : List Instr := [.iload 3, .aload 0, .getfield 384, .sipush 46, .iload 2, .iadd, .iaload, .if_icmp .ge 4, .aload 0, .iload 2, .iload 3, .invokevirtual 152, .iload 1, .if_icmp .ne 3, .sipush 8, .iload 2, .imul, .iload 3, .iadd, .ireturn]
def bk_157_3 : List Instr := [.iinc 3 1, .goto 2]
def bk_157_4 : List Instr := [.iinc 2 1, .goto 1]
def bk_157_5 : List Instr := [.sipush (-1), .ireturn]
def bk_158_0 : List Instr := [.aload 0, .getfield 384, .sipush 46, .iload 1, .sipush 8, .idiv, .iadd, .iaload, .sipush 1, .isub, .iload 1, .sipush 8, .irem, .isub, .ireturn]
def bk_159_0 : List Instr := [.aload 0, .iload 1, .invokevirtual 145, .ifCond .eq 1, .iload 2, .sipush 0, .sipush 7, .invokestatic 143, .ifCond .ne 2, .goto_w 1]
def bk_159_1 : List Instr := [.aload 0, .sipush (-100001), .invokevirtual 142, .ireturn]
def bk_159_2 : List Instr := [.aload 0, .iload 1, .invokevirtual 157, .istore 3, .iload 2, .lookupswitch 9 #[(6, 3), (7, 6)]]
def bk_159_3 : List Instr := [.iload 3, .ifCond .ge 4, .sipush (-1), .goto 5]
def bk_159_4 : List Instr := [.iload 3, .sipush 8, .idiv, .goto_w 5]
def bk_159_5 : List Instr := [.ireturn]
def bk_159_6 : List Instr := [.iload 3, .ifCond .ge 7, .sipush 0, .goto 8]
def bk_159_7 : List Instr := [.aload 0, .iload 3, .invokevirtual 158, .goto_w 8]
def bk_159_8 : List Instr := [.ireturn]
def bk_159_9 : List Instr := [.aload 0, .getfield 384, .sipush 91, .sipush 8, .iload 2, .imul, .iadd, .iload 1, .iadd, .iaload, .ireturn]
def bk_160_0 : List Instr := [.aload 0, .iload 1, .invokevirtual 145, .ifCond .eq 4, .iload 2, .sipush 0, .sipush 2, .invokestatic 143, .ifCond .eq 4, .iload 3, .sipush 0, .iload 2, .ifCond .ne 1, .sipush 23, .goto 3]
def bk_160_1 : List Instr := [.iload 2, .sipush 1, .if_icmp .ne 2, .sipush 9, .goto 3]
def bk_160_2 : List Instr := [.sipush 99, .goto_w 3]
def bk_160_3 : List Instr := [.invokestatic 143, .ifCond .ne 5, .goto_w 4]
def bk_160_4 : List Instr := [.aload 0, .sipush (-100001), .invokevirtual 142, .ireturn]
def bk_160_5 : List Instr := [.aload 0, .invokevirtual 147, .aload 0, .getfield 384, .sipush 115, .sipush 8, .iload 2, .imul, .iadd, .iload 1, .iadd, .iaload, .istore 4, .aload 0, .getfield 384, .sipush 115, .sipush 8, .iload 2, .imul, .iadd, .iload 1, .iadd, .iload 3, .iastore, .iload 4, .ireturn]
def bk_161_0 : List Instr := [.aload 0, .iload 1, .invokevirtual 144, .ifCond .ne 1, .aload 0, .sipush (-100001), .invokevirtual 142, .ireturn]
def bk_161_1 : List Instr := [.iload 2, .sipush 0, .aload 0, .getfield 384, .sipush 46, .iload 1, .iadd, .iaload, .sipush 1, .isub, .invokestatic 143, .ifCond .eq 2, .aload 0, .iload 1, .iload 2, .invokevirtual 152, .goto 3]
def bk_161_2 : List Instr := [.aload 0, .sipush (-100006), .invokevirtual 142, .goto_w 3]
def bk_161_3 : List Instr := [.ireturn]
def bk_162_0 : List Instr := [.aload 0, .getfield 384, .sipush 99, .iload 1, .iadd, .iaload, .aload 0, .getfield 384, .sipush 21, .iload 2, .iadd, .iaload, .if_icmp .gt 1, .aload 0, .getfield 384, .sipush 107, .iload 1, .iadd, .iaload, .aload 0, .getfield 384, .sipush 26, .iload 2, .iadd, .iaload, .if_icmp .gt 1, .sipush 1, .goto 2]
def bk_162_1 : List Instr := [.sipush 0, .goto_w 2]
def bk_162_2 : List Instr := [.ireturn]
def bk_163_0 : List Instr := [.aload 0, .iload 1, .invokevirtual 145, .ifCond .eq 1, .aload 0, .iload 2, .invokevirtual 144, .ifCond .ne 2, .goto_w 1]
def bk_163_1 : List Instr := [.aload 0, .sipush (-100001), .invokevirtual 142, .goto 4]
def bk_163_2 : List Instr := [.aload 0, .iload 1, .iload 2, .invokevirtual 162, .ifCond .eq 3, .sipush 1, .goto 4]
def bk_163_3 : List Instr := [.sipush 0, .goto_w 4]
def bk_163_4 : List Instr := [.ireturn]
def bk_164_0 : List Instr := [.aload 0, .getfield 384, .sipush 31, .iload 1, .iadd, .iaload, .sipush 1, .if_icmp .eq 1, .aload 0, .getfield 384, .sipush 41, .iload 1, .iadd, .iaload, .sipush 12, .if_icmp .ne 2, .goto_w 1]
def bk_164_1 : List Instr := [.sipush 1, .goto 3]
def bk_164_2 : List Instr := [.sipush 0, .goto_w 3]
def bk_164_3 : List Instr := [.ireturn]
def bk_165_0 : List Instr := [.aload 0, .iload 1, .invokevirtual 157, .istore 2, .iload 2, .ifCond .lt 1, .aload 0, .iload 2, .invokevirtual 158, .ifCond .ne 1, .aload 0, .iload 2, .sipush 8, .idiv, .invokevirtual 164, .ifCond .ne 1, .sipush 1, .goto 2]
def bk_165_1 : List Instr := [.sipush 0, .goto_w 2]
def bk_165_2 : List Instr := [.ireturn]
def bk_166_0 : List Instr := [.aload 0, .getfield 384, .sipush 41, .iload 1, .iadd, .dup2, .iaload, .aload 0, .iload 1, .invokevirtual 150, .ifCond .eq 1, .sipush 1, .goto 2]
def bk_166_1 : List Instr := [.sipush 0, .goto_w 2]
def bk_166_2 : List Instr := [.iadd, .iastore, .return_]
def bk_167_0 : List Instr := [.aload 0, .getfield 384, .sipush 51, .sipush 8, .iload 2, .imul, .iadd, .aload 0, .getfield 384, .sipush 46, .iload 2, .iadd, .iaload, .iadd, .iload 1, .iastore, .aload 0, .getfield 384, .sipush 46, .iload 2, .iadd, .dup2, .iaload, .sipush 1, .iadd, .iastore, .aload 0, .iload 2, .invokevirtual 166, .return_]
def bk_168_0 : List Instr := [.aload 0, .getfield 384, .sipush 46, .iload 1, .iadd, .dup2, .iaload, .sipush 1, .isub, .iastore, .aload 0, .iload 1, .invokevirtual 166, .return_]
def bk_169_0 : List Instr := [.aload 0, .iload 1, .invokevirtual 145, .ifCond .eq 1, .aload 0, .iload 2, .invokevirtual 144, .ifCond .ne 2, .goto_w 1]
def bk_169_1 : List Instr := [.aload 0, .sipush (-100001), .invokevirtual 142, .ireturn]
def bk_169_2 : List Instr := [.aload 0, .iload 1, .invokevirtual 157, .ifCond .lt 3, .aload 0, .sipush (-100007), .invokevirtual 142, .ireturn]
def bk_169_3 : List Instr := [.aload 0, .iload 1, .iload 2, .invokevirtual 162, .ifCond .ne 4, .aload 0, .sipush (-100004), .invokevirtual 142, .ireturn]
def bk_169_4 : List Instr := [.aload 0, .iload 2, .invokevirtual 164, .ifCond .eq 5, .aload 0, .sipush (-100008), .invokevirtual 142, .ireturn]
def bk_169_5 : List Instr := [.aload 0, .iload 2, .invokevirtual 153, .aload 0, .getfield 384, .sipush 91, .iload 1, .iadd, .iaload, .if_icmp .ge 6, .aload 0, .sipush (-100005), .invokevirtual 142, .ireturn]
def bk_169_6 : List Instr := [.aload 0, .invokevirtual 147, .aload 0, .iload 1, .iload 2, .invokevirtual 167, .aload 0, .getfield 384, .sipush 46, .iload 2, .iadd, .iaload, .ireturn]
def bk_170_0 : List Instr := [.aload 0, .iload 1, .invokevirtual 157, .istore 3, .iload 3, .ifCond .ge 1, .sipush (-100006), .ireturn]
def bk_170_1 : List Instr := [.iload 3, .sipush 8, .idiv, .iload 2, .if_icmp .ne 2, .sipush (-100007), .ireturn]
def bk_170_2 : List Instr := [.aload 0, .iload 1, .invokevirtual 165, .ifCond .eq 3, .aload 0, .iload 2, .invokevirtual 164, .ifCond .eq 4, .goto_w 3]
def bk_170_3 : List Instr := [.sipush (-100008), .ireturn]
def bk_170_4 : List Instr := [.aload 0, .iload 1, .iload 2, .invokevirtual 162, .ifCond .ne 5, .sipush (-100004), .ireturn]
def bk_170_5 : List Instr := [.aload 0, .iload 2, .invokevirtual 153, .aload 0, .getfield 384, .sipush 91, .iload 1, .iadd, .iaload, .if_icmp .ge 6, .sipush (-100005), .ireturn]
def bk_170_6 : List Instr := [.aload 0, .iload 1, .aload 0, .getfield 384, .sipush 2, .iaload, .aload 0, .getfield 384, .sipush 10, .iaload, .invokevirtual 228, .ifCond .eq 7, .sipush 0, .goto 8]
def bk_170_7 : List Instr := [.sipush (-100002), .goto_w 8]
def bk_170_8 : List Instr := [.ireturn]
def bk_171_0 : List Instr := [.aload 0, .aload 0, .iload 1, .invokevirtual 157, .sipush 8, .idiv, .invokevirtual 168, .aload 0, .iload 1, .iload 2, .invokevirtual 167, .return_]
def bk_172_0 : List Instr := [.aload 0, .getfield 384, .sipush 8, .iaload, .sipush 60, .if_icmp .ne 3, .sipush 1, .istore 2, .goto_w 1]
def bk_172_1 : List Instr := [.iload 2, .sipush 60, .if_icmp .ge 2, .aload 0, .getfield 384, .sipush 171, .iload 2, .iadd, .sipush 1, .isub, .aload 0, .getfield 384, .sipush 171, .iload 2, .iadd, .iaload, .iastore, .iinc 2 1, .goto 1]
def bk_172_2 : List Instr := [.aload 0, .getfield 384, .sipush 8, .dup2, .iaload, .sipush 1, .isub, .iastore, .goto_w 3]
def bk_172_3 : List Instr := [.aload 0, .getfield 384, .sipush 171, .aload 0, .getfield 384, .sipush 8, .iaload, .iadd, .iload 1, .iastore, .aload 0, .getfield 384, .sipush 8, .dup2, .iaload, .sipush 1, .iadd, .iastore, .return_]
def bk_173_0 : List Instr := [.aload 0, .iload 1, .invokevirtual 145, .ifCond .eq 1, .aload 0, .iload 2, .invokevirtual 144, .ifCond .ne 2, .goto_w 1]
def bk_173_1 : List Instr := [.aload 0, .sipush (-100001), .invokevirtual 142, .ireturn]
def bk_173_2 : List Instr := [.aload 0, .iload 1, .iload 2, .invokevirtual 170, .istore 3, .iload 3, .ifCond .eq 3, .aload 0, .iload 3, .invokevirtual 142, .ireturn]
def bk_173_3 : List Instr := [.aload 0, .iload 1, .iload 2, .aload 0, .getfield 384, .sipush 2, .iaload, .invokevirtual 218, .ifCond .ne 4, .aload 0, .sipush (-100009), .invokevirtual 142, .ireturn]
def bk_173_4 : List Instr := [.aload 0, .invokevirtual 147, .aload 0, .iload 1, .iload 2, .invokevirtual 171, .aload 0, .iload 1, .sipush 8, .aload 0, .getfield 384, .sipush 4, .iaload, .imul, .iadd, .invokevirtual 172, .aload 0, .getfield 384, .sipush 6, .dup2, .iaload, .sipush 1, .iadd, .iastore, .aload 0, .getfield 384, .sipush 6, .iaload, .ireturn]
def bk_174_0 : List Instr := [.aload 0, .iload 1, .invokevirtual 145, .ifCond .ne 1, .aload 0, .sipush (-100001), .invokevirtual 142, .ireturn]
def bk_174_1 : List Instr := [.aload 0, .iload 1, .invokevirtual 157, .istore 2, .iload 2, .ifCond .ge 2, .aload 0, .sipush (-100006), .invokevirtual 142, .ireturn]
def bk_174_2 : List Instr := [.aload 0, .iload 1, .invokevirtual 165, .ifCond .ne 3, .aload 0, .sipush (-100008), .invokevirtual 142, .ireturn]
def bk_174_3 : List Instr := [.aload 0, .invokevirtual 147, .aload 0, .iload 2, .sipush 8, .idiv, .invokevirtual 168, .aload 0, .getfield 384, .sipush 115, .iload 1, .iadd, .iaload, .ireturn]
def bk_175_0 : List Instr := [.aload 0, .invokevirtual 147, .sipush 0, .istore 1, .sipush 0, .istore 2, .goto_w 1]
def bk_175_1 : List Instr := [.iload 2, .sipush 5, .if_icmp .ge 2, .iload 1, .aload 0, .getfield 384, .sipush 41, .iload 2, .iadd, .iaload, .iadd, .istore 1, .aload 0, .getfield 384, .sipush 41, .iload 2, .iadd, .sipush 0, .iastore, .iinc 2 1, .goto 1]
def bk_175_2 : List Instr := [.aload 0, .getfield 384, .sipush 2, .sipush 0, .iastore, .iload 1, .ireturn]
def bk_176_0 : List Instr := [.iload 1, .invokestatic 146, .ifCond .ne 1, .aload 0, .sipush (-100001), .invokevirtual 142, .ireturn]
def bk_176_1 : List Instr := [.aload 0, .invokevirtual 147, .aload 0, .getfield 384, .sipush 2, .iaload, .istore 2, .aload 0, .getfield 384, .sipush 2, .iload 1, .iastore, .iload 2, .ireturn]
def bk_177_0 : List Instr := [.aload 0, .iload 1, .invokevirtual 145, .ifCond .ne 1, .aload 0, .sipush (-100001), .invokevirtual 142, .ireturn]
def bk_177_1 : List Instr := [.aload 0, .iload 1, .invokevirtual 157, .istore 2, .iload 2, .ifCond .ge 2, .aload 0, .sipush (-100006), .invokevirtual 142, .ireturn]
def bk_177_2 : List Instr := [.sipush 0, .istore 3, .iload 2, .sipush 8, .irem, .sipush 1, .iadd, .istore 4, .goto_w 3]
def bk_177_3 : List Instr := [.iload 4, .aload 0, .getfield 384, .sipush 46, .iload 2, .sipush 8, .idiv, .iadd, .iaload, .if_icmp .ge 4, .iload 3, .sipush 1, .aload 0, .iload 2, .sipush 8, .idiv, .iload 4, .invokevirtual 152, .ishl, .ior, .istore 3, .iinc 4 1, .goto 3]
def bk_177_4 : List Instr := [.iload 3, .ireturn]
def bk_178_0 : List Instr := [.sipush 0, .istore 2, .goto_w 1]
def bk_178_1 : List Instr := [.iload 2, .sipush 50, .if_icmp .ge 2, .aload 0, .getfield 391, .sipush 50, .iload 1, .imul, .iload 2, .iadd, .aload 0, .getfield 384, .sipush 41, .iload 2, .iadd, .iaload, .iastore, .iinc 2 1, .goto 1]
def bk_178_2 : List Instr := [.return_]
def bk_179_0 : List Instr := [.sipush 0, .istore 2, .goto_w 1]
def bk_179_1 : List Instr := [.iload 2, .sipush 50, .if_icmp .ge 2, .aload 0, .getfield 384, .sipush 41, .iload 2, .iadd, .aload 0, .getfield 391, .sipush 50, .iload 1, .imul, .iload 2, .iadd, .iaload, .iastore, .iinc 2 1, .goto 1]
def bk_179_2 : List Instr := [.return_]
def bk_180_0 : List Instr := [.iload 2, .iload 3, .if_icmp .ne 1, .aload 0, .iload 1, .invokevirtual 165, .ireturn]
def bk_180_1 : List Instr := [.aload 0, .iload 2, .invokevirtual 178, .sipush 0, .istore 4, .goto_w 2]
def bk_180_2 : List Instr := [.iload 4, .sipush 8, .aload 0, .getfield 384, .sipush 1, .iaload, .imul, .if_icmp .ge 5, .iload 4, .sipush 8, .idiv, .iload 1, .if_icmp .eq 4, .aload 0, .iload 4, .sipush 8, .irem, .invokevirtual 144, .ifCond .eq 4, .aload 0, .iload 4, .sipush 8, .idiv, .iload 4, .sipush 8, .irem, .invokevirtual 170, .ifCond .eq 3, .goto 4]
def bk_180_3 : List Instr := [.aload 0, .iload 4, .sipush 8, .idiv, .iload 4, .sipush 8, .irem, .invokevirtual 171, .aload 0, .getfield 392, .iload 2, .iload 4, .iastore, .aload 0, .iload 1, .iload 2, .sipush 1, .iadd, .iload 3, .invokevirtual 180, .istore 5, .aload 0, .iload 2, .invokevirtual 179, .iload 5, .ifCond .eq 4, .sipush 1, .ireturn]
def bk_180_4 : List Instr := [.iinc 4 1, .goto 2]
def bk_180_5 : List Instr := [.sipush 0, .ireturn]
def bk_181_0 : List Instr := [.sipush 0, .istore 2, .goto_w 1]
def bk_181_1 : List Instr := [.iload 2, .sipush 3, .if_icmp .gt 2, .aload 0, .iload 1, .sipush 0, .iload 2, .invokevirtual 180, .ifCond .ne 2, .iinc 2 1, .goto 1]
def bk_181_2 : List Instr := [.iload 2, .sipush 3, .if_icmp .le 3, .sipush (-1), .goto 4]
def bk_181_3 : List Instr := [.iload 2, .goto_w 4]
def bk_181_4 : List Instr := [.ireturn]
def bk_182_0 : List Instr := [.aload 0, .iload 1, .invokevirtual 145, .ifCond .ne 1, .aload 0, .sipush (-100001), .invokevirtual 142, .ireturn]
def bk_182_1 : List Instr := [.aload 0, .iload 1, .invokevirtual 157, .ifCond .ge 2, .sipush (-1), .goto 3]
def bk_182_2 : List Instr := [.aload 0, .iload 1, .invokevirtual 181, .goto_w 3]
def bk_182_3 : List Instr := [.istore 2, .iload 2, .ifCond .ge 4, .aload 0, .sipush (-100006), .invokevirtual 142, .goto 5]
def bk_182_4 : List Instr := [.iload 2, .goto_w 5]
def bk_182_5 : List Instr := [.ireturn]
def bk_183_0 : List Instr := [.aload 0, .iload 1, .invokevirtual 145, .ifCond .eq 1, .iload 2, .ifCond .ge 2, .goto_w 1]
def bk_183_1 : List Instr := [.aload 0, .sipush (-100001), .invokevirtual 142, .ireturn]
def bk_183_2 : List Instr := [.aload 0, .iload 1, .invokevirtual 157, .ifCond .ge 3, .sipush (-1), .goto 4]
def bk_183_3 : List Instr := [.aload 0, .iload 1, .invokevirtual 181, .goto_w 4]
def bk_183_4 : List Instr := [.istore 3, .iload 2, .iload 3, .if_icmp .lt 5, .aload 0, .sipush (-100006), .invokevirtual 142, .goto 6]
def bk_183_5 : List Instr := [.aload 0, .getfield 392, .iload 2, .iaload, .goto_w 6]
def bk_183_6 : List Instr := [.ireturn]
def bk_184_0 : List Instr := [.aload 0, .iload 1, .invokevirtual 145, .ifCond .eq 1, .iload 2, .invokestatic 230, .ifCond .ne 2, .goto_w 1]
def bk_184_1 : List Instr := [.aload 0, .sipush (-100001), .invokevirtual 142, .ireturn]
def bk_184_2 : List Instr := [.aload 0, .getfield 388, .iload 2, .iaload, .ifCond .ne 3, .aload 0, .sipush (-100002), .invokevirtual 142, .ireturn]
def bk_184_3 : List Instr := [.aload 0, .iload 1, .invokevirtual 157, .ifCond .ge 4, .aload 0, .sipush (-100006), .invokevirtual 142, .ireturn]
def bk_184_4 : List Instr := [.aload 0, .sipush 0, .invokevirtual 178, .sipush 0, .istore 3, .sipush 1, .istore 4, .goto_w 5]
def bk_184_5 : List Instr := [.iload 4, .ifCond .eq 9, .iload 3, .aload 0, .getfield 389, .iload 2, .iaload, .if_icmp .ge 9, .aload 0, .getfield 390, .sipush 20, .iload 2, .imul, .iload 3, .iadd, .iaload, .istore 5, .iload 5, .ifCond .lt 6, .aload 0, .iload 5, .sipush 8, .idiv, .invokevirtual 145, .ifCond .eq 6, .iload 5, .sipush 8, .idiv, .iload 1, .if_icmp .eq 6, .aload 0, .iload 5, .sipush 8, .irem, .invokevirtual 144, .ifCond .eq 6, .aload 0, .iload 5, .sipush 8, .idiv, .iload 5, .sipush 8, .irem, .invokevirtual 170, .ifCond .ne 6, .sipush 1, .goto 7]
def bk_184_6 : List Instr := [.sipush 0, .goto_w 7]
def bk_184_7 : List Instr := [.istore 4, .iload 4, .ifCond .eq 8, .aload 0, .iload 5, .sipush 8, .idiv, .iload 5, .sipush 8, .irem, .invokevirtual 171, .iinc 3 1, .goto_w 8]
def bk_184_8 : List Instr := [.goto 5]
def bk_184_9 : List Instr := [.iload 4, .ifCond .eq 10, .aload 0, .iload 1, .invokevirtual 165, .ifCond .eq 10, .sipush (-1), .goto 11]
def bk_184_10 : List Instr := [.iload 3, .goto_w 11]
def bk_184_11 : List Instr := [.istore 5, .aload 0, .sipush 0, .invokevirtual 179, .iload 5, .ireturn]
def bk_185_0 : List Instr := [.sipush 0, .istore 2, .sipush 0, .istore 3, .goto_w 1]
def bk_185_1 : List Instr := [.iload 3, .aload 0, .getfield 384, .sipush 46, .iload 1, .iadd, .iaload, .if_icmp .ge 6, .iload 3, .sipush 1, .iadd, .istore 4, .goto_w 2]
def bk_185_2 : List Instr := [.iload 4, .aload 0, .getfield 384, .sipush 46, .iload 1, .iadd, .iaload, .if_icmp .ge 5, .iload 2, .aload 0, .getfield 384, .sipush 115, .aload 0, .iload 1, .iload 4, .invokevirtual 152, .iadd, .iaload, .aload 0, .getfield 384, .sipush 115, .aload 0, .iload 1, .iload 3, .invokevirtual 152, .iadd, .iaload, .if_icmp .le 3, .sipush 2, .goto 4]
def bk_185_3 : List Instr := [.sipush 0, .goto_w 4]
def bk_185_4 : List Instr := [.iadd, .istore 2, .iinc 4 1, .goto 2]
def bk_185_5 : List Instr := [.iinc 3 1, .goto 1]
def bk_185_6 : List Instr := [.iload 2, .ireturn]
def bk_186_0 : List Instr := [.iload 1, .sipush (-1), .if_icmp .eq 1, .aload 0, .iload 1, .invokevirtual 144, .ifCond .ne 1, .aload 0, .sipush (-100001), .invokevirtual 142, .ireturn]
def bk_186_1 : List Instr := [.sipush 0, .istore 2, .sipush 0, .istore 3, .goto_w 2]
def bk_186_2 : List Instr := [.iload 3, .aload 0, .getfield 384, .sipush 0, .iaload, .if_icmp .ge 6, .iload 2, .iload 1, .sipush (-1), .if_icmp .eq 3, .iload 1, .iload 3, .if_icmp .ne 4, .goto_w 3]
def bk_186_3 : List Instr := [.aload 0, .iload 3, .invokevirtual 185, .goto 5]
def bk_186_4 : List Instr := [.sipush 0, .goto_w 5]
def bk_186_5 : List Instr := [.iadd, .istore 2, .iinc 3 1, .goto 2]
def bk_186_6 : List Instr := [.iload 2, .ireturn]
def bk_187_0 : List Instr := [.sipush 0, .istore 2, .goto_w 1]
def bk_187_1 : List Instr := [.iload 2, .aload 0, .getfield 384, .sipush 7, .iaload, .if_icmp .ge 3, .aload 0, .getfield 384, .sipush 139, .iload 2, .iadd, .iaload, .iload 1, .if_icmp .ne 2, .iload 2, .ireturn]
def bk_187_2 : List Instr := [.iinc 2 1, .goto 1]
def bk_187_3 : List Instr := [.sipush (-1), .ireturn]
def bk_188_0 : List Instr := [.aload 0, .iload 1, .invokevirtual 145, .ifCond .ne 1, .aload 0, .sipush (-100001), .invokevirtual 142, .ireturn]
def bk_188_1 : List Instr := [.aload 0, .iload 1, .invokevirtual 187, .ifCond .lt 2, .aload 0, .sipush (-100007), .invokevirtual 142, .ireturn]
def bk_188_2 : List Instr := [.aload 0, .getfield 384, .sipush 7, .iaload, .sipush 7, .if_icmp .ne 3, .aload 0, .sipush (-100005), .invokevirtual 142, .ireturn]
def bk_188_3 : List Instr := [.aload 0, .invokevirtual 147, .aload 0, .getfield 384, .sipush 139, .aload 0, .getfield 384, .sipush 7, .iaload, .iadd, .iload 1, .iastore, .aload 0, .getfield 384, .sipush 7, .dup2, .iaload, .sipush 1, .iadd, .iastore, .aload 0, .getfield 384, .sipush 7, .iaload, .ireturn]
def bk_189_0 : List Instr := [.aload 0, .invokevirtual 147, .aload 0, .getfield 384, .sipush 7, .iaload, .istore 1, .aload 0, .getfield 384, .sipush 7, .sipush 0, .iastore, .iload 1, .ireturn]
def bk_190_0 : List Instr := [.aload 0, .getfield 384, .sipush 139, .iload 1, .iadd, .iaload, .istore 3, .aload 0, .getfield 384, .sipush 16, .iload 2, .iadd, .iaload, .aload 0, .getfield 384, .sipush 91, .iload 3, .iadd, .iaload, .isub, .istore 4, .sipush 0, .istore 5, .sipush 0, .istore 6, .goto_w 1]
def bk_190_1 : List Instr := [.iload 6, .iload 1, .if_icmp .ge 5, .aload 0, .getfield 384, .sipush 139, .iload 6, .iadd, .iaload, .istore 7, .aload 0, .getfield 393, .iload 6, .iaload, .iload 2, .if_icmp .ne 4, .iload 4, .aload 0, .getfield 384, .sipush 91, .iload 7, .iadd, .iaload, .isub, .istore 4, .iload 5, .aload 0, .getfield 384, .sipush 115, .iload 3, .iadd, .iaload, .aload 0, .getfield 384, .sipush 115, .iload 7, .iadd, .iaload, .if_icmp .le 2, .sipush 2, .goto 3]
def bk_190_2 : List Instr := [.sipush 0, .goto_w 3]
def bk_190_3 : List Instr := [.iadd, .istore 5, .goto_w 4]
def bk_190_4 : List Instr := [.iinc 6 1, .goto 1]
def bk_190_5 : List Instr := [.aload 0, .iload 3, .iload 2, .invokevirtual 162, .ifCond .eq 6, .iload 4, .ifCond .lt 6, .iload 5, .goto 7]
def bk_190_6 : List Instr := [.sipush (-1), .goto_w 7]
def bk_190_7 : List Instr := [.ireturn]
def bk_191_0 : List Instr := [.iload 1, .aload 0, .getfield 384, .sipush 7, .iaload, .if_icmp .ne 3, .aload 0, .iload 2, .putfield 395, .sipush 0, .istore 3, .goto_w 1]
def bk_191_1 : List Instr := [.iload 3, .iload 1, .if_icmp .ge 2, .aload 0, .getfield 394, .iload 3, .aload 0, .getfield 393, .iload 3, .iaload, .iastore, .iinc 3 1, .goto 1]
def bk_191_2 : List Instr := [.return_]
def bk_191_3 : List Instr := [.sipush 0, .istore 3, .goto_w 4]
def bk_191_4 : List Instr := [.iload 3, .aload 0, .getfield 384, .sipush 0, .iaload, .if_icmp .ge 7, .aload 0, .iload 1, .iload 3, .invokevirtual 190, .istore 4, .iload 4, .ifCond .lt 6, .aload 0, .getfield 395, .ifCond .lt 5, .iload 2, .iload 4, .iadd, .aload 0, .getfield 395, .if_icmp .ge 6, .goto_w 5]
def bk_191_5 : List Instr := [.aload 0, .getfield 393, .iload 1, .iload 3, .iastore, .aload 0, .iload 1, .sipush 1, .iadd, .iload 2, .iload 4, .iadd, .invokevirtual 191, .goto_w 6]
def bk_191_6 : List Instr := [.iinc 3 1, .goto 4]
def bk_191_7 : List Instr := [.return_]
def bk_192_0 : List Instr := [.aload 0, .sipush (-1), .putfield 395, .aload 0, .sipush 0, .sipush 0, .invokevirtual 191, .return_]
def bk_193_0 : List Instr := [.aload 0, .invokevirtual 192, .aload 0, .getfield 395, .ifCond .ge 1, .aload 0, .sipush (-100006), .invokevirtual 142, .goto 2]
def bk_193_1 : List Instr := [.aload 0, .getfield 395, .goto_w 2]
def bk_193_2 : List Instr := [.ireturn]
def bk_194_0 : List Instr := [.aload 0, .iload 1, .invokevirtual 145, .ifCond .ne 1, .aload 0, .sipush (-100001), .invokevirtual 142, .ireturn]
def bk_194_1 : List Instr := [.aload 0, .invokevirtual 192, .aload 0, .iload 1, .invokevirtual 187, .istore 2, .aload 0, .getfield 395, .ifCond .lt 2, .iload 2, .ifCond .ge 3, .goto_w 2]
def bk_194_2 : List Instr := [.aload 0, .sipush (-100006), .invokevirtual 142, .goto 4]
def bk_194_3 : List Instr := [.aload 0, .getfield 394, .iload 2, .iaload, .goto_w 4]
def bk_194_4 : List Instr := [.ireturn]
def bk_195_0 : List Instr := [.iload 1, .sipush 0, .sipush 3, .invokestatic 143, .ifCond .ne 1, .aload 0, .sipush (-100001), .invokevirtual 142, .ireturn]
def bk_195_1 : List Instr := [.aload 0, .invokevirtual 147, .aload 0, .getfield 384, .sipush 3, .iaload, .istore 2, .aload 0, .getfield 384, .sipush 3, .iload 1, .iastore, .iload 2, .ireturn]
def bk_196_0 : List Instr := [.sipush 0, .istore 2, .goto_w 1]
def bk_196_1 : List Instr := [.iload 2, .sipush 8, .if_icmp .ge 4, .aload 0, .getfield 396, .iload 2, .iload 1, .iload 2, .ishr, .sipush 1, .iand, .sipush 1, .if_icmp .ne 2, .aload 0, .getfield 384, .sipush 123, .iload 2, .iadd, .iaload, .goto 3]
def bk_196_2 : List Instr := [.sipush 0, .goto_w 3]
def bk_196_3 : List Instr := [.iastore, .iinc 2 1, .goto 1]
def bk_196_4 : List Instr := [.return_]
def bk_197_0 : List Instr := [.sipush 0, .istore 2, .sipush 0, .istore 3, .goto_w 1]
def bk_197_1 : List Instr := [.iload 3, .aload 0, .getfield 384, .sipush 3, .iaload, .if_icmp .ge 15, .sipush (-1), .istore 4, .sipush 0, .istore 5, .goto_w 2]
def bk_197_2 : List Instr := [.iload 5, .sipush 8, .if_icmp .ge 8, .iload 2, .iload 5, .ishr, .sipush 1, .iand, .ifCond .ne 3, .aload 0, .getfield 396, .iload 5, .iaload, .ifCond .le 3, .aload 0, .getfield 384, .sipush 115, .iload 5, .iadd, .iaload, .iload 1, .if_icmp .le 3, .sipush 1, .goto 4]
def bk_197_3 : List Instr := [.sipush 0, .goto_w 4]
def bk_197_4 : List Instr := [.istore 6, .iload 6, .ifCond .eq 6, .iload 4, .ifCond .lt 5, .aload 0, .getfield 396, .iload 5, .iaload, .aload 0, .getfield 396, .iload 4, .iaload, .if_icmp .le 6, .goto_w 5]
def bk_197_5 : List Instr := [.iload 5, .goto 7]
def bk_197_6 : List Instr := [.iload 4, .goto_w 7]
def bk_197_7 : List Instr := [.istore 4, .iinc 5 1, .goto 2]
def bk_197_8 : List Instr := [.iload 2, .iload 4, .ifCond .lt 9, .sipush 1, .iload 4, .ishl, .goto 10]
def bk_197_9 : List Instr := [.sipush 0, .goto_w 10]
def bk_197_10 : List Instr := [.ior, .istore 2, .sipush 0, .istore 5, .goto_w 11]
def bk_197_11 : List Instr := [.iload 5, .sipush 8, .if_icmp .ge 14, .aload 0, .getfield 396, .iload 5, .dup2, .iaload, .iload 5, .iload 4, .if_icmp .ne 12, .sipush 1, .goto 13]
def bk_197_12 : List Instr := [.sipush 0, .goto_w 13]
def bk_197_13 : List Instr := [.isub, .iastore, .iinc 5 1, .goto 11]
def bk_197_14 : List Instr := [.iinc 3 1, .goto 1]
def bk_197_15 : List Instr := [.iload 2, .ireturn]
def bk_198_0 : List Instr := [.aload 0, .iload 1, .invokevirtual 196, .sipush 23, .istore 2, .goto_w 1]
def bk_198_1 : List Instr := [.iload 2, .ifCond .lt 2, .aload 0, .iload 2, .invokevirtual 197, .istore 3, .iinc 2 (-1), .goto 1]
def bk_198_2 : List Instr := [.sipush 0, .istore 2, .sipush 0, .istore 3, .goto_w 3]
def bk_198_3 : List Instr := [.iload 3, .sipush 8, .if_icmp .ge 4, .iload 2, .aload 0, .getfield 396, .iload 3, .iaload, .iadd, .istore 2, .iinc 3 1, .goto 3]
def bk_198_4 : List Instr := [.iload 2, .ifCond .ne 5, .sipush 1, .goto 6]
def bk_198_5 : List Instr := [.sipush 0, .goto_w 6]
def bk_198_6 : List Instr := [.ireturn]
def bk_199_0 : List Instr := [.sipush 0, .istore 1, .sipush 0, .istore 2, .goto_w 1]
def bk_199_1 : List Instr := [.iload 2, .sipush 8, .if_icmp .ge 2, .iload 1, .iload 0, .iload 2, .ishr, .sipush 1, .iand, .iadd, .istore 1, .iinc 2 1, .goto 1]
def bk_199_2 : List Instr := [.iload 1, .ireturn]
def bk_200_0 : List Instr := [.sipush 0, .istore 1, .sipush 0, .istore 2, .goto_w 1]
def bk_200_1 : List Instr := [.iload 2, .aload 0, .getfield 384, .sipush 1, .iaload, .if_icmp .ge 4, .iload 1, .aload 0, .getfield 384, .sipush 123, .iload 2, .iadd, .iaload, .ifCond .le 2, .aload 0, .iload 2, .invokevirtual 157, .ifCond .lt 2, .sipush 1, .iload 2, .ishl, .goto 3]
def bk_200_2 : List Instr := [.sipush 0, .goto_w 3]
def bk_200_3 : List Instr := [.ior, .istore 1, .iinc 2 1, .goto 1]
def bk_200_4 : List Instr := [.sipush 0, .istore 2, .sipush 1, .istore 3, .goto_w 5]
def bk_200_5 : List Instr := [.iload 3, .iload 1, .if_icmp .gt 7, .iload 3, .iload 1, .sipush (-1), .ixor, .iand, .ifCond .ne 6, .iload 3, .invokestatic 199, .iload 2, .invokestatic 199, .if_icmp .le 6, .aload 0, .iload 3, .invokevirtual 198, .ifCond .eq 6, .iload 3, .istore 2, .goto_w 6]
def bk_200_6 : List Instr := [.iinc 3 1, .goto 5]
def bk_200_7 : List Instr := [.iload 2, .ireturn]
def bk_201_0 : List Instr := [.aload 0, .invokevirtual 200, .ireturn]
def bk_202_0 : List Instr := [.iload 1, .invokestatic 146, .ifCond .ne 1, .aload 0, .sipush (-100001), .invokevirtual 142, .ireturn]
def bk_202_1 : List Instr := [.aload 0, .aload 0, .invokevirtual 200, .invokevirtual 196, .sipush 0, .istore 2, .sipush 23, .istore 3, .goto_w 2]
def bk_202_2 : List Instr := [.iload 3, .iload 1, .if_icmp .lt 3, .aload 0, .iload 3, .invokevirtual 197, .istore 2, .iinc 3 (-1), .goto 2]
def bk_202_3 : List Instr := [.iload 2, .ireturn]
def bk_203_0 : List Instr := [.iload 1, .sipush 0, .sipush 4, .invokestatic 143, .ifCond .eq 1, .iload 2, .sipush 0, .sipush 4, .invokestatic 143, .ifCond .eq 1, .iload 3, .sipush 0, .sipush 999, .invokestatic 143, .ifCond .ne 2, .goto_w 1]
def bk_203_1 : List Instr := [.aload 0, .sipush (-100001), .invokevirtual 142, .ireturn]
def bk_203_2 : List Instr := [.aload 0, .invokevirtual 147, .aload 0, .getfield 384, .sipush 146, .sipush 5, .iload 1, .imul, .iadd, .iload 2, .iadd, .iaload, .istore 4, .aload 0, .getfield 384, .sipush 146, .sipush 5, .iload 1, .imul, .iadd, .iload 2, .iadd, .iload 3, .iastore, .iload 4, .ireturn]
def bk_204_0 : List Instr := [.iload 1, .sipush 5, .if_icmp .ne 1, .sipush 0, .ireturn]
def bk_204_1 : List Instr := [.iload 1, .iload 3, .if_icmp .ne 2, .aload 0, .iload 1, .sipush 1, .iadd, .iload 2, .iload 3, .invokevirtual 204, .ireturn]
def bk_204_2 : List Instr := [.sipush (-1), .istore 4, .sipush 0, .istore 5, .goto_w 3]
def bk_204_3 : List Instr := [.iload 5, .sipush 5, .if_icmp .ge 5, .iload 2, .iload 5, .ishr, .sipush 1, .iand, .sipush 1, .if_icmp .ne 4, .iload 4, .aload 0, .getfield 384, .sipush 146, .sipush 5, .iload 1, .imul, .iadd, .iload 5, .iadd, .iaload, .aload 0, .iload 1, .sipush 1, .iadd, .iload 2, .sipush 1, .iload 5, .ishl, .sipush (-1), .ixor, .iand, .iload 3, .invokevirtual 204, .iadd, .invokestatic 236, .istore 4, .goto_w 4]
def bk_204_4 : List Instr := [.iinc 5 1, .goto 3]
def bk_204_5 : List Instr := [.iload 4, .ireturn]
def bk_205_0 : List Instr := [.sipush 31, .istore 1, .aload 0, .sipush 0, .iload 1, .sipush (-1), .invokevirtual 204, .istore 2, .iload 2, .istore 3, .sipush 0, .istore 4, .goto_w 1]
def bk_205_1 : List Instr := [.iload 4, .sipush 5, .if_icmp .ge 5, .sipush 0, .istore 5, .goto_w 2]
def bk_205_2 : List Instr := [.iload 1, .iload 5, .ishr, .sipush 1, .iand, .ifCond .eq 3, .aload 0, .getfield 384, .sipush 146, .sipush 5, .iload 4, .imul, .iadd, .iload 5, .iadd, .iaload, .aload 0, .iload 4, .sipush 1, .iadd, .iload 1, .sipush 1, .iload 5, .ishl, .sipush (-1), .ixor, .iand, .sipush (-1), .invokevirtual 204, .iadd, .iload 3, .if_icmp .eq 4, .goto_w 3]
def bk_205_3 : List Instr := [.iinc 5 1, .goto 2]
def bk_205_4 : List Instr := [.aload 0, .getfield 397, .iload 4, .iload 5, .iastore, .iload 1, .sipush 1, .iload 5, .ishl, .sipush (-1), .ixor, .iand, .istore 1, .iload 3, .aload 0, .getfield 384, .sipush 146, .sipush 5, .iload 4, .imul, .iadd, .iload 5, .iadd, .iaload, .isub, .istore 3, .iinc 4 1, .goto 1]
def bk_205_5 : List Instr := [.iload 2, .ireturn]
def bk_206_0 : List Instr := [.iload 1, .sipush 0, .sipush 4, .invokestatic 143, .ifCond .ne 1, .aload 0, .sipush (-100001), .invokevirtual 142, .ireturn]
def bk_206_1 : List Instr := [.aload 0, .invokevirtual 205, .istore 2, .aload 0, .getfield 397, .iload 1, .iaload, .ireturn]
def bk_207_0 : List Instr := [.iload 1, .sipush 0, .sipush 4, .invokestatic 143, .ifCond .ne 1, .aload 0, .sipush (-100001), .invokevirtual 142, .ireturn]
def bk_207_1 : List Instr := [.aload 0, .invokevirtual 205, .aload 0, .getfield 384, .sipush 146, .sipush 5, .iload 1, .imul, .iadd, .aload 0, .getfield 397, .iload 1, .iaload, .iadd, .iaload, .isub, .istore 2, .aload 0, .sipush 0, .sipush 31, .iload 1, .invokevirtual 204, .iload 2, .isub, .ireturn]
def bk_208_0 : List Instr := [.aload 0, .invokevirtual 205, .ireturn]
def bk_209_0 : List Instr := [.iload 1, .sipush 0, .sipush 3, .invokestatic 143, .ifCond .ne 1, .aload 0, .sipush (-100001), .invokevirtual 142, .ireturn]
def bk_209_1 : List Instr := [.aload 0, .invokevirtual 147, .aload 0, .getfield 384, .sipush 4, .iaload, .istore 2, .aload 0, .getfield 384, .sipush 4, .iload 1, .iastore, .iload 2, .ireturn]
def bk_210_0 : List Instr := [.aload 0, .iload 1, .invokevirtual 145, .ifCond .ne 1, .aload 0, .sipush (-100001), .invokevirtual 142, .ireturn]
def bk_210_1 : List Instr := [.aload 0, .invokevirtual 147, .aload 0, .sipush 64, .iload 1, .iadd, .iload 2, .ifCond .eq 2, .sipush 8, .goto 3]
def bk_210_2 : List Instr := [.sipush 0, .goto_w 3]
def bk_210_3 : List Instr := [.iadd, .invokevirtual 172, .aload 0, .getfield 384, .sipush 8, .iaload, .ireturn]
def bk_211_0 : List Instr := [.aload 0, .iload 1, .invokevirtual 145, .ifCond .eq 1, .iload 2, .sipush 0, .sipush 3, .invokestatic 143, .ifCond .eq 1, .iload 3, .sipush 0, .sipush 9999, .invokestatic 143, .ifCond .ne 2, .goto_w 1]
def bk_211_1 : List Instr := [.aload 0, .sipush (-100001), .invokevirtual 142, .ireturn]
def bk_211_2 : List Instr := [.sipush (-1), .istore 4, .sipush 0, .istore 5, .goto_w 3]
def bk_211_3 : List Instr := [.iload 5, .aload 0, .getfield 384, .sipush 8, .iaload, .if_icmp .ge 6, .aload 0, .getfield 384, .sipush 171, .iload 5, .iadd, .iaload, .sipush 64, .iload 1, .iadd, .if_icmp .ne 4, .iload 5, .goto 5]
def bk_211_4 : List Instr := [.iload 4, .goto_w 5]
def bk_211_5 : List Instr := [.istore 4, .iinc 5 1, .goto 3]
def bk_211_6 : List Instr := [.iload 4, .sipush 1, .iadd, .istore 5, .goto_w 7]
def bk_211_7 : List Instr := [.iload 4, .ifCond .lt 8, .iload 5, .aload 0, .getfield 384, .sipush 8, .iaload, .if_icmp .ge 8, .aload 0, .getfield 384, .sipush 171, .iload 5, .iadd, .iaload, .sipush 72, .iload 1, .iadd, .if_icmp .eq 8, .iinc 5 1, .goto 7]
def bk_211_8 : List Instr := [.iload 4, .ifCond .lt 9, .iload 5, .aload 0, .getfield 384, .sipush 8, .iaload, .if_icmp .ne 10, .goto_w 9]
def bk_211_9 : List Instr := [.aload 0, .sipush (-100006), .invokevirtual 142, .ireturn]
def bk_211_10 : List Instr := [.sipush 4, .newarray .int, .astore 6, .sipush 0, .istore 7, .iload 4, .istore 8, .goto_w 11]
def bk_211_11 : List Instr := [.iload 8, .iload 5, .if_icmp .ge 13, .aload 0, .getfield 384, .sipush 171, .iload 8, .iadd, .iaload, .istore 9, .iload 9, .sipush 64, .if_icmp .ge 12, .iload 9, .sipush 8, .irem, .iload 1, .if_icmp .ne 12, .aload 6, .iload 9, .sipush 8, .idiv, .dup2, .iaload, .sipush 1, .iadd, .iastore, .iinc 7 1, .goto_w 12]
def bk_211_12 : List Instr := [.iinc 8 1, .goto 11]
def bk_211_13 : List Instr := [.iload 7, .ifCond .ne 14, .aload 0, .sipush (-100006), .invokevirtual 142, .ireturn]
def bk_211_14 : List Instr := [.sipush 0, .istore 8, .sipush (-1), .istore 9, .sipush 3, .istore 10, .goto_w 15]
def bk_211_15 : List Instr := [.iload 10, .ifCond .lt 18, .iload 8, .iload 3, .aload 6, .iload 10, .iaload, .imul, .iload 7, .idiv, .iadd, .istore 8, .aload 6, .iload 10, .iaload, .ifCond .le 16, .iload 10, .goto 17]
def bk_211_16 : List Instr := [.iload 9, .goto_w 17]
def bk_211_17 : List Instr := [.istore 9, .iinc 10 (-1), .goto 15]
def bk_211_18 : List Instr := [.iload 3, .aload 6, .iload 2, .iaload, .imul, .iload 7, .idiv, .iload 2, .iload 9, .if_icmp .ne 19, .iload 3, .iload 8, .isub, .goto 20]
def bk_211_19 : List Instr := [.sipush 0, .goto_w 20]
def bk_211_20 : List Instr := [.iadd, .ireturn]
def bk_212_0 : List Instr := [.iload 0, .sipush 1, .sipush 6, .invokestatic 143, .ifCond .ne 1, .iload 0, .sipush 10, .sipush 33, .invokestatic 143, .ifCond .ne 1, .iload 0, .sipush 40, .sipush 44, .invokestatic 143, .ifCond .eq 2, .goto_w 1]
def bk_212_1 : List Instr := [.sipush 1, .goto 3]
def bk_212_2 : List Instr := [.sipush 0, .goto_w 3]
def bk_212_3 : List Instr := [.ireturn]
def bk_213_0 : List Instr := [.iload 1, .invokestatic 230, .ifCond .ne 1, .aload 0, .sipush (-100001), .invokevirtual 142, .ireturn]
def bk_213_1 : List Instr := [.aload 0, .getfield 388, .iload 1, .iaload, .ifCond .ne 2, .aload 0, .sipush (-100002), .invokevirtual 142, .ireturn]
def bk_213_2 : List Instr := [.aload 0, .getfield 389, .iload 1, .iaload, .sipush 16, .if_icmp .le 3, .aload 0, .sipush (-100003), .invokevirtual 142, .ireturn]
def bk_213_3 : List Instr := [.sipush 0, .istore 2, .goto_w 4]
def bk_213_4 : List Instr := [.iload 2, .aload 0, .getfield 389, .iload 1, .iaload, .if_icmp .ge 6, .aload 0, .getfield 390, .sipush 20, .iload 1, .imul, .iload 2, .iadd, .iaload, .invokestatic 212, .ifCond .ne 5, .aload 0, .sipush (-100001), .invokevirtual 142, .ireturn]
def bk_213_5 : List Instr := [.iinc 2 1, .goto 4]
def bk_213_6 : List Instr := [.aload 0, .invokevirtual 147, .aload 0, .getfield 384, .sipush 9, .aload 0, .getfield 389, .iload 1, .iaload, .iastore, .sipush 0, .istore 2, .goto_w 7]
def bk_213_7 : List Instr := [.iload 2, .aload 0, .getfield 389, .iload 1, .iaload, .if_icmp .ge 8, .aload 0, .getfield 384, .sipush 231, .iload 2, .iadd, .aload 0, .getfield 390, .sipush 20, .iload 1, .imul, .iload 2, .iadd, .iaload, .iastore, .iinc 2 1, .goto 7]
def bk_213_8 : List Instr := [.aload 0, .getfield 389, .iload 1, .iaload, .ireturn]
def bk_214_0 : List Instr := [.sipush 0, .istore 1, .sipush 0, .istore 2, .goto_w 1]
def bk_214_1 : List Instr := [.iload 2, .aload 0, .getfield 384, .sipush 9, .iaload, .if_icmp .ge 7, .aload 0, .getfield 384, .sipush 231, .iload 2, .iadd, .iaload, .istore 3, .iload 3, .sipush 40, .if_icmp .ge 2, .sipush 0, .goto 4]
def bk_214_2 : List Instr := [.iload 3, .sipush 42, .if_icmp .ne 3, .sipush 1, .goto 4]
def bk_214_3 : List Instr := [.sipush 2, .goto_w 4]
def bk_214_4 : List Instr := [.istore 4, .iload 1, .iload 4, .if_icmp .lt 5, .iload 3, .sipush 40, .if_icmp .ge 6, .iload 1, .sipush 5, .if_icmp .ne 6, .goto_w 5]
def bk_214_5 : List Instr := [.iload 2, .ireturn]
def bk_214_6 : List Instr := [.iload 1, .sipush 1, .iload 4, .isub, .iadd, .istore 1, .iinc 2 1, .goto 1]
def bk_214_7 : List Instr := [.iload 1, .sipush 1, .if_icmp .eq 8, .aload 0, .getfield 384, .sipush 9, .iaload, .ifCond .ne 9, .goto_w 8]
def bk_214_8 : List Instr := [.sipush (-1), .goto 10]
def bk_214_9 : List Instr := [.aload 0, .getfield 384, .sipush 9, .iaload, .goto_w 10]
def bk_214_10 : List Instr := [.ireturn]
def bk_215_0 : List Instr := [.aload 0, .invokevirtual 214, .ireturn]
def bk_216_0 : List Instr := [.iload 1, .tableswitch 7 1 6 #[1, 2, 3, 4, 5, 6]]
def bk_216_1 : List Instr := [.iload 4, .ireturn]
def bk_216_2 : List Instr := [.aload 0, .getfield 384, .sipush 91, .iload 2, .iadd, .iaload, .ireturn]
def bk_216_3 : List Instr := [.aload 0, .getfield 384, .sipush 107, .iload 2, .iadd, .iaload, .ireturn]
def bk_216_4 : List Instr := [.iload 3, .ireturn]
def bk_216_5 : List Instr := [.aload 0, .getfield 384, .sipush 11, .iload 3, .iadd, .iaload, .ireturn]
def bk_216_6 : List Instr := [.aload 0, .getfield 384, .sipush 4, .iaload, .ireturn]
def bk_216_7 : List Instr := [.iload 1, .sipush 10, .isub, .ireturn]
def bk_217_0 : List Instr := [.iload 0, .sipush 40, .if_icmp .ne 2, .iload 1, .iload 2, .if_icmp .ge 1, .sipush 1, .goto 9]
def bk_217_1 : List Instr := [.sipush 0, .goto 9]
def bk_217_2 : List Instr := [.iload 0, .sipush 41, .if_icmp .ne 4, .iload 1, .iload 2, .if_icmp .ne 3, .sipush 1, .goto 9]
def bk_217_3 : List Instr := [.sipush 0, .goto 9]
def bk_217_4 : List Instr := [.iload 0, .sipush 43, .if_icmp .ne 6, .iload 1, .ifCond .eq 5, .iload 2, .ifCond .eq 5, .sipush 1, .goto 9]
def bk_217_5 : List Instr := [.sipush 0, .goto 9]
def bk_217_6 : List Instr := [.iload 1, .ifCond .ne 7, .iload 2, .ifCond .eq 8, .goto_w 7]
def bk_217_7 : List Instr := [.sipush 1, .goto 9]
def bk_217_8 : List Instr := [.sipush 0, .goto_w 9]
def bk_217_9 : List Instr := [.ireturn]
def bk_218_0 : List Instr := [.aload 0, .getfield 384, .sipush 9, .iaload, .ifCond .ne 1, .sipush 1, .ireturn]
def bk_218_1 : List Instr := [.aload 0, .invokevirtual 214, .ifCond .lt 2, .sipush 0, .ireturn]
def bk_218_2 : List Instr := [.sipush 0, .istore 4, .sipush 0, .istore 5, .goto_w 3]
def bk_218_3 : List Instr := [.iload 5, .aload 0, .getfield 384, .sipush 9, .iaload, .if_icmp .ge 11, .aload 0, .getfield 384, .sipush 231, .iload 5, .iadd, .iaload, .istore 6, .iload 6, .sipush 40, .if_icmp .ge 4, .aload 0, .getfield 398, .iload 4, .aload 0, .iload 6, .iload 1, .iload 2, .iload 3, .invokevirtual 216, .iastore, .iinc 4 1, .goto 10]
def bk_218_4 : List Instr := [.iload 6, .sipush 42, .if_icmp .ne 7, .aload 0, .getfield 398, .iload 4, .sipush 1, .isub, .aload 0, .getfield 398, .iload 4, .sipush 1, .isub, .iaload, .ifCond .ne 5, .sipush 1, .goto 6]
def bk_218_5 : List Instr := [.sipush 0, .goto_w 6]
def bk_218_6 : List Instr := [.iastore, .goto 10]
def bk_218_7 : List Instr := [.iinc 4 (-1), .aload 0, .getfield 398, .iload 4, .sipush 1, .isub, .iload 6, .aload 0, .getfield 398, .iload 4, .sipush 1, .isub, .iaload, .aload 0, .getfield 398, .iload 4, .iaload, .invokestatic 217, .ifCond .eq 8, .sipush 1, .goto 9]
def bk_218_8 : List Instr := [.sipush 0, .goto_w 9]
def bk_218_9 : List Instr := [.iastore, .goto_w 10]
def bk_218_10 : List Instr := [.iinc 5 1, .goto 3]
def bk_218_11 : List Instr := [.aload 0, .getfield 398, .sipush 0, .iaload, .ifCond .eq 12, .sipush 1, .goto 13]
def bk_218_12 : List Instr := [.sipush 0, .goto_w 13]
def bk_218_13 : List Instr := [.ireturn]
def bk_219_0 : List Instr := [.aload 0, .iload 1, .invokevirtual 145, .ifCond .eq 1, .aload 0, .iload 2, .invokevirtual 144, .ifCond .eq 1, .iload 3, .invokestatic 146, .ifCond .ne 2, .goto_w 1]
def bk_219_1 : List Instr := [.aload 0, .sipush (-100001), .invokevirtual 142, .ireturn]
def bk_219_2 : List Instr := [.aload 0, .iload 1, .iload 2, .iload 3, .invokevirtual 218, .ifCond .eq 3, .sipush 1, .goto 4]
def bk_219_3 : List Instr := [.sipush 0, .goto_w 4]
def bk_219_4 : List Instr := [.ireturn]
def bk_220_0 : List Instr := [.aload 0, .iload 1, .invokevirtual 144, .ifCond .eq 1, .iload 2, .sipush 0, .sipush 200, .invokestatic 143, .ifCond .ne 2, .goto_w 1]
def bk_220_1 : List Instr := [.aload 0, .sipush (-100001), .invokevirtual 142, .ireturn]
def bk_220_2 : List Instr := [.aload 0, .invokevirtual 147, .aload 0, .getfield 384, .sipush 36, .iload 1, .iadd, .iaload, .istore 3, .aload 0, .getfield 384, .sipush 36, .iload 1, .iadd, .iload 2, .iastore, .iload 3, .ireturn]
def bk_221_0 : List Instr := [.iload 1, .sipush 1, .sipush 30, .invokestatic 143, .ifCond .ne 1, .aload 0, .sipush (-100001), .invokevirtual 142, .ireturn]
def bk_221_1 : List Instr := [.aload 0, .invokevirtual 147, .aload 0, .getfield 384, .sipush 5, .iaload, .istore 2, .aload 0, .getfield 384, .sipush 5, .iload 1, .iastore, .iload 2, .ireturn]
def bk_222_0 : List Instr := [.aload 0, .getfield 384, .sipush 36, .iload 1, .iadd, .iaload, .istore 2, .aload 0, .getfield 384, .sipush 11, .iload 1, .iadd, .iaload, .sipush 2, .if_icmp .ne 1, .sipush 0, .iload 2, .sipush 60, .isub, .invokestatic 236, .goto 2]
def bk_222_1 : List Instr := [.iload 2, .goto_w 2]
def bk_222_2 : List Instr := [.ireturn]
def bk_223_0 : List Instr := [.iload 2, .aload 0, .getfield 399, .if_icmp .gt 1, .iload 2, .aload 0, .getfield 399, .if_icmp .ne 3, .iload 1, .aload 0, .getfield 400, .if_icmp .ge 3, .goto_w 1]
def bk_223_1 : List Instr := [.aload 0, .iload 2, .putfield 399, .aload 0, .iload 1, .putfield 400, .sipush 0, .istore 3, .goto_w 2]
def bk_223_2 : List Instr := [.iload 3, .iload 1, .if_icmp .ge 3, .aload 0, .getfield 401, .iload 3, .aload 0, .getfield 402, .iload 3, .iaload, .iastore, .iinc 3 1, .goto 2]
def bk_223_3 : List Instr := [.sipush 0, .istore 3, .goto_w 4]
def bk_223_4 : List Instr := [.iload 3, .aload 0, .getfield 384, .sipush 0, .iaload, .if_icmp .ge 6, .aload 0, .getfield 384, .sipush 46, .iload 3, .iadd, .iaload, .aload 0, .getfield 403, .iload 3, .iaload, .isub, .istore 4, .iload 4, .ifCond .le 5, .aload 0, .getfield 384, .sipush 31, .iload 3, .iadd, .iaload, .ifCond .ne 5, .aload 0, .iload 3, .invokevirtual 222, .iload 1, .sipush 1, .iadd, .aload 0, .getfield 384, .sipush 5, .iaload, .imul, .if_icmp .lt 5, .aload 0, .getfield 402, .iload 1, .aload 0, .iload 3, .iload 4, .sipush 1, .isub, .invokevirtual 152, .iastore, .aload 0, .getfield 403, .iload 3, .dup2, .iaload, .sipush 1, .iadd, .iastore, .aload 0, .iload 1, .sipush 1, .iadd, .iload 2, .aload 0, .getfield 384, .sipush 131, .aload 0, .getfield 402, .iload 1, .iaload, .iadd, .iaload, .iadd, .invokevirtual 223, .aload 0, .getfield 403, .iload 3, .dup2, .iaload, .sipush 1, .isub, .iastore, .goto_w 5]
def bk_223_5 : List Instr := [.iinc 3 1, .goto 4]
def bk_223_6 : List Instr := [.return_]
def bk_224_0 : List Instr := [.aload 0, .sipush (-1), .putfield 399, .aload 0, .sipush 0, .putfield 400, .aload 0, .sipush 0, .sipush 0, .invokevirtual 223, .return_]
def bk_225_0 : List Instr := [.aload 0, .invokevirtual 224, .aload 0, .getfield 399, .ireturn]
def bk_226_0 : List Instr := [.iload 1, .ifCond .ge 1, .aload 0, .sipush (-100001), .invokevirtual 142, .ireturn]
def bk_226_1 : List Instr := [.aload 0, .invokevirtual 224, .iload 1, .aload 0, .getfield 400, .if_icmp .ge 2, .aload 0, .getfield 401, .iload 1, .iaload, .goto 3]
def bk_226_2 : List Instr := [.aload 0, .sipush (-100006), .invokevirtual 142, .goto_w 3]
def bk_226_3 : List Instr := [.ireturn]
def bk_227_0 : List Instr := [.aload 0, .iload 1, .invokevirtual 145, .ifCond .eq 1, .iload 2, .invokestatic 146, .ifCond .ne 2, .goto_w 1]
def bk_227_1 : List Instr := [.aload 0, .sipush (-100001), .invokevirtual 142, .ireturn]
def bk_227_2 : List Instr := [.aload 0, .getfield 384, .sipush 10, .iaload, .sipush 30, .if_icmp .ne 3, .aload 0, .sipush (-100005), .invokevirtual 142, .ireturn]
def bk_227_3 : List Instr := [.aload 0, .invokevirtual 147, .aload 0, .getfield 384, .sipush 247, .aload 0, .getfield 384, .sipush 10, .iaload, .iadd, .iload 1, .sipush 8, .iload 2, .imul, .iadd, .iload 3, .ifCond .eq 4, .sipush 256, .goto 5]
def bk_227_4 : List Instr := [.sipush 0, .goto_w 5]
def bk_227_5 : List Instr := [.iadd, .iastore, .aload 0, .getfield 384, .sipush 10, .dup2, .iaload, .sipush 1, .iadd, .iastore, .aload 0, .getfield 384, .sipush 10, .iaload, .ireturn]
def bk_228_0 : List Instr := [.sipush (-1), .istore 4, .sipush 0, .istore 5, .sipush 0, .istore 6, .goto_w 1]
def bk_228_1 : List Instr := [.iload 6, .iload 3, .if_icmp .ge 5, .aload 0, .getfield 384, .sipush 247, .iload 6, .iadd, .iaload, .istore 7, .iload 7, .sipush 8, .idiv, .sipush 32, .irem, .istore 8, .iload 7, .sipush 8, .irem, .iload 1, .if_icmp .ne 4, .iload 8, .iload 2, .if_icmp .gt 4, .iload 8, .iload 4, .if_icmp .lt 4, .iload 8, .istore 4, .iload 7, .sipush 256, .if_icmp .lt 2, .sipush 1, .goto 3]
def bk_228_2 : List Instr := [.sipush 0, .goto_w 3]
def bk_228_3 : List Instr := [.istore 5, .goto_w 4]
def bk_228_4 : List Instr := [.iinc 6 1, .goto 1]
def bk_228_5 : List Instr := [.iload 5, .ireturn]
def bk_229_0 : List Instr := [.aload 0, .iload 1, .invokevirtual 145, .ifCond .eq 1, .iload 2, .invokestatic 146, .ifCond .eq 1, .iload 3, .sipush 0, .aload 0, .getfield 384, .sipush 10, .iaload, .invokestatic 143, .ifCond .ne 2, .goto_w 1]
def bk_229_1 : List Instr := [.aload 0, .sipush (-100001), .invokevirtual 142, .ireturn]
def bk_229_2 : List Instr := [.aload 0, .iload 1, .iload 2, .iload 3, .invokevirtual 228, .ifCond .eq 3, .sipush 1, .goto 4]
def bk_229_3 : List Instr := [.sipush 0, .goto_w 4]
def bk_229_4 : List Instr := [.ireturn]
def bk_230_0 : List Instr := [.iload 0, .sipush 0, .sipush 3, .invokestatic 143, .ireturn]
def bk_231_0 : List Instr := [.iload 1, .invokestatic 230, .ifCond .eq 1, .iload 2, .ifCond .eq 2, .iload 2, .sipush 8, .if_icmp .eq 2, .iload 2, .sipush 16, .if_icmp .eq 2, .iload 2, .sipush 32, .if_icmp .eq 2, .goto_w 1]
def bk_231_1 : List Instr := [.aload 0, .sipush (-100001), .invokevirtual 142, .ireturn]
def bk_231_2 : List Instr := [.iload 3, .ifCond .ge 3, .aload 0, .sipush (-100003), .invokevirtual 142, .ireturn]
def bk_231_3 : List Instr := [.iload 3, .sipush 20, .if_icmp .le 4, .aload 0, .sipush (-100001), .invokevirtual 142, .ireturn]
def bk_231_4 : List Instr := [.aload 0, .getfield 388, .iload 1, .iload 2, .iastore, .aload 0, .getfield 389, .iload 1, .iload 2, .ifCond .ne 5, .sipush 0, .goto 6]
def bk_231_5 : List Instr := [.iload 3, .goto_w 6]
def bk_231_6 : List Instr := [.iastore, .sipush 0, .istore 4, .goto_w 7]
def bk_231_7 : List Instr := [.iload 4, .sipush 20, .if_icmp .ge 8, .aload 0, .getfield 390, .sipush 20, .iload 1, .imul, .iload 4, .iadd, .sipush 0, .iastore, .iinc 4 1, .goto 7]
def bk_231_8 : List Instr := [.aload 0, .getfield 389, .iload 1, .iaload, .ireturn]
def bk_232_0 : List Instr := [.iload 1, .invokestatic 230, .ifCond .ne 1, .aload 0, .sipush (-100001), .invokevirtual 142, .ireturn]
def bk_232_1 : List Instr := [.aload 0, .getfield 388, .iload 1, .iaload, .ifCond .ne 2, .aload 0, .sipush (-100002), .invokevirtual 142, .ireturn]
def bk_232_2 : List Instr := [.iload 2, .sipush 0, .aload 0, .getfield 389, .iload 1, .iaload, .sipush 1, .isub, .invokestatic 143, .ifCond .ne 3, .aload 0, .sipush (-100001), .invokevirtual 142, .ireturn]
def bk_232_3 : List Instr := [.sipush 32, .aload 0, .getfield 388, .iload 1, .iaload, .isub, .istore 4, .aload 0, .getfield 390, .sipush 20, .iload 1, .imul, .iload 2, .iadd, .iload 3, .iload 4, .ishl, .iload 4, .ishr, .iastore, .sipush 0, .ireturn]
def bk_233_0 : List Instr := [.iload 1, .invokestatic 230, .ifCond .eq 1, .iload 3, .invokestatic 230, .ifCond .ne 2, .goto_w 1]
def bk_233_1 : List Instr := [.aload 0, .sipush (-100001), .invokevirtual 142, .ireturn]
def bk_233_2 : List Instr := [.aload 0, .getfield 388, .iload 1, .iaload, .ifCond .eq 3, .aload 0, .getfield 388, .iload 3, .iaload, .ifCond .ne 4, .goto_w 3]
def bk_233_3 : List Instr := [.aload 0, .sipush (-100002), .invokevirtual 142, .ireturn]
def bk_233_4 : List Instr := [.aload 0, .getfield 388, .iload 1, .iaload, .aload 0, .getfield 388, .iload 3, .iaload, .if_icmp .eq 5, .aload 0, .sipush (-100004), .invokevirtual 142, .ireturn]
def bk_233_5 : List Instr := [.iload 2, .ifCond .lt 6, .iload 4, .ifCond .lt 6, .iload 5, .ifCond .lt 6, .iload 2, .i2l, .iload 5, .i2l, .ladd, .aload 0, .getfield 389, .iload 1, .iaload, .i2l, .lcmp, .ifCond .gt 6, .iload 4, .i2l, .iload 5, .i2l, .ladd, .aload 0, .getfield 389, .iload 3, .iaload, .i2l, .lcmp, .ifCond .le 7, .goto_w 6]
def bk_233_6 : List Instr := [.aload 0, .sipush (-100001), .invokevirtual 142, .ireturn]
def bk_233_7 : List Instr := [.sipush 0, .istore 6, .goto_w 8]
def bk_233_8 : List Instr := [.iload 6, .iload 5, .if_icmp .ge 9, .aload 0, .getfield 404, .iload 6, .aload 0, .getfield 390, .sipush 20, .iload 1, .imul, .iload 2, .iadd, .iload 6, .iadd, .iaload, .iastore, .iinc 6 1, .goto 8]
def bk_233_9 : List Instr := [.sipush 0, .istore 6, .goto_w 10]
def bk_233_10 : List Instr := [.iload 6, .iload 5, .if_icmp .ge 11, .aload 0, .getfield 390, .sipush 20, .iload 3, .imul, .iload 4, .iadd, .iload 6, .iadd, .aload 0, .getfield 404, .iload 6, .iaload, .iastore, .iinc 6 1, .goto 10]
def bk_233_11 : List Instr := [.iload 5, .ireturn]
def bk_234_0 : List Instr := [.iload 1, .sipush 0, .sipush 6, .invokestatic 143, .ifCond .ne 1, .aload 0, .sipush (-100001), .invokevirtual 142, .ireturn]
def bk_234_1 : List Instr := [.sipush 0, .istore 2, .sipush 0, .istore 3, .goto_w 2]
def bk_234_2 : List Instr := [.iload 3, .aload 0, .getfield 384, .sipush 0, .iaload, .if_icmp .ge 3, .iload 2, .aload 0, .getfield 384, .sipush 46, .iload 3, .iadd, .iaload, .iadd, .istore 2, .iinc 3 1, .goto 2]
def bk_234_3 : List Instr := [.iload 1, .tableswitch 10 0 5 #[4, 5, 6, 7, 8, 9]]
def bk_234_4 : List Instr := [.aload 0, .getfield 384, .sipush 0, .iaload, .ireturn]
def bk_234_5 : List Instr := [.aload 0, .getfield 384, .sipush 1, .iaload, .ireturn]
def bk_234_6 : List Instr := [.iload 2, .ireturn]
def bk_234_7 : List Instr := [.aload 0, .getfield 384, .sipush 6, .iaload, .ireturn]
def bk_234_8 : List Instr := [.aload 0, .getfield 384, .sipush 10, .iaload, .ireturn]
def bk_234_9 : List Instr := [.aload 0, .getfield 384, .sipush 8, .iaload, .ireturn]
def bk_234_10 : List Instr := [.aload 0, .getfield 387, .ireturn]
def bk_235_0 : List Instr := [.iload 0, .iload 0, .sipush 1, .iushr, .sipush 1431655765, .iand, .isub, .istore 0, .iload 0, .sipush 858993459, .iand, .iload 0, .sipush 2, .iushr, .sipush 858993459, .iand, .iadd, .istore 0, .iload 0, .iload 0, .sipush 4, .iushr, .iadd, .sipush 252645135, .iand, .istore 0, .iload 0, .iload 0, .sipush 8, .iushr, .iadd, .istore 0, .iload 0, .iload 0, .sipush 16, .iushr, .iadd, .istore 0, .iload 0, .sipush 63, .iand, .ireturn]
def bk_236_0 : List Instr := [.iload 0, .iload 1, .if_icmp .lt 1, .iload 0, .goto 2]
def bk_236_1 : List Instr := [.iload 1, .goto_w 2]
def bk_236_2 : List Instr := [.ireturn]
def bk_237_0 : List Instr := [.iload 0, .iload 1, .if_icmp .gt 1, .iload 0, .goto 2]
def bk_237_1 : List Instr := [.iload 1, .goto_w 2]
def bk_237_2 : List Instr := [.ireturn]
def bk_238_0 : List Instr := [.iload 1, .iload 2, .if_icmp .le 1]
def bk_238_1 : List Instr := [.iload 1, .ifCond .ge 2]
def bk_238_2 : List Instr := [.iload 2, .iload 0, .if_icmp .le 3]
def bk_238_3 : List Instr := [.return_]
def bk_239_0 : List Instr := [.sipush 0, .istore 2, .aload 0, .arraylength, .istore 3, .goto_w 1]
def bk_239_1 : List Instr := [.iload 2, .iload 3, .if_icmp .ge 2, .aload 0, .iload 2, .iload 1, .iastore, .iinc 2 1, .goto 1]
def bk_239_2 : List Instr := [.return_]
def bk_240_0 : List Instr := [.aload 0, .arraylength, .iload 1, .iload 2, .invokestatic 238, .iload 1, .istore 4, .goto_w 1]
def bk_240_1 : List Instr := [.iload 4, .iload 2, .if_icmp .ge 2, .aload 0, .iload 4, .iload 3, .iastore, .iinc 4 1, .goto 1]
def bk_240_2 : List Instr := [.return_]
def bk_241_0 : List Instr := [.new 11, .dup, .invokespecial 84, .astore 1, .new 12, .dup, .invokespecial 141, .astore 2, .sipush 0, .istore 3, .goto_w 1]
def bk_241_1 : List Instr := [.ret 1]
def bk_241_2 : List Instr := [.aload 1, .aload 0, .iload 3, .sipush 1, .iadd, .iaload, .aload 0, .iload 3, .sipush 2, .iadd, .iaload, .aload 0, .iload 3, .sipush 3, .iadd, .iaload, .aload 0, .iload 3, .sipush 4, .iadd, .iaload, .invokevirtual 85, .aload 2, .aload 0, .iload 3, .sipush 1, .iadd, .iaload, .aload 0, .iload 3, .sipush 2, .iadd, .iaload, .aload 0, .iload 3, .sipush 3, .iadd, .iaload, .aload 0, .iload 3, .sipush 4, .iadd, .iaload, .invokevirtual 149, .if_icmp .eq 61, .sipush 0, .ireturn]
def bk_241_3 : List Instr := [.aload 1, .aload 0, .iload 3, .sipush 1, .iadd, .iaload, .aload 0, .iload 3, .sipush 2, .iadd, .iaload, .invokevirtual 86, .aload 2, .aload 0, .iload 3, .sipush 1, .iadd, .iaload, .aload 0, .iload 3, .sipush 2, .iadd, .iaload, .invokevirtual 151, .if_icmp .eq 61, .sipush 0, .ireturn]
def bk_241_4 : List Instr := [.aload 1, .aload 0, .iload 3, .sipush 1, .iadd, .iaload, .aload 0, .iload 3, .sipush 2, .iadd, .iaload, .invokevirtual 87, .aload 2, .aload 0, .iload 3, .sipush 1, .iadd, .iaload, .aload 0, .iload 3, .sipush 2, .iadd, .iaload, .invokevirtual 154, .if_icmp .eq 61, .sipush 0, .ireturn]
def bk_241_5 : List Instr := [.aload 1, .aload 0, .iload 3, .sipush 1, .iadd, .iaload, .aload 0, .iload 3, .sipush 2, .iadd, .iaload, .ifCond .eq 6, .sipush 1, .goto 7]
def bk_241_6 : List Instr := [.sipush 0, .goto_w 7]
def bk_241_7 : List Instr := [.invokevirtual 88, .aload 2, .aload 0, .iload 3, .sipush 1, .iadd, .iaload, .aload 0, .iload 3, .sipush 2, .iadd, .iaload, .ifCond .eq 8, .sipush 1, .goto 9]
def bk_241_8 : List Instr := [.sipush 0, .goto_w 9]
def bk_241_9 : List Instr := [.invokevirtual 155, .if_icmp .eq 61, .sipush 0, .ireturn]
def bk_241_10 : List Instr := [.aload 1, .aload 0, .iload 3, .sipush 1, .iadd, .iaload, .aload 0, .iload 3, .sipush 2, .iadd, .iaload, .aload 0, .iload 3, .sipush 3, .iadd, .iaload, .aload 0, .iload 3, .sipush 4, .iadd, .iaload, .aload 0, .iload 3, .sipush 5, .iadd, .iaload, .aload 0, .iload 3, .sipush 6, .iadd, .iaload, .invokevirtual 89, .aload 2, .aload 0, .iload 3, .sipush 1, .iadd, .iaload, .aload 0, .iload 3, .sipush 2, .iadd, .iaload, .aload 0, .iload 3, .sipush 3, .iadd, .iaload, .aload 0, .iload 3, .sipush 4, .iadd, .iaload, .aload 0, .iload 3, .sipush 5, .iadd, .iaload, .aload 0, .iload 3, .sipush 6, .iadd, .iaload, .invokevirtual 156, .if_icmp .eq 61, .sipush 0, .ireturn]
def bk_241_11 : List Instr := [.aload 1, .aload 0, .iload 3, .sipush 1, .iadd, .iaload, .aload 0, .iload 3, .sipush 2, .iadd, .iaload, .invokevirtual 90, .aload 2, .aload 0, .iload 3, .sipush 1, .iadd, .iaload, .aload 0, .iload 3, .sipush 2, .iadd, .iaload, .invokevirtual 159, .if_icmp .eq 61, .sipush 0, .ireturn]
def bk_241_12 : List Instr := [.aload 1, .aload 0, .iload 3, .sipush 1, .iadd, .iaload, .aload 0, .iload 3, .sipush 2, .iadd, .iaload, .aload 0, .iload 3, .sipush 3, .iadd, .iaload, .invokevirtual 91, .aload 2, .aload 0, .iload 3, .sipush 1, .iadd, .iaload, .aload 0, .iload 3, .sipush 2, .iadd, .iaload, .aload 0, .iload 3, .sipush 3, .iadd, .iaload, .invokevirtual 160, .if_icmp .eq 61, .sipush 0, .ireturn]
def bk_241_13 : List Instr := [.aload 1, .aload 0, .iload 3, .sipush 1, .iadd, .iaload, .aload 0, .iload 3, .sipush 2, .iadd, .iaload, .invokevirtual 92, .aload 2, .aload 0, .iload 3, .sipush 1, .iadd, .iaload, .aload 0, .iload 3, .sipush 2, .iadd, .iaload, .invokevirtual 161, .if_icmp .eq 61, .sipush 0, .ireturn]
def bk_241_14 : List Instr := [.aload 1, .aload 0, .iload 3, .sipush 1, .iadd, .iaload, .aload 0, .iload 3, .sipush 2, .iadd, .iaload, .invokevirtual 93, .aload 2, .aload 0, .iload 3, .sipush 1, .iadd, .iaload, .aload 0, .iload 3, .sipush 2, .iadd, .iaload, .invokevirtual 163, .if_icmp .eq 61, .sipush 0, .ireturn]
def bk_241_15 : List Instr := [.aload 1, .aload 0, .iload 3, .sipush 1, .iadd, .iaload, .aload 0, .iload 3, .sipush 2, .iadd, .iaload, .invokevirtual 94, .aload 2, .aload 0, .iload 3, .sipush 1, .iadd, .iaload, .aload 0, .iload 3, .sipush 2, .iadd, .iaload, .invokevirtual 169, .if_icmp .eq 61, .sipush 0, .ireturn]
def bk_241_16 : List Instr := [.aload 1, .aload 0, .iload 3, .sipush 1, .iadd, .iaload, .aload 0, .iload 3, .sipush 2, .iadd, .iaload, .invokevirtual 95, .aload 2, .aload 0, .iload 3, .sipush 1, .iadd, .iaload, .aload 0, .iload 3, .sipush 2, .iadd, .iaload, .invokevirtual 173, .if_icmp .eq 61, .sipush 0, .ireturn]
def bk_241_17 : List Instr := [.aload 1, .aload 0, .iload 3, .sipush 1, .iadd, .iaload, .invokevirtual 96, .aload 2, .aload 0, .iload 3, .sipush 1, .iadd, .iaload, .invokevirtual 174, .if_icmp .eq 61, .sipush 0, .ireturn]
def bk_241_18 : List Instr := [.aload 1, .invokevirtual 97, .aload 2, .invokevirtual 175, .if_icmp .eq 61, .sipush 0, .ireturn]
def bk_241_19 : List Instr := [.aload 1, .aload 0, .iload 3, .sipush 1, .iadd, .iaload, .invokevirtual 98, .aload 2, .aload 0, .iload 3, .sipush 1, .iadd, .iaload, .invokevirtual 176, .if_icmp .eq 61, .sipush 0, .ireturn]
def bk_241_20 : List Instr := [.aload 1, .aload 0, .iload 3, .sipush 1, .iadd, .iaload, .invokevirtual 99, .aload 2, .aload 0, .iload 3, .sipush 1, .iadd, .iaload, .invokevirtual 177, .if_icmp .eq 61, .sipush 0, .ireturn]
def bk_241_21 : List Instr := [.aload 1, .aload 0, .iload 3, .sipush 1, .iadd, .iaload, .invokevirtual 100, .aload 2, .aload 0, .iload 3, .sipush 1, .iadd, .iaload, .invokevirtual 182, .if_icmp .eq 61, .sipush 0, .ireturn]
def bk_241_22 : List Instr := [.aload 1, .aload 0, .iload 3, .sipush 1, .iadd, .iaload, .aload 0, .iload 3, .sipush 2, .iadd, .iaload, .invokevirtual 101, .aload 2, .aload 0, .iload 3, .sipush 1, .iadd, .iaload, .aload 0, .iload 3, .sipush 2, .iadd, .iaload, .invokevirtual 183, .if_icmp .eq 61, .sipush 0, .ireturn]
def bk_241_23 : List Instr := [.aload 1, .aload 0, .iload 3, .sipush 1, .iadd, .iaload, .aload 0, .iload 3, .sipush 2, .iadd, .iaload, .invokevirtual 102, .aload 2, .aload 0, .iload 3, .sipush 1, .iadd, .iaload, .aload 0, .iload 3, .sipush 2, .iadd, .iaload, .invokevirtual 184, .if_icmp .eq 61, .sipush 0, .ireturn]
def bk_241_24 : List Instr := [.aload 1, .aload 0, .iload 3, .sipush 1, .iadd, .iaload, .invokevirtual 103, .aload 2, .aload 0, .iload 3, .sipush 1, .iadd, .iaload, .invokevirtual 186, .if_icmp .eq 61, .sipush 0, .ireturn]
def bk_241_25 : List Instr := [.aload 1, .aload 0, .iload 3, .sipush 1, .iadd, .iaload, .invokevirtual 104, .aload 2, .aload 0, .iload 3, .sipush 1, .iadd, .iaload, .invokevirtual 188, .if_icmp .eq 61, .sipush 0, .ireturn]
def bk_241_26 : List Instr := [.aload 1, .invokevirtual 105, .aload 2, .invokevirtual 189, .if_icmp .eq 61, .sipush 0, .ireturn]
def bk_241_27 : List Instr := [.aload 1, .invokevirtual 106, .aload 2, .invokevirtual 193, .if_icmp .eq 61, .sipush 0, .ireturn]
def bk_241_28 : List Instr := [.aload 1, .aload 0, .iload 3, .sipush 1, .iadd, .iaload, .invokevirtual 107, .aload 2, .aload 0, .iload 3, .sipush 1, .iadd, .iaload, .invokevirtual 194, .if_icmp .eq 61, .sipush 0, .ireturn]
def bk_241_29 : List Instr := [.aload 1, .aload 0, .iload 3, .sipush 1, .iadd, .iaload, .invokevirtual 108, .aload 2, .aload 0, .iload 3, .sipush 1, .iadd, .iaload, .invokevirtual 195, .if_icmp .eq 61, .sipush 0, .ireturn]
def bk_241_30 : List Instr := [.aload 1, .invokevirtual 109, .aload 2, .invokevirtual 201, .if_icmp .eq 61, .sipush 0, .ireturn]
def bk_241_31 : List Instr := [.aload 1, .aload 0, .iload 3, .sipush 1, .iadd, .iaload, .invokevirtual 110, .aload 2, .aload 0, .iload 3, .sipush 1, .iadd, .iaload, .invokevirtual 202, .if_icmp .eq 61, .sipush 0, .ireturn]
def bk_241_32 : List Instr := [.aload 1, .aload 0, .iload 3, .sipush 1, .iadd, .iaload, .aload 0, .iload 3, .sipush 2, .iadd, .iaload, .aload 0, .iload 3, .sipush 3, .iadd, .iaload, .invokevirtual 111, .aload 2, .aload 0, .iload 3, .sipush 1, .iadd, .iaload, .aload 0, .iload 3, .sipush 2, .iadd, .iaload, .aload 0, .iload 3, .sipush 3, .iadd, .iaload, .invokevirtual 203, .if_icmp .eq 61, .sipush 0, .ireturn]
def bk_241_33 : List Instr := [.aload 1, .aload 0, .iload 3, .sipush 1, .iadd, .iaload, .invokevirtual 112, .aload 2, .aload 0, .iload 3, .sipush 1, .iadd, .iaload, .invokevirtual 206, .if_icmp .eq 61, .sipush 0, .ireturn]
def bk_241_34 : List Instr := [.aload 1, .aload 0, .iload 3, .sipush 1, .iadd, .iaload, .invokevirtual 113, .aload 2, .aload 0, .iload 3, .sipush 1, .iadd, .iaload, .invokevirtual 207, .if_icmp .eq 61, .sipush 0, .ireturn]
def bk_241_35 : List Instr := [.aload 1, .invokevirtual 114, .aload 2, .invokevirtual 208, .if_icmp .eq 61, .sipush 0, .ireturn]
def bk_241_36 : List Instr := [.aload 1, .aload 0, .iload 3, .sipush 1, .iadd, .iaload, .invokevirtual 115, .aload 2, .aload 0, .iload 3, .sipush 1, .iadd, .iaload, .invokevirtual 209, .if_icmp .eq 61, .sipush 0, .ireturn]
def bk_241_37 : List Instr := [.aload 1, .aload 0, .iload 3, .sipush 1, .iadd, .iaload, .aload 0, .iload 3, .sipush 2, .iadd, .iaload, .ifCond .eq 38, .sipush 1, .goto 39]
def bk_241_38 : List Instr := [.sipush 0, .goto_w 39]
def bk_241_39 : List Instr := [.invokevirtual 116, .aload 2, .aload 0, .iload 3, .sipush 1, .iadd, .iaload, .aload 0, .iload 3, .sipush 2, .iadd, .iaload, .ifCond .eq 40, .sipush 1, .goto 41]
def bk_241_40 : List Instr := [.sipush 0, .goto_w 41]
def bk_241_41 : List Instr := [.invokevirtual 210, .if_icmp .eq 61, .sipush 0, .ireturn]
def bk_241_42 : List Instr := [.aload 1, .aload 0, .iload 3, .sipush 1, .iadd, .iaload, .aload 0, .iload 3, .sipush 2, .iadd, .iaload, .aload 0, .iload 3, .sipush 3, .iadd, .iaload, .invokevirtual 117, .aload 2, .aload 0, .iload 3, .sipush 1, .iadd, .iaload, .aload 0, .iload 3, .sipush 2, .iadd, .iaload, .aload 0, .iload 3, .sipush 3, .iadd, .iaload, .invokevirtual 211, .if_icmp .eq 61, .sipush 0, .ireturn]
def bk_241_43 : List Instr := [.aload 1, .aload 0, .iload 3, .sipush 1, .iadd, .iaload, .invokevirtual 118, .aload 2, .aload 0, .iload 3, .sipush 1, .iadd, .iaload, .invokevirtual 213, .if_icmp .eq 61, .sipush 0, .ireturn]
def bk_241_44 : List Instr := [.aload 1, .invokevirtual 119, .aload 2, .invokevirtual 215, .if_icmp .eq 61, .sipush 0, .ireturn]
def bk_241_45 : List Instr := [.aload 1, .aload 0, .iload 3, .sipush 1, .iadd, .iaload, .aload 0, .iload 3, .sipush 2, .iadd, .iaload, .aload 0, .iload 3, .sipush 3, .iadd, .iaload, .invokevirtual 120, .aload 2, .aload 0, .iload 3, .sipush 1, .iadd, .iaload, .aload 0, .iload 3, .sipush 2, .iadd, .iaload, .aload 0, .iload 3, .sipush 3, .iadd, .iaload, .invokevirtual 219, .if_icmp .eq 61, .sipush 0, .ireturn]
def bk_241_46 : List Instr := [.aload 1, .aload 0, .iload 3, .sipush 1, .iadd, .iaload, .aload 0, .iload 3, .sipush 2, .iadd, .iaload, .invokevirtual 121, .aload 2, .aload 0, .iload 3, .sipush 1, .iadd, .iaload, .aload 0, .iload 3, .sipush 2, .iadd, .iaload, .invokevirtual 220, .if_icmp .eq 61, .sipush 0, .ireturn]
def bk_241_47 : List Instr := [.aload 1, .aload 0, .iload 3, .sipush 1, .iadd, .iaload, .invokevirtual 122, .aload 2, .aload 0, .iload 3, .sipush 1, .iadd, .iaload, .invokevirtual 221, .if_icmp .eq 61, .sipush 0, .ireturn]
def bk_241_48 : List Instr := [.aload 1, .invokevirtual 123, .aload 2, .invokevirtual 225, .if_icmp .eq 61, .sipush 0, .ireturn]
def bk_241_49 : List Instr := [.aload 1, .aload 0, .iload 3, .sipush 1, .iadd, .iaload, .invokevirtual 124, .aload 2, .aload 0, .iload 3, .sipush 1, .iadd, .iaload, .invokevirtual 226, .if_icmp .eq 61, .sipush 0, .ireturn]
def bk_241_50 : List Instr := [.aload 1, .aload 0, .iload 3, .sipush 1, .iadd, .iaload, .aload 0, .iload 3, .sipush 2, .iadd, .iaload, .aload 0, .iload 3, .sipush 3, .iadd, .iaload, .ifCond .eq 51, .sipush 1, .goto 52]
def bk_241_51 : List Instr := [.sipush 0, .goto_w 52]
def bk_241_52 : List Instr := [.invokevirtual 125, .aload 2, .aload 0, .iload 3, .sipush 1, .iadd, .iaload, .aload 0, .iload 3, .sipush 2, .iadd, .iaload, .aload 0, .iload 3, .sipush 3, .iadd, .iaload, .ifCond .eq 53, .sipush 1, .goto 54]
def bk_241_53 : List Instr := [.sipush 0, .goto_w 54]
def bk_241_54 : List Instr := [.invokevirtual 227, .if_icmp .eq 61, .sipush 0, .ireturn]
def bk_241_55 : List Instr := [.aload 1, .aload 0, .iload 3, .sipush 1, .iadd, .iaload, .aload 0, .iload 3, .sipush 2, .iadd, .iaload, .aload 0, .iload 3, .sipush 3, .iadd, .iaload, .invokevirtual 126, .aload 2, .aload 0, .iload 3, .sipush 1, .iadd, .iaload, .aload 0, .iload 3, .sipush 2, .iadd, .iaload, .aload 0, .iload 3, .sipush 3, .iadd, .iaload, .invokevirtual 229, .if_icmp .eq 61, .sipush 0, .ireturn]
def bk_241_56 : List Instr := [.aload 1, .aload 0, .iload 3, .sipush 1, .iadd, .iaload, .aload 0, .iload 3, .sipush 2, .iadd, .iaload, .aload 0, .iload 3, .sipush 3, .iadd, .iaload, .invokevirtual 127, .aload 2, .aload 0, .iload 3, .sipush 1, .iadd, .iaload, .aload 0, .iload 3, .sipush 2, .iadd, .iaload, .aload 0, .iload 3, .sipush 3, .iadd, .iaload, .invokevirtual 231, .if_icmp .eq 61, .sipush 0, .ireturn]
def bk_241_57 : List Instr := [.aload 1, .aload 0, .iload 3, .sipush 1, .iadd, .iaload, .aload 0, .iload 3, .sipush 2, .iadd, .iaload, .aload 0, .iload 3, .sipush 3, .iadd, .iaload, .invokevirtual 128, .aload 2, .aload 0, .iload 3, .sipush 1, .iadd, .iaload, .aload 0, .iload 3, .sipush 2, .iadd, .iaload, .aload 0, .iload 3, .sipush 3, .iadd, .iaload, .invokevirtual 232, .if_icmp .eq 61, .sipush 0, .ireturn]
def bk_241_58 : List Instr := [.aload 1, .aload 0, .iload 3, .sipush 1, .iadd, .iaload, .aload 0, .iload 3, .sipush 2, .iadd, .iaload, .aload 0, .iload 3, .sipush 3, .iadd, .iaload, .aload 0, .iload 3, .sipush 4, .iadd, .iaload, .aload 0, .iload 3, .sipush 5, .iadd, .iaload, .invokevirtual 129, .aload 2, .aload 0, .iload 3, .sipush 1, .iadd, .iaload, .aload 0, .iload 3, .sipush 2, .iadd, .iaload, .aload 0, .iload 3, .sipush 3, .iadd, .iaload, .aload 0, .iload 3, .sipush 4, .iadd, .iaload, .aload 0, .iload 3, .sipush 5, .iadd, .iaload, .invokevirtual 233, .if_icmp .eq 61, .sipush 0, .ireturn]
def bk_241_59 : List Instr := [.aload 1, .invokevirtual 130, .aload 2, .invokevirtual 148, .if_icmp .eq 61, .sipush 0, .ireturn]
def bk_241_60 : List Instr := [.aload 1, .aload 0, .iload 3, .sipush 1, .iadd, .iaload, .invokevirtual 131, .aload 2, .aload 0, .iload 3, .sipush 1, .iadd, .iaload, .invokevirtual 234, .if_icmp .eq 61, .sipush 0, .ireturn]
def bk_241_61 : List Instr := [.iinc 3 7, .goto 1]
def bk_241_62 : List Instr := [.sipush 1, .ireturn]
def bk_241_63 : List Instr := [.iload 3, .aload 0, .arraylength, .sipush 7, .isub, .if_icmp .gt 62, .aload 0, .iload 3, .iaload, .sipush 63, .iand, .tableswitch 61 0 46 #[2, 3, 4, 5, 10, 11, 12, 13, 14, 15, 16, 17, 18, 19, 20, 21, 22, 23, 24, 25, 26, 27, 28, 29, 30, 31, 32, 33, 34, 35, 36, 37, 42, 43, 44, 45, 46, 47, 48, 49, 50, 55, 56, 57, 58, 59, 60]]
def bk_0 : List (List Instr) := [bk_0_0]
def bk_1 : List (List Instr) := [bk_1_0, bk_1_1, bk_1_2, bk_1_3]
def bk_2 : List (List Instr) := [bk_2_0, bk_2_1, bk_2_2, bk_2_3, bk_2_4, bk_2_5, bk_2_6]
def bk_3 : List (List Instr) := [bk_3_0, bk_3_1, bk_3_2, bk_3_3, bk_3_4, bk_3_5, bk_3_6, bk_3_7, bk_3_8, bk_3_9, bk_3_10, bk_3_11]
def bk_4 : List (List Instr) := [bk_4_0, bk_4_1, bk_4_2, bk_4_3]
def bk_5 : List (List Instr) := [bk_5_0, bk_5_1, bk_5_2]
def bk_6 : List (List Instr) := [bk_6_0]
def bk_7 : List (List Instr) := [bk_7_0]
def bk_8 : List (List Instr) := [bk_8_0, bk_8_1, bk_8_2, bk_8_3]
def bk_9 : List (List Instr) := [bk_9_0]
def bk_10 : List (List Instr) := [bk_10_0]
def bk_11 : List (List Instr) := [bk_11_0, bk_11_1, bk_11_2]
def bk_12 : List (List Instr) := [bk_12_0, bk_12_1, bk_12_2]
def bk_13 : List (List Instr) := [bk_13_0, bk_13_1, bk_13_2]
def bk_14 : List (List Instr) := [bk_14_0, bk_14_1, bk_14_2]
def bk_15 : List (List Instr) := [bk_15_0]
def bk_16 : List (List Instr) := [bk_16_0]
def bk_17 : List (List Instr) := [bk_17_0]
def bk_18 : List (List Instr) := [bk_18_0]
def bk_19 : List (List Instr) := [bk_19_0, bk_19_1, bk_19_2, bk_19_3]
def bk_20 : List (List Instr) := [bk_20_0, bk_20_1, bk_20_2, bk_20_3]
def bk_21 : List (List Instr) := [bk_21_0, bk_21_1, bk_21_2]
def bk_22 : List (List Instr) := [bk_22_0, bk_22_1, bk_22_2]
def bk_23 : List (List Instr) := [bk_23_0]
def bk_24 : List (List Instr) := [bk_24_0, bk_24_1, bk_24_2]
def bk_25 : List (List Instr) := [bk_25_0, bk_25_1, bk_25_2, bk_25_3]
def bk_26 : List (List Instr) := [bk_26_0, bk_26_1, bk_26_2, bk_26_3, bk_26_4]
def bk_27 : List (List Instr) := [bk_27_0, bk_27_1, bk_27_2, bk_27_3, bk_27_4, bk_27_5]
def bk_28 : List (List Instr) := [bk_28_0, bk_28_1, bk_28_2, bk_28_3, bk_28_4, bk_28_5, bk_28_6, bk_28_7]
def bk_29 : List (List Instr) := [bk_29_0, bk_29_1]
def bk_30 : List (List Instr) := [bk_30_0]
def bk_31 : List (List Instr) := [bk_31_0]
def bk_32 : List (List Instr) := [bk_32_0]
def bk_33 : List (List Instr) := [bk_33_0, bk_33_1, bk_33_2]
def bk_34 : List (List Instr) := [bk_34_0, bk_34_1, bk_34_2, bk_34_3]
def bk_35 : List (List Instr) := [bk_35_0, bk_35_1, bk_35_2]
def bk_36 : List (List Instr) := [bk_36_0, bk_36_1, bk_36_2, bk_36_3, bk_36_4, bk_36_5, bk_36_6]
def bk_37 : List (List Instr) := [bk_37_0, bk_37_1, bk_37_2]
def bk_38 : List (List Instr) := [bk_38_0]
def bk_39 : List (List Instr) := [bk_39_0]
def bk_40 : List (List Instr) := [bk_40_0, bk_40_1, bk_40_2]
def bk_41 : List (List Instr) := [bk_41_0, bk_41_1, bk_41_2, bk_41_3, bk_41_4, bk_41_5]
def bk_42 : List (List Instr) := [bk_42_0, bk_42_1, bk_42_2, bk_42_3, bk_42_4]
def bk_43 : List (List Instr) := [bk_43_0]
def bk_44 : List (List Instr) := [bk_44_0]
def bk_45 : List (List Instr) := [bk_45_0, bk_45_1]
def bk_46 : List (List Instr) := [bk_46_0, bk_46_1, bk_46_2, bk_46_3, bk_46_4, bk_46_5, bk_46_6, bk_46_7, bk_46_8, bk_46_9, bk_46_10, bk_46_11, bk_46_12]
def bk_47 : List (List Instr) := [bk_47_0, bk_47_1, bk_47_2, bk_47_3]
def bk_48 : List (List Instr) := [bk_48_0, bk_48_1, bk_48_2, bk_48_3]
def bk_49 : List (List Instr) := [bk_49_0, bk_49_1, bk_49_2, bk_49_3, bk_49_4]
def bk_50 : List (List Instr) := [bk_50_0]
def bk_51 : List (List Instr) := [bk_51_0]
def bk_52 : List (List Instr) := [bk_52_0, bk_52_1, bk_52_2, bk_52_3, bk_52_4, bk_52_5, bk_52_6]
def bk_53 : List (List Instr) := [bk_53_0, bk_53_1, bk_53_2, bk_53_3, bk_53_4, bk_53_5, bk_53_6]
def bk_54 : List (List Instr) := [bk_54_0]
def bk_55 : List (List Instr) := [bk_55_0]
def bk_56 : List (List Instr) := [bk_56_0, bk_56_1, bk_56_2, bk_56_3, bk_56_4, bk_56_5, bk_56_6]
def bk_57 : List (List Instr) := [bk_57_0]
def bk_58 : List (List Instr) := [bk_58_0]
def bk_59 : List (List Instr) := [bk_59_0, bk_59_1, bk_59_2, bk_59_3, bk_59_4]
def bk_60 : List (List Instr) := [bk_60_0, bk_60_1, bk_60_2, bk_60_3, bk_60_4, bk_60_5, bk_60_6, bk_60_7]
def bk_61 : List (List Instr) := [bk_61_0]
def bk_62 : List (List Instr) := [bk_62_0, bk_62_1, bk_62_2, bk_62_3, bk_62_4, bk_62_5]
def bk_63 : List (List Instr) := [bk_63_0]
def bk_64 : List (List Instr) := [bk_64_0, bk_64_1, bk_64_2, bk_64_3]
def bk_65 : List (List Instr) := [bk_65_0, bk_65_1, bk_65_2, bk_65_3, bk_65_4, bk_65_5, bk_65_6, bk_65_7]
def bk_66 : List (List Instr) := [bk_66_0, bk_66_1, bk_66_2, bk_66_3]
def bk_67 : List (List Instr) := [bk_67_0, bk_67_1, bk_67_2, bk_67_3, bk_67_4, bk_67_5, bk_67_6, bk_67_7, bk_67_8, bk_67_9, bk_67_10]
def bk_68 : List (List Instr) := [bk_68_0, bk_68_1, bk_68_2]
def bk_69 : List (List Instr) := [bk_69_0, bk_69_1, bk_69_2, bk_69_3, bk_69_4, bk_69_5, bk_69_6, bk_69_7, bk_69_8, bk_69_9, bk_69_10, bk_69_11, bk_69_12, bk_69_13]
def bk_70 : List (List Instr) := [bk_70_0]
def bk_71 : List (List Instr) := [bk_71_0, bk_71_1, bk_71_2]
def bk_72 : List (List Instr) := [bk_72_0, bk_72_1, bk_72_2]
def bk_73 : List (List Instr) := [bk_73_0]
def bk_74 : List (List Instr) := [bk_74_0]
def bk_75 : List (List Instr) := [bk_75_0, bk_75_1, bk_75_2]
def bk_76 : List (List Instr) := [bk_76_0, bk_76_1, bk_76_2]
def bk_77 : List (List Instr) := [bk_77_0]
def bk_78 : List (List Instr) := [bk_78_0]
def bk_79 : List (List Instr) := [bk_79_0]
def bk_80 : List (List Instr) := [bk_80_0]
def bk_81 : List (List Instr) := [bk_81_0, bk_81_1, bk_81_2, bk_81_3]
def bk_82 : List (List Instr) := [bk_82_0, bk_82_1, bk_82_2, bk_82_3, bk_82_4, bk_82_5, bk_82_6, bk_82_7, bk_82_8]
def bk_83 : List (List Instr) := [bk_83_0, bk_83_1, bk_83_2, bk_83_3]
def bk_84 : List (List Instr) := [bk_84_0, bk_84_1, bk_84_2]
def bk_85 : List (List Instr) := [bk_85_0, bk_85_1, bk_85_2, bk_85_3]
def bk_86 : List (List Instr) := [bk_86_0, bk_86_1, bk_86_2, bk_86_3, bk_86_4]
def bk_87 : List (List Instr) := [bk_87_0, bk_87_1, bk_87_2, bk_87_3, bk_87_4, bk_87_5, bk_87_6, bk_87_7, bk_87_8, bk_87_9, bk_87_10]
def bk_88 : List (List Instr) := [bk_88_0, bk_88_1, bk_88_2, bk_88_3, bk_88_4, bk_88_5, bk_88_6]
def bk_89 : List (List Instr) := [bk_89_0, bk_89_1, bk_89_2, bk_89_3]
def bk_90 : List (List Instr) := [bk_90_0, bk_90_1, bk_90_2, bk_90_3, bk_90_4, bk_90_5]
def bk_91 : List (List Instr) := [bk_91_0, bk_91_1, bk_91_2]
def bk_92 : List (List Instr) := [bk_92_0, bk_92_1, bk_92_2, bk_92_3]
def bk_93 : List (List Instr) := [bk_93_0, bk_93_1, bk_93_2, bk_93_3, bk_93_4]
def bk_94 : List (List Instr) := [bk_94_0, bk_94_1, bk_94_2, bk_94_3]
def bk_95 : List (List Instr) := [bk_95_0, bk_95_1, bk_95_2, bk_95_3, bk_95_4, bk_95_5]
def bk_96 : List (List Instr) := [bk_96_0, bk_96_1, bk_96_2]
def bk_97 : List (List Instr) := [bk_97_0]
def bk_98 : List (List Instr) := [bk_98_0, bk_98_1]
def bk_99 : List (List Instr) := [bk_99_0, bk_99_1, bk_99_2]
def bk_100 : List (List Instr) := [bk_100_0, bk_100_1, bk_100_2, bk_100_3]
def bk_101 : List (List Instr) := [bk_101_0, bk_101_1, bk_101_2, bk_101_3, bk_101_4, bk_101_5]
def bk_102 : List (List Instr) := [bk_102_0, bk_102_1, bk_102_2, bk_102_3, bk_102_4, bk_102_5, bk_102_6, bk_102_7, bk_102_8, bk_102_9]
def bk_103 : List (List Instr) := [bk_103_0, bk_103_1, bk_103_2, bk_103_3, bk_103_4, bk_103_5]
def bk_104 : List (List Instr) := [bk_104_0, bk_104_1, bk_104_2, bk_104_3]
def bk_105 : List (List Instr) := [bk_105_0]
def bk_106 : List (List Instr) := [bk_106_0, bk_106_1, bk_106_2]
def bk_107 : List (List Instr) := [bk_107_0, bk_107_1, bk_107_2, bk_107_3]
def bk_108 : List (List Instr) := [bk_108_0, bk_108_1]
def bk_109 : List (List Instr) := [bk_109_0]
def bk_110 : List (List Instr) := [bk_110_0, bk_110_1]
def bk_111 : List (List Instr) := [bk_111_0, bk_111_1, bk_111_2]
def bk_112 : List (List Instr) := [bk_112_0, bk_112_1]
def bk_113 : List (List Instr) := [bk_113_0, bk_113_1, bk_113_2]
def bk_114 : List (List Instr) := [bk_114_0]
def bk_115 : List (List Instr) := [bk_115_0, bk_115_1]
def bk_116 : List (List Instr) := [bk_116_0, bk_116_1, bk_116_2, bk_116_3]
def bk_117 : List (List Instr) := [bk_117_0, bk_117_1, bk_117_2, bk_117_3, bk_117_4]
def bk_118 : List (List Instr) := [bk_118_0, bk_118_1, bk_118_2, bk_118_3, bk_118_4, bk_118_5, bk_118_6, bk_118_7, bk_118_8]
def bk_119 : List (List Instr) := [bk_119_0]
def bk_120 : List (List Instr) := [bk_120_0, bk_120_1, bk_120_2, bk_120_3, bk_120_4]
def bk_121 : List (List Instr) := [bk_121_0, bk_121_1, bk_121_2]
def bk_122 : List (List Instr) := [bk_122_0, bk_122_1]
def bk_123 : List (List Instr) := [bk_123_0]
def bk_124 : List (List Instr) := [bk_124_0, bk_124_1, bk_124_2, bk_124_3]
def bk_125 : List (List Instr) := [bk_125_0, bk_125_1, bk_125_2, bk_125_3]
def bk_126 : List (List Instr) := [bk_126_0, bk_126_1, bk_126_2, bk_126_3, bk_126_4]
def bk_127 : List (List Instr) := [bk_127_0, bk_127_1, bk_127_2, bk_127_3, bk_127_4, bk_127_5, bk_127_6]
def bk_128 : List (List Instr) := [bk_128_0, bk_128_1, bk_128_2, bk_128_3, bk_128_4]
def bk_129 : List (List Instr) := [bk_129_0, bk_129_1, bk_129_2, bk_129_3, bk_129_4, bk_129_5, bk_129_6, bk_129_7]
def bk_130 : List (List Instr) := [bk_130_0, bk_130_1, bk_130_2]
def bk_131 : List (List Instr) := [bk_131_0, bk_131_1, bk_131_2, bk_131_3, bk_131_4, bk_131_5, bk_131_6, bk_131_7, bk_131_8]
def bk_132 : List (List Instr) := [bk_132_0]
def bk_133 : List (List Instr) := [bk_133_0, bk_133_1]
def bk_134 : List (List Instr) := [bk_134_0, bk_134_1, bk_134_2, bk_134_3]
def bk_135 : List (List Instr) := [bk_135_0]
def bk_136 : List (List Instr) := [bk_136_0]
def bk_137 : List (List Instr) := [bk_137_0, bk_137_1, bk_137_2]
def bk_138 : List (List Instr) := [bk_138_0]
def bk_139 : List (List Instr) := [bk_139_0]
def bk_140 : List (List Instr) := [bk_140_0]
def bk_141 : List (List Instr) := [bk_141_0, bk_141_1, bk_141_2]
def bk_142 : List (List Instr) := [bk_142_0]
def bk_143 : List (List Instr) := [bk_143_0, bk_143_1, bk_143_2]
def bk_144 : List (List Instr) := [bk_144_0]
def bk_145 : List (List Instr) := [bk_145_0]
def bk_146 : List (List Instr) := [bk_146_0]
def bk_147 : List (List Instr) := [bk_147_0, bk_147_1, bk_147_2, bk_147_3, bk_147_4, bk_147_5]
def bk_148 : List (List Instr) := [bk_148_0, bk_148_1, bk_148_2, bk_148_3]
def bk_149 : List (List Instr) := [bk_149_0, bk_149_1, bk_149_2, bk_149_3, bk_149_4, bk_149_5]
def bk_150 : List (List Instr) := [bk_150_0, bk_150_1, bk_150_2, bk_150_3]
def bk_151 : List (List Instr) := [bk_151_0, bk_151_1, bk_151_2, bk_151_3, bk_151_4, bk_151_5]
def bk_152 : List (List Instr) := [bk_152_0]
def bk_153 : List (List Instr) := [bk_153_0, bk_153_1, bk_153_2]
def bk_154 : List (List Instr) := [bk_154_0, bk_154_1, bk_154_2, bk_154_3, bk_154_4, bk_154_5, bk_154_6, bk_154_7]
def bk_155 : List (List Instr) := [bk_155_0, bk_155_1, bk_155_2, bk_155_3, bk_155_4, bk_155_5, bk_155_6]
def bk_156 : List (List Instr) := [bk_156_0, bk_156_1, bk_156_2, bk_156_3, bk_156_4, bk_156_5]
def bk_157 : List (List Instr) := [bk_157_0, bk_157_1, bk_157_2, bk_157_3, bk_157_4, bk_157_5]
def bk_158 : List (List Instr) := [bk_158_0]
def bk_159 : List (List Instr) := [bk_159_0, bk_159_1, bk_159_2, bk_159_3, bk_159_4, bk_159_5, bk_159_6, bk_159_7, bk_159_8, bk_159_9]
def bk_160 : List (List Instr) := [bk_160_0, bk_160_1, bk_160_2, bk_160_3, bk_160_4, bk_160_5]
def bk_161 : List (List Instr) := [bk_161_0, bk_161_1, bk_161_2, bk_161_3]
def bk_162 : List (List Instr) := [bk_162_0, bk_162_1, bk_162_2]
def bk_163 : List (List Instr) := [bk_163_0, bk_163_1, bk_163_2, bk_163_3, bk_163_4]
def bk_164 : List (List Instr) := [bk_164_0, bk_164_1, bk_164_2, bk_164_3]
def bk_165 : List (List Instr) := [bk_165_0, bk_165_1, bk_165_2]
def bk_166 : List (List Instr) := [bk_166_0, bk_166_1, bk_166_2]
def bk_167 : List (List Instr) := [bk_167_0]
def bk_168 : List (List Instr) := [bk_168_0]
def bk_169 : List (List Instr) := [bk_169_0, bk_169_1, bk_169_2, bk_169_3, bk_169_4, bk_169_5, bk_169_6]
def bk_170 : List (List Instr) := [bk_170_0, bk_170_1, bk_170_2, bk_170_3, bk_170_4, bk_170_5, bk_170_6, bk_170_7, bk_170_8]
def bk_171 : List (List Instr) := [bk_171_0]
def bk_172 : List (List Instr) := [bk_172_0, bk_172_1, bk_172_2, bk_172_3]
def bk_173 : List (List Instr) := [bk_173_0, bk_173_1, bk_173_2, bk_173_3, bk_173_4]
def bk_174 : List (List Instr) := [bk_174_0, bk_174_1, bk_174_2, bk_174_3]
def bk_175 : List (List Instr) := [bk_175_0, bk_175_1, bk_175_2]
def bk_176 : List (List Instr) := [bk_176_0, bk_176_1]
def bk_177 : List (List Instr) := [bk_177_0, bk_177_1, bk_177_2, bk_177_3, bk_177_4]
def bk_178 : List (List Instr) := [bk_178_0, bk_178_1, bk_178_2]
def bk_179 : List (List Instr) := [bk_179_0, bk_179_1, bk_179_2]
def bk_180 : List (List Instr) := [bk_180_0, bk_180_1, bk_180_2, bk_180_3, bk_180_4, bk_180_5]
def bk_181 : List (List Instr) := [bk_181_0, bk_181_1, bk_181_2, bk_181_3, bk_181_4]
def bk_182 : List (List Instr) := [bk_182_0, bk_182_1, bk_182_2, bk_182_3, bk_182_4, bk_182_5]
def bk_183 : List (List Instr) := [bk_183_0, bk_183_1, bk_183_2, bk_183_3, bk_183_4, bk_183_5, bk_183_6]
def bk_184 : List (List Instr) := [bk_184_0, bk_184_1, bk_184_2, bk_184_3, bk_184_4, bk_184_5, bk_184_6, bk_184_7, bk_184_8, bk_184_9, bk_184_10, bk_184_11]
def bk_185 : List (List Instr) := [bk_185_0, bk_185_1, bk_185_2, bk_185_3, bk_185_4, bk_185_5, bk_185_6]
def bk_186 : List (List Instr) := [bk_186_0, bk_186_1, bk_186_2, bk_186_3, bk_186_4, bk_186_5, bk_186_6]
def bk_187 : List (List Instr) := [bk_187_0, bk_187_1, bk_187_2, bk_187_3]
def bk_188 : List (List Instr) := [bk_188_0, bk_188_1, bk_188_2, bk_188_3]
def bk_189 : List (List Instr) := [bk_189_0]
def bk_190 : List (List Instr) := [bk_190_0, bk_190_1, bk_190_2, bk_190_3, bk_190_4, bk_190_5, bk_190_6, bk_190_7]
def bk_191 : List (List Instr) := [bk_191_0, bk_191_1, bk_191_2, bk_191_3, bk_191_4, bk_191_5, bk_191_6, bk_191_7]
def bk_192 : List (List Instr) := [bk_192_0]
def bk_193 : List (List Instr) := [bk_193_0, bk_193_1, bk_193_2]
def bk_194 : List (List Instr) := [bk_194_0, bk_194_1, bk_194_2, bk_194_3, bk_194_4]
def bk_195 : List (List Instr) := [bk_195_0, bk_195_1]
def bk_196 : List (List Instr) := [bk_196_0, bk_196_1, bk_196_2, bk_196_3, bk_196_4]
def bk_197 : List (List Instr) := [bk_197_0, bk_197_1, bk_197_2, bk_197_3, bk_197_4, bk_197_5, bk_197_6, bk_197_7, bk_197_8, bk_197_9, bk_197_10, bk_197_11, bk_197_12, bk_197_13, bk_197_14, bk_197_15]
def bk_198 : List (List Instr) := [bk_198_0, bk_198_1, bk_198_2, bk_198_3, bk_198_4, bk_198_5, bk_198_6]
def bk_199 : List (List Instr) := [bk_199_0, bk_199_1, bk_199_2]
def bk_200 : List (List Instr) := [bk_200_0, bk_200_1, bk_200_2, bk_200_3, bk_200_4, bk_200_5, bk_200_6, bk_200_7]
def bk_201 : List (List Instr) := [bk_201_0]
def bk_202 : List (List Instr) := [bk_202_0, bk_202_1, bk_202_2, bk_202_3]
def bk_203 : List (List Instr) := [bk_203_0, bk_203_1, bk_203_2]
def bk_204 : List (List Instr) := [bk_204_0, bk_204_1, bk_204_2, bk_204_3, bk_204_4, bk_204_5]
def bk_205 : List (List Instr) := [bk_205_0, bk_205_1, bk_205_2, bk_205_3, bk_205_4, bk_205_5]
def bk_206 : List (List Instr) := [bk_206_0, bk_206_1]
def bk_207 : List (List Instr) := [bk_207_0, bk_207_1]
def bk_208 : List (List Instr) := [bk_208_0]
def bk_209 : List (List Instr) := [bk_209_0, bk_209_1]
def bk_210 : List (List Instr) := [bk_210_0, bk_210_1, bk_210_2, bk_210_3]
def bk_211 : List (List Instr) := [bk_211_0, bk_211_1, bk_211_2, bk_211_3, bk_211_4, bk_211_5, bk_211_6, bk_211_7, bk_211_8, bk_211_9, bk_211_10, bk_211_11, bk_211_12, bk_211_13, bk_211_14, bk_211_15, bk_211_16, bk_211_17, bk_211_18, bk_211_19, bk_211_20]
def bk_212 : List (List Instr) := [bk_212_0, bk_212_1, bk_212_2, bk_212_3]
def bk_213 : List (List Instr) := [bk_213_0, bk_213_1, bk_213_2, bk_213_3, bk_213_4, bk_213_5, bk_213_6, bk_213_7, bk_213_8]
def bk_214 : List (List Instr) := [bk_214_0, bk_214_1, bk_214_2, bk_214_3, bk_214_4, bk_214_5, bk_214_6, bk_214_7, bk_214_8, bk_214_9, bk_214_10]
def bk_215 : List (List Instr) := [bk_215_0]
def bk_216 : List (List Instr) := [bk_216_0, bk_216_1, bk_216_2, bk_216_3, bk_216_4, bk_216_5, bk_216_6, bk_216_7]
def bk_217 : List (List Instr) := [bk_217_0, bk_217_1, bk_217_2, bk_217_3, bk_217_4, bk_217_5, bk_217_6, bk_217_7, bk_217_8, bk_217_9]
def bk_218 : List (List Instr) := [bk_218_0, bk_218_1, bk_218_2, bk_218_3, bk_218_4, bk_218_5, bk_218_6, bk_218_7, bk_218_8, bk_218_9, bk_218_10, bk_218_11, bk_218_12, bk_218_13]
def bk_219 : List (List Instr) := [bk_219_0, bk_219_1, bk_219_2, bk_219_3, bk_219_4]
def bk_220 : List (List Instr) := [bk_220_0, bk_220_1, bk_220_2]
def bk_221 : List (List Instr) := [bk_221_0, bk_221_1]
def bk_222 : List (List Instr) := [bk_222_0, bk_222_1, bk_222_2]
def bk_223 : List (List Instr) := [bk_223_0, bk_223_1, bk_223_2, bk_223_3, bk_223_4, bk_223_5, bk_223_6]
def bk_224 : List (List Instr) := [bk_224_0]
def bk_225 : List (List Instr) := [bk_225_0]
def bk_226 : List (List Instr) := [bk_226_0, bk_226_1, bk_226_2, bk_226_3]
def bk_227 : List (List Instr) := [bk_227_0, bk_227_1, bk_227_2, bk_227_3, bk_227_4, bk_227_5]
def bk_228 : List (List Instr) := [bk_228_0, bk_228_1, bk_228_2, bk_228_3, bk_228_4, bk_228_5]
def bk_229 : List (List Instr) := [bk_229_0, bk_229_1, bk_229_2, bk_229_3, bk_229_4]
def bk_230 : List (List Instr) := [bk_230_0]
def bk_231 : List (List Instr) := [bk_231_0, bk_231_1, bk_231_2, bk_231_3, bk_231_4, bk_231_5, bk_231_6, bk_231_7, bk_231_8]
def bk_232 : List (List Instr) := [bk_232_0, bk_232_1, bk_232_2, bk_232_3]
def bk_233 : List (List Instr) := [bk_233_0, bk_233_1, bk_233_2, bk_233_3, bk_233_4, bk_233_5, bk_233_6, bk_233_7, bk_233_8, bk_233_9, bk_233_10, bk_233_11]
def bk_234 : List (List Instr) := [bk_234_0, bk_234_1, bk_234_2, bk_234_3, bk_234_4, bk_234_5, bk_234_6, bk_234_7, bk_234_8, bk_234_9, bk_234_10]
def bk_235 : List (List Instr) := [bk_235_0]
def bk_236 : List (List Instr) := [bk_236_0, bk_236_1, bk_236_2]
def bk_237 : List (List Instr) := [bk_237_0, bk_237_1, bk_237_2]
def bk_238 : List (List Instr) := [bk_238_0, bk_238_1, bk_238_2, bk_238_3]
def bk_239 : List (List Instr) := [bk_239_0, bk_239_1, bk_239_2]
def bk_240 : List (List Instr) := [bk_240_0, bk_240_1, bk_240_2]
def bk_241 : List (List Instr) := [bk_241_0, bk_241_1, bk_241_2, bk_241_3, bk_241_4, bk_241_5, bk_241_6, bk_241_7, bk_241_8, bk_241_9, bk_241_10, bk_241_11, bk_241_12, bk_241_13, bk_241_14, bk_241_15, bk_241_16, bk_241_17, bk_241_18, bk_241_19, bk_241_20, bk_241_21, bk_241_22, bk_241_23, bk_241_24, bk_241_25, bk_241_26, bk_241_27, bk_241_28, bk_241_29, bk_241_30, bk_241_31, bk_241_32, bk_241_33, bk_241_34, bk_241_35, bk_241_36, bk_241_37, bk_241_38, bk_241_39, bk_241_40, bk_241_41, bk_241_42, bk_241_43, bk_241_44, bk_241_45, bk_241_46, bk_241_47, bk_241_48, bk_241_49, bk_241_50, bk_241_51, bk_241_52, bk_241_53, bk_241_54, bk_241_55, bk_241_56, bk_241_57, bk_241_58, bk_241_59, bk_241_60, bk_241_61, bk_241_62, bk_241_63]
def ex_bs : List (List (List Instr)) := [bk_0, bk_1, bk_2, bk_3, bk_4, bk_5, bk_6, bk_7, bk_8, bk_9, bk_10, bk_11, bk_12, bk_13, bk_14, bk_15, bk_16, bk_17, bk_18, bk_19, bk_20, bk_21, bk_22, bk_23, bk_24, bk_25, bk_26, bk_27, bk_28, bk_29, bk_30, bk_31, bk_32, bk_33, bk_34, bk_35, bk_36, bk_37, bk_38, bk_39, bk_40, bk_41, bk_42, bk_43, bk_44, bk_45, bk_46, bk_47, bk_48, bk_49, bk_50, bk_51, bk_52, bk_53, bk_54, bk_55, bk_56, bk_57, bk_58, bk_59, bk_60, bk_61, bk_62, bk_63, bk_64, bk_65, bk_66, bk_67, bk_68, bk_69, bk_70, bk_71, bk_72, bk_73, bk_74, bk_75, bk_76, bk_77, bk_78, bk_79, bk_80, bk_81, bk_82, bk_83, bk_84, bk_85, bk_86, bk_87, bk_88, bk_89, bk_90, bk_91, bk_92, bk_93, bk_94, bk_95, bk_96, bk_97, bk_98, bk_99, bk_100, bk_101, bk_102, bk_103, bk_104, bk_105, bk_106, bk_107, bk_108, bk_109, bk_110, bk_111, bk_112, bk_113, bk_114, bk_115, bk_116, bk_117, bk_118, bk_119, bk_120, bk_121, bk_122, bk_123, bk_124, bk_125, bk_126, bk_127, bk_128, bk_129, bk_130, bk_131, bk_132, bk_133, bk_134, bk_135, bk_136, bk_137, bk_138, bk_139, bk_140, bk_141, bk_142, bk_143, bk_144, bk_145, bk_146, bk_147, bk_148, bk_149, bk_150, bk_151, bk_152, bk_153, bk_154, bk_155, bk_156, bk_157, bk_158, bk_159, bk_160, bk_161, bk_162, bk_163, bk_164, bk_165, bk_166, bk_167, bk_168, bk_169, bk_170, bk_171, bk_172, bk_173, bk_174, bk_175, bk_176, bk_177, bk_178, bk_179, bk_180, bk_181, bk_182, bk_183, bk_184, bk_185, bk_186, bk_187, bk_188, bk_189, bk_190, bk_191, bk_192, bk_193, bk_194, bk_195, bk_196, bk_197, bk_198, bk_199, bk_200, bk_201, bk_202, bk_203, bk_204, bk_205, bk_206, bk_207, bk_208, bk_209, bk_210, bk_211, bk_212, bk_213, bk_214, bk_215, bk_216, bk_217, bk_218, bk_219, bk_220, bk_221, bk_222, bk_223, bk_224, bk_225, bk_226, bk_227, bk_228, bk_229, bk_230, bk_231, bk_232, bk_233, bk_234, bk_235, bk_236, bk_237, bk_238, bk_239, bk_240, bk_241]
def ex_bk (m b : Nat) : List Instr := ((ex_bs.getD m []).getD b [])
def ex_pc : List (List Nat) := [[0],
  [0, 12, 55, 61],
  [0, 4, 35, 36, 50, 51, 59],
  [0, 6, 34, 41, 60, 64, 80, 115, 121, 144, 153, 154],
  [0, 8, 66, 72],
  [0, 2, 30],
  [0],
  [0],
  [0, 2, 22, 28],
  [0],
  [0],
  [0, 16, 17],
  [0, 32, 33],
  [0, 16, 17],
  [0, 16, 17],
  [0],
  [0],
  [0],
  [0],
  [0, 10, 31, 43],
  [0, 20, 24, 25],
  [0, 21, 27],
  [0, 33, 34],
  [0],
  [0, 9, 39],
  [0, 20, 24, 25],
  [0, 21, 23, 52, 53],
  [0, 13, 25, 36, 55, 56],
  [0, 13, 26, 42, 45, 57, 76, 77],
  [0, 12],
  [0],
  [0],
  [0],
  [0, 4, 34],
  [0, 16, 26, 60],
  [0, 4, 27],
  [0, 4, 30, 58, 59, 67, 73],
  [0, 26, 32],
  [0],
  [0],
  [0, 36, 37],
  [0, 9, 81, 82, 84, 90],
  [0, 5, 33, 34, 42],
  [0],
  [0],
  [0, 49],
  [0, 17, 24, 34, 40, 68, 75, 84, 124, 126, 134, 165, 167],
  [0, 7, 33, 39],
  [0, 4, 34, 40],
  [0, 8, 43, 44, 53],
  [0],
  [0],
  [0, 17, 49, 76, 122, 170, 176],
  [0, 21, 66, 67, 80, 81, 90],
  [0],
  [0],
  [0, 38, 39, 58, 61, 112, 118],
  [0],
  [0],
  [0, 7, 33, 39, 46],
  [0, 26, 55, 62, 72, 105, 169, 175],
  [0],
  [0, 11, 23, 35, 39, 40],
  [0],
  [0, 23, 27, 28],
  [0, 5, 37, 40, 68, 77, 81, 82],
  [0, 8, 18, 19],
  [0, 19, 24, 25, 46, 47, 48, 66, 67, 83, 84],
  [0, 20, 21],
  [0, 32, 41, 42, 43, 52, 53, 54, 66, 67, 68, 76, 80, 81],
  [0],
  [0, 13, 14],
  [0, 13, 14],
  [0],
  [0],
  [0, 25, 37],
  [0, 34, 35],
  [0],
  [0],
  [0],
  [0],
  [0, 9, 29, 35],
  [0, 11, 30, 33, 60, 95, 132, 138, 144],
  [0, 6, 69, 71],
  [0, 118, 143],
  [0, 38, 45, 66],
  [0, 21, 28, 47, 53],
  [0, 23, 72, 79, 86, 93, 99, 106, 112, 119, 126],
  [0, 23, 39, 64, 65, 81, 82],
  [0, 51, 58, 80],
  [0, 26, 33, 46, 61, 69],
  [0, 33, 40],
  [0, 23, 37, 44],
  [0, 28, 35, 54, 55],
  [0, 24, 31, 51],
  [0, 24, 31, 51, 89, 112],
  [0, 24, 39],
  [0],
  [0, 14],
  [0, 24, 29],
  [0, 16, 50, 51],
  [0, 9, 14, 25, 64, 70],
  [0, 25, 32, 50, 73, 93, 128, 134, 149, 158],
  [0, 33, 39, 40, 44, 78],
  [0, 21, 41, 60],
  [0],
  [0, 26, 27],
  [0, 21, 50, 57],
  [0, 16],
  [0],
  [0, 14],
  [0, 25, 32],
  [0, 14],
  [0, 25, 31],
  [0],
  [0, 14],
  [0, 21, 41, 42],
  [0, 32, 39, 69, 71],
  [0, 18, 36, 60, 62, 89, 95, 101, 130],
  [0],
  [0, 35, 42, 56, 57],
  [0, 25, 32],
  [0, 17],
  [0],
  [0, 11, 56, 62],
  [0, 21, 28, 50],
  [0, 39, 46, 66, 67],
  [0, 33, 40, 52, 65, 79, 80],
  [0, 18, 36, 53, 60],
  [0, 22, 29, 51, 58, 86, 115, 122],
  [0, 14, 62],
  [0, 44, 55, 66, 77, 85, 96, 107, 112],
  [0],
  [0, 22],
  [0, 17, 38, 39],
  [0],
  [0],
  [0, 14, 15],
  [0],
  [0],
  [0],
  [0, 146, 168],
  [0],
  [0, 14, 15],
  [0],
  [0],
  [0],
  [0, 11, 40, 50, 52, 86],
  [0, 14, 26, 60],
  [0, 40, 47, 68, 126, 128],
  [0, 26, 30, 31],
  [0, 17, 24, 53, 57, 63],
  [0],
  [0, 12, 48],
  [0, 18, 25, 56, 66, 72, 82, 92],
  [0, 15, 30, 60, 61, 79, 80],
  [0, 34, 35, 72, 79, 101],
  [0, 2, 14, 44, 50, 56],
  [0],
  [0, 18, 25, 60, 68, 72, 73, 81, 86, 87],
  [0, 28, 38, 40, 46, 53],
  [0, 15, 43, 49],
  [0, 46, 47],
  [0, 16, 25, 38, 39],
  [0, 27, 31, 32],
  [0, 33, 34],
  [0, 22, 23],
  [0],
  [0],
  [0, 16, 23, 38, 54, 69, 93],
  [0, 13, 24, 40, 43, 55, 75, 100, 102],
  [0],
  [0, 14, 48, 59],
  [0, 16, 23, 40, 62],
  [0, 15, 32, 47],
  [0, 8, 41],
  [0, 14],
  [0, 15, 32, 42, 80],
  [0, 2, 34],
  [0, 2, 34],
  [0, 11, 19, 74, 119, 125],
  [0, 2, 23, 32, 33],
  [0, 15, 27, 32, 46, 47],
  [0, 12, 19, 31, 36, 51, 57],
  [0, 15, 22, 38, 53, 63, 150, 151, 175, 178, 195, 196],
  [0, 4, 22, 73, 74, 82, 88],
  [0, 20, 24, 45, 53, 54, 62],
  [0, 2, 29, 35],
  [0, 15, 30, 49],
  [0],
  [0, 38, 111, 112, 115, 121, 140, 141],
  [0, 18, 41, 42, 44, 85, 103, 109],
  [0],
  [0, 20, 24],
  [0, 15, 36, 45, 51],
  [0, 16],
  [0, 2, 34, 35, 42],
  [0, 4, 20, 64, 65, 94, 99, 101, 109, 122, 123, 128, 154, 155, 163, 169],
  [0, 8, 24, 28, 49, 57, 58],
  [0, 4, 24],
  [0, 4, 41, 42, 50, 54, 88, 94],
  [0],
  [0, 14, 27, 44],
  [0, 29, 36],
  [0, 7, 22, 28, 83, 89],
  [0, 16, 25, 72, 78, 121],
  [0, 16],
  [0, 16],
  [0],
  [0, 16],
  [0, 15, 33, 34],
  [0, 28, 35, 41, 76, 78, 86, 92, 133, 150, 157, 169, 220, 226, 238, 247, 280, 282, 290, 312, 313],
  [0, 32, 36, 37],
  [0, 14, 30, 48, 50, 84, 90, 109, 146],
  [0, 4, 36, 46, 47, 66, 68, 81, 96, 100, 107],
  [0],
  [0, 40, 43, 53, 63, 65, 75, 82],
  [0, 15, 19, 34, 38, 56, 60, 68, 72, 73],
  [0, 12, 21, 27, 81, 112, 113, 117, 156, 157, 158, 164, 177, 178],
  [0, 23, 30, 44, 45],
  [0, 19, 26],
  [0, 17],
  [0, 34, 35],
  [0, 24, 36, 59, 61, 183, 189],
  [0],
  [0],
  [0, 11, 32, 38],
  [0, 15, 22, 41, 76, 77],
  [0, 9, 76, 77, 79, 85],
  [0, 30, 37, 51, 52],
  [0],
  [0, 29, 36, 47, 60, 80, 81, 85, 111],
  [0, 14, 30, 53],
  [0, 14, 21, 39, 46, 68, 117, 124, 127, 161, 164, 199],
  [0, 17, 21, 49, 88, 95, 102, 104, 112, 120, 128],
  [0],
  [0, 9, 10],
  [0, 9, 10],
  [0, 46, 59, 73],
  [0, 5, 20],
  [0, 10, 27],
  [0, 18, 236, 289, 322, 355, 373, 374, 395, 396, 404, 479, 512, 555, 588, 621, 654, 687, 710, 723, 746, 769, 792, 825, 858, 881, 904, 917, 930, 953, 976, 989, 1012, 1055, 1078, 1101, 1114, 1137, 1155, 1156, 1177, 1178, 1186, 1229, 1252, 1265, 1308, 1341, 1364, 1377, 1400, 1423, 1424, 1450, 1451, 1459, 1502, 1545, 1588, 1651, 1664, 1687, 1693, 18]]
abbrev m_X0_init : Nat := 0
abbrev m_X0_mostCars : Nat := 1
abbrev m_X0_waitingCars : Nat := 2
abbrev m_X0_shareHours : Nat := 3
abbrev m_X0_neediest : Nat := 4
abbrev m_X0_chargeThose : Nat := 5
abbrev m_X1_init : Nat := 6
abbrev m_X1_become : Nat := 7
abbrev m_X1_placeInEvening : Nat := 8
abbrev m_X2_init : Nat := 9
abbrev m_X2_become : Nat := 10
abbrev m_X2_isKind : Nat := 11
abbrev m_X2_isFact : Nat := 12
abbrev m_X2_hasLane : Nat := 13
abbrev m_X2_hasCar : Nat := 14
abbrev m_X2_addLane : Nat := 15
abbrev m_X2_addCar : Nat := 16
abbrev m_X2_fact : Nat := 17
abbrev m_X2_changeFact : Nat := 18
abbrev m_X2_isOfKind : Nat := 19
abbrev m_X2_cycleOf : Nat := 20
abbrev m_X2_bears : Nat := 21
abbrev m_X2_suits : Nat := 22
abbrev m_X2_carAt : Nat := 23
abbrev m_X2_lengthLeft : Nat := 24
abbrev m_X2_isShut : Nat := 25
abbrev m_X2_isFree : Nat := 26
abbrev m_X2_parkFinding : Nat := 27
abbrev m_X2_shuntFinding : Nat := 28
abbrev m_X2_bring : Nat := 29
abbrev m_X2_take : Nat := 30
abbrev m_X2_move : Nat := 31
abbrev m_X2_moveBack : Nat := 32
abbrev m_X2_forgetCycles : Nat := 33
abbrev m_X2_carsAhead : Nat := 34
abbrev m_X2_carsInLanes : Nat := 35
abbrev m_X2_morningOf : Nat := 36
abbrev m_X2_floodMinute : Nat := 37
abbrev m_X3_init : Nat := 38
abbrev m_X3_become : Nat := 39
abbrev m_X3_add : Nat := 40
abbrev m_X3_isThere : Nat := 41
abbrev m_X3_carsWithKey : Nat := 42
abbrev m_X4_init : Nat := 43
abbrev m_X4_become : Nat := 44
abbrev m_X4_add : Nat := 45
abbrev m_X4_shareOf : Nat := 46
abbrev m_X4_latestUnharmed : Nat := 47
abbrev m_X4_firstHarmed : Nat := 48
abbrev m_X4_shuntsBy : Nat := 49
abbrev m_X5_init : Nat := 50
abbrev m_X5_leastMornings : Nat := 51
abbrev m_X5_assign : Nat := 52
abbrev m_X5_added : Nat := 53
abbrev m_X6_init : Nat := 54
abbrev m_X6_mostBids : Nat := 55
abbrev m_X6_give : Nat := 56
abbrev m_X6_rentOf : Nat := 57
abbrev m_X7_init : Nat := 58
abbrev m_X7_mostWorth : Nat := 59
abbrev m_X7_takeMore : Nat := 60
abbrev m_X8_init : Nat := 61
abbrev m_X8_isSign : Nat := 62
abbrev m_X8_suppose : Nat := 63
abbrev m_X8_let : Nat := 64
abbrev m_X8_firstFault : Nat := 65
abbrev m_X8_asked : Nat := 66
abbrev m_X8_worked : Nat := 67
abbrev m_X8_knownBy : Nat := 68
abbrev m_X8_joins : Nat := 69
abbrev m_X9_init : Nat := 70
abbrev m_X9_isSheet : Nat := 71
abbrev m_X9_isMissing : Nat := 72
abbrev m_X9_begin : Nat := 73
abbrev m_X9_number : Nat := 74
abbrev m_X9_write : Nat := 75
abbrev m_X9_hasSpan : Nat := 76
abbrev m_X9_carryOver : Nat := 77
abbrev m_X10_init : Nat := 78
abbrev m_X10_begin : Nat := 79
abbrev m_X10_frees : Nat := 80
abbrev m_X10_shortest : Nat := 81
abbrev m_X10_search : Nat := 82
abbrev m_X10_carryOut : Nat := 83
abbrev m_X11_init : Nat := 84
abbrev m_X11_lane : Nat := 85
abbrev m_X11_as : Nat := 86
abbrev m_X11_laneIs : Nat := 87
abbrev m_X11_breaks : Nat := 88
abbrev m_X11_car : Nat := 89
abbrev m_X11_carIs : Nat := 90
abbrev m_X11_tell : Nat := 91
abbrev m_X11_at : Nat := 92
abbrev m_X11_fits : Nat := 93
abbrev m_X11_park : Nat := 94
abbrev m_X11_shunt : Nat := 95
abbrev m_X11_leave : Nat := 96
abbrev m_X11_night : Nat := 97
abbrev m_X11_hour : Nat := 98
abbrev m_X11_ahead : Nat := 99
abbrev m_X11_fewest : Nat := 100
abbrev m_X11_step : Nat := 101
abbrev m_X11_proves : Nat := 102
abbrev m_X11_morning : Nat := 103
abbrev m_X11_arrive : Nat := 104
abbrev m_X11_clear : Nat := 105
abbrev m_X11_plan : Nat := 106
abbrev m_X11_planned : Nat := 107
abbrev m_X11_chargers : Nat := 108
abbrev m_X11_charged : Nat := 109
abbrev m_X11_charging : Nat := 110
abbrev m_X11_bid : Nat := 111
abbrev m_X11_given : Nat := 112
abbrev m_X11_rent : Nat := 113
abbrev m_X11_giving : Nat := 114
abbrev m_X11_porter : Nat := 115
abbrev m_X11_look : Nat := 116
abbrev m_X11_harm : Nat := 117
abbrev m_X11_text : Nat := 118
abbrev m_X11_wrong : Nat := 119
abbrev m_X11_lets : Nat := 120
abbrev m_X11_flood : Nat := 121
abbrev m_X11_pace : Nat := 122
abbrev m_X11_rescue : Nat := 123
abbrev m_X11_rescued : Nat := 124
abbrev m_X11_note : Nat := 125
abbrev m_X11_key : Nat := 126
abbrev m_X11_sheet : Nat := 127
abbrev m_X11_put : Nat := 128
abbrev m_X11_copy : Nat := 129
abbrev m_X11_undo : Nat := 130
abbrev m_X11_all : Nat := 131
abbrev m_X11_refuse : Nat := 132
abbrev m_X11_keepForUndo : Nat := 133
abbrev m_X11_inLaneFinding : Nat := 134
abbrev m_X11_keysNow : Nat := 135
abbrev m_X11_isLet : Nat := 136
abbrev m_X11_isWithin : Nat := 137
abbrev m_X11_isHour : Nat := 138
abbrev m_X11_isTenant : Nat := 139
abbrev m_X11_isPorter : Nat := 140
abbrev m_X12_init : Nat := 141
abbrev m_X12_finding : Nat := 142
abbrev m_X12_within : Nat := 143
abbrev m_X12_isLane : Nat := 144
abbrev m_X12_isCar : Nat := 145
abbrev m_X12_isHour : Nat := 146
abbrev m_X12_keep : Nat := 147
abbrev m_X12_undo : Nat := 148
abbrev m_X12_lane : Nat := 149
abbrev m_X12_isLift : Nat := 150
abbrev m_X12_as : Nat := 151
abbrev m_X12_carAt : Nat := 152
abbrev m_X12_leftOf : Nat := 153
abbrev m_X12_laneIs : Nat := 154
abbrev m_X12_breaks : Nat := 155
abbrev m_X12_car : Nat := 156
abbrev m_X12_standOf : Nat := 157
abbrev m_X12_manyAhead : Nat := 158
abbrev m_X12_carIs : Nat := 159
abbrev m_X12_tell : Nat := 160
abbrev m_X12_at : Nat := 161
abbrev m_X12_canFit : Nat := 162
abbrev m_X12_fits : Nat := 163
abbrev m_X12_isStuck : Nat := 164
abbrev m_X12_isFree : Nat := 165
abbrev m_X12_turns : Nat := 166
abbrev m_X12_comes : Nat := 167
abbrev m_X12_goes : Nat := 168
abbrev m_X12_park : Nat := 169
abbrev m_X12_hinders : Nat := 170
abbrev m_X12_does : Nat := 171
abbrev m_X12_led : Nat := 172
abbrev m_X12_shunt : Nat := 173
abbrev m_X12_leave : Nat := 174
abbrev m_X12_night : Nat := 175
abbrev m_X12_hour : Nat := 176
abbrev m_X12_ahead : Nat := 177
abbrev m_X12_lay : Nat := 178
abbrev m_X12_bring : Nat := 179
abbrev m_X12_frees : Nat := 180
abbrev m_X12_findFewest : Nat := 181
abbrev m_X12_fewest : Nat := 182
abbrev m_X12_step : Nat := 183
abbrev m_X12_proves : Nat := 184
abbrev m_X12_morningOf : Nat := 185
abbrev m_X12_morning : Nat := 186
abbrev m_X12_arrivalOf : Nat := 187
abbrev m_X12_arrive : Nat := 188
abbrev m_X12_clear : Nat := 189
abbrev m_X12_moreBy : Nat := 190
abbrev m_X12_plans : Nat := 191
abbrev m_X12_findPlan : Nat := 192
abbrev m_X12_plan : Nat := 193
abbrev m_X12_planned : Nat := 194
abbrev m_X12_chargers : Nat := 195
abbrev m_X12_begin : Nat := 196
abbrev m_X12_charge : Nat := 197
abbrev m_X12_canAll : Nat := 198
abbrev m_X12_many : Nat := 199
abbrev m_X12_findCharged : Nat := 200
abbrev m_X12_charged : Nat := 201
abbrev m_X12_charging : Nat := 202
abbrev m_X12_bid : Nat := 203
abbrev m_X12_mostFrom : Nat := 204
abbrev m_X12_findGiving : Nat := 205
abbrev m_X12_given : Nat := 206
abbrev m_X12_rent : Nat := 207
abbrev m_X12_giving : Nat := 208
abbrev m_X12_porter : Nat := 209
abbrev m_X12_look : Nat := 210
abbrev m_X12_harm : Nat := 211
abbrev m_X12_isSign : Nat := 212
abbrev m_X12_text : Nat := 213
abbrev m_X12_wrongAt : Nat := 214
abbrev m_X12_wrong : Nat := 215
abbrev m_X12_readBy : Nat := 216
abbrev m_X12_joined : Nat := 217
abbrev m_X12_isLet : Nat := 218
abbrev m_X12_lets : Nat := 219
abbrev m_X12_flood : Nat := 220
abbrev m_X12_pace : Nat := 221
abbrev m_X12_minuteOf : Nat := 222
abbrev m_X12_rescues : Nat := 223
abbrev m_X12_findRescue : Nat := 224
abbrev m_X12_rescue : Nat := 225
abbrev m_X12_rescued : Nat := 226
abbrev m_X12_note : Nat := 227
abbrev m_X12_hasKey : Nat := 228
abbrev m_X12_key : Nat := 229
abbrev m_X12_isSheet : Nat := 230
abbrev m_X12_sheet : Nat := 231
abbrev m_X12_put : Nat := 232
abbrev m_X12_copy : Nat := 233
abbrev m_X12_all : Nat := 234
abbrev m_J6_bitCount_0f7a4 : Nat := 235
abbrev m_J9_max_7cf53 : Nat := 236
abbrev m_J9_min_7cf53 : Nat := 237
abbrev m_J7_rangeCheck_23922 : Nat := 238
abbrev m_J7_fill_53178 : Nat := 239
abbrev m_J7_fill_fda19 : Nat := 240
abbrev m_L_law : Nat := 241
