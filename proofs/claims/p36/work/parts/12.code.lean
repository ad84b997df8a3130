def b_A_init_0 : List RI := [(.aload_n 0, []), (.invokespecial 3, [1000, 1, 0]), (.aload_n 0, []), (.bipush 99, []), (.newarray .int, [0]), (.putfield 9, [0, 0]), (.aload_n 0, []), (.bipush 99, []), (.newarray .boolean, [1]), (.putfield 15, [0, 1]), (.return_, [])]
def p_A_init (L : Nat) : List RI := cond (Nat.beq L 0) b_A_init_0 []
def b_A_follow_0 : List RI := [(.aload_n 1, []), (.getfield 19, [3, 4]), (.iconst 3, []), (.iaload, []), (.istore_n 2, []), (.iconst 0, []), (.istore_n 3, []), (.aload_n 0, []), (.iconst 0, []), (.putfield 24, [0, 2]), (.aload_n 0, []), (.iconst (-1), []), (.putfield 28, [0, 3]), (.iconst 0, []), (.istore 4, []), (.nop, [22])]
def b_A_follow_22 : List RI := [(.iload 4, []), (.aload_n 1, []), (.getfield 31, [3, 5]), (.if_icmp .ge 134, [162]), (.iload_n 3, []), (.aload_n 1, []), (.getfield 34, [3, 7]), (.iload 4, []), (.iaload, []), (.iadd, []), (.aload_n 1, []), (.getfield 37, [3, 8]), (.invokestatic 40, [1003, 2, 0]), (.istore 5, []), (.nop, [49])]
def b_A_follow_49 : List RI := [(.iload_n 3, []), (.iload 5, []), (.if_icmp .ge 104, [156]), (.aload_n 1, []), (.aload_n 1, []), (.getfield 46, [3, 6]), (.iload 4, []), (.iaload, []), (.invokestatic 49, [2, 2, 0]), (.istore 6, []), (.aload_n 0, []), (.getfield 15, [0, 1]), (.iload_n 3, []), (.iload_n 2, []), (.iload 6, []), (.iadd, []), (.ifCond .ge 7, [84]), (.iconst 1, []), (.goto 4, [85])]
def b_A_follow_84 : List RI := [(.iconst 0, []), (.nop, [85])]
def b_A_follow_85 : List RI := [(.bastore, []), (.aload_n 0, []), (.getfield 15, [0, 1]), (.iload_n 3, []), (.baload, []), (.ifCond .eq 33, [125]), (.aload_n 0, []), (.aload_n 0, []), (.getfield 24, [0, 2]), (.ifCond .ne 8, [108]), (.iload 4, []), (.goto 7, [112])]
def b_A_follow_108 : List RI := [(.aload_n 0, []), (.getfield 28, [0, 3]), (.nop, [112])]
def b_A_follow_112 : List RI := [(.putfield 28, [0, 3]), (.aload_n 0, []), (.dup, []), (.getfield 24, [0, 2]), (.iconst 1, []), (.iadd, []), (.putfield 24, [0, 2]), (.nop, [125])]
def b_A_follow_125 : List RI := [(.iload_n 2, []), (.iload 6, []), (.iadd, []), (.iconst 0, []), (.invokestatic 53, [1004, 2, 0]), (.aload_n 1, []), (.getfield 19, [3, 4]), (.iconst 3, []), (.iaload, []), (.invokestatic 40, [1003, 2, 0]), (.istore_n 2, []), (.aload_n 0, []), (.getfield 9, [0, 0]), (.iload_n 3, []), (.iload_n 2, []), (.iastore, []), (.iinc 3 1, []), (.goto (-104), [49])]
def b_A_follow_156 : List RI := [(.iinc 4 1, []), (.goto (-137), [22])]
def b_A_follow_162 : List RI := [(.return_, [])]
def p_A_follow (L : Nat) : List RI := cond (Nat.blt L 108) (cond (Nat.blt L 49) (cond (Nat.blt L 22) (cond (Nat.beq L 0) b_A_follow_0 []) (cond (Nat.beq L 22) b_A_follow_22 [])) (cond (Nat.blt L 84) (cond (Nat.beq L 49) b_A_follow_49 []) (cond (Nat.blt L 85) (cond (Nat.beq L 84) b_A_follow_84 []) (cond (Nat.beq L 85) b_A_follow_85 [])))) (cond (Nat.blt L 125) (cond (Nat.blt L 112) (cond (Nat.beq L 108) b_A_follow_108 []) (cond (Nat.beq L 112) b_A_follow_112 [])) (cond (Nat.blt L 156) (cond (Nat.beq L 125) b_A_follow_125 []) (cond (Nat.blt L 162) (cond (Nat.beq L 156) b_A_follow_156 []) (cond (Nat.beq L 162) b_A_follow_162 []))))
def b_A_changeIn_0 : List RI := [(.iload_n 1, []), (.bipush 9, []), (.if_icmp .ne 12, [15]), (.aload_n 0, []), (.getfield 19, [3, 4]), (.iconst 4, []), (.iaload, []), (.goto 14, [26])]
def b_A_changeIn_15 : List RI := [(.aload_n 0, []), (.getfield 56, [3, 3]), (.iload_n 1, []), (.iconst 4, []), (.imul, []), (.iconst 3, []), (.iadd, []), (.iaload, []), (.ineg, []), (.nop, [26])]
def b_A_changeIn_26 : List RI := [(.ireturn, [0])]
def p_A_changeIn (L : Nat) : List RI := cond (Nat.blt L 15) (cond (Nat.beq L 0) b_A_changeIn_0 []) (cond (Nat.blt L 26) (cond (Nat.beq L 15) b_A_changeIn_15 []) (cond (Nat.beq L 26) b_A_changeIn_26 []))
def b_P_init_0 : List RI := [(.aload_n 0, []), (.invokespecial 3, [1000, 1, 0]), (.aload_n 0, []), (.bipush 99, []), (.newarray .int, [0]), (.putfield 9, [1, 0]), (.aload_n 0, []), (.sipush 792, []), (.newarray .int, [0]), (.putfield 15, [1, 1]), (.aload_n 0, []), (.bipush 64, []), (.newarray .boolean, [1]), (.putfield 18, [1, 2]), (.aload_n 0, []), (.sipush 2376, []), (.newarray .int, [0]), (.putfield 22, [1, 3]), (.aload_n 0, []), (.bipush 24, []), (.newarray .int, [0]), (.putfield 25, [1, 4]), (.aload_n 0, []), (.bipush 24, []), (.newarray .int, [0]), (.putfield 28, [1, 5]), (.return_, [])]
def p_P_init (L : Nat) : List RI := cond (Nat.beq L 0) b_P_init_0 []
def b_P_prepare_0 : List RI := [(.aload_n 0, []), (.aload_n 1, []), (.getfield 31, [3, 8]), (.putfield 37, [1, 6]), (.aload_n 0, []), (.aload_n 1, []), (.getfield 38, [3, 0]), (.putfield 41, [1, 7]), (.aload_n 0, []), (.aload_n 1, []), (.getfield 42, [3, 4]), (.iconst 1, []), (.iaload, []), (.putfield 45, [1, 8]), (.aload_n 0, []), (.aload_n 1, []), (.aload_n 1, []), (.getfield 42, [3, 4]), (.iconst 0, []), (.iaload, []), (.invokevirtual 48, [6, 3, 11]), (.iconst 0, []), (.istore_n 2, []), (.iconst 0, []), (.istore_n 3, []), (.nop, [41])]
def b_P_prepare_41 : List RI := [(.iload_n 3, []), (.aload_n 1, []), (.getfield 52, [3, 5]), (.if_icmp .ge 50, [96]), (.iload_n 2, []), (.aload_n 1, []), (.getfield 55, [3, 7]), (.iload_n 3, []), (.iaload, []), (.iadd, []), (.aload_n 0, []), (.getfield 37, [1, 6]), (.invokestatic 58, [1003, 2, 0]), (.istore 4, []), (.nop, [66])]
def b_P_prepare_66 : List RI := [(.iload_n 2, []), (.iload 4, []), (.if_icmp .ge 21, [90]), (.aload_n 0, []), (.aload_n 1, []), (.iload_n 2, []), (.aload_n 1, []), (.getfield 64, [3, 6]), (.iload_n 3, []), (.iaload, []), (.invokevirtual 67, [5, 4, 11]), (.iinc 2 1, []), (.goto (-21), [66])]
def b_P_prepare_90 : List RI := [(.iinc 3 1, []), (.goto (-52), [41])]
def b_P_prepare_96 : List RI := [(.return_, [])]
def p_P_prepare (L : Nat) : List RI := cond (Nat.blt L 66) (cond (Nat.blt L 41) (cond (Nat.beq L 0) b_P_prepare_0 []) (cond (Nat.beq L 41) b_P_prepare_41 [])) (cond (Nat.blt L 90) (cond (Nat.beq L 66) b_P_prepare_66 []) (cond (Nat.blt L 96) (cond (Nat.beq L 90) b_P_prepare_90 []) (cond (Nat.beq L 96) b_P_prepare_96 [])))
def b_P_fillCosts_0 : List RI := [(.iconst 0, []), (.istore 4, []), (.nop, [3])]
def b_P_fillCosts_3 : List RI := [(.iload 4, []), (.aload_n 0, []), (.getfield 41, [1, 7]), (.if_icmp .ge 28, [37]), (.aload_n 0, []), (.getfield 15, [1, 1]), (.iload_n 2, []), (.bipush 8, []), (.imul, []), (.iload 4, []), (.iadd, []), (.aload_n 1, []), (.iload_n 3, []), (.iload 4, []), (.invokevirtual 71, [35, 3, 13]), (.iastore, []), (.iinc 4 1, []), (.goto (-31), [3])]
def b_P_fillCosts_37 : List RI := [(.aload_n 1, []), (.getfield 74, [3, 9]), (.iload_n 2, []), (.iaload, []), (.bipush (-99), []), (.if_icmp .eq 14, [59]), (.aload_n 0, []), (.iload_n 2, []), (.aload_n 1, []), (.getfield 74, [3, 9]), (.iload_n 2, []), (.iaload, []), (.invokevirtual 77, [7, 3, 11]), (.nop, [59])]
def b_P_fillCosts_59 : List RI := [(.return_, [])]
def p_P_fillCosts (L : Nat) : List RI := cond (Nat.blt L 37) (cond (Nat.blt L 3) (cond (Nat.beq L 0) b_P_fillCosts_0 []) (cond (Nat.beq L 3) b_P_fillCosts_3 [])) (cond (Nat.blt L 59) (cond (Nat.beq L 37) b_P_fillCosts_37 []) (cond (Nat.beq L 59) b_P_fillCosts_59 []))
def b_P_useSpeed_0 : List RI := [(.iconst 0, []), (.istore_n 3, []), (.nop, [2])]
def b_P_useSpeed_2 : List RI := [(.iload_n 3, []), (.aload_n 0, []), (.getfield 41, [1, 7]), (.if_icmp .ge 55, [62]), (.iconst 0, []), (.istore 4, []), (.nop, [13])]
def b_P_useSpeed_13 : List RI := [(.iload 4, []), (.aload_n 0, []), (.getfield 41, [1, 7]), (.if_icmp .ge 37, [56]), (.aload_n 0, []), (.getfield 18, [1, 2]), (.iload_n 3, []), (.bipush 8, []), (.imul, []), (.iload 4, []), (.iadd, []), (.aload_n 1, []), (.iload_n 3, []), (.iload 4, []), (.invokevirtual 81, [32, 3, 13]), (.iload_n 2, []), (.if_icmp .gt 7, [48]), (.iconst 1, []), (.goto 4, [49])]
def b_P_useSpeed_48 : List RI := [(.iconst 0, []), (.nop, [49])]
def b_P_useSpeed_49 : List RI := [(.bastore, []), (.iinc 4 1, []), (.goto (-40), [13])]
def b_P_useSpeed_56 : List RI := [(.iinc 3 1, []), (.goto (-57), [2])]
def b_P_useSpeed_62 : List RI := [(.return_, [])]
def p_P_useSpeed (L : Nat) : List RI := cond (Nat.blt L 48) (cond (Nat.blt L 2) (cond (Nat.beq L 0) b_P_useSpeed_0 []) (cond (Nat.blt L 13) (cond (Nat.beq L 2) b_P_useSpeed_2 []) (cond (Nat.beq L 13) b_P_useSpeed_13 []))) (cond (Nat.blt L 56) (cond (Nat.blt L 49) (cond (Nat.beq L 48) b_P_useSpeed_48 []) (cond (Nat.beq L 49) b_P_useSpeed_49 [])) (cond (Nat.blt L 62) (cond (Nat.beq L 56) b_P_useSpeed_56 []) (cond (Nat.beq L 62) b_P_useSpeed_62 [])))
def b_P_barOthers_0 : List RI := [(.iconst 0, []), (.istore_n 3, []), (.nop, [2])]
def b_P_barOthers_2 : List RI := [(.iload_n 3, []), (.aload_n 0, []), (.getfield 41, [1, 7]), (.if_icmp .ge 27, [34]), (.iload_n 3, []), (.iload_n 2, []), (.if_icmp .eq 16, [28]), (.aload_n 0, []), (.getfield 15, [1, 1]), (.iload_n 1, []), (.bipush 8, []), (.imul, []), (.iload_n 3, []), (.iadd, []), (.ldc 84, [1000000]), (.iastore, []), (.nop, [28])]
def b_P_barOthers_28 : List RI := [(.iinc 3 1, []), (.goto (-29), [2])]
def b_P_barOthers_34 : List RI := [(.return_, [])]
def p_P_barOthers (L : Nat) : List RI := cond (Nat.blt L 28) (cond (Nat.blt L 2) (cond (Nat.beq L 0) b_P_barOthers_0 []) (cond (Nat.beq L 2) b_P_barOthers_2 [])) (cond (Nat.blt L 34) (cond (Nat.beq L 28) b_P_barOthers_28 []) (cond (Nat.beq L 34) b_P_barOthers_34 []))
def b_P_leastFromEnd_0 : List RI := [(.aload_n 0, []), (.getfield 37, [1, 6]), (.ifCond .ne 5, [9]), (.iconst 0, []), (.ireturn, [0])]
def b_P_leastFromEnd_9 : List RI := [(.aload_n 0, []), (.getfield 37, [1, 6]), (.iconst 1, []), (.isub, []), (.istore_n 1, []), (.nop, [16])]
def b_P_leastFromEnd_16 : List RI := [(.iload_n 1, []), (.ifCond .lt 31, [48]), (.iconst 0, []), (.istore_n 2, []), (.nop, [22])]
def b_P_leastFromEnd_22 : List RI := [(.iload_n 2, []), (.aload_n 0, []), (.getfield 41, [1, 7]), (.if_icmp .ge 15, [42]), (.aload_n 0, []), (.iload_n 1, []), (.iload_n 2, []), (.invokevirtual 85, [9, 3, 11]), (.iinc 2 1, []), (.goto (-17), [22])]
def b_P_leastFromEnd_42 : List RI := [(.iinc 1 (-1), []), (.goto (-29), [16])]
def b_P_leastFromEnd_48 : List RI := [(.ldc 84, [1000000]), (.istore_n 1, []), (.iconst 0, []), (.istore_n 2, []), (.nop, [53])]
def b_P_leastFromEnd_53 : List RI := [(.iload_n 2, []), (.aload_n 0, []), (.getfield 41, [1, 7]), (.if_icmp .ge 22, [80]), (.iload_n 1, []), (.aload_n 0, []), (.getfield 22, [1, 3]), (.iload_n 2, []), (.iconst 3, []), (.imul, []), (.iaload, []), (.invokestatic 58, [1003, 2, 0]), (.istore_n 1, []), (.iinc 2 1, []), (.goto (-24), [53])]
def b_P_leastFromEnd_80 : List RI := [(.iload_n 1, []), (.ldc 84, [1000000]), (.if_icmp .ge 7, [90]), (.iload_n 1, []), (.goto 5, [92])]
def b_P_leastFromEnd_90 : List RI := [(.bipush (-99), []), (.nop, [92])]
def b_P_leastFromEnd_92 : List RI := [(.ireturn, [0])]
def p_P_leastFromEnd (L : Nat) : List RI := cond (Nat.blt L 48) (cond (Nat.blt L 16) (cond (Nat.blt L 9) (cond (Nat.beq L 0) b_P_leastFromEnd_0 []) (cond (Nat.beq L 9) b_P_leastFromEnd_9 [])) (cond (Nat.blt L 22) (cond (Nat.beq L 16) b_P_leastFromEnd_16 []) (cond (Nat.blt L 42) (cond (Nat.beq L 22) b_P_leastFromEnd_22 []) (cond (Nat.beq L 42) b_P_leastFromEnd_42 [])))) (cond (Nat.blt L 80) (cond (Nat.blt L 53) (cond (Nat.beq L 48) b_P_leastFromEnd_48 []) (cond (Nat.beq L 53) b_P_leastFromEnd_53 [])) (cond (Nat.blt L 90) (cond (Nat.beq L 80) b_P_leastFromEnd_80 []) (cond (Nat.blt L 92) (cond (Nat.beq L 90) b_P_leastFromEnd_90 []) (cond (Nat.beq L 92) b_P_leastFromEnd_92 []))))
def b_P_fillRest_0 : List RI := [(.iload_n 1, []), (.bipush 8, []), (.imul, []), (.iload_n 2, []), (.iadd, []), (.iconst 3, []), (.imul, []), (.istore_n 3, []), (.iload_n 1, []), (.aload_n 0, []), (.getfield 37, [1, 6]), (.iconst 1, []), (.isub, []), (.if_icmp .ne 7, [23]), (.iconst 1, []), (.goto 4, [24])]
def b_P_fillRest_23 : List RI := [(.iconst 0, []), (.nop, [24])]
def b_P_fillRest_24 : List RI := [(.istore 4, []), (.iconst 0, []), (.istore 5, []), (.nop, [29])]
def b_P_fillRest_29 : List RI := [(.iload 5, []), (.aload_n 0, []), (.getfield 45, [1, 8]), (.if_icmp .ge 95, [130]), (.iload 4, []), (.ifCond .eq 7, [47]), (.iconst 0, []), (.goto 19, [63])]
def b_P_fillRest_47 : List RI := [(.aload_n 0, []), (.getfield 22, [1, 3]), (.iload_n 3, []), (.bipush 24, []), (.iadd, []), (.aload_n 0, []), (.iload 5, []), (.invokevirtual 88, [11, 2, 11]), (.iadd, []), (.iaload, []), (.nop, [63])]
def b_P_fillRest_63 : List RI := [(.istore 6, []), (.iload 4, []), (.ifCond .ne 29, [96]), (.iload 5, []), (.aload_n 0, []), (.getfield 45, [1, 8]), (.iconst 1, []), (.isub, []), (.if_icmp .ne 18, [96]), (.iload 6, []), (.aload_n 0, []), (.iload_n 2, []), (.iload_n 1, []), (.iconst 1, []), (.iadd, []), (.invokevirtual 92, [10, 3, 11]), (.invokestatic 58, [1003, 2, 0]), (.istore 6, []), (.nop, [96])]
def b_P_fillRest_96 : List RI := [(.aload_n 0, []), (.getfield 22, [1, 3]), (.iload_n 3, []), (.iload 5, []), (.iadd, []), (.ldc 84, [1000000]), (.aload_n 0, []), (.getfield 15, [1, 1]), (.iload_n 1, []), (.bipush 8, []), (.imul, []), (.iload_n 2, []), (.iadd, []), (.iaload, []), (.iload 6, []), (.iadd, []), (.invokestatic 58, [1003, 2, 0]), (.iastore, []), (.iinc 5 1, []), (.goto (-98), [29])]
def b_P_fillRest_130 : List RI := [(.return_, [])]
def p_P_fillRest (L : Nat) : List RI := cond (Nat.blt L 47) (cond (Nat.blt L 24) (cond (Nat.blt L 23) (cond (Nat.beq L 0) b_P_fillRest_0 []) (cond (Nat.beq L 23) b_P_fillRest_23 [])) (cond (Nat.blt L 29) (cond (Nat.beq L 24) b_P_fillRest_24 []) (cond (Nat.beq L 29) b_P_fillRest_29 []))) (cond (Nat.blt L 96) (cond (Nat.blt L 63) (cond (Nat.beq L 47) b_P_fillRest_47 []) (cond (Nat.beq L 63) b_P_fillRest_63 [])) (cond (Nat.blt L 130) (cond (Nat.beq L 96) b_P_fillRest_96 []) (cond (Nat.beq L 130) b_P_fillRest_130 [])))
def b_P_leastOfLeaving_0 : List RI := [(.ldc 84, [1000000]), (.istore_n 3, []), (.iconst 0, []), (.istore 4, []), (.nop, [6])]
def b_P_leastOfLeaving_6 : List RI := [(.iload 4, []), (.aload_n 0, []), (.getfield 41, [1, 7]), (.if_icmp .ge 49, [61]), (.iload 4, []), (.iload_n 1, []), (.if_icmp .eq 37, [55]), (.aload_n 0, []), (.getfield 18, [1, 2]), (.iload_n 1, []), (.bipush 8, []), (.imul, []), (.iload 4, []), (.iadd, []), (.baload, []), (.ifCond .eq 22, [55]), (.iload_n 3, []), (.aload_n 0, []), (.getfield 22, [1, 3]), (.iload_n 2, []), (.bipush 8, []), (.imul, []), (.iload 4, []), (.iadd, []), (.iconst 3, []), (.imul, []), (.iaload, []), (.invokestatic 58, [1003, 2, 0]), (.istore_n 3, []), (.nop, [55])]
def b_P_leastOfLeaving_55 : List RI := [(.iinc 4 1, []), (.goto (-52), [6])]
def b_P_leastOfLeaving_61 : List RI := [(.iload_n 3, []), (.ireturn, [0])]
def p_P_leastOfLeaving (L : Nat) : List RI := cond (Nat.blt L 55) (cond (Nat.blt L 6) (cond (Nat.beq L 0) b_P_leastOfLeaving_0 []) (cond (Nat.beq L 6) b_P_leastOfLeaving_6 [])) (cond (Nat.blt L 61) (cond (Nat.beq L 55) b_P_leastOfLeaving_55 []) (cond (Nat.beq L 61) b_P_leastOfLeaving_61 []))
def b_P_longer_0 : List RI := [(.iload_n 1, []), (.iconst 1, []), (.iadd, []), (.aload_n 0, []), (.getfield 45, [1, 8]), (.iconst 1, []), (.isub, []), (.invokestatic 58, [1003, 2, 0]), (.ireturn, [0])]
def p_P_longer (L : Nat) : List RI := cond (Nat.beq L 0) b_P_longer_0 []
def b_P_leastFromStart_0 : List RI := [(.aload_n 0, []), (.getfield 37, [1, 6]), (.ifCond .ne 5, [9]), (.iconst 0, []), (.ireturn, [0])]
def b_P_leastFromStart_9 : List RI := [(.iconst 0, []), (.istore_n 1, []), (.nop, [11])]
def b_P_leastFromStart_11 : List RI := [(.iload_n 1, []), (.aload_n 0, []), (.getfield 37, [1, 6]), (.if_icmp .ge 46, [62]), (.aload_n 0, []), (.getfield 25, [1, 4]), (.iconst 0, []), (.aload_n 0, []), (.getfield 28, [1, 5]), (.iconst 0, []), (.bipush 24, []), (.invokestatic 95, [1001, 5, 0]), (.iconst 0, []), (.istore_n 2, []), (.nop, [36])]
def b_P_leastFromStart_36 : List RI := [(.iload_n 2, []), (.aload_n 0, []), (.getfield 41, [1, 7]), (.if_icmp .ge 15, [56]), (.aload_n 0, []), (.iload_n 1, []), (.iload_n 2, []), (.invokevirtual 101, [13, 3, 11]), (.iinc 2 1, []), (.goto (-17), [36])]
def b_P_leastFromStart_56 : List RI := [(.iinc 1 1, []), (.goto (-48), [11])]
def b_P_leastFromStart_62 : List RI := [(.ldc 84, [1000000]), (.istore_n 1, []), (.iconst 0, []), (.istore_n 2, []), (.nop, [67])]
def b_P_leastFromStart_67 : List RI := [(.iload_n 2, []), (.aload_n 0, []), (.getfield 41, [1, 7]), (.if_icmp .ge 40, [112]), (.iconst 0, []), (.istore_n 3, []), (.nop, [77])]
def b_P_leastFromStart_77 : List RI := [(.iload_n 3, []), (.aload_n 0, []), (.getfield 45, [1, 8]), (.if_icmp .ge 24, [106]), (.iload_n 1, []), (.aload_n 0, []), (.getfield 25, [1, 4]), (.iload_n 2, []), (.iconst 3, []), (.imul, []), (.iload_n 3, []), (.iadd, []), (.iaload, []), (.invokestatic 58, [1003, 2, 0]), (.istore_n 1, []), (.iinc 3 1, []), (.goto (-26), [77])]
def b_P_leastFromStart_106 : List RI := [(.iinc 2 1, []), (.goto (-42), [67])]
def b_P_leastFromStart_112 : List RI := [(.iload_n 1, []), (.ldc 84, [1000000]), (.if_icmp .ge 7, [122]), (.iload_n 1, []), (.goto 5, [124])]
def b_P_leastFromStart_122 : List RI := [(.bipush (-99), []), (.nop, [124])]
def b_P_leastFromStart_124 : List RI := [(.ireturn, [0])]
def p_P_leastFromStart (L : Nat) : List RI := cond (Nat.blt L 67) (cond (Nat.blt L 36) (cond (Nat.blt L 9) (cond (Nat.beq L 0) b_P_leastFromStart_0 []) (cond (Nat.blt L 11) (cond (Nat.beq L 9) b_P_leastFromStart_9 []) (cond (Nat.beq L 11) b_P_leastFromStart_11 []))) (cond (Nat.blt L 56) (cond (Nat.beq L 36) b_P_leastFromStart_36 []) (cond (Nat.blt L 62) (cond (Nat.beq L 56) b_P_leastFromStart_56 []) (cond (Nat.beq L 62) b_P_leastFromStart_62 [])))) (cond (Nat.blt L 112) (cond (Nat.blt L 77) (cond (Nat.beq L 67) b_P_leastFromStart_67 []) (cond (Nat.blt L 106) (cond (Nat.beq L 77) b_P_leastFromStart_77 []) (cond (Nat.beq L 106) b_P_leastFromStart_106 []))) (cond (Nat.blt L 122) (cond (Nat.beq L 112) b_P_leastFromStart_112 []) (cond (Nat.blt L 124) (cond (Nat.beq L 122) b_P_leastFromStart_122 []) (cond (Nat.beq L 124) b_P_leastFromStart_124 []))))
def b_P_fillHere_0 : List RI := [(.iload_n 2, []), (.iconst 3, []), (.imul, []), (.istore_n 3, []), (.iconst 0, []), (.istore 4, []), (.nop, [7])]
def b_P_fillHere_7 : List RI := [(.iload 4, []), (.aload_n 0, []), (.getfield 45, [1, 8]), (.if_icmp .ge 20, [33]), (.aload_n 0, []), (.getfield 25, [1, 4]), (.iload_n 3, []), (.iload 4, []), (.iadd, []), (.ldc 84, [1000000]), (.iastore, []), (.iinc 4 1, []), (.goto (-23), [7])]
def b_P_fillHere_33 : List RI := [(.aload_n 0, []), (.getfield 25, [1, 4]), (.iload_n 3, []), (.iload_n 1, []), (.ifCond .ne 7, [46]), (.iconst 0, []), (.goto 8, [51])]
def b_P_fillHere_46 : List RI := [(.aload_n 0, []), (.iload_n 2, []), (.invokevirtual 104, [14, 2, 11]), (.nop, [51])]
def b_P_fillHere_51 : List RI := [(.iastore, []), (.iload_n 1, []), (.ifCond .ne 7, [60]), (.iconst 0, []), (.goto 7, [64])]
def b_P_fillHere_60 : List RI := [(.aload_n 0, []), (.getfield 45, [1, 8]), (.nop, [64])]
def b_P_fillHere_64 : List RI := [(.istore 4, []), (.iconst 0, []), (.istore 5, []), (.nop, [69])]
def b_P_fillHere_69 : List RI := [(.iload 5, []), (.iload 4, []), (.if_icmp .ge 47, [120]), (.aload_n 0, []), (.getfield 25, [1, 4]), (.iload_n 3, []), (.aload_n 0, []), (.iload 5, []), (.invokevirtual 88, [11, 2, 11]), (.iadd, []), (.aload_n 0, []), (.getfield 25, [1, 4]), (.iload_n 3, []), (.aload_n 0, []), (.iload 5, []), (.invokevirtual 88, [11, 2, 11]), (.iadd, []), (.iaload, []), (.aload_n 0, []), (.getfield 28, [1, 5]), (.iload_n 3, []), (.iload 5, []), (.iadd, []), (.iaload, []), (.invokestatic 58, [1003, 2, 0]), (.iastore, []), (.iinc 5 1, []), (.goto (-48), [69])]
def b_P_fillHere_120 : List RI := [(.iconst 0, []), (.istore 5, []), (.nop, [123])]
def b_P_fillHere_123 : List RI := [(.iload 5, []), (.aload_n 0, []), (.getfield 45, [1, 8]), (.if_icmp .ge 44, [173]), (.aload_n 0, []), (.getfield 25, [1, 4]), (.iload_n 3, []), (.iload 5, []), (.iadd, []), (.ldc 84, [1000000]), (.aload_n 0, []), (.getfield 25, [1, 4]), (.iload_n 3, []), (.iload 5, []), (.iadd, []), (.iaload, []), (.aload_n 0, []), (.getfield 15, [1, 1]), (.iload_n 1, []), (.bipush 8, []), (.imul, []), (.iload_n 2, []), (.iadd, []), (.iaload, []), (.iadd, []), (.invokestatic 58, [1003, 2, 0]), (.iastore, []), (.iinc 5 1, []), (.goto (-47), [123])]
def b_P_fillHere_173 : List RI := [(.return_, [])]
def p_P_fillHere (L : Nat) : List RI := cond (Nat.blt L 60) (cond (Nat.blt L 33) (cond (Nat.blt L 7) (cond (Nat.beq L 0) b_P_fillHere_0 []) (cond (Nat.beq L 7) b_P_fillHere_7 [])) (cond (Nat.blt L 46) (cond (Nat.beq L 33) b_P_fillHere_33 []) (cond (Nat.blt L 51) (cond (Nat.beq L 46) b_P_fillHere_46 []) (cond (Nat.beq L 51) b_P_fillHere_51 [])))) (cond (Nat.blt L 120) (cond (Nat.blt L 64) (cond (Nat.beq L 60) b_P_fillHere_60 []) (cond (Nat.blt L 69) (cond (Nat.beq L 64) b_P_fillHere_64 []) (cond (Nat.beq L 69) b_P_fillHere_69 []))) (cond (Nat.blt L 123) (cond (Nat.beq L 120) b_P_fillHere_120 []) (cond (Nat.blt L 173) (cond (Nat.beq L 123) b_P_fillHere_123 []) (cond (Nat.beq L 173) b_P_fillHere_173 []))))
def b_P_leastOfEntering_0 : List RI := [(.ldc 84, [1000000]), (.istore_n 2, []), (.iconst 0, []), (.istore_n 3, []), (.nop, [5])]
def b_P_leastOfEntering_5 : List RI := [(.iload_n 3, []), (.aload_n 0, []), (.getfield 41, [1, 7]), (.if_icmp .ge 48, [58]), (.iload_n 3, []), (.iload_n 1, []), (.if_icmp .eq 37, [52]), (.aload_n 0, []), (.getfield 18, [1, 2]), (.iload_n 3, []), (.bipush 8, []), (.imul, []), (.iload_n 1, []), (.iadd, []), (.baload, []), (.ifCond .eq 23, [52]), (.iload_n 2, []), (.aload_n 0, []), (.getfield 28, [1, 5]), (.iload_n 3, []), (.iconst 3, []), (.imul, []), (.aload_n 0, []), (.getfield 45, [1, 8]), (.iadd, []), (.iconst 1, []), (.isub, []), (.iaload, []), (.invokestatic 58, [1003, 2, 0]), (.istore_n 2, []), (.nop, [52])]
def b_P_leastOfEntering_52 : List RI := [(.iinc 3 1, []), (.goto (-50), [5])]
def b_P_leastOfEntering_58 : List RI := [(.iload_n 2, []), (.ireturn, [0])]
def p_P_leastOfEntering (L : Nat) : List RI := cond (Nat.blt L 52) (cond (Nat.blt L 5) (cond (Nat.beq L 0) b_P_leastOfEntering_0 []) (cond (Nat.beq L 5) b_P_leastOfEntering_5 [])) (cond (Nat.blt L 58) (cond (Nat.beq L 52) b_P_leastOfEntering_52 []) (cond (Nat.beq L 58) b_P_leastOfEntering_58 []))
def b_P_choose_0 : List RI := [(.aload_n 0, []), (.invokevirtual 107, [8, 1, 11]), (.bipush (-99), []), (.if_icmp .ne 5, [11]), (.iconst 0, []), (.ireturn, [1])]
def b_P_choose_11 : List RI := [(.iconst 0, []), (.istore_n 1, []), (.iconst 0, []), (.istore_n 2, []), (.nop, [15])]
def b_P_choose_15 : List RI := [(.iload_n 2, []), (.aload_n 0, []), (.getfield 37, [1, 6]), (.if_icmp .ge 71, [91]), (.aload_n 0, []), (.getfield 9, [1, 0]), (.iload_n 2, []), (.iload_n 2, []), (.ifCond .ne 10, [39]), (.aload_n 0, []), (.invokevirtual 111, [16, 1, 11]), (.goto 17, [53])]
def b_P_choose_39 : List RI := [(.aload_n 0, []), (.iload_n 2, []), (.aload_n 0, []), (.getfield 9, [1, 0]), (.iload_n 2, []), (.iconst 1, []), (.isub, []), (.iaload, []), (.iload_n 1, []), (.invokevirtual 114, [17, 4, 11]), (.nop, [53])]
def b_P_choose_53 : List RI := [(.iastore, []), (.iload_n 2, []), (.ifCond .le 28, [83]), (.aload_n 0, []), (.getfield 9, [1, 0]), (.iload_n 2, []), (.iaload, []), (.aload_n 0, []), (.getfield 9, [1, 0]), (.iload_n 2, []), (.iconst 1, []), (.isub, []), (.iaload, []), (.if_icmp .ne 11, [83]), (.aload_n 0, []), (.iload_n 1, []), (.invokevirtual 88, [11, 2, 11]), (.goto 4, [84])]
def b_P_choose_83 : List RI := [(.iconst 0, []), (.nop, [84])]
def b_P_choose_84 : List RI := [(.istore_n 1, []), (.iinc 2 1, []), (.goto (-73), [15])]
def b_P_choose_91 : List RI := [(.iconst 1, []), (.ireturn, [1])]
def p_P_choose (L : Nat) : List RI := cond (Nat.blt L 53) (cond (Nat.blt L 15) (cond (Nat.blt L 11) (cond (Nat.beq L 0) b_P_choose_0 []) (cond (Nat.beq L 11) b_P_choose_11 [])) (cond (Nat.blt L 39) (cond (Nat.beq L 15) b_P_choose_15 []) (cond (Nat.beq L 39) b_P_choose_39 []))) (cond (Nat.blt L 84) (cond (Nat.blt L 83) (cond (Nat.beq L 53) b_P_choose_53 []) (cond (Nat.beq L 83) b_P_choose_83 [])) (cond (Nat.blt L 91) (cond (Nat.beq L 84) b_P_choose_84 []) (cond (Nat.beq L 91) b_P_choose_91 [])))
def b_P_bestFirst_0 : List RI := [(.iconst 0, []), (.istore_n 1, []), (.iconst 1, []), (.istore_n 2, []), (.nop, [4])]
def b_P_bestFirst_4 : List RI := [(.iload_n 2, []), (.aload_n 0, []), (.getfield 41, [1, 7]), (.if_icmp .ge 30, [39]), (.aload_n 0, []), (.getfield 22, [1, 3]), (.iload_n 2, []), (.iconst 3, []), (.imul, []), (.iaload, []), (.aload_n 0, []), (.getfield 22, [1, 3]), (.iload_n 1, []), (.iconst 3, []), (.imul, []), (.iaload, []), (.if_icmp .ge 5, [33]), (.iload_n 2, []), (.istore_n 1, []), (.nop, [33])]
def b_P_bestFirst_33 : List RI := [(.iinc 2 1, []), (.goto (-32), [4])]
def b_P_bestFirst_39 : List RI := [(.iload_n 1, []), (.ireturn, [0])]
def p_P_bestFirst (L : Nat) : List RI := cond (Nat.blt L 33) (cond (Nat.blt L 4) (cond (Nat.beq L 0) b_P_bestFirst_0 []) (cond (Nat.beq L 4) b_P_bestFirst_4 [])) (cond (Nat.blt L 39) (cond (Nat.beq L 33) b_P_bestFirst_33 []) (cond (Nat.beq L 39) b_P_bestFirst_39 []))
def b_P_bestNext_0 : List RI := [(.iload_n 2, []), (.istore 4, []), (.ldc 84, [1000000]), (.istore 5, []), (.iconst 0, []), (.istore 6, []), (.nop, [10])]
def b_P_bestNext_10 : List RI := [(.iload 6, []), (.aload_n 0, []), (.getfield 41, [1, 7]), (.if_icmp .ge 100, [116]), (.ldc 84, [1000000]), (.istore 7, []), (.iload 6, []), (.iload_n 2, []), (.if_icmp .ne 28, [54]), (.aload_n 0, []), (.getfield 22, [1, 3]), (.iload_n 1, []), (.bipush 8, []), (.imul, []), (.iload 6, []), (.iadd, []), (.iconst 3, []), (.imul, []), (.aload_n 0, []), (.iload_n 3, []), (.invokevirtual 88, [11, 2, 11]), (.iadd, []), (.iaload, []), (.istore 7, []), (.goto 44, [95])]
def b_P_bestNext_54 : List RI := [(.iload_n 3, []), (.aload_n 0, []), (.getfield 45, [1, 8]), (.iconst 1, []), (.isub, []), (.if_icmp .ne 34, [95]), (.aload_n 0, []), (.getfield 18, [1, 2]), (.iload_n 2, []), (.bipush 8, []), (.imul, []), (.iload 6, []), (.iadd, []), (.baload, []), (.ifCond .eq 19, [95]), (.aload_n 0, []), (.getfield 22, [1, 3]), (.iload_n 1, []), (.bipush 8, []), (.imul, []), (.iload 6, []), (.iadd, []), (.iconst 3, []), (.imul, []), (.iaload, []), (.istore 7, []), (.nop, [95])]
def b_P_bestNext_95 : List RI := [(.iload 7, []), (.iload 5, []), (.if_icmp .ge 11, [110]), (.iload 7, []), (.istore 5, []), (.iload 6, []), (.istore 4, []), (.nop, [110])]
def b_P_bestNext_110 : List RI := [(.iinc 6 1, []), (.goto (-103), [10])]
def b_P_bestNext_116 : List RI := [(.iload 4, []), (.ireturn, [0])]
def p_P_bestNext (L : Nat) : List RI := cond (Nat.blt L 95) (cond (Nat.blt L 10) (cond (Nat.beq L 0) b_P_bestNext_0 []) (cond (Nat.blt L 54) (cond (Nat.beq L 10) b_P_bestNext_10 []) (cond (Nat.beq L 54) b_P_bestNext_54 []))) (cond (Nat.blt L 110) (cond (Nat.beq L 95) b_P_bestNext_95 []) (cond (Nat.blt L 116) (cond (Nat.beq L 110) b_P_bestNext_110 []) (cond (Nat.beq L 116) b_P_bestNext_116 [])))
def b_R_init_0 : List RI := [(.aload_n 0, []), (.invokespecial 3, [1000, 1, 0]), (.aload_n 0, []), (.iconst (-1), []), (.putfield 9, [2, 0]), (.aload_n 0, []), (.iconst 0, []), (.newarray .int, [0]), (.putfield 15, [2, 1]), (.return_, [])]
def p_R_init (L : Nat) : List RI := cond (Nat.beq L 0) b_R_init_0 []
def b_R_readItems_0 : List RI := [(.aload_n 0, []), (.aload_n 1, []), (.putfield 15, [2, 1]), (.aload_n 0, []), (.iload_n 2, []), (.aload_n 1, []), (.arraylength, []), (.invokestatic 19, [1003, 2, 0]), (.putfield 25, [2, 2]), (.aload_n 0, []), (.iconst 0, []), (.putfield 28, [2, 3]), (.aload_n 0, []), (.iconst (-1), []), (.putfield 9, [2, 0]), (.iconst 0, []), (.istore 4, []), (.aload_n 0, []), (.invokevirtual 31, [22, 1, 12]), (.nop, [32])]
def b_R_readItems_32 : List RI := [(.aload_n 0, []), (.getfield 9, [2, 0]), (.iconst (-1), []), (.if_icmp .ne 36, [73]), (.aload_n 0, []), (.getfield 28, [2, 3]), (.aload_n 0, []), (.getfield 25, [2, 2]), (.if_icmp .ge 25, [73]), (.iload 4, []), (.bipush 30, []), (.if_icmp .gt 18, [73]), (.aload_n 0, []), (.aload_n 3, []), (.invokevirtual 34, [20, 2, 12]), (.iinc 4 1, []), (.aload_n 0, []), (.invokevirtual 31, [22, 1, 12]), (.goto (-38), [32])]
def b_R_readItems_73 : List RI := [(.iload 4, []), (.ireturn, [0])]
def p_R_readItems (L : Nat) : List RI := cond (Nat.blt L 32) (cond (Nat.beq L 0) b_R_readItems_0 []) (cond (Nat.blt L 73) (cond (Nat.beq L 32) b_R_readItems_32 []) (cond (Nat.beq L 73) b_R_readItems_73 []))
def b_R_readItem_0 : List RI := [(.aload_n 0, []), (.getfield 15, [2, 1]), (.aload_n 0, []), (.getfield 28, [2, 3]), (.iaload, []), (.invokestatic 38, [24, 1, 0]), (.istore_n 2, []), (.iload_n 2, []), (.iconst (-1), []), (.if_icmp .eq 12, [27]), (.aload_n 1, []), (.getfield 42, [3, 5]), (.bipush 30, []), (.if_icmp .lt 12, [36]), (.nop, [27])]
def b_R_readItem_27 : List RI := [(.aload_n 0, []), (.aload_n 0, []), (.getfield 28, [2, 3]), (.putfield 9, [2, 0]), (.return_, [])]
def b_R_readItem_36 : List RI := [(.aload_n 0, []), (.dup, []), (.getfield 28, [2, 3]), (.iconst 1, []), (.iadd, []), (.putfield 28, [2, 3]), (.aload_n 1, []), (.getfield 47, [3, 8]), (.istore_n 3, []), (.aload_n 0, []), (.iconst 1, []), (.bipush 20, []), (.bipush 99, []), (.iload_n 3, []), (.isub, []), (.invokestatic 19, [1003, 2, 0]), (.invokevirtual 50, [21, 3, 12]), (.istore 4, []), (.aload_n 0, []), (.getfield 9, [2, 0]), (.iconst (-1), []), (.if_icmp .eq 4, [76]), (.return_, [])]
def b_R_readItem_76 : List RI := [(.aload_n 1, []), (.aload_n 1, []), (.getfield 42, [3, 5]), (.iload_n 2, []), (.iload 4, []), (.invokevirtual 53, [41, 4, 13]), (.aload_n 0, []), (.invokevirtual 31, [22, 1, 12]), (.aload_n 0, []), (.getfield 28, [2, 3]), (.aload_n 0, []), (.getfield 25, [2, 2]), (.if_icmp .ge 56, [155]), (.aload_n 0, []), (.getfield 15, [2, 1]), (.aload_n 0, []), (.getfield 28, [2, 3]), (.iaload, []), (.bipush 33, []), (.if_icmp .ne 42, [155]), (.aload_n 0, []), (.dup, []), (.getfield 28, [2, 3]), (.iconst 1, []), (.iadd, []), (.putfield 28, [2, 3]), (.aload_n 0, []), (.iconst 0, []), (.aload_n 1, []), (.getfield 57, [3, 0]), (.iconst 1, []), (.isub, []), (.invokevirtual 50, [21, 3, 12]), (.istore 5, []), (.aload_n 0, []), (.getfield 9, [2, 0]), (.iconst (-1), []), (.if_icmp .ne 11, [155]), (.aload_n 1, []), (.getfield 60, [3, 9]), (.iload_n 3, []), (.iload 5, []), (.iastore, []), (.nop, [155])]
def b_R_readItem_155 : List RI := [(.return_, [])]
def p_R_readItem (L : Nat) : List RI := cond (Nat.blt L 36) (cond (Nat.blt L 27) (cond (Nat.beq L 0) b_R_readItem_0 []) (cond (Nat.beq L 27) b_R_readItem_27 [])) (cond (Nat.blt L 76) (cond (Nat.beq L 36) b_R_readItem_36 []) (cond (Nat.blt L 155) (cond (Nat.beq L 76) b_R_readItem_76 []) (cond (Nat.beq L 155) b_R_readItem_155 [])))
def b_R_readNumber_0 : List RI := [(.aload_n 0, []), (.invokevirtual 31, [22, 1, 12]), (.aload_n 0, []), (.getfield 28, [2, 3]), (.istore_n 3, []), (.iconst 0, []), (.istore 4, []), (.nop, [12])]
def b_R_readNumber_12 : List RI := [(.aload_n 0, []), (.getfield 28, [2, 3]), (.aload_n 0, []), (.getfield 25, [2, 2]), (.if_icmp .ge 57, [77]), (.aload_n 0, []), (.getfield 15, [2, 1]), (.aload_n 0, []), (.getfield 28, [2, 3]), (.iaload, []), (.invokestatic 63, [23, 1, 0]), (.ifCond .eq 42, [77]), (.sipush 1000, []), (.iload 4, []), (.bipush 10, []), (.imul, []), (.aload_n 0, []), (.getfield 15, [2, 1]), (.aload_n 0, []), (.getfield 28, [2, 3]), (.iaload, []), (.iadd, []), (.bipush 48, []), (.isub, []), (.invokestatic 19, [1003, 2, 0]), (.istore 4, []), (.aload_n 0, []), (.dup, []), (.getfield 28, [2, 3]), (.iconst 1, []), (.iadd, []), (.putfield 28, [2, 3]), (.goto (-62), [12])]
def b_R_readNumber_77 : List RI := [(.aload_n 0, []), (.getfield 28, [2, 3]), (.iload_n 3, []), (.iconst 1, []), (.iadd, []), (.if_icmp .le 18, [102]), (.aload_n 0, []), (.getfield 15, [2, 1]), (.iload_n 3, []), (.iaload, []), (.bipush 48, []), (.if_icmp .ne 7, [102]), (.iconst 1, []), (.goto 4, [103])]
def b_R_readNumber_102 : List RI := [(.iconst 0, []), (.nop, [103])]
def b_R_readNumber_103 : List RI := [(.istore 5, []), (.aload_n 0, []), (.getfield 28, [2, 3]), (.iload_n 3, []), (.if_icmp .eq 20, [130]), (.iload 5, []), (.ifCond .ne 15, [130]), (.iload 4, []), (.iload_n 1, []), (.if_icmp .lt 9, [130]), (.iload 4, []), (.iload_n 2, []), (.if_icmp .le 8, [135]), (.nop, [130])]
def b_R_readNumber_130 : List RI := [(.aload_n 0, []), (.iload_n 3, []), (.putfield 9, [2, 0]), (.nop, [135])]
def b_R_readNumber_135 : List RI := [(.iload 4, []), (.ireturn, [0])]
def p_R_readNumber (L : Nat) : List RI := cond (Nat.blt L 102) (cond (Nat.blt L 12) (cond (Nat.beq L 0) b_R_readNumber_0 []) (cond (Nat.blt L 77) (cond (Nat.beq L 12) b_R_readNumber_12 []) (cond (Nat.beq L 77) b_R_readNumber_77 []))) (cond (Nat.blt L 130) (cond (Nat.blt L 103) (cond (Nat.beq L 102) b_R_readNumber_102 []) (cond (Nat.beq L 103) b_R_readNumber_103 [])) (cond (Nat.blt L 135) (cond (Nat.beq L 130) b_R_readNumber_130 []) (cond (Nat.beq L 135) b_R_readNumber_135 [])))
def b_R_skipSpaces_0 : List RI := [(.aload_n 0, []), (.getfield 28, [2, 3]), (.aload_n 0, []), (.getfield 25, [2, 2]), (.if_icmp .ge 30, [38]), (.aload_n 0, []), (.getfield 15, [2, 1]), (.aload_n 0, []), (.getfield 28, [2, 3]), (.iaload, []), (.bipush 32, []), (.if_icmp .ne 16, [38]), (.aload_n 0, []), (.dup, []), (.getfield 28, [2, 3]), (.iconst 1, []), (.iadd, []), (.putfield 28, [2, 3]), (.goto (-35), [0])]
def b_R_skipSpaces_38 : List RI := [(.return_, [])]
def p_R_skipSpaces (L : Nat) : List RI := cond (Nat.blt L 38) (cond (Nat.beq L 0) b_R_skipSpaces_0 []) (cond (Nat.beq L 38) b_R_skipSpaces_38 [])
def b_R_isDigit_0 : List RI := [(.iload_n 0, []), (.bipush 48, []), (.if_icmp .lt 13, [16]), (.iload_n 0, []), (.bipush 57, []), (.if_icmp .gt 7, [16]), (.iconst 1, []), (.goto 4, [17])]
def b_R_isDigit_16 : List RI := [(.iconst 0, []), (.nop, [17])]
def b_R_isDigit_17 : List RI := [(.ireturn, [1])]
def p_R_isDigit (L : Nat) : List RI := cond (Nat.blt L 16) (cond (Nat.beq L 0) b_R_isDigit_0 []) (cond (Nat.blt L 17) (cond (Nat.beq L 16) b_R_isDigit_16 []) (cond (Nat.beq L 17) b_R_isDigit_17 []))
def b_R_kindOf_0 : List RI := [(.iload_n 0, []), (.bipush 46, []), (.if_icmp .ne 6, [9]), (.bipush 9, []), (.ireturn, [0])]
def b_R_kindOf_9 : List RI := [(.iload_n 0, []), (.bipush 97, []), (.if_icmp .lt 16, [28]), (.iload_n 0, []), (.bipush 105, []), (.if_icmp .gt 10, [28]), (.iload_n 0, []), (.bipush 97, []), (.isub, []), (.goto 4, [29])]
def b_R_kindOf_28 : List RI := [(.iconst (-1), []), (.nop, [29])]
def b_R_kindOf_29 : List RI := [(.ireturn, [0])]
def p_R_kindOf (L : Nat) : List RI := cond (Nat.blt L 28) (cond (Nat.blt L 9) (cond (Nat.beq L 0) b_R_kindOf_0 []) (cond (Nat.beq L 9) b_R_kindOf_9 [])) (cond (Nat.blt L 29) (cond (Nat.beq L 28) b_R_kindOf_28 []) (cond (Nat.beq L 29) b_R_kindOf_29 []))
def b_S_init_0 : List RI := [(.aload_n 0, []), (.invokespecial 3, [1000, 1, 0]), (.aload_n 0, []), (.bipush 8, []), (.newarray .int, [0]), (.putfield 9, [3, 1]), (.aload_n 0, []), (.bipush 8, []), (.newarray .int, [0]), (.putfield 15, [3, 2]), (.aload_n 0, []), (.bipush 36, []), (.newarray .int, [0]), (.putfield 18, [3, 3]), (.aload_n 0, []), (.iconst 5, []), (.newarray .int, [0]), (.putfield 21, [3, 4]), (.aload_n 0, []), (.bipush 30, []), (.newarray .int, [0]), (.putfield 24, [3, 6]), (.aload_n 0, []), (.bipush 30, []), (.newarray .int, [0]), (.putfield 27, [3, 7]), (.aload_n 0, []), (.bipush 99, []), (.newarray .int, [0]), (.putfield 30, [3, 9]), (.aload_n 0, []), (.bipush 99, []), (.newarray .int, [0]), (.putfield 33, [3, 10]), (.aload_n 0, []), (.iconst 1, []), (.putfield 36, [3, 0]), (.aload_n 0, []), (.getfield 15, [3, 2]), (.iconst 0, []), (.iconst 4, []), (.iastore, []), (.iconst 0, []), (.istore_n 1, []), (.nop, [81])]
def b_S_init_81 : List RI := [(.iload_n 1, []), (.bipush 36, []), (.if_icmp .ge 22, [106]), (.aload_n 0, []), (.getfield 18, [3, 3]), (.iload_n 1, []), (.getstatic 40, [0]), (.iload_n 1, []), (.iconst 4, []), (.irem, []), (.iaload, []), (.iastore, []), (.iinc 1 1, []), (.goto (-22), [81])]
def b_S_init_106 : List RI := [(.iconst 0, []), (.istore_n 1, []), (.nop, [108])]
def b_S_init_108 : List RI := [(.iload_n 1, []), (.iconst 5, []), (.if_icmp .ge 20, [130]), (.aload_n 0, []), (.getfield 21, [3, 4]), (.iload_n 1, []), (.getstatic 43, [1]), (.iload_n 1, []), (.iaload, []), (.iastore, []), (.iinc 1 1, []), (.goto (-19), [108])]
def b_S_init_130 : List RI := [(.return_, [])]
def p_S_init (L : Nat) : List RI := cond (Nat.blt L 106) (cond (Nat.blt L 81) (cond (Nat.beq L 0) b_S_init_0 []) (cond (Nat.beq L 81) b_S_init_81 [])) (cond (Nat.blt L 108) (cond (Nat.beq L 106) b_S_init_106 []) (cond (Nat.blt L 130) (cond (Nat.beq L 108) b_S_init_108 []) (cond (Nat.beq L 130) b_S_init_130 [])))
def b_S_copyFrom_0 : List RI := [(.aload_n 0, []), (.aload_n 1, []), (.getfield 36, [3, 0]), (.putfield 36, [3, 0]), (.aload_n 0, []), (.aload_n 1, []), (.getfield 46, [3, 5]), (.putfield 46, [3, 5]), (.aload_n 0, []), (.aload_n 1, []), (.getfield 49, [3, 8]), (.putfield 49, [3, 8]), (.aload_n 1, []), (.getfield 9, [3, 1]), (.iconst 0, []), (.aload_n 0, []), (.getfield 9, [3, 1]), (.iconst 0, []), (.bipush 8, []), (.invokestatic 52, [1001, 5, 0]), (.aload_n 1, []), (.getfield 15, [3, 2]), (.iconst 0, []), (.aload_n 0, []), (.getfield 15, [3, 2]), (.iconst 0, []), (.bipush 8, []), (.invokestatic 52, [1001, 5, 0]), (.aload_n 1, []), (.getfield 18, [3, 3]), (.iconst 0, []), (.aload_n 0, []), (.getfield 18, [3, 3]), (.iconst 0, []), (.bipush 36, []), (.invokestatic 52, [1001, 5, 0]), (.aload_n 1, []), (.getfield 21, [3, 4]), (.iconst 0, []), (.aload_n 0, []), (.getfield 21, [3, 4]), (.iconst 0, []), (.iconst 5, []), (.invokestatic 52, [1001, 5, 0]), (.aload_n 1, []), (.getfield 24, [3, 6]), (.iconst 0, []), (.aload_n 0, []), (.getfield 24, [3, 6]), (.iconst 0, []), (.bipush 30, []), (.invokestatic 52, [1001, 5, 0]), (.aload_n 1, []), (.getfield 27, [3, 7]), (.iconst 0, []), (.aload_n 0, []), (.getfield 27, [3, 7]), (.iconst 0, []), (.bipush 30, []), (.invokestatic 52, [1001, 5, 0]), (.aload_n 1, []), (.getfield 30, [3, 9]), (.iconst 0, []), (.aload_n 0, []), (.getfield 30, [3, 9]), (.iconst 0, []), (.bipush 99, []), (.invokestatic 52, [1001, 5, 0]), (.aload_n 1, []), (.getfield 33, [3, 10]), (.iconst 0, []), (.aload_n 0, []), (.getfield 33, [3, 10]), (.iconst 0, []), (.bipush 99, []), (.invokestatic 52, [1001, 5, 0]), (.return_, [])]
def p_S_copyFrom (L : Nat) : List RI := cond (Nat.beq L 0) b_S_copyFrom_0 []
def b_S_hasMouth_0 : List RI := [(.iload_n 1, []), (.ifCond .lt 15, [16]), (.iload_n 1, []), (.aload_n 0, []), (.getfield 36, [3, 0]), (.if_icmp .ge 7, [16]), (.iconst 1, []), (.goto 4, [17])]
def b_S_hasMouth_16 : List RI := [(.iconst 0, []), (.nop, [17])]
def b_S_hasMouth_17 : List RI := [(.ireturn, [1])]
def p_S_hasMouth (L : Nat) : List RI := cond (Nat.blt L 16) (cond (Nat.beq L 0) b_S_hasMouth_0 []) (cond (Nat.blt L 17) (cond (Nat.beq L 16) b_S_hasMouth_16 []) (cond (Nat.beq L 17) b_S_hasMouth_17 []))
def b_S_hasSegment_0 : List RI := [(.iload_n 1, []), (.ifCond .lt 15, [16]), (.iload_n 1, []), (.aload_n 0, []), (.getfield 46, [3, 5]), (.if_icmp .ge 7, [16]), (.iconst 1, []), (.goto 4, [17])]
def b_S_hasSegment_16 : List RI := [(.iconst 0, []), (.nop, [17])]
def b_S_hasSegment_17 : List RI := [(.ireturn, [1])]
def p_S_hasSegment (L : Nat) : List RI := cond (Nat.blt L 16) (cond (Nat.beq L 0) b_S_hasSegment_0 []) (cond (Nat.blt L 17) (cond (Nat.beq L 16) b_S_hasSegment_16 []) (cond (Nat.beq L 17) b_S_hasSegment_17 []))
def b_S_hasFrame_0 : List RI := [(.iload_n 1, []), (.ifCond .lt 15, [16]), (.iload_n 1, []), (.aload_n 0, []), (.getfield 49, [3, 8]), (.if_icmp .ge 7, [16]), (.iconst 1, []), (.goto 4, [17])]
def b_S_hasFrame_16 : List RI := [(.iconst 0, []), (.nop, [17])]
def b_S_hasFrame_17 : List RI := [(.ireturn, [1])]
def p_S_hasFrame (L : Nat) : List RI := cond (Nat.blt L 16) (cond (Nat.beq L 0) b_S_hasFrame_0 []) (cond (Nat.blt L 17) (cond (Nat.beq L 16) b_S_hasFrame_16 []) (cond (Nat.beq L 17) b_S_hasFrame_17 []))
def b_S_hasRoomFor_0 : List RI := [(.aload_n 0, []), (.getfield 46, [3, 5]), (.bipush 30, []), (.if_icmp .ge 18, [24]), (.aload_n 0, []), (.getfield 49, [3, 8]), (.iload_n 1, []), (.iadd, []), (.bipush 99, []), (.if_icmp .gt 7, [24]), (.iconst 1, []), (.goto 4, [25])]
def b_S_hasRoomFor_24 : List RI := [(.iconst 0, []), (.nop, [25])]
def b_S_hasRoomFor_25 : List RI := [(.ireturn, [1])]
def p_S_hasRoomFor (L : Nat) : List RI := cond (Nat.blt L 24) (cond (Nat.beq L 0) b_S_hasRoomFor_0 []) (cond (Nat.blt L 25) (cond (Nat.beq L 24) b_S_hasRoomFor_24 []) (cond (Nat.beq L 25) b_S_hasRoomFor_25 []))
def b_S_distanceOf_0 : List RI := [(.aload_n 0, []), (.getfield 9, [3, 1]), (.iload_n 1, []), (.iaload, []), (.iload_n 2, []), (.isub, []), (.invokestatic 58, [1002, 1, 0]), (.aload_n 0, []), (.getfield 15, [3, 2]), (.iload_n 1, []), (.iaload, []), (.iload_n 3, []), (.isub, []), (.invokestatic 58, [1002, 1, 0]), (.invokestatic 64, [1004, 2, 0]), (.ireturn, [0])]
def p_S_distanceOf (L : Nat) : List RI := cond (Nat.beq L 0) b_S_distanceOf_0 []
def b_S_jumpOf_0 : List RI := [(.aload_n 0, []), (.iload_n 1, []), (.aload_n 0, []), (.getfield 9, [3, 1]), (.iload_n 2, []), (.iaload, []), (.aload_n 0, []), (.getfield 15, [3, 2]), (.iload_n 2, []), (.iaload, []), (.invokevirtual 68, [31, 4, 13]), (.ireturn, [0])]
def p_S_jumpOf (L : Nat) : List RI := cond (Nat.beq L 0) b_S_jumpOf_0 []
def b_S_nearestOfAll_0 : List RI := [(.iconst 0, []), (.istore_n 3, []), (.iconst 1, []), (.istore 4, []), (.nop, [5])]
def b_S_nearestOfAll_5 : List RI := [(.iload 4, []), (.aload_n 0, []), (.getfield 36, [3, 0]), (.if_icmp .ge 30, [41]), (.aload_n 0, []), (.iload 4, []), (.iload_n 1, []), (.iload_n 2, []), (.invokevirtual 68, [31, 4, 13]), (.aload_n 0, []), (.iload_n 3, []), (.iload_n 1, []), (.iload_n 2, []), (.invokevirtual 68, [31, 4, 13]), (.if_icmp .ge 6, [35]), (.iload 4, []), (.istore_n 3, []), (.nop, [35])]
def b_S_nearestOfAll_35 : List RI := [(.iinc 4 1, []), (.goto (-33), [5])]
def b_S_nearestOfAll_41 : List RI := [(.iload_n 3, []), (.ireturn, [0])]
def p_S_nearestOfAll (L : Nat) : List RI := cond (Nat.blt L 35) (cond (Nat.blt L 5) (cond (Nat.beq L 0) b_S_nearestOfAll_0 []) (cond (Nat.beq L 5) b_S_nearestOfAll_5 [])) (cond (Nat.blt L 41) (cond (Nat.beq L 35) b_S_nearestOfAll_35 []) (cond (Nat.beq L 41) b_S_nearestOfAll_41 []))
def b_S_nearestWithin_0 : List RI := [(.iconst (-1), []), (.istore 4, []), (.iconst 0, []), (.istore 5, []), (.nop, [6])]
def b_S_nearestWithin_6 : List RI := [(.iload 5, []), (.aload_n 0, []), (.getfield 36, [3, 0]), (.if_icmp .ge 54, [66]), (.aload_n 0, []), (.iload_n 1, []), (.iload 5, []), (.invokevirtual 72, [32, 3, 13]), (.aload_n 0, []), (.getfield 21, [3, 4]), (.iconst 0, []), (.iaload, []), (.if_icmp .gt 32, [60]), (.iload 4, []), (.iconst (-1), []), (.if_icmp .eq 22, [56]), (.aload_n 0, []), (.iload 5, []), (.iload_n 2, []), (.iload_n 3, []), (.invokevirtual 68, [31, 4, 13]), (.aload_n 0, []), (.iload 4, []), (.iload_n 2, []), (.iload_n 3, []), (.invokevirtual 68, [31, 4, 13]), (.if_icmp .ge 7, [60]), (.nop, [56])]
def b_S_nearestWithin_56 : List RI := [(.iload 5, []), (.istore 4, []), (.nop, [60])]
def b_S_nearestWithin_60 : List RI := [(.iinc 5 1, []), (.goto (-57), [6])]
def b_S_nearestWithin_66 : List RI := [(.iload 4, []), (.iconst (-1), []), (.if_icmp .ne 7, [76]), (.iload_n 1, []), (.goto 5, [78])]
def b_S_nearestWithin_76 : List RI := [(.iload 4, []), (.nop, [78])]
def b_S_nearestWithin_78 : List RI := [(.ireturn, [0])]
def p_S_nearestWithin (L : Nat) : List RI := cond (Nat.blt L 60) (cond (Nat.blt L 6) (cond (Nat.beq L 0) b_S_nearestWithin_0 []) (cond (Nat.blt L 56) (cond (Nat.beq L 6) b_S_nearestWithin_6 []) (cond (Nat.beq L 56) b_S_nearestWithin_56 []))) (cond (Nat.blt L 76) (cond (Nat.blt L 66) (cond (Nat.beq L 60) b_S_nearestWithin_60 []) (cond (Nat.beq L 66) b_S_nearestWithin_66 [])) (cond (Nat.blt L 78) (cond (Nat.beq L 76) b_S_nearestWithin_76 []) (cond (Nat.beq L 78) b_S_nearestWithin_78 [])))
def b_S_wrongOf_0 : List RI := [(.iload_n 1, []), (.bipush 9, []), (.if_icmp .ne 24, [27]), (.bipush 9, []), (.iconst 0, []), (.aload_n 0, []), (.getfield 21, [3, 4]), (.iconst 2, []), (.iaload, []), (.aload_n 0, []), (.getfield 9, [3, 1]), (.iload_n 2, []), (.iaload, []), (.isub, []), (.invokestatic 64, [1004, 2, 0]), (.imul, []), (.ireturn, [0])]
def b_S_wrongOf_27 : List RI := [(.iload_n 1, []), (.iconst 4, []), (.imul, []), (.istore_n 3, []), (.aload_n 0, []), (.getfield 18, [3, 3]), (.iload_n 3, []), (.iconst 2, []), (.iadd, []), (.iaload, []), (.aload_n 0, []), (.getfield 9, [3, 1]), (.iload_n 2, []), (.iaload, []), (.aload_n 0, []), (.getfield 18, [3, 3]), (.iload_n 3, []), (.iconst 0, []), (.iadd, []), (.iaload, []), (.isub, []), (.invokestatic 58, [1002, 1, 0]), (.aload_n 0, []), (.getfield 15, [3, 2]), (.iload_n 2, []), (.iaload, []), (.aload_n 0, []), (.getfield 18, [3, 3]), (.iload_n 3, []), (.iconst 1, []), (.iadd, []), (.iaload, []), (.isub, []), (.invokestatic 58, [1002, 1, 0]), (.iadd, []), (.imul, []), (.ireturn, [0])]
def p_S_wrongOf (L : Nat) : List RI := cond (Nat.blt L 27) (cond (Nat.beq L 0) b_S_wrongOf_0 []) (cond (Nat.beq L 27) b_S_wrongOf_27 [])
def b_S_leastWrongFor_0 : List RI := [(.iconst 0, []), (.istore_n 2, []), (.iconst 1, []), (.istore_n 3, []), (.nop, [4])]
def b_S_leastWrongFor_4 : List RI := [(.iload_n 3, []), (.aload_n 0, []), (.getfield 36, [3, 0]), (.if_icmp .ge 26, [35]), (.aload_n 0, []), (.iload_n 1, []), (.iload_n 3, []), (.invokevirtual 75, [35, 3, 13]), (.aload_n 0, []), (.iload_n 1, []), (.iload_n 2, []), (.invokevirtual 75, [35, 3, 13]), (.if_icmp .ge 5, [29]), (.iload_n 3, []), (.istore_n 2, []), (.nop, [29])]
def b_S_leastWrongFor_29 : List RI := [(.iinc 3 1, []), (.goto (-28), [4])]
def b_S_leastWrongFor_35 : List RI := [(.iload_n 2, []), (.ireturn, [0])]
def p_S_leastWrongFor (L : Nat) : List RI := cond (Nat.blt L 29) (cond (Nat.blt L 4) (cond (Nat.beq L 0) b_S_leastWrongFor_0 []) (cond (Nat.beq L 4) b_S_leastWrongFor_4 [])) (cond (Nat.blt L 35) (cond (Nat.beq L 29) b_S_leastWrongFor_29 []) (cond (Nat.beq L 35) b_S_leastWrongFor_35 []))
def b_S_countSet_0 : List RI := [(.iconst 0, []), (.istore_n 2, []), (.iconst 0, []), (.istore_n 3, []), (.nop, [4])]
def b_S_countSet_4 : List RI := [(.iload_n 3, []), (.aload_n 0, []), (.getfield 49, [3, 8]), (.if_icmp .ge 20, [29]), (.aload_n 1, []), (.iload_n 3, []), (.iaload, []), (.bipush (-99), []), (.if_icmp .eq 6, [23]), (.iinc 2 1, []), (.nop, [23])]
def b_S_countSet_23 : List RI := [(.iinc 3 1, []), (.goto (-22), [4])]
def b_S_countSet_29 : List RI := [(.iload_n 2, []), (.ireturn, [0])]
def p_S_countSet (L : Nat) : List RI := cond (Nat.blt L 23) (cond (Nat.blt L 4) (cond (Nat.beq L 0) b_S_countSet_0 []) (cond (Nat.beq L 4) b_S_countSet_4 [])) (cond (Nat.blt L 29) (cond (Nat.beq L 23) b_S_countSet_23 []) (cond (Nat.beq L 29) b_S_countSet_29 []))
def b_S_firstFrameOf_0 : List RI := [(.iconst 0, []), (.istore_n 2, []), (.iconst 0, []), (.istore_n 3, []), (.nop, [4])]
def b_S_firstFrameOf_4 : List RI := [(.iload_n 3, []), (.iload_n 1, []), (.if_icmp .ge 18, [24]), (.iload_n 2, []), (.aload_n 0, []), (.getfield 27, [3, 7]), (.iload_n 3, []), (.iaload, []), (.iadd, []), (.istore_n 2, []), (.iinc 3 1, []), (.goto (-17), [4])]
def b_S_firstFrameOf_24 : List RI := [(.iload_n 2, []), (.ireturn, [0])]
def p_S_firstFrameOf (L : Nat) : List RI := cond (Nat.blt L 4) (cond (Nat.beq L 0) b_S_firstFrameOf_0 []) (cond (Nat.blt L 24) (cond (Nat.beq L 4) b_S_firstFrameOf_4 []) (cond (Nat.beq L 24) b_S_firstFrameOf_24 []))
def b_S_segmentAt_0 : List RI := [(.iconst 0, []), (.istore_n 2, []), (.iconst 0, []), (.istore_n 3, []), (.nop, [4])]
def b_S_segmentAt_4 : List RI := [(.iload_n 3, []), (.aload_n 0, []), (.getfield 46, [3, 5]), (.if_icmp .ge 25, [34]), (.iload_n 2, []), (.aload_n 0, []), (.getfield 27, [3, 7]), (.iload_n 3, []), (.iaload, []), (.iadd, []), (.istore_n 2, []), (.iload_n 1, []), (.iload_n 2, []), (.if_icmp .ge 5, [28]), (.iload_n 3, []), (.ireturn, [0])]
def b_S_segmentAt_28 : List RI := [(.iinc 3 1, []), (.goto (-27), [4])]
def b_S_segmentAt_34 : List RI := [(.iconst 0, []), (.ireturn, [0])]
def p_S_segmentAt (L : Nat) : List RI := cond (Nat.blt L 28) (cond (Nat.blt L 4) (cond (Nat.beq L 0) b_S_segmentAt_0 []) (cond (Nat.beq L 4) b_S_segmentAt_4 [])) (cond (Nat.blt L 34) (cond (Nat.beq L 28) b_S_segmentAt_28 []) (cond (Nat.beq L 34) b_S_segmentAt_34 []))
def b_S_kindAt_0 : List RI := [(.aload_n 0, []), (.getfield 24, [3, 6]), (.aload_n 0, []), (.iload_n 1, []), (.invokevirtual 78, [39, 2, 13]), (.iaload, []), (.ireturn, [0])]
def p_S_kindAt (L : Nat) : List RI := cond (Nat.beq L 0) b_S_kindAt_0 []
def b_S_openSegment_0 : List RI := [(.aload_n 0, []), (.aload_n 0, []), (.iload_n 1, []), (.invokevirtual 81, [38, 2, 13]), (.iload_n 3, []), (.invokevirtual 84, [43, 3, 13]), (.aload_n 0, []), (.getfield 46, [3, 5]), (.istore 4, []), (.nop, [16])]
def b_S_openSegment_16 : List RI := [(.iload 4, []), (.iload_n 1, []), (.if_icmp .le 41, [60]), (.aload_n 0, []), (.getfield 24, [3, 6]), (.iload 4, []), (.aload_n 0, []), (.getfield 24, [3, 6]), (.iload 4, []), (.iconst 1, []), (.isub, []), (.iaload, []), (.iastore, []), (.aload_n 0, []), (.getfield 27, [3, 7]), (.iload 4, []), (.aload_n 0, []), (.getfield 27, [3, 7]), (.iload 4, []), (.iconst 1, []), (.isub, []), (.iaload, []), (.iastore, []), (.iinc 4 (-1), []), (.goto (-41), [16])]
def b_S_openSegment_60 : List RI := [(.aload_n 0, []), (.getfield 24, [3, 6]), (.iload_n 1, []), (.iload_n 2, []), (.iastore, []), (.aload_n 0, []), (.getfield 27, [3, 7]), (.iload_n 1, []), (.iload_n 3, []), (.iastore, []), (.aload_n 0, []), (.dup, []), (.getfield 46, [3, 5]), (.iconst 1, []), (.iadd, []), (.putfield 46, [3, 5]), (.return_, [])]
def p_S_openSegment (L : Nat) : List RI := cond (Nat.blt L 16) (cond (Nat.beq L 0) b_S_openSegment_0 []) (cond (Nat.blt L 60) (cond (Nat.beq L 16) b_S_openSegment_16 []) (cond (Nat.beq L 60) b_S_openSegment_60 []))
def b_S_closeSegment_0 : List RI := [(.aload_n 0, []), (.aload_n 0, []), (.iload_n 1, []), (.invokevirtual 81, [38, 2, 13]), (.aload_n 0, []), (.getfield 27, [3, 7]), (.iload_n 1, []), (.iaload, []), (.invokevirtual 88, [44, 3, 13]), (.iload_n 1, []), (.iconst 1, []), (.iadd, []), (.istore_n 2, []), (.nop, [19])]
def b_S_closeSegment_19 : List RI := [(.iload_n 2, []), (.aload_n 0, []), (.getfield 46, [3, 5]), (.if_icmp .ge 37, [61]), (.aload_n 0, []), (.getfield 24, [3, 6]), (.iload_n 2, []), (.iconst 1, []), (.isub, []), (.aload_n 0, []), (.getfield 24, [3, 6]), (.iload_n 2, []), (.iaload, []), (.iastore, []), (.aload_n 0, []), (.getfield 27, [3, 7]), (.iload_n 2, []), (.iconst 1, []), (.isub, []), (.aload_n 0, []), (.getfield 27, [3, 7]), (.iload_n 2, []), (.iaload, []), (.iastore, []), (.iinc 2 1, []), (.goto (-39), [19])]
def b_S_closeSegment_61 : List RI := [(.aload_n 0, []), (.dup, []), (.getfield 46, [3, 5]), (.iconst 1, []), (.isub, []), (.putfield 46, [3, 5]), (.return_, [])]
def p_S_closeSegment (L : Nat) : List RI := cond (Nat.blt L 19) (cond (Nat.beq L 0) b_S_closeSegment_0 []) (cond (Nat.blt L 61) (cond (Nat.beq L 19) b_S_closeSegment_19 []) (cond (Nat.beq L 61) b_S_closeSegment_61 []))
def b_S_openFrames_0 : List RI := [(.aload_n 0, []), (.getfield 49, [3, 8]), (.iconst 1, []), (.isub, []), (.istore_n 3, []), (.nop, [7])]
def b_S_openFrames_7 : List RI := [(.iload_n 3, []), (.iload_n 1, []), (.if_icmp .lt 37, [46]), (.aload_n 0, []), (.getfield 30, [3, 9]), (.iload_n 3, []), (.iload_n 2, []), (.iadd, []), (.aload_n 0, []), (.getfield 30, [3, 9]), (.iload_n 3, []), (.iaload, []), (.iastore, []), (.aload_n 0, []), (.getfield 33, [3, 10]), (.iload_n 3, []), (.iload_n 2, []), (.iadd, []), (.aload_n 0, []), (.getfield 33, [3, 10]), (.iload_n 3, []), (.iaload, []), (.iastore, []), (.iinc 3 (-1), []), (.goto (-36), [7])]
def b_S_openFrames_46 : List RI := [(.iload_n 1, []), (.istore_n 3, []), (.nop, [48])]
def b_S_openFrames_48 : List RI := [(.iload_n 3, []), (.iload_n 1, []), (.iload_n 2, []), (.iadd, []), (.if_icmp .ge 25, [77]), (.aload_n 0, []), (.getfield 30, [3, 9]), (.iload_n 3, []), (.bipush (-99), []), (.iastore, []), (.aload_n 0, []), (.getfield 33, [3, 10]), (.iload_n 3, []), (.bipush (-99), []), (.iastore, []), (.iinc 3 1, []), (.goto (-26), [48])]
def b_S_openFrames_77 : List RI := [(.aload_n 0, []), (.dup, []), (.getfield 49, [3, 8]), (.iload_n 2, []), (.iadd, []), (.putfield 49, [3, 8]), (.return_, [])]
def p_S_openFrames (L : Nat) : List RI := cond (Nat.blt L 46) (cond (Nat.blt L 7) (cond (Nat.beq L 0) b_S_openFrames_0 []) (cond (Nat.beq L 7) b_S_openFrames_7 [])) (cond (Nat.blt L 48) (cond (Nat.beq L 46) b_S_openFrames_46 []) (cond (Nat.blt L 77) (cond (Nat.beq L 48) b_S_openFrames_48 []) (cond (Nat.beq L 77) b_S_openFrames_77 [])))
def b_S_closeFrames_0 : List RI := [(.iload_n 1, []), (.iload_n 2, []), (.iadd, []), (.istore_n 3, []), (.nop, [4])]
def b_S_closeFrames_4 : List RI := [(.iload_n 3, []), (.aload_n 0, []), (.getfield 49, [3, 8]), (.if_icmp .ge 37, [46]), (.aload_n 0, []), (.getfield 30, [3, 9]), (.iload_n 3, []), (.iload_n 2, []), (.isub, []), (.aload_n 0, []), (.getfield 30, [3, 9]), (.iload_n 3, []), (.iaload, []), (.iastore, []), (.aload_n 0, []), (.getfield 33, [3, 10]), (.iload_n 3, []), (.iload_n 2, []), (.isub, []), (.aload_n 0, []), (.getfield 33, [3, 10]), (.iload_n 3, []), (.iaload, []), (.iastore, []), (.iinc 3 1, []), (.goto (-39), [4])]
def b_S_closeFrames_46 : List RI := [(.aload_n 0, []), (.dup, []), (.getfield 49, [3, 8]), (.iload_n 2, []), (.isub, []), (.putfield 49, [3, 8]), (.return_, [])]
def p_S_closeFrames (L : Nat) : List RI := cond (Nat.blt L 4) (cond (Nat.beq L 0) b_S_closeFrames_0 []) (cond (Nat.blt L 46) (cond (Nat.beq L 4) b_S_closeFrames_4 []) (cond (Nat.beq L 46) b_S_closeFrames_46 []))
def b_T_init_0 : List RI := [(.aload_n 0, []), (.invokespecial 3, [1000, 1, 0]), (.aload_n 0, []), (.new 9, [3]), (.dup, []), (.invokespecial 11, [25, 1, 13]), (.putfield 12, [4, 0]), (.aload_n 0, []), (.iconst 2, []), (.anewarray 9, [3]), (.putfield 18, [4, 1]), (.iconst 0, []), (.istore_n 1, []), (.nop, [25])]
def b_T_init_25 : List RI := [(.iload_n 1, []), (.iconst 2, []), (.if_icmp .ge 22, [49]), (.aload_n 0, []), (.getfield 18, [4, 1]), (.iload_n 1, []), (.new 9, [3]), (.dup, []), (.invokespecial 11, [25, 1, 13]), (.aastore, []), (.iinc 1 1, []), (.goto (-21), [25])]
def b_T_init_49 : List RI := [(.aload_n 0, []), (.iconst 2, []), (.newarray .boolean, [1]), (.putfield 22, [4, 2]), (.return_, [])]
def p_T_init (L : Nat) : List RI := cond (Nat.blt L 25) (cond (Nat.beq L 0) b_T_init_0 []) (cond (Nat.blt L 49) (cond (Nat.beq L 25) b_T_init_25 []) (cond (Nat.beq L 49) b_T_init_49 []))
def b_T_copyFrom_0 : List RI := [(.aload_n 0, []), (.getfield 12, [4, 0]), (.aload_n 1, []), (.getfield 12, [4, 0]), (.invokevirtual 26, [26, 2, 13]), (.iconst 0, []), (.istore_n 2, []), (.nop, [13])]
def b_T_copyFrom_13 : List RI := [(.iload_n 2, []), (.iconst 2, []), (.if_icmp .ge 45, [60]), (.aload_n 0, []), (.getfield 22, [4, 2]), (.iload_n 2, []), (.aload_n 1, []), (.getfield 22, [4, 2]), (.iload_n 2, []), (.baload, []), (.bastore, []), (.aload_n 0, []), (.getfield 22, [4, 2]), (.iload_n 2, []), (.baload, []), (.ifCond .eq 18, [54]), (.aload_n 0, []), (.getfield 18, [4, 1]), (.iload_n 2, []), (.aaload, []), (.aload_n 1, []), (.getfield 18, [4, 1]), (.iload_n 2, []), (.aaload, []), (.invokevirtual 26, [26, 2, 13]), (.nop, [54])]
def b_T_copyFrom_54 : List RI := [(.iinc 2 1, []), (.goto (-44), [13])]
def b_T_copyFrom_60 : List RI := [(.return_, [])]
def p_T_copyFrom (L : Nat) : List RI := cond (Nat.blt L 54) (cond (Nat.blt L 13) (cond (Nat.beq L 0) b_T_copyFrom_0 []) (cond (Nat.beq L 13) b_T_copyFrom_13 [])) (cond (Nat.blt L 60) (cond (Nat.beq L 54) b_T_copyFrom_54 []) (cond (Nat.beq L 60) b_T_copyFrom_60 []))
def b_T_countTaken_0 : List RI := [(.iconst 0, []), (.istore_n 1, []), (.iconst 0, []), (.istore_n 2, []), (.nop, [4])]
def b_T_countTaken_4 : List RI := [(.iload_n 2, []), (.iconst 2, []), (.if_icmp .ge 21, [27]), (.aload_n 0, []), (.getfield 22, [4, 2]), (.iload_n 2, []), (.baload, []), (.ifCond .eq 6, [21]), (.iinc 1 1, []), (.nop, [21])]
def b_T_countTaken_21 : List RI := [(.iinc 2 1, []), (.goto (-20), [4])]
def b_T_countTaken_27 : List RI := [(.iload_n 1, []), (.ireturn, [0])]
def p_T_countTaken (L : Nat) : List RI := cond (Nat.blt L 21) (cond (Nat.blt L 4) (cond (Nat.beq L 0) b_T_countTaken_0 []) (cond (Nat.beq L 4) b_T_countTaken_4 [])) (cond (Nat.blt L 27) (cond (Nat.beq L 21) b_T_countTaken_21 []) (cond (Nat.beq L 27) b_T_countTaken_27 []))
def b_L_init_0 : List RI := [(.aload_n 0, []), (.invokespecial 1, [1000, 1, 0]), (.aload_n 0, []), (.new 7, [4]), (.dup, []), (.invokespecial 9, [45, 1, 14]), (.putfield 10, [5, 0]), (.aload_n 0, []), (.iconst 5, []), (.anewarray 7, [2]), (.putfield 16, [5, 1]), (.iconst 0, []), (.istore_n 1, []), (.nop, [25])]
def b_L_init_25 : List RI := [(.iload_n 1, []), (.iconst 5, []), (.if_icmp .ge 22, [49]), (.aload_n 0, []), (.getfield 16, [5, 1]), (.iload_n 1, []), (.new 7, [4]), (.dup, []), (.invokespecial 9, [45, 1, 14]), (.aastore, []), (.iinc 1 1, []), (.goto (-21), [25])]
def b_L_init_49 : List RI := [(.aload_n 0, []), (.iconst 0, []), (.putfield 20, [5, 2]), (.aload_n 0, []), (.new 24, [3]), (.dup, []), (.invokespecial 26, [25, 1, 13]), (.putfield 27, [5, 3]), (.aload_n 0, []), (.new 31, [0]), (.dup, []), (.invokespecial 33, [0, 1, 10]), (.putfield 34, [5, 4]), (.aload_n 0, []), (.new 38, [1]), (.dup, []), (.invokespecial 40, [3, 1, 11]), (.putfield 41, [5, 5]), (.aload_n 0, []), (.new 45, [2]), (.dup, []), (.invokespecial 47, [18, 1, 12]), (.putfield 48, [5, 6]), (.aload_n 0, []), (.bipush 120, []), (.newarray .int, [0]), (.putfield 52, [5, 7]), (.aload_n 0, []), (.iconst 0, []), (.putfield 56, [5, 8]), (.return_, [])]
def p_L_init (L : Nat) : List RI := cond (Nat.blt L 25) (cond (Nat.beq L 0) b_L_init_0 []) (cond (Nat.blt L 49) (cond (Nat.beq L 25) b_L_init_25 []) (cond (Nat.beq L 49) b_L_init_49 []))
def b_L_addMouth_0 : List RI := [(.aload_n 0, []), (.getfield 10, [5, 0]), (.getfield 59, [4, 0]), (.astore_n 3, []), (.iload_n 1, []), (.iconst 0, []), (.bipush 9, []), (.invokestatic 62, [81, 3, 0]), (.ifCond .ne 13, [28]), (.iload_n 2, []), (.iconst 0, []), (.bipush 9, []), (.invokestatic 62, [81, 3, 0]), (.ifCond .eq 5, [30]), (.nop, [28])]
def b_L_addMouth_28 : List RI := [(.iconst (-1), []), (.ireturn, [0])]
def b_L_addMouth_30 : List RI := [(.aload_n 3, []), (.getfield 66, [3, 0]), (.bipush 8, []), (.if_icmp .lt 6, [42]), (.bipush (-3), []), (.ireturn, [0])]
def b_L_addMouth_42 : List RI := [(.aload_n 0, []), (.invokevirtual 69, [82, 1, 15]), (.aload_n 3, []), (.getfield 72, [3, 1]), (.aload_n 3, []), (.getfield 66, [3, 0]), (.iload_n 1, []), (.iastore, []), (.aload_n 3, []), (.getfield 75, [3, 2]), (.aload_n 3, []), (.getfield 66, [3, 0]), (.iload_n 2, []), (.iastore, []), (.aload_n 3, []), (.dup, []), (.getfield 66, [3, 0]), (.iconst 1, []), (.iadd, []), (.putfield 66, [3, 0]), (.aload_n 3, []), (.getfield 66, [3, 0]), (.iconst 1, []), (.isub, []), (.ireturn, [0])]
def p_L_addMouth (L : Nat) : List RI := cond (Nat.blt L 30) (cond (Nat.blt L 28) (cond (Nat.beq L 0) b_L_addMouth_0 []) (cond (Nat.beq L 28) b_L_addMouth_28 [])) (cond (Nat.blt L 42) (cond (Nat.beq L 30) b_L_addMouth_30 []) (cond (Nat.beq L 42) b_L_addMouth_42 []))
def b_L_setMouth_0 : List RI := [(.aload_n 0, []), (.getfield 10, [5, 0]), (.getfield 59, [4, 0]), (.astore 4, []), (.aload 4, []), (.iload_n 1, []), (.invokevirtual 78, [27, 2, 13]), (.ifCond .eq 23, [38]), (.iload_n 2, []), (.iconst 0, []), (.bipush 9, []), (.invokestatic 62, [81, 3, 0]), (.ifCond .ne 13, [38]), (.iload_n 3, []), (.iconst 0, []), (.bipush 9, []), (.invokestatic 62, [81, 3, 0]), (.ifCond .eq 5, [40]), (.nop, [38])]
def b_L_setMouth_38 : List RI := [(.iconst (-1), []), (.ireturn, [0])]
def b_L_setMouth_40 : List RI := [(.aload_n 0, []), (.invokevirtual 69, [82, 1, 15]), (.aload 4, []), (.iload_n 1, []), (.iload_n 2, []), (.iload_n 3, []), (.invokevirtual 82, [31, 4, 13]), (.istore 5, []), (.aload 4, []), (.getfield 72, [3, 1]), (.iload_n 1, []), (.iload_n 2, []), (.iastore, []), (.aload 4, []), (.getfield 75, [3, 2]), (.iload_n 1, []), (.iload_n 3, []), (.iastore, []), (.iload 5, []), (.ireturn, [0])]
def p_L_setMouth (L : Nat) : List RI := cond (Nat.blt L 38) (cond (Nat.beq L 0) b_L_setMouth_0 []) (cond (Nat.blt L 40) (cond (Nat.beq L 38) b_L_setMouth_38 []) (cond (Nat.beq L 40) b_L_setMouth_40 []))
def b_L_setSound_0 : List RI := [(.iload_n 1, []), (.iconst 0, []), (.bipush 8, []), (.invokestatic 62, [81, 3, 0]), (.ifCond .ne 25, [32]), (.iload_n 2, []), (.iconst 0, []), (.iconst 3, []), (.invokestatic 62, [81, 3, 0]), (.ifCond .ne 16, [32]), (.iload_n 3, []), (.iconst 0, []), (.getstatic 86, [2]), (.iload_n 2, []), (.iaload, []), (.invokestatic 62, [81, 3, 0]), (.ifCond .eq 5, [34]), (.nop, [32])]
def b_L_setSound_32 : List RI := [(.iconst (-1), []), (.ireturn, [0])]
def b_L_setSound_34 : List RI := [(.aload_n 0, []), (.invokevirtual 69, [82, 1, 15]), (.iload_n 1, []), (.iconst 4, []), (.imul, []), (.iload_n 2, []), (.iadd, []), (.istore 4, []), (.aload_n 0, []), (.getfield 10, [5, 0]), (.getfield 59, [4, 0]), (.getfield 89, [3, 3]), (.iload 4, []), (.iaload, []), (.istore 5, []), (.aload_n 0, []), (.getfield 10, [5, 0]), (.getfield 59, [4, 0]), (.getfield 89, [3, 3]), (.iload 4, []), (.iload_n 3, []), (.iastore, []), (.iload 5, []), (.ireturn, [0])]
def p_L_setSound (L : Nat) : List RI := cond (Nat.blt L 32) (cond (Nat.beq L 0) b_L_setSound_0 []) (cond (Nat.blt L 34) (cond (Nat.beq L 32) b_L_setSound_32 []) (cond (Nat.beq L 34) b_L_setSound_34 []))
def b_L_setNumber_0 : List RI := [(.iload_n 1, []), (.iconst 0, []), (.iconst 4, []), (.invokestatic 62, [81, 3, 0]), (.ifCond .ne 20, [26]), (.iload_n 2, []), (.getstatic 92, [3]), (.iload_n 1, []), (.iaload, []), (.getstatic 95, [4]), (.iload_n 1, []), (.iaload, []), (.invokestatic 62, [81, 3, 0]), (.ifCond .eq 5, [28]), (.nop, [26])]
def b_L_setNumber_26 : List RI := [(.iconst (-1), []), (.ireturn, [0])]
def b_L_setNumber_28 : List RI := [(.aload_n 0, []), (.invokevirtual 69, [82, 1, 15]), (.aload_n 0, []), (.getfield 10, [5, 0]), (.getfield 59, [4, 0]), (.getfield 98, [3, 4]), (.iload_n 1, []), (.iaload, []), (.istore_n 3, []), (.aload_n 0, []), (.getfield 10, [5, 0]), (.getfield 59, [4, 0]), (.getfield 98, [3, 4]), (.iload_n 1, []), (.iload_n 2, []), (.iastore, []), (.iload_n 3, []), (.ireturn, [0])]
def p_L_setNumber (L : Nat) : List RI := cond (Nat.blt L 26) (cond (Nat.beq L 0) b_L_setNumber_0 []) (cond (Nat.blt L 28) (cond (Nat.beq L 26) b_L_setNumber_26 []) (cond (Nat.beq L 28) b_L_setNumber_28 []))
def b_L_insert_0 : List RI := [(.aload_n 0, []), (.getfield 10, [5, 0]), (.getfield 59, [4, 0]), (.astore 4, []), (.iload_n 1, []), (.iconst 0, []), (.aload 4, []), (.getfield 101, [3, 5]), (.invokestatic 62, [81, 3, 0]), (.ifCond .ne 23, [42]), (.iload_n 2, []), (.iconst 0, []), (.bipush 9, []), (.invokestatic 62, [81, 3, 0]), (.ifCond .ne 13, [42]), (.iload_n 3, []), (.iconst 1, []), (.bipush 20, []), (.invokestatic 62, [81, 3, 0]), (.ifCond .eq 5, [44]), (.nop, [42])]
def b_L_insert_42 : List RI := [(.iconst (-1), []), (.ireturn, [0])]
def b_L_insert_44 : List RI := [(.aload 4, []), (.iload_n 3, []), (.invokevirtual 104, [30, 2, 13]), (.ifCond .ne 6, [56]), (.bipush (-3), []), (.ireturn, [0])]
def b_L_insert_56 : List RI := [(.aload_n 0, []), (.invokevirtual 69, [82, 1, 15]), (.aload 4, []), (.iload_n 1, []), (.iload_n 2, []), (.iload_n 3, []), (.invokevirtual 107, [41, 4, 13]), (.aload 4, []), (.getfield 111, [3, 8]), (.ireturn, [0])]
def p_L_insert (L : Nat) : List RI := cond (Nat.blt L 44) (cond (Nat.blt L 42) (cond (Nat.beq L 0) b_L_insert_0 []) (cond (Nat.beq L 42) b_L_insert_42 [])) (cond (Nat.blt L 56) (cond (Nat.beq L 44) b_L_insert_44 []) (cond (Nat.beq L 56) b_L_insert_56 []))
def b_L_remove_0 : List RI := [(.aload_n 0, []), (.getfield 10, [5, 0]), (.getfield 59, [4, 0]), (.astore_n 2, []), (.aload_n 2, []), (.iload_n 1, []), (.invokevirtual 114, [28, 2, 13]), (.ifCond .ne 5, [18]), (.iconst (-1), []), (.ireturn, [0])]
def b_L_remove_18 : List RI := [(.aload_n 0, []), (.invokevirtual 69, [82, 1, 15]), (.aload_n 2, []), (.iload_n 1, []), (.invokevirtual 117, [42, 2, 13]), (.aload_n 2, []), (.getfield 111, [3, 8]), (.ireturn, [0])]
def p_L_remove (L : Nat) : List RI := cond (Nat.blt L 18) (cond (Nat.beq L 0) b_L_remove_0 []) (cond (Nat.beq L 18) b_L_remove_18 [])
def b_L_stretch_0 : List RI := [(.aload_n 0, []), (.getfield 10, [5, 0]), (.getfield 59, [4, 0]), (.astore_n 3, []), (.aload_n 3, []), (.iload_n 1, []), (.invokevirtual 114, [28, 2, 13]), (.ifCond .eq 13, [26]), (.iload_n 2, []), (.iconst 1, []), (.bipush 20, []), (.invokestatic 62, [81, 3, 0]), (.ifCond .eq 5, [28]), (.nop, [26])]
def b_L_stretch_26 : List RI := [(.iconst (-1), []), (.ireturn, [0])]
def b_L_stretch_28 : List RI := [(.aload_n 3, []), (.getfield 121, [3, 7]), (.iload_n 1, []), (.iaload, []), (.istore 4, []), (.aload_n 3, []), (.getfield 111, [3, 8]), (.iload 4, []), (.isub, []), (.iload_n 2, []), (.iadd, []), (.bipush 99, []), (.if_icmp .le 6, [53]), (.bipush (-3), []), (.ireturn, [0])]
def b_L_stretch_53 : List RI := [(.aload_n 0, []), (.invokevirtual 69, [82, 1, 15]), (.aload_n 3, []), (.iload_n 1, []), (.invokevirtual 124, [38, 2, 13]), (.istore 5, []), (.iload_n 2, []), (.iload 4, []), (.if_icmp .ge 18, [85]), (.aload_n 3, []), (.iload 5, []), (.iload_n 2, []), (.iadd, []), (.iload 4, []), (.iload_n 2, []), (.isub, []), (.invokevirtual 128, [44, 3, 13]), (.goto 16, [98])]
def b_L_stretch_85 : List RI := [(.aload_n 3, []), (.iload 5, []), (.iload 4, []), (.iadd, []), (.iload_n 2, []), (.iload 4, []), (.isub, []), (.invokevirtual 132, [43, 3, 13]), (.nop, [98])]
def b_L_stretch_98 : List RI := [(.aload_n 3, []), (.getfield 121, [3, 7]), (.iload_n 1, []), (.iload_n 2, []), (.iastore, []), (.iload 4, []), (.ireturn, [0])]
def p_L_stretch (L : Nat) : List RI := cond (Nat.blt L 53) (cond (Nat.blt L 26) (cond (Nat.beq L 0) b_L_stretch_0 []) (cond (Nat.blt L 28) (cond (Nat.beq L 26) b_L_stretch_26 []) (cond (Nat.beq L 28) b_L_stretch_28 []))) (cond (Nat.blt L 85) (cond (Nat.beq L 53) b_L_stretch_53 []) (cond (Nat.blt L 98) (cond (Nat.beq L 85) b_L_stretch_85 []) (cond (Nat.beq L 98) b_L_stretch_98 [])))
def b_L_pin_0 : List RI := [(.aload_n 0, []), (.getfield 10, [5, 0]), (.getfield 59, [4, 0]), (.astore_n 3, []), (.aload_n 3, []), (.iload_n 1, []), (.invokevirtual 135, [29, 2, 13]), (.ifCond .eq 16, [29]), (.iload_n 2, []), (.iconst (-1), []), (.if_icmp .eq 13, [31]), (.aload_n 3, []), (.iload_n 2, []), (.invokevirtual 78, [27, 2, 13]), (.ifCond .ne 5, [31]), (.nop, [29])]
def b_L_pin_29 : List RI := [(.iconst (-1), []), (.ireturn, [0])]
def b_L_pin_31 : List RI := [(.aload_n 0, []), (.invokevirtual 69, [82, 1, 15]), (.aload_n 3, []), (.getfield 138, [3, 9]), (.iload_n 1, []), (.iaload, []), (.istore 4, []), (.aload_n 3, []), (.getfield 138, [3, 9]), (.iload_n 1, []), (.iload_n 2, []), (.iconst (-1), []), (.if_icmp .ne 8, [58]), (.bipush (-99), []), (.goto 4, [59])]
def b_L_pin_58 : List RI := [(.iload_n 2, []), (.nop, [59])]
def b_L_pin_59 : List RI := [(.iastore, []), (.iload 4, []), (.ireturn, [0])]
def p_L_pin (L : Nat) : List RI := cond (Nat.blt L 31) (cond (Nat.blt L 29) (cond (Nat.beq L 0) b_L_pin_0 []) (cond (Nat.beq L 29) b_L_pin_29 [])) (cond (Nat.blt L 58) (cond (Nat.beq L 31) b_L_pin_31 []) (cond (Nat.blt L 59) (cond (Nat.beq L 58) b_L_pin_58 []) (cond (Nat.beq L 59) b_L_pin_59 [])))
def b_L_draw_0 : List RI := [(.aload_n 0, []), (.getfield 10, [5, 0]), (.getfield 59, [4, 0]), (.astore_n 3, []), (.aload_n 3, []), (.iload_n 1, []), (.invokevirtual 135, [29, 2, 13]), (.ifCond .eq 16, [29]), (.iload_n 2, []), (.iconst (-1), []), (.if_icmp .eq 13, [31]), (.aload_n 3, []), (.iload_n 2, []), (.invokevirtual 78, [27, 2, 13]), (.ifCond .ne 5, [31]), (.nop, [29])]
def b_L_draw_29 : List RI := [(.iconst (-1), []), (.ireturn, [0])]
def b_L_draw_31 : List RI := [(.aload_n 0, []), (.invokevirtual 69, [82, 1, 15]), (.aload_n 3, []), (.getfield 141, [3, 10]), (.iload_n 1, []), (.iaload, []), (.istore 4, []), (.aload_n 3, []), (.getfield 141, [3, 10]), (.iload_n 1, []), (.iload_n 2, []), (.iconst (-1), []), (.if_icmp .ne 8, [58]), (.bipush (-99), []), (.goto 4, [59])]
def b_L_draw_58 : List RI := [(.iload_n 2, []), (.nop, [59])]
def b_L_draw_59 : List RI := [(.iastore, []), (.iload 4, []), (.ireturn, [0])]
def p_L_draw (L : Nat) : List RI := cond (Nat.blt L 31) (cond (Nat.blt L 29) (cond (Nat.beq L 0) b_L_draw_0 []) (cond (Nat.beq L 29) b_L_draw_29 [])) (cond (Nat.blt L 58) (cond (Nat.beq L 31) b_L_draw_31 []) (cond (Nat.blt L 59) (cond (Nat.beq L 58) b_L_draw_58 []) (cond (Nat.beq L 59) b_L_draw_59 [])))
def b_L_between_0 : List RI := [(.aload_n 0, []), (.getfield 10, [5, 0]), (.getfield 59, [4, 0]), (.astore_n 3, []), (.aload_n 3, []), (.iload_n 1, []), (.invokevirtual 135, [29, 2, 13]), (.ifCond .eq 16, [29]), (.aload_n 3, []), (.iload_n 2, []), (.invokevirtual 135, [29, 2, 13]), (.ifCond .eq 8, [29]), (.iload_n 2, []), (.iload_n 1, []), (.if_icmp .gt 5, [31]), (.nop, [29])]
def b_L_between_29 : List RI := [(.iconst (-1), []), (.ireturn, [0])]
def b_L_between_31 : List RI := [(.aload_n 3, []), (.getfield 141, [3, 10]), (.iload_n 1, []), (.iaload, []), (.istore 4, []), (.aload_n 3, []), (.getfield 141, [3, 10]), (.iload_n 2, []), (.iaload, []), (.istore 5, []), (.aload_n 3, []), (.iload 4, []), (.invokevirtual 78, [27, 2, 13]), (.ifCond .eq 12, [65]), (.aload_n 3, []), (.iload 5, []), (.invokevirtual 78, [27, 2, 13]), (.ifCond .ne 6, [68]), (.nop, [65])]
def b_L_between_65 : List RI := [(.bipush (-2), []), (.ireturn, [0])]
def b_L_between_68 : List RI := [(.aload_n 0, []), (.invokevirtual 69, [82, 1, 15]), (.iload 4, []), (.istore 6, []), (.iload_n 1, []), (.iconst 1, []), (.iadd, []), (.istore 7, []), (.nop, [81])]
def b_L_between_81 : List RI := [(.iload 7, []), (.iload_n 2, []), (.if_icmp .ge 82, [166]), (.aload_n 3, []), (.getfield 72, [3, 1]), (.iload 4, []), (.iaload, []), (.aload_n 3, []), (.getfield 72, [3, 1]), (.iload 5, []), (.iaload, []), (.iload 7, []), (.iload_n 1, []), (.isub, []), (.iload_n 2, []), (.iload_n 1, []), (.isub, []), (.invokestatic 144, [83, 4, 0]), (.istore 8, []), (.aload_n 3, []), (.getfield 75, [3, 2]), (.iload 4, []), (.iaload, []), (.aload_n 3, []), (.getfield 75, [3, 2]), (.iload 5, []), (.iaload, []), (.iload 7, []), (.iload_n 1, []), (.isub, []), (.iload_n 2, []), (.iload_n 1, []), (.isub, []), (.invokestatic 144, [83, 4, 0]), (.istore 9, []), (.aload_n 3, []), (.iload 6, []), (.iload 8, []), (.iload 9, []), (.invokevirtual 148, [34, 4, 13]), (.istore 6, []), (.aload_n 3, []), (.getfield 141, [3, 10]), (.iload 7, []), (.iload 6, []), (.iastore, []), (.iinc 7 1, []), (.goto (-82), [81])]
def b_L_between_166 : List RI := [(.aload_n 3, []), (.iload 6, []), (.iload 5, []), (.invokevirtual 151, [32, 3, 13]), (.ireturn, [0])]
def p_L_between (L : Nat) : List RI := cond (Nat.blt L 65) (cond (Nat.blt L 29) (cond (Nat.beq L 0) b_L_between_0 []) (cond (Nat.blt L 31) (cond (Nat.beq L 29) b_L_between_29 []) (cond (Nat.beq L 31) b_L_between_31 []))) (cond (Nat.blt L 81) (cond (Nat.blt L 68) (cond (Nat.beq L 65) b_L_between_65 []) (cond (Nat.beq L 68) b_L_between_68 [])) (cond (Nat.blt L 166) (cond (Nat.beq L 81) b_L_between_81 []) (cond (Nat.beq L 166) b_L_between_166 [])))
def b_L_finish_0 : List RI := [(.aload_n 0, []), (.getfield 41, [5, 5]), (.aload_n 0, []), (.getfield 10, [5, 0]), (.getfield 59, [4, 0]), (.invokevirtual 155, [4, 2, 11]), (.aload_n 0, []), (.getfield 41, [5, 5]), (.invokevirtual 159, [8, 1, 11]), (.istore_n 1, []), (.iload_n 1, []), (.bipush (-99), []), (.if_icmp .ne 6, [31]), (.bipush (-2), []), (.ireturn, [0])]
def b_L_finish_31 : List RI := [(.aload_n 0, []), (.invokevirtual 69, [82, 1, 15]), (.aload_n 0, []), (.getfield 41, [5, 5]), (.invokevirtual 163, [15, 1, 11]), (.pop, []), (.iconst 0, []), (.istore_n 2, []), (.nop, [45])]
def b_L_finish_45 : List RI := [(.iload_n 2, []), (.aload_n 0, []), (.getfield 10, [5, 0]), (.getfield 59, [4, 0]), (.getfield 111, [3, 8]), (.if_icmp .ge 30, [86]), (.aload_n 0, []), (.getfield 10, [5, 0]), (.getfield 59, [4, 0]), (.getfield 141, [3, 10]), (.iload_n 2, []), (.aload_n 0, []), (.getfield 41, [5, 5]), (.getfield 167, [1, 0]), (.iload_n 2, []), (.iaload, []), (.iastore, []), (.iinc 2 1, []), (.goto (-38), [45])]
def b_L_finish_86 : List RI := [(.iload_n 1, []), (.ireturn, [0])]
def p_L_finish (L : Nat) : List RI := cond (Nat.blt L 45) (cond (Nat.blt L 31) (cond (Nat.beq L 0) b_L_finish_0 []) (cond (Nat.beq L 31) b_L_finish_31 [])) (cond (Nat.blt L 86) (cond (Nat.beq L 45) b_L_finish_45 []) (cond (Nat.beq L 86) b_L_finish_86 []))
def b_L_breathe_0 : List RI := [(.iload_n 1, []), (.iconst 1, []), (.bipush 20, []), (.invokestatic 62, [81, 3, 0]), (.ifCond .eq 5, [12]), (.iconst (-1), []), (.ireturn, [0])]
def b_L_breathe_12 : List RI := [(.aload_n 0, []), (.getfield 27, [5, 3]), (.aload_n 0, []), (.getfield 10, [5, 0]), (.getfield 59, [4, 0]), (.invokevirtual 170, [26, 2, 13]), (.iconst 0, []), (.istore_n 2, []), (.nop, [28])]
def b_L_breathe_28 : List RI := [(.iload_n 2, []), (.bipush 30, []), (.if_icmp .gt 84, [115]), (.aload_n 0, []), (.getfield 34, [5, 4]), (.aload_n 0, []), (.getfield 27, [5, 3]), (.invokevirtual 173, [1, 2, 10]), (.aload_n 0, []), (.getfield 34, [5, 4]), (.getfield 176, [0, 3]), (.istore_n 3, []), (.iload_n 3, []), (.iconst (-1), []), (.if_icmp .ne 6, [61]), (.goto 57, [115])]
def b_L_breathe_61 : List RI := [(.iload_n 3, []), (.ifCond .eq 19, [81]), (.aload_n 0, []), (.getfield 27, [5, 3]), (.getfield 179, [3, 6]), (.iload_n 3, []), (.iconst 1, []), (.isub, []), (.iaload, []), (.bipush 9, []), (.if_icmp .ne 6, [84]), (.nop, [81])]
def b_L_breathe_81 : List RI := [(.bipush (-2), []), (.ireturn, [0])]
def b_L_breathe_84 : List RI := [(.aload_n 0, []), (.getfield 27, [5, 3]), (.iload_n 1, []), (.invokevirtual 104, [30, 2, 13]), (.ifCond .ne 6, [98]), (.bipush (-3), []), (.ireturn, [0])]
def b_L_breathe_98 : List RI := [(.aload_n 0, []), (.getfield 27, [5, 3]), (.iload_n 3, []), (.bipush 9, []), (.iload_n 1, []), (.invokevirtual 107, [41, 4, 13]), (.iinc 2 1, []), (.goto (-84), [28])]
def b_L_breathe_115 : List RI := [(.aload_n 0, []), (.invokevirtual 69, [82, 1, 15]), (.aload_n 0, []), (.getfield 10, [5, 0]), (.getfield 59, [4, 0]), (.aload_n 0, []), (.getfield 27, [5, 3]), (.invokevirtual 170, [26, 2, 13]), (.iload_n 2, []), (.ireturn, [0])]
def p_L_breathe (L : Nat) : List RI := cond (Nat.blt L 81) (cond (Nat.blt L 28) (cond (Nat.blt L 12) (cond (Nat.beq L 0) b_L_breathe_0 []) (cond (Nat.beq L 12) b_L_breathe_12 [])) (cond (Nat.blt L 61) (cond (Nat.beq L 28) b_L_breathe_28 []) (cond (Nat.beq L 61) b_L_breathe_61 []))) (cond (Nat.blt L 98) (cond (Nat.blt L 84) (cond (Nat.beq L 81) b_L_breathe_81 []) (cond (Nat.beq L 84) b_L_breathe_84 [])) (cond (Nat.blt L 115) (cond (Nat.beq L 98) b_L_breathe_98 []) (cond (Nat.beq L 115) b_L_breathe_115 [])))
def b_L_take_0 : List RI := [(.iload_n 1, []), (.iconst 0, []), (.iconst 1, []), (.invokestatic 62, [81, 3, 0]), (.ifCond .eq 5, [11]), (.iconst (-1), []), (.ireturn, [0])]
def b_L_take_11 : List RI := [(.aload_n 0, []), (.invokevirtual 69, [82, 1, 15]), (.aload_n 0, []), (.getfield 10, [5, 0]), (.getfield 182, [4, 1]), (.iload_n 1, []), (.aaload, []), (.aload_n 0, []), (.getfield 10, [5, 0]), (.getfield 59, [4, 0]), (.invokevirtual 170, [26, 2, 13]), (.aload_n 0, []), (.getfield 10, [5, 0]), (.getfield 186, [4, 2]), (.iload_n 1, []), (.iconst 1, []), (.bastore, []), (.aload_n 0, []), (.getfield 10, [5, 0]), (.getfield 59, [4, 0]), (.getfield 111, [3, 8]), (.ireturn, [0])]
def p_L_take (L : Nat) : List RI := cond (Nat.blt L 11) (cond (Nat.beq L 0) b_L_take_0 []) (cond (Nat.beq L 11) b_L_take_11 [])
def b_L_restore_0 : List RI := [(.iload_n 1, []), (.iconst 0, []), (.iconst 1, []), (.invokestatic 62, [81, 3, 0]), (.ifCond .eq 5, [11]), (.iconst (-1), []), (.ireturn, [0])]
def b_L_restore_11 : List RI := [(.aload_n 0, []), (.getfield 10, [5, 0]), (.getfield 186, [4, 2]), (.iload_n 1, []), (.baload, []), (.ifCond .ne 6, [26]), (.bipush (-2), []), (.ireturn, [0])]
def b_L_restore_26 : List RI := [(.aload_n 0, []), (.invokevirtual 69, [82, 1, 15]), (.aload_n 0, []), (.getfield 10, [5, 0]), (.getfield 59, [4, 0]), (.aload_n 0, []), (.getfield 10, [5, 0]), (.getfield 182, [4, 1]), (.iload_n 1, []), (.aaload, []), (.invokevirtual 170, [26, 2, 13]), (.aload_n 0, []), (.getfield 10, [5, 0]), (.getfield 59, [4, 0]), (.getfield 111, [3, 8]), (.ireturn, [0])]
def p_L_restore (L : Nat) : List RI := cond (Nat.blt L 11) (cond (Nat.beq L 0) b_L_restore_0 []) (cond (Nat.blt L 26) (cond (Nat.beq L 11) b_L_restore_11 []) (cond (Nat.beq L 26) b_L_restore_26 []))
def b_L_undo_0 : List RI := [(.aload_n 0, []), (.getfield 20, [5, 2]), (.ifCond .gt 6, [10]), (.bipush (-2), []), (.ireturn, [0])]
def b_L_undo_10 : List RI := [(.aload_n 0, []), (.dup, []), (.getfield 20, [5, 2]), (.iconst 1, []), (.isub, []), (.putfield 20, [5, 2]), (.aload_n 0, []), (.getfield 10, [5, 0]), (.aload_n 0, []), (.getfield 16, [5, 1]), (.aload_n 0, []), (.getfield 20, [5, 2]), (.aaload, []), (.invokevirtual 190, [46, 2, 14]), (.aload_n 0, []), (.getfield 20, [5, 2]), (.ireturn, [0])]
def p_L_undo (L : Nat) : List RI := cond (Nat.blt L 10) (cond (Nat.beq L 0) b_L_undo_0 []) (cond (Nat.beq L 10) b_L_undo_10 [])
def b_L_append_0 : List RI := [(.iload_n 1, []), (.iconst 1, []), (.sipush 255, []), (.invokestatic 62, [81, 3, 0]), (.ifCond .eq 5, [13]), (.iconst (-1), []), (.ireturn, [0])]
def b_L_append_13 : List RI := [(.aload_n 0, []), (.getfield 56, [5, 8]), (.bipush 120, []), (.if_icmp .lt 6, [25]), (.bipush (-3), []), (.ireturn, [0])]
def b_L_append_25 : List RI := [(.aload_n 0, []), (.getfield 52, [5, 7]), (.aload_n 0, []), (.getfield 56, [5, 8]), (.iload_n 1, []), (.iastore, []), (.aload_n 0, []), (.dup, []), (.getfield 56, [5, 8]), (.iconst 1, []), (.iadd, []), (.putfield 56, [5, 8]), (.aload_n 0, []), (.getfield 56, [5, 8]), (.ireturn, [0])]
def p_L_append (L : Nat) : List RI := cond (Nat.blt L 13) (cond (Nat.beq L 0) b_L_append_0 []) (cond (Nat.blt L 25) (cond (Nat.beq L 13) b_L_append_13 []) (cond (Nat.beq L 25) b_L_append_25 []))
def b_L_load_0 : List RI := [(.aload_n 0, []), (.getfield 27, [5, 3]), (.aload_n 0, []), (.getfield 10, [5, 0]), (.getfield 59, [4, 0]), (.invokevirtual 170, [26, 2, 13]), (.aload_n 0, []), (.getfield 48, [5, 6]), (.aload_n 0, []), (.getfield 52, [5, 7]), (.aload_n 0, []), (.getfield 56, [5, 8]), (.aload_n 0, []), (.getfield 27, [5, 3]), (.invokevirtual 193, [19, 4, 12]), (.istore_n 1, []), (.aload_n 0, []), (.getfield 48, [5, 6]), (.getfield 197, [2, 0]), (.iconst (-1), []), (.if_icmp .eq 15, [57]), (.sipush (-1000), []), (.aload_n 0, []), (.getfield 48, [5, 6]), (.getfield 197, [2, 0]), (.isub, []), (.ireturn, [0])]
def b_L_load_57 : List RI := [(.aload_n 0, []), (.invokevirtual 69, [82, 1, 15]), (.aload_n 0, []), (.getfield 10, [5, 0]), (.getfield 59, [4, 0]), (.aload_n 0, []), (.getfield 27, [5, 3]), (.invokevirtual 170, [26, 2, 13]), (.aload_n 0, []), (.iconst 0, []), (.putfield 56, [5, 8]), (.iload_n 1, []), (.ireturn, [0])]
def p_L_load (L : Nat) : List RI := cond (Nat.blt L 57) (cond (Nat.beq L 0) b_L_load_0 []) (cond (Nat.beq L 57) b_L_load_57 [])
def b_L_count_0 : List RI := [(.aload_n 0, []), (.getfield 10, [5, 0]), (.getfield 59, [4, 0]), (.astore_n 2, []), (.iload_n 1, []), (.tableswitch 118 0 8 #[51, 56, 61, 66, 75, 84, 100, 108, 113], [127, 60, 65, 70, 75, 84, 93, 109, 117, 122])]
def b_L_count_60 : List RI := [(.aload_n 2, []), (.getfield 66, [3, 0]), (.ireturn, [0])]
def b_L_count_65 : List RI := [(.aload_n 2, []), (.getfield 101, [3, 5]), (.ireturn, [0])]
def b_L_count_70 : List RI := [(.aload_n 2, []), (.getfield 111, [3, 8]), (.ireturn, [0])]
def b_L_count_75 : List RI := [(.aload_n 2, []), (.aload_n 2, []), (.getfield 138, [3, 9]), (.invokevirtual 200, [37, 2, 13]), (.ireturn, [0])]
def b_L_count_84 : List RI := [(.aload_n 2, []), (.aload_n 2, []), (.getfield 141, [3, 10]), (.invokevirtual 200, [37, 2, 13]), (.ireturn, [0])]
def b_L_count_93 : List RI := [(.aload_n 0, []), (.getfield 34, [5, 4]), (.aload_n 2, []), (.invokevirtual 173, [1, 2, 10]), (.aload_n 0, []), (.getfield 34, [5, 4]), (.getfield 204, [0, 2]), (.ireturn, [0])]
def b_L_count_109 : List RI := [(.aload_n 0, []), (.getfield 10, [5, 0]), (.invokevirtual 207, [47, 1, 14]), (.ireturn, [0])]
def b_L_count_117 : List RI := [(.aload_n 0, []), (.getfield 20, [5, 2]), (.ireturn, [0])]
def b_L_count_122 : List RI := [(.aload_n 0, []), (.getfield 56, [5, 8]), (.ireturn, [0])]
def b_L_count_127 : List RI := [(.iconst (-1), []), (.ireturn, [0])]
def p_L_count (L : Nat) : List RI := cond (Nat.blt L 84) (cond (Nat.blt L 65) (cond (Nat.blt L 60) (cond (Nat.beq L 0) b_L_count_0 []) (cond (Nat.beq L 60) b_L_count_60 [])) (cond (Nat.blt L 70) (cond (Nat.beq L 65) b_L_count_65 []) (cond (Nat.blt L 75) (cond (Nat.beq L 70) b_L_count_70 []) (cond (Nat.beq L 75) b_L_count_75 [])))) (cond (Nat.blt L 117) (cond (Nat.blt L 93) (cond (Nat.beq L 84) b_L_count_84 []) (cond (Nat.blt L 109) (cond (Nat.beq L 93) b_L_count_93 []) (cond (Nat.beq L 109) b_L_count_109 []))) (cond (Nat.blt L 122) (cond (Nat.beq L 117) b_L_count_117 []) (cond (Nat.blt L 127) (cond (Nat.beq L 122) b_L_count_122 []) (cond (Nat.beq L 127) b_L_count_127 []))))
def b_L_mouth_0 : List RI := [(.aload_n 0, []), (.getfield 10, [5, 0]), (.getfield 59, [4, 0]), (.iload_n 1, []), (.invokevirtual 78, [27, 2, 13]), (.ifCond .eq 12, [23]), (.iload_n 2, []), (.iconst 0, []), (.iconst 1, []), (.invokestatic 62, [81, 3, 0]), (.ifCond .eq 5, [25]), (.nop, [23])]
def b_L_mouth_23 : List RI := [(.iconst (-1), []), (.ireturn, [0])]
def b_L_mouth_25 : List RI := [(.iload_n 2, []), (.ifCond .ne 18, [44]), (.aload_n 0, []), (.getfield 10, [5, 0]), (.getfield 59, [4, 0]), (.getfield 72, [3, 1]), (.iload_n 1, []), (.iaload, []), (.goto 15, [56])]
def b_L_mouth_44 : List RI := [(.aload_n 0, []), (.getfield 10, [5, 0]), (.getfield 59, [4, 0]), (.getfield 75, [3, 2]), (.iload_n 1, []), (.iaload, []), (.nop, [56])]
def b_L_mouth_56 : List RI := [(.ireturn, [0])]
def p_L_mouth (L : Nat) : List RI := cond (Nat.blt L 25) (cond (Nat.blt L 23) (cond (Nat.beq L 0) b_L_mouth_0 []) (cond (Nat.beq L 23) b_L_mouth_23 [])) (cond (Nat.blt L 44) (cond (Nat.beq L 25) b_L_mouth_25 []) (cond (Nat.blt L 56) (cond (Nat.beq L 44) b_L_mouth_44 []) (cond (Nat.beq L 56) b_L_mouth_56 [])))
def b_L_jump_0 : List RI := [(.aload_n 0, []), (.getfield 10, [5, 0]), (.getfield 59, [4, 0]), (.iload_n 1, []), (.invokevirtual 78, [27, 2, 13]), (.ifCond .eq 17, [28]), (.aload_n 0, []), (.getfield 10, [5, 0]), (.getfield 59, [4, 0]), (.iload_n 2, []), (.invokevirtual 78, [27, 2, 13]), (.ifCond .ne 5, [30]), (.nop, [28])]
def b_L_jump_28 : List RI := [(.iconst (-1), []), (.ireturn, [0])]
def b_L_jump_30 : List RI := [(.aload_n 0, []), (.getfield 10, [5, 0]), (.getfield 59, [4, 0]), (.iload_n 1, []), (.iload_n 2, []), (.invokevirtual 151, [32, 3, 13]), (.ireturn, [0])]
def p_L_jump (L : Nat) : List RI := cond (Nat.blt L 28) (cond (Nat.beq L 0) b_L_jump_0 []) (cond (Nat.blt L 30) (cond (Nat.beq L 28) b_L_jump_28 []) (cond (Nat.beq L 30) b_L_jump_30 []))
def b_L_sound_0 : List RI := [(.iload_n 1, []), (.iconst 0, []), (.bipush 8, []), (.invokestatic 62, [81, 3, 0]), (.ifCond .ne 12, [19]), (.iload_n 2, []), (.iconst 0, []), (.iconst 3, []), (.invokestatic 62, [81, 3, 0]), (.ifCond .eq 5, [21]), (.nop, [19])]
def b_L_sound_19 : List RI := [(.iconst (-1), []), (.ireturn, [0])]
def b_L_sound_21 : List RI := [(.aload_n 0, []), (.getfield 10, [5, 0]), (.getfield 59, [4, 0]), (.getfield 89, [3, 3]), (.iload_n 1, []), (.iconst 4, []), (.imul, []), (.iload_n 2, []), (.iadd, []), (.iaload, []), (.ireturn, [0])]
def p_L_sound (L : Nat) : List RI := cond (Nat.blt L 19) (cond (Nat.beq L 0) b_L_sound_0 []) (cond (Nat.blt L 21) (cond (Nat.beq L 19) b_L_sound_19 []) (cond (Nat.beq L 21) b_L_sound_21 []))
def b_L_number_0 : List RI := [(.iload_n 1, []), (.iconst 0, []), (.iconst 4, []), (.invokestatic 62, [81, 3, 0]), (.ifCond .eq 5, [11]), (.iconst (-1), []), (.ireturn, [0])]
def b_L_number_11 : List RI := [(.aload_n 0, []), (.getfield 10, [5, 0]), (.getfield 59, [4, 0]), (.getfield 98, [3, 4]), (.iload_n 1, []), (.iaload, []), (.ireturn, [0])]
def p_L_number (L : Nat) : List RI := cond (Nat.blt L 11) (cond (Nat.beq L 0) b_L_number_0 []) (cond (Nat.beq L 11) b_L_number_11 [])
def b_L_segment_0 : List RI := [(.aload_n 0, []), (.getfield 10, [5, 0]), (.getfield 59, [4, 0]), (.astore_n 3, []), (.aload_n 3, []), (.iload_n 1, []), (.invokevirtual 114, [28, 2, 13]), (.ifCond .ne 5, [18]), (.iconst (-1), []), (.ireturn, [0])]
def b_L_segment_18 : List RI := [(.iload_n 2, []), (.tableswitch 45 0 2 #[25, 32, 39], [64, 44, 51, 58])]
def b_L_segment_44 : List RI := [(.aload_n 3, []), (.getfield 179, [3, 6]), (.iload_n 1, []), (.iaload, []), (.ireturn, [0])]
def b_L_segment_51 : List RI := [(.aload_n 3, []), (.getfield 121, [3, 7]), (.iload_n 1, []), (.iaload, []), (.ireturn, [0])]
def b_L_segment_58 : List RI := [(.aload_n 3, []), (.iload_n 1, []), (.invokevirtual 124, [38, 2, 13]), (.ireturn, [0])]
def b_L_segment_64 : List RI := [(.iconst (-1), []), (.ireturn, [0])]
def p_L_segment (L : Nat) : List RI := cond (Nat.blt L 51) (cond (Nat.blt L 18) (cond (Nat.beq L 0) b_L_segment_0 []) (cond (Nat.blt L 44) (cond (Nat.beq L 18) b_L_segment_18 []) (cond (Nat.beq L 44) b_L_segment_44 []))) (cond (Nat.blt L 58) (cond (Nat.beq L 51) b_L_segment_51 []) (cond (Nat.blt L 64) (cond (Nat.beq L 58) b_L_segment_58 []) (cond (Nat.beq L 64) b_L_segment_64 [])))
def b_L_frame_0 : List RI := [(.aload_n 0, []), (.getfield 10, [5, 0]), (.getfield 59, [4, 0]), (.astore_n 3, []), (.aload_n 3, []), (.iload_n 1, []), (.invokevirtual 135, [29, 2, 13]), (.ifCond .ne 5, [18]), (.iconst (-1), []), (.ireturn, [0])]
def b_L_frame_18 : List RI := [(.iload_n 2, []), (.tableswitch 144 0 6 #[41, 47, 53, 60, 67, 85, 111], [163, 60, 66, 72, 79, 86, 104, 130])]
def b_L_frame_60 : List RI := [(.aload_n 3, []), (.iload_n 1, []), (.invokevirtual 210, [39, 2, 13]), (.ireturn, [0])]
def b_L_frame_66 : List RI := [(.aload_n 3, []), (.iload_n 1, []), (.invokevirtual 213, [40, 2, 13]), (.ireturn, [0])]
def b_L_frame_72 : List RI := [(.aload_n 3, []), (.getfield 138, [3, 9]), (.iload_n 1, []), (.iaload, []), (.ireturn, [0])]
def b_L_frame_79 : List RI := [(.aload_n 3, []), (.getfield 141, [3, 10]), (.iload_n 1, []), (.iaload, []), (.ireturn, [0])]
def b_L_frame_86 : List RI := [(.aload_n 0, []), (.getfield 34, [5, 4]), (.aload_n 3, []), (.invokevirtual 173, [1, 2, 10]), (.aload_n 0, []), (.getfield 34, [5, 4]), (.getfield 216, [0, 0]), (.iload_n 1, []), (.iaload, []), (.ireturn, [0])]
def b_L_frame_104 : List RI := [(.aload_n 0, []), (.getfield 34, [5, 4]), (.aload_n 3, []), (.invokevirtual 173, [1, 2, 10]), (.aload_n 0, []), (.getfield 34, [5, 4]), (.getfield 219, [0, 1]), (.iload_n 1, []), (.baload, []), (.ifCond .eq 7, [128]), (.iconst 1, []), (.goto 4, [129])]
def b_L_frame_128 : List RI := [(.iconst 0, []), (.nop, [129])]
def b_L_frame_129 : List RI := [(.ireturn, [0])]
def b_L_frame_130 : List RI := [(.aload_n 0, []), (.getfield 41, [5, 5]), (.aload_n 3, []), (.invokevirtual 155, [4, 2, 11]), (.aload_n 0, []), (.getfield 41, [5, 5]), (.invokevirtual 163, [15, 1, 11]), (.ifCond .eq 15, [160]), (.aload_n 0, []), (.getfield 41, [5, 5]), (.getfield 167, [1, 0]), (.iload_n 1, []), (.iaload, []), (.goto 5, [162])]
def b_L_frame_160 : List RI := [(.bipush (-99), []), (.nop, [162])]
def b_L_frame_162 : List RI := [(.ireturn, [0])]
def b_L_frame_163 : List RI := [(.iconst (-1), []), (.ireturn, [0])]
def p_L_frame (L : Nat) : List RI := cond (Nat.blt L 104) (cond (Nat.blt L 66) (cond (Nat.blt L 18) (cond (Nat.beq L 0) b_L_frame_0 []) (cond (Nat.blt L 60) (cond (Nat.beq L 18) b_L_frame_18 []) (cond (Nat.beq L 60) b_L_frame_60 []))) (cond (Nat.blt L 79) (cond (Nat.blt L 72) (cond (Nat.beq L 66) b_L_frame_66 []) (cond (Nat.beq L 72) b_L_frame_72 [])) (cond (Nat.blt L 86) (cond (Nat.beq L 79) b_L_frame_79 []) (cond (Nat.beq L 86) b_L_frame_86 [])))) (cond (Nat.blt L 130) (cond (Nat.blt L 128) (cond (Nat.beq L 104) b_L_frame_104 []) (cond (Nat.blt L 129) (cond (Nat.beq L 128) b_L_frame_128 []) (cond (Nat.beq L 129) b_L_frame_129 []))) (cond (Nat.blt L 162) (cond (Nat.blt L 160) (cond (Nat.beq L 130) b_L_frame_130 []) (cond (Nat.beq L 160) b_L_frame_160 [])) (cond (Nat.blt L 163) (cond (Nat.beq L 162) b_L_frame_162 []) (cond (Nat.beq L 163) b_L_frame_163 []))))
def b_L_wrongness_0 : List RI := [(.aload_n 0, []), (.getfield 10, [5, 0]), (.getfield 59, [4, 0]), (.iload_n 1, []), (.invokevirtual 135, [29, 2, 13]), (.ifCond .eq 17, [28]), (.aload_n 0, []), (.getfield 10, [5, 0]), (.getfield 59, [4, 0]), (.iload_n 2, []), (.invokevirtual 78, [27, 2, 13]), (.ifCond .ne 5, [30]), (.nop, [28])]
def b_L_wrongness_28 : List RI := [(.iconst (-1), []), (.ireturn, [0])]
def b_L_wrongness_30 : List RI := [(.aload_n 0, []), (.getfield 10, [5, 0]), (.getfield 59, [4, 0]), (.aload_n 0, []), (.getfield 10, [5, 0]), (.getfield 59, [4, 0]), (.iload_n 1, []), (.invokevirtual 213, [40, 2, 13]), (.iload_n 2, []), (.invokevirtual 222, [35, 3, 13]), (.ireturn, [0])]
def p_L_wrongness (L : Nat) : List RI := cond (Nat.blt L 28) (cond (Nat.beq L 0) b_L_wrongness_0 []) (cond (Nat.blt L 30) (cond (Nat.beq L 28) b_L_wrongness_28 []) (cond (Nat.beq L 30) b_L_wrongness_30 []))
def b_L_least_0 : List RI := [(.iload_n 1, []), (.iconst 0, []), (.iconst 1, []), (.invokestatic 62, [81, 3, 0]), (.ifCond .eq 5, [11]), (.iconst (-1), []), (.ireturn, [0])]
def b_L_least_11 : List RI := [(.aload_n 0, []), (.getfield 41, [5, 5]), (.aload_n 0, []), (.getfield 10, [5, 0]), (.getfield 59, [4, 0]), (.invokevirtual 155, [4, 2, 11]), (.iload_n 1, []), (.ifCond .ne 13, [39]), (.aload_n 0, []), (.getfield 41, [5, 5]), (.invokevirtual 159, [8, 1, 11]), (.goto 10, [46])]
def b_L_least_39 : List RI := [(.aload_n 0, []), (.getfield 41, [5, 5]), (.invokevirtual 225, [12, 1, 11]), (.nop, [46])]
def b_L_least_46 : List RI := [(.ireturn, [0])]
def p_L_least (L : Nat) : List RI := cond (Nat.blt L 39) (cond (Nat.blt L 11) (cond (Nat.beq L 0) b_L_least_0 []) (cond (Nat.beq L 11) b_L_least_11 [])) (cond (Nat.blt L 46) (cond (Nat.beq L 39) b_L_least_39 []) (cond (Nat.beq L 46) b_L_least_46 []))
def b_L_leastWith_0 : List RI := [(.aload_n 0, []), (.getfield 10, [5, 0]), (.getfield 59, [4, 0]), (.iload_n 1, []), (.invokevirtual 135, [29, 2, 13]), (.ifCond .eq 17, [28]), (.aload_n 0, []), (.getfield 10, [5, 0]), (.getfield 59, [4, 0]), (.iload_n 2, []), (.invokevirtual 78, [27, 2, 13]), (.ifCond .ne 5, [30]), (.nop, [28])]
def b_L_leastWith_28 : List RI := [(.iconst (-1), []), (.ireturn, [0])]
def b_L_leastWith_30 : List RI := [(.aload_n 0, []), (.getfield 41, [5, 5]), (.aload_n 0, []), (.getfield 10, [5, 0]), (.getfield 59, [4, 0]), (.invokevirtual 155, [4, 2, 11]), (.aload_n 0, []), (.getfield 41, [5, 5]), (.iload_n 1, []), (.iload_n 2, []), (.invokevirtual 228, [7, 3, 11]), (.aload_n 0, []), (.getfield 41, [5, 5]), (.invokevirtual 159, [8, 1, 11]), (.ireturn, [0])]
def p_L_leastWith (L : Nat) : List RI := cond (Nat.blt L 28) (cond (Nat.beq L 0) b_L_leastWith_0 []) (cond (Nat.blt L 30) (cond (Nat.beq L 28) b_L_leastWith_28 []) (cond (Nat.beq L 30) b_L_leastWith_30 []))
def b_L_why_0 : List RI := [(.aload_n 0, []), (.getfield 10, [5, 0]), (.getfield 59, [4, 0]), (.astore_n 2, []), (.aload_n 2, []), (.iload_n 1, []), (.invokevirtual 135, [29, 2, 13]), (.ifCond .ne 5, [18]), (.iconst (-1), []), (.ireturn, [0])]
def b_L_why_18 : List RI := [(.aload_n 0, []), (.getfield 41, [5, 5]), (.aload_n 2, []), (.invokevirtual 155, [4, 2, 11]), (.aload_n 0, []), (.getfield 41, [5, 5]), (.invokevirtual 163, [15, 1, 11]), (.ifCond .ne 6, [39]), (.bipush (-99), []), (.ireturn, [0])]
def b_L_why_39 : List RI := [(.aload_n 2, []), (.iload_n 1, []), (.invokevirtual 213, [40, 2, 13]), (.istore_n 3, []), (.aload_n 2, []), (.iload_n 3, []), (.invokevirtual 231, [36, 2, 13]), (.istore 4, []), (.aload_n 2, []), (.getfield 98, [3, 4]), (.iconst 0, []), (.iaload, []), (.istore 5, []), (.aload_n 2, []), (.iload_n 3, []), (.aload_n 0, []), (.getfield 41, [5, 5]), (.getfield 167, [1, 0]), (.iload_n 1, []), (.iaload, []), (.invokevirtual 222, [35, 3, 13]), (.aload_n 2, []), (.iload_n 3, []), (.iload 4, []), (.invokevirtual 222, [35, 3, 13]), (.if_icmp .ne 5, [86]), (.iconst 0, []), (.ireturn, [0])]
def b_L_why_86 : List RI := [(.aload_n 2, []), (.getfield 138, [3, 9]), (.iload_n 1, []), (.iaload, []), (.bipush (-99), []), (.if_icmp .eq 5, [99]), (.iconst 1, []), (.ireturn, [0])]
def b_L_why_99 : List RI := [(.iload_n 1, []), (.ifCond .le 27, [127]), (.aload_n 2, []), (.aload_n 0, []), (.getfield 41, [5, 5]), (.getfield 167, [1, 0]), (.iload_n 1, []), (.iconst 1, []), (.isub, []), (.iaload, []), (.iload 4, []), (.invokevirtual 151, [32, 3, 13]), (.iload 5, []), (.if_icmp .le 5, [127]), (.iconst 2, []), (.ireturn, [0])]
def b_L_why_127 : List RI := [(.iload_n 1, []), (.iconst 1, []), (.iadd, []), (.aload_n 2, []), (.getfield 111, [3, 8]), (.if_icmp .ge 27, [161]), (.aload_n 2, []), (.iload 4, []), (.aload_n 0, []), (.getfield 41, [5, 5]), (.getfield 167, [1, 0]), (.iload_n 1, []), (.iconst 1, []), (.iadd, []), (.iaload, []), (.invokevirtual 151, [32, 3, 13]), (.iload 5, []), (.if_icmp .le 5, [161]), (.iconst 3, []), (.ireturn, [0])]
def b_L_why_161 : List RI := [(.iconst 4, []), (.ireturn, [0])]
def p_L_why (L : Nat) : List RI := cond (Nat.blt L 86) (cond (Nat.blt L 18) (cond (Nat.beq L 0) b_L_why_0 []) (cond (Nat.blt L 39) (cond (Nat.beq L 18) b_L_why_18 []) (cond (Nat.beq L 39) b_L_why_39 []))) (cond (Nat.blt L 127) (cond (Nat.blt L 99) (cond (Nat.beq L 86) b_L_why_86 []) (cond (Nat.beq L 99) b_L_why_99 [])) (cond (Nat.blt L 161) (cond (Nat.beq L 127) b_L_why_127 []) (cond (Nat.beq L 161) b_L_why_161 [])))
def b_L_fault_0 : List RI := [(.iload_n 1, []), (.iconst 0, []), (.iconst 1, []), (.invokestatic 62, [81, 3, 0]), (.ifCond .eq 5, [11]), (.iconst (-1), []), (.ireturn, [0])]
def b_L_fault_11 : List RI := [(.aload_n 0, []), (.getfield 10, [5, 0]), (.getfield 59, [4, 0]), (.astore_n 2, []), (.iconst 0, []), (.istore_n 3, []), (.iconst 0, []), (.istore 4, []), (.nop, [24])]
def b_L_fault_24 : List RI := [(.iload 4, []), (.aload_n 2, []), (.getfield 111, [3, 8]), (.if_icmp .ge 67, [97]), (.aload_n 2, []), (.iload 4, []), (.iload_n 3, []), (.invokestatic 234, [84, 3, 0]), (.istore 5, []), (.iload 5, []), (.ifCond .eq 15, [59]), (.iload_n 1, []), (.ifCond .ne 8, [56]), (.iload 4, []), (.goto 5, [58])]
def b_L_fault_56 : List RI := [(.iload 5, []), (.nop, [58])]
def b_L_fault_58 : List RI := [(.ireturn, [0])]
def b_L_fault_59 : List RI := [(.iload 4, []), (.ifCond .le 28, [89]), (.aload_n 2, []), (.getfield 141, [3, 10]), (.iload 4, []), (.iaload, []), (.aload_n 2, []), (.getfield 141, [3, 10]), (.iload 4, []), (.iconst 1, []), (.isub, []), (.iaload, []), (.if_icmp .ne 9, [89]), (.iload_n 3, []), (.iconst 1, []), (.iadd, []), (.goto 4, [90])]
def b_L_fault_89 : List RI := [(.iconst 1, []), (.nop, [90])]
def b_L_fault_90 : List RI := [(.istore_n 3, []), (.iinc 4 1, []), (.goto (-70), [24])]
def b_L_fault_97 : List RI := [(.bipush (-99), []), (.ireturn, [0])]
def p_L_fault (L : Nat) : List RI := cond (Nat.blt L 58) (cond (Nat.blt L 24) (cond (Nat.blt L 11) (cond (Nat.beq L 0) b_L_fault_0 []) (cond (Nat.beq L 11) b_L_fault_11 [])) (cond (Nat.blt L 56) (cond (Nat.beq L 24) b_L_fault_24 []) (cond (Nat.beq L 56) b_L_fault_56 []))) (cond (Nat.blt L 89) (cond (Nat.blt L 59) (cond (Nat.beq L 58) b_L_fault_58 []) (cond (Nat.beq L 59) b_L_fault_59 [])) (cond (Nat.blt L 90) (cond (Nat.beq L 89) b_L_fault_89 []) (cond (Nat.blt L 97) (cond (Nat.beq L 90) b_L_fault_90 []) (cond (Nat.beq L 97) b_L_fault_97 []))))
def b_L_drawnSum_0 : List RI := [(.aload_n 0, []), (.getfield 10, [5, 0]), (.getfield 59, [4, 0]), (.astore_n 1, []), (.iconst 0, []), (.istore_n 2, []), (.iconst 0, []), (.istore_n 3, []), (.nop, [12])]
def b_L_drawnSum_12 : List RI := [(.iload_n 3, []), (.aload_n 1, []), (.getfield 111, [3, 8]), (.if_icmp .ge 43, [60]), (.aload_n 1, []), (.aload_n 1, []), (.getfield 141, [3, 10]), (.iload_n 3, []), (.iaload, []), (.invokevirtual 78, [27, 2, 13]), (.ifCond .ne 6, [36]), (.bipush (-99), []), (.ireturn, [0])]
def b_L_drawnSum_36 : List RI := [(.iload_n 2, []), (.aload_n 1, []), (.aload_n 1, []), (.iload_n 3, []), (.invokevirtual 213, [40, 2, 13]), (.aload_n 1, []), (.getfield 141, [3, 10]), (.iload_n 3, []), (.iaload, []), (.invokevirtual 222, [35, 3, 13]), (.iadd, []), (.istore_n 2, []), (.iinc 3 1, []), (.goto (-45), [12])]
def b_L_drawnSum_60 : List RI := [(.iload_n 2, []), (.ireturn, [0])]
def p_L_drawnSum (L : Nat) : List RI := cond (Nat.blt L 36) (cond (Nat.blt L 12) (cond (Nat.beq L 0) b_L_drawnSum_0 []) (cond (Nat.beq L 12) b_L_drawnSum_12 [])) (cond (Nat.blt L 60) (cond (Nat.beq L 36) b_L_drawnSum_36 []) (cond (Nat.beq L 60) b_L_drawnSum_60 []))
def b_L_speedFor_0 : List RI := [(.iload_n 1, []), (.iconst 0, []), (.ldc 238, [99999]), (.invokestatic 62, [81, 3, 0]), (.ifCond .eq 5, [12]), (.iconst (-1), []), (.ireturn, [0])]
def b_L_speedFor_12 : List RI := [(.aload_n 0, []), (.getfield 41, [5, 5]), (.aload_n 0, []), (.getfield 10, [5, 0]), (.getfield 59, [4, 0]), (.invokevirtual 155, [4, 2, 11]), (.getstatic 92, [3]), (.iconst 0, []), (.iaload, []), (.istore_n 2, []), (.nop, [32])]
def b_L_speedFor_32 : List RI := [(.iload_n 2, []), (.getstatic 95, [4]), (.iconst 0, []), (.iaload, []), (.if_icmp .gt 45, [83]), (.aload_n 0, []), (.getfield 41, [5, 5]), (.aload_n 0, []), (.getfield 10, [5, 0]), (.getfield 59, [4, 0]), (.iload_n 2, []), (.invokevirtual 239, [6, 3, 11]), (.aload_n 0, []), (.getfield 41, [5, 5]), (.invokevirtual 225, [12, 1, 11]), (.istore_n 3, []), (.iload_n 3, []), (.bipush (-99), []), (.if_icmp .eq 10, [77]), (.iload_n 3, []), (.iload_n 1, []), (.if_icmp .gt 5, [77]), (.iload_n 2, []), (.ireturn, [0])]
def b_L_speedFor_77 : List RI := [(.iinc 2 1, []), (.goto (-48), [32])]
def b_L_speedFor_83 : List RI := [(.bipush (-99), []), (.ireturn, [0])]
def p_L_speedFor (L : Nat) : List RI := cond (Nat.blt L 32) (cond (Nat.blt L 12) (cond (Nat.beq L 0) b_L_speedFor_0 []) (cond (Nat.beq L 12) b_L_speedFor_12 [])) (cond (Nat.blt L 77) (cond (Nat.beq L 32) b_L_speedFor_32 []) (cond (Nat.blt L 83) (cond (Nat.beq L 77) b_L_speedFor_77 []) (cond (Nat.beq L 83) b_L_speedFor_83 [])))
def b_L_nearest_0 : List RI := [(.iload_n 1, []), (.iconst 0, []), (.bipush 9, []), (.invokestatic 62, [81, 3, 0]), (.ifCond .ne 13, [20]), (.iload_n 2, []), (.iconst 0, []), (.bipush 9, []), (.invokestatic 62, [81, 3, 0]), (.ifCond .eq 5, [22]), (.nop, [20])]
def b_L_nearest_20 : List RI := [(.iconst (-1), []), (.ireturn, [0])]
def b_L_nearest_22 : List RI := [(.aload_n 0, []), (.getfield 10, [5, 0]), (.getfield 59, [4, 0]), (.iload_n 1, []), (.iload_n 2, []), (.invokevirtual 243, [33, 3, 13]), (.ireturn, [0])]
def p_L_nearest (L : Nat) : List RI := cond (Nat.blt L 20) (cond (Nat.beq L 0) b_L_nearest_0 []) (cond (Nat.blt L 22) (cond (Nat.beq L 20) b_L_nearest_20 []) (cond (Nat.beq L 22) b_L_nearest_22 []))
def b_L_isOutside_0 : List RI := [(.iload_n 0, []), (.iload_n 1, []), (.if_icmp .lt 8, [10]), (.iload_n 0, []), (.iload_n 2, []), (.if_icmp .le 7, [14]), (.nop, [10])]
def b_L_isOutside_10 : List RI := [(.iconst 1, []), (.goto 4, [15])]
def b_L_isOutside_14 : List RI := [(.iconst 0, []), (.nop, [15])]
def b_L_isOutside_15 : List RI := [(.ireturn, [1])]
def p_L_isOutside (L : Nat) : List RI := cond (Nat.blt L 14) (cond (Nat.blt L 10) (cond (Nat.beq L 0) b_L_isOutside_0 []) (cond (Nat.beq L 10) b_L_isOutside_10 [])) (cond (Nat.blt L 15) (cond (Nat.beq L 14) b_L_isOutside_14 []) (cond (Nat.beq L 15) b_L_isOutside_15 []))
def b_L_recordState_0 : List RI := [(.aload_n 0, []), (.getfield 20, [5, 2]), (.iconst 5, []), (.if_icmp .lt 49, [54]), (.aload_n 0, []), (.getfield 16, [5, 1]), (.iconst 0, []), (.aaload, []), (.astore_n 1, []), (.iconst 1, []), (.istore_n 2, []), (.nop, [17])]
def b_L_recordState_17 : List RI := [(.iload_n 2, []), (.iconst 5, []), (.if_icmp .ge 23, [42]), (.aload_n 0, []), (.getfield 16, [5, 1]), (.iload_n 2, []), (.iconst 1, []), (.isub, []), (.aload_n 0, []), (.getfield 16, [5, 1]), (.iload_n 2, []), (.aaload, []), (.aastore, []), (.iinc 2 1, []), (.goto (-22), [17])]
def b_L_recordState_42 : List RI := [(.aload_n 0, []), (.getfield 16, [5, 1]), (.iconst 4, []), (.aload_n 1, []), (.aastore, []), (.aload_n 0, []), (.iconst 4, []), (.putfield 20, [5, 2]), (.nop, [54])]
def b_L_recordState_54 : List RI := [(.aload_n 0, []), (.getfield 16, [5, 1]), (.aload_n 0, []), (.getfield 20, [5, 2]), (.aaload, []), (.aload_n 0, []), (.getfield 10, [5, 0]), (.invokevirtual 190, [46, 2, 14]), (.aload_n 0, []), (.dup, []), (.getfield 20, [5, 2]), (.iconst 1, []), (.iadd, []), (.putfield 20, [5, 2]), (.return_, [])]
def p_L_recordState (L : Nat) : List RI := cond (Nat.blt L 42) (cond (Nat.blt L 17) (cond (Nat.beq L 0) b_L_recordState_0 []) (cond (Nat.beq L 17) b_L_recordState_17 [])) (cond (Nat.blt L 54) (cond (Nat.beq L 42) b_L_recordState_42 []) (cond (Nat.beq L 54) b_L_recordState_54 []))
def b_L_partWay_0 : List RI := [(.iload_n 3, []), (.ifCond .le 15, [16]), (.iload_n 0, []), (.iload_n 1, []), (.iload_n 0, []), (.isub, []), (.iload_n 2, []), (.imul, []), (.iload_n 3, []), (.idiv, []), (.iadd, []), (.goto 4, [17])]
def b_L_partWay_16 : List RI := [(.iload_n 0, []), (.nop, [17])]
def b_L_partWay_17 : List RI := [(.ireturn, [0])]
def p_L_partWay (L : Nat) : List RI := cond (Nat.blt L 16) (cond (Nat.beq L 0) b_L_partWay_0 []) (cond (Nat.blt L 17) (cond (Nat.beq L 16) b_L_partWay_16 []) (cond (Nat.beq L 17) b_L_partWay_17 []))
def b_L_faultAt_0 : List RI := [(.aload_n 0, []), (.getfield 141, [3, 10]), (.iload_n 1, []), (.iaload, []), (.istore_n 3, []), (.aload_n 0, []), (.iload_n 3, []), (.invokevirtual 78, [27, 2, 13]), (.ifCond .ne 5, [17]), (.iconst 1, []), (.ireturn, [0])]
def b_L_faultAt_17 : List RI := [(.aload_n 0, []), (.getfield 138, [3, 9]), (.iload_n 1, []), (.iaload, []), (.bipush (-99), []), (.if_icmp .eq 15, [40]), (.aload_n 0, []), (.getfield 138, [3, 9]), (.iload_n 1, []), (.iaload, []), (.iload_n 3, []), (.if_icmp .eq 5, [40]), (.iconst 2, []), (.ireturn, [0])]
def b_L_faultAt_40 : List RI := [(.iload_n 1, []), (.ifCond .ne 5, [46]), (.iconst 0, []), (.ireturn, [0])]
def b_L_faultAt_46 : List RI := [(.aload_n 0, []), (.getfield 141, [3, 10]), (.iload_n 1, []), (.iconst 1, []), (.isub, []), (.iaload, []), (.istore 4, []), (.aload_n 0, []), (.iload 4, []), (.iload_n 3, []), (.invokevirtual 151, [32, 3, 13]), (.aload_n 0, []), (.getfield 98, [3, 4]), (.iconst 0, []), (.iaload, []), (.if_icmp .le 5, [74]), (.iconst 3, []), (.ireturn, [0])]
def b_L_faultAt_74 : List RI := [(.iload 4, []), (.iload_n 3, []), (.if_icmp .eq 17, [94]), (.iload_n 2, []), (.aload_n 0, []), (.getfield 98, [3, 4]), (.iconst 1, []), (.iaload, []), (.if_icmp .ge 7, [94]), (.iconst 4, []), (.goto 4, [95])]
def b_L_faultAt_94 : List RI := [(.iconst 0, []), (.nop, [95])]
def b_L_faultAt_95 : List RI := [(.ireturn, [0])]
def p_L_faultAt (L : Nat) : List RI := cond (Nat.blt L 46) (cond (Nat.blt L 17) (cond (Nat.beq L 0) b_L_faultAt_0 []) (cond (Nat.blt L 40) (cond (Nat.beq L 17) b_L_faultAt_17 []) (cond (Nat.beq L 40) b_L_faultAt_40 []))) (cond (Nat.blt L 94) (cond (Nat.blt L 74) (cond (Nat.beq L 46) b_L_faultAt_46 []) (cond (Nat.beq L 74) b_L_faultAt_74 [])) (cond (Nat.blt L 95) (cond (Nat.beq L 94) b_L_faultAt_94 []) (cond (Nat.beq L 95) b_L_faultAt_95 [])))
def b_W_lot_0 : List RI := [(.iload_n 1, []), (.aload_n 0, []), (.arraylength, []), (.if_icmp .ge 9, [12]), (.aload_n 0, []), (.iload_n 1, []), (.iaload, []), (.goto 15, [24])]
def b_W_lot_12 : List RI := [(.ldc 7, [2346568115]), (.iload_n 1, []), (.sipush 2293, []), (.iadd, []), (.imul, []), (.sipush 2087, []), (.iadd, []), (.nop, [24])]
def b_W_lot_24 : List RI := [(.ireturn, [0])]
def p_W_lot (L : Nat) : List RI := cond (Nat.blt L 12) (cond (Nat.beq L 0) b_W_lot_0 []) (cond (Nat.blt L 24) (cond (Nat.beq L 12) b_W_lot_12 []) (cond (Nat.beq L 24) b_W_lot_24 []))
def b_W_low_0 : List RI := [(.iload_n 0, []), (.ldc 8, [2147483647]), (.iand, []), (.iload_n 1, []), (.irem, []), (.ireturn, [0])]
def p_W_low (L : Nat) : List RI := cond (Nat.beq L 0) b_W_low_0 []
def b_W_sound_0 : List RI := [(.iconst 0, []), (.istore_n 1, []), (.iconst 0, []), (.istore_n 2, []), (.nop, [4])]
def b_W_sound_4 : List RI := [(.iload_n 2, []), (.aload_n 0, []), (.iconst 1, []), (.invokevirtual 9, [66, 2, 15]), (.if_icmp .ge 65, [75]), (.aload_n 0, []), (.iload_n 2, []), (.iconst 2, []), (.invokevirtual 15, [71, 3, 15]), (.iload_n 1, []), (.if_icmp .ne 38, [58]), (.aload_n 0, []), (.iload_n 2, []), (.iconst 1, []), (.invokevirtual 15, [71, 3, 15]), (.iconst 1, []), (.if_icmp .lt 28, [58]), (.aload_n 0, []), (.iload_n 1, []), (.iconst 0, []), (.invokevirtual 19, [72, 3, 15]), (.iload_n 2, []), (.if_icmp .ne 18, [58]), (.aload_n 0, []), (.iload_n 1, []), (.iconst 1, []), (.invokevirtual 19, [72, 3, 15]), (.aload_n 0, []), (.iload_n 2, []), (.iconst 0, []), (.invokevirtual 15, [71, 3, 15]), (.if_icmp .eq 5, [60]), (.nop, [58])]
def b_W_sound_58 : List RI := [(.iconst 0, []), (.ireturn, [1])]
def b_W_sound_60 : List RI := [(.iload_n 1, []), (.aload_n 0, []), (.iload_n 2, []), (.iconst 1, []), (.invokevirtual 15, [71, 3, 15]), (.iadd, []), (.istore_n 1, []), (.iinc 2 1, []), (.goto (-68), [4])]
def b_W_sound_75 : List RI := [(.iconst 0, []), (.istore_n 2, []), (.iconst 0, []), (.istore_n 3, []), (.iconst 0, []), (.istore 4, []), (.iconst 0, []), (.istore 5, []), (.iconst 0, []), (.istore 6, []), (.nop, [88])]
def b_W_sound_88 : List RI := [(.iload 6, []), (.iload_n 1, []), (.if_icmp .ge 143, [234]), (.aload_n 0, []), (.iload 6, []), (.iconst 4, []), (.invokevirtual 19, [72, 3, 15]), (.istore 7, []), (.aload_n 0, []), (.iload 6, []), (.iconst 3, []), (.invokevirtual 19, [72, 3, 15]), (.istore 8, []), (.iload_n 2, []), (.aload_n 0, []), (.iload 6, []), (.iconst 5, []), (.invokevirtual 19, [72, 3, 15]), (.iadd, []), (.istore_n 2, []), (.iload_n 3, []), (.aload_n 0, []), (.iload 6, []), (.iconst 2, []), (.invokevirtual 19, [72, 3, 15]), (.bipush (-99), []), (.if_icmp .ne 7, [139]), (.iconst 0, []), (.goto 4, [140])]
def b_W_sound_139 : List RI := [(.iconst 1, []), (.nop, [140])]
def b_W_sound_140 : List RI := [(.iadd, []), (.istore_n 3, []), (.iload 4, []), (.iload 8, []), (.bipush (-99), []), (.if_icmp .ne 7, [155]), (.iconst 0, []), (.goto 4, [156])]
def b_W_sound_155 : List RI := [(.iconst 1, []), (.nop, [156])]
def b_W_sound_156 : List RI := [(.iadd, []), (.istore 4, []), (.iload 5, []), (.iload 8, []), (.bipush (-99), []), (.if_icmp .ne 7, [172]), (.iconst 0, []), (.goto 11, [180])]
def b_W_sound_172 : List RI := [(.aload_n 0, []), (.iload 6, []), (.iload 8, []), (.invokevirtual 24, [73, 3, 15]), (.nop, [180])]
def b_W_sound_180 : List RI := [(.iadd, []), (.istore 5, []), (.iload 7, []), (.ifCond .lt 41, [226]), (.iload 7, []), (.aload_n 0, []), (.iconst 3, []), (.invokevirtual 27, [70, 2, 15]), (.if_icmp .gt 31, [226]), (.aload_n 0, []), (.iload 6, []), (.iconst 5, []), (.invokevirtual 19, [72, 3, 15]), (.iconst 1, []), (.if_icmp .ne 22, [228]), (.iload 7, []), (.ifCond .ne 15, [226]), (.aload_n 0, []), (.iload 6, []), (.iconst 1, []), (.invokevirtual 19, [72, 3, 15]), (.bipush 9, []), (.if_icmp .ne 5, [228]), (.nop, [226])]
def b_W_sound_226 : List RI := [(.iconst 0, []), (.ireturn, [1])]
def b_W_sound_228 : List RI := [(.iinc 6 1, []), (.goto (-143), [88])]
def b_W_sound_234 : List RI := [(.aload_n 0, []), (.iconst 2, []), (.invokevirtual 9, [66, 2, 15]), (.iload_n 1, []), (.if_icmp .ne 88, [328]), (.aload_n 0, []), (.iconst 5, []), (.invokevirtual 9, [66, 2, 15]), (.iload_n 2, []), (.if_icmp .ne 79, [328]), (.aload_n 0, []), (.iconst 3, []), (.invokevirtual 9, [66, 2, 15]), (.iload_n 3, []), (.if_icmp .ne 70, [328]), (.aload_n 0, []), (.iconst 4, []), (.invokevirtual 9, [66, 2, 15]), (.iload 4, []), (.if_icmp .ne 60, [328]), (.aload_n 0, []), (.invokevirtual 30, [78, 1, 15]), (.iload 4, []), (.iload_n 1, []), (.if_icmp .ge 8, [286]), (.bipush (-99), []), (.goto 5, [288])]
def b_W_sound_286 : List RI := [(.iload 5, []), (.nop, [288])]
def b_W_sound_288 : List RI := [(.if_icmp .ne 40, [328]), (.aload_n 0, []), (.iconst 0, []), (.invokevirtual 34, [77, 2, 15]), (.bipush (-99), []), (.if_icmp .ne 7, [305]), (.iconst 1, []), (.goto 4, [306])]
def b_W_sound_305 : List RI := [(.iconst 0, []), (.nop, [306])]
def b_W_sound_306 : List RI := [(.aload_n 0, []), (.iconst 1, []), (.invokevirtual 34, [77, 2, 15]), (.bipush (-99), []), (.if_icmp .ne 7, [320]), (.iconst 1, []), (.goto 4, [321])]
def b_W_sound_320 : List RI := [(.iconst 0, []), (.nop, [321])]
def b_W_sound_321 : List RI := [(.if_icmp .ne 7, [328]), (.iconst 1, []), (.goto 4, [329])]
def b_W_sound_328 : List RI := [(.iconst 0, []), (.nop, [329])]
def b_W_sound_329 : List RI := [(.ireturn, [1])]
def p_W_sound (L : Nat) : List RI := cond (Nat.blt L 180) (cond (Nat.blt L 88) (cond (Nat.blt L 58) (cond (Nat.blt L 4) (cond (Nat.beq L 0) b_W_sound_0 []) (cond (Nat.beq L 4) b_W_sound_4 [])) (cond (Nat.blt L 60) (cond (Nat.beq L 58) b_W_sound_58 []) (cond (Nat.blt L 75) (cond (Nat.beq L 60) b_W_sound_60 []) (cond (Nat.beq L 75) b_W_sound_75 [])))) (cond (Nat.blt L 155) (cond (Nat.blt L 139) (cond (Nat.beq L 88) b_W_sound_88 []) (cond (Nat.blt L 140) (cond (Nat.beq L 139) b_W_sound_139 []) (cond (Nat.beq L 140) b_W_sound_140 []))) (cond (Nat.blt L 156) (cond (Nat.beq L 155) b_W_sound_155 []) (cond (Nat.blt L 172) (cond (Nat.beq L 156) b_W_sound_156 []) (cond (Nat.beq L 172) b_W_sound_172 []))))) (cond (Nat.blt L 305) (cond (Nat.blt L 234) (cond (Nat.blt L 226) (cond (Nat.beq L 180) b_W_sound_180 []) (cond (Nat.blt L 228) (cond (Nat.beq L 226) b_W_sound_226 []) (cond (Nat.beq L 228) b_W_sound_228 []))) (cond (Nat.blt L 286) (cond (Nat.beq L 234) b_W_sound_234 []) (cond (Nat.blt L 288) (cond (Nat.beq L 286) b_W_sound_286 []) (cond (Nat.beq L 288) b_W_sound_288 [])))) (cond (Nat.blt L 321) (cond (Nat.blt L 306) (cond (Nat.beq L 305) b_W_sound_305 []) (cond (Nat.blt L 320) (cond (Nat.beq L 306) b_W_sound_306 []) (cond (Nat.beq L 320) b_W_sound_320 []))) (cond (Nat.blt L 328) (cond (Nat.beq L 321) b_W_sound_321 []) (cond (Nat.blt L 329) (cond (Nat.beq L 328) b_W_sound_328 []) (cond (Nat.beq L 329) b_W_sound_329 [])))))
def b_W_plan_0 : List RI := [(.aload_n 0, []), (.iconst 0, []), (.invokevirtual 37, [74, 2, 15]), (.istore_n 2, []), (.aload_n 0, []), (.iconst 2, []), (.invokevirtual 9, [66, 2, 15]), (.istore_n 3, []), (.aload_n 0, []), (.iconst 1, []), (.invokevirtual 37, [74, 2, 15]), (.iload_n 2, []), (.if_icmp .eq 5, [23]), (.iconst 0, []), (.ireturn, [1])]
def b_W_plan_23 : List RI := [(.iload_n 2, []), (.bipush (-99), []), (.if_icmp .ne 78, [104]), (.iload_n 3, []), (.ifCond .le 72, [102]), (.aload_n 0, []), (.iload_n 1, []), (.iload_n 3, []), (.invokestatic 40, [86, 2, 0]), (.bipush 6, []), (.invokevirtual 19, [72, 3, 15]), (.bipush (-99), []), (.if_icmp .ne 56, [102]), (.aload_n 0, []), (.iload_n 1, []), (.iload_n 3, []), (.invokestatic 40, [86, 2, 0]), (.invokevirtual 43, [76, 2, 15]), (.bipush (-99), []), (.if_icmp .ne 42, [102]), (.aload_n 0, []), (.iload_n 1, []), (.iload_n 3, []), (.invokestatic 40, [86, 2, 0]), (.iload_n 1, []), (.bipush 7, []), (.ishr, []), (.aload_n 0, []), (.iconst 0, []), (.invokevirtual 9, [66, 2, 15]), (.invokestatic 40, [86, 2, 0]), (.invokevirtual 46, [75, 3, 15]), (.bipush (-99), []), (.if_icmp .ne 16, [102]), (.aload_n 0, []), (.invokevirtual 49, [59, 1, 15]), (.bipush (-2), []), (.if_icmp .ne 7, [102]), (.iconst 1, []), (.goto 4, [103])]
def b_W_plan_102 : List RI := [(.iconst 0, []), (.nop, [103])]
def b_W_plan_103 : List RI := [(.ireturn, [1])]
def b_W_plan_104 : List RI := [(.iconst 0, []), (.istore 4, []), (.iconst 0, []), (.istore 5, []), (.iconst 0, []), (.istore 6, []), (.nop, [113])]
def b_W_plan_113 : List RI := [(.iload 6, []), (.iload_n 3, []), (.if_icmp .ge 130, [246]), (.aload_n 0, []), (.iload 6, []), (.bipush 6, []), (.invokevirtual 19, [72, 3, 15]), (.istore 7, []), (.iload 6, []), (.ifCond .ne 8, [139]), (.iload 7, []), (.goto 13, [149])]
def b_W_plan_139 : List RI := [(.aload_n 0, []), (.iload 6, []), (.iconst 1, []), (.isub, []), (.bipush 6, []), (.invokevirtual 19, [72, 3, 15]), (.nop, [149])]
def b_W_plan_149 : List RI := [(.istore 8, []), (.iload 4, []), (.aload_n 0, []), (.iload 6, []), (.iload 7, []), (.invokevirtual 24, [73, 3, 15]), (.iadd, []), (.istore 4, []), (.aload_n 0, []), (.iload 6, []), (.iconst 2, []), (.invokevirtual 19, [72, 3, 15]), (.bipush (-99), []), (.if_icmp .eq 15, [188]), (.aload_n 0, []), (.iload 6, []), (.iconst 2, []), (.invokevirtual 19, [72, 3, 15]), (.iload 7, []), (.if_icmp .ne 36, [221]), (.nop, [188])]
def b_W_plan_188 : List RI := [(.aload_n 0, []), (.iload 8, []), (.iload 7, []), (.invokevirtual 52, [68, 3, 15]), (.aload_n 0, []), (.iconst 0, []), (.invokevirtual 27, [70, 2, 15]), (.if_icmp .gt 20, [221]), (.iload 8, []), (.iload 7, []), (.if_icmp .eq 15, [223]), (.iload 5, []), (.aload_n 0, []), (.iconst 1, []), (.invokevirtual 27, [70, 2, 15]), (.if_icmp .ge 5, [223]), (.nop, [221])]
def b_W_plan_221 : List RI := [(.iconst 0, []), (.ireturn, [1])]
def b_W_plan_223 : List RI := [(.iload 8, []), (.iload 7, []), (.if_icmp .ne 10, [237]), (.iload 5, []), (.iconst 1, []), (.iadd, []), (.goto 4, [238])]
def b_W_plan_237 : List RI := [(.iconst 1, []), (.nop, [238])]
def b_W_plan_238 : List RI := [(.istore 5, []), (.iinc 6 1, []), (.goto (-130), [113])]
def b_W_plan_246 : List RI := [(.iload 4, []), (.iload_n 2, []), (.if_icmp .ne 26, [275]), (.aload_n 0, []), (.iload_n 2, []), (.invokevirtual 55, [79, 2, 15]), (.bipush (-99), []), (.if_icmp .eq 16, [275]), (.aload_n 0, []), (.iload_n 2, []), (.invokevirtual 55, [79, 2, 15]), (.aload_n 0, []), (.iconst 0, []), (.invokevirtual 27, [70, 2, 15]), (.if_icmp .le 5, [277]), (.nop, [275])]
def b_W_plan_275 : List RI := [(.iconst 0, []), (.ireturn, [1])]
def b_W_plan_277 : List RI := [(.iload_n 3, []), (.ifCond .le 143, [421]), (.iload_n 1, []), (.iload_n 3, []), (.invokestatic 40, [86, 2, 0]), (.istore 6, []), (.iload_n 1, []), (.bipush 7, []), (.ishr, []), (.aload_n 0, []), (.iconst 0, []), (.invokevirtual 9, [66, 2, 15]), (.invokestatic 40, [86, 2, 0]), (.istore 7, []), (.aload_n 0, []), (.iload 6, []), (.iload 7, []), (.invokevirtual 46, [75, 3, 15]), (.istore 8, []), (.aload_n 0, []), (.iload 6, []), (.bipush 6, []), (.invokevirtual 19, [72, 3, 15]), (.istore 9, []), (.iconst 1, []), (.istore 10, []), (.iconst 0, []), (.istore 11, []), (.nop, [328])]
def b_W_plan_328 : List RI := [(.iload 11, []), (.aload_n 0, []), (.iconst 0, []), (.invokevirtual 9, [66, 2, 15]), (.if_icmp .ge 40, [375]), (.iload 10, []), (.ifCond .eq 26, [366]), (.aload_n 0, []), (.iload 6, []), (.iload 11, []), (.invokevirtual 24, [73, 3, 15]), (.aload_n 0, []), (.iload 6, []), (.iload 9, []), (.invokevirtual 24, [73, 3, 15]), (.if_icmp .lt 7, [366]), (.iconst 1, []), (.goto 4, [367])]
def b_W_plan_366 : List RI := [(.iconst 0, []), (.nop, [367])]
def b_W_plan_367 : List RI := [(.istore 10, []), (.iinc 11 1, []), (.goto (-44), [328])]
def b_W_plan_375 : List RI := [(.iload 8, []), (.bipush (-99), []), (.if_icmp .eq 9, [388]), (.iload 8, []), (.iload_n 2, []), (.if_icmp .lt 34, [419]), (.nop, [388])]
def b_W_plan_388 : List RI := [(.aload_n 0, []), (.iload 6, []), (.iload 9, []), (.invokevirtual 46, [75, 3, 15]), (.iload_n 2, []), (.if_icmp .ne 22, [419]), (.aload_n 0, []), (.iload 6, []), (.invokevirtual 43, [76, 2, 15]), (.ifCond .ne 7, [413]), (.iconst 1, []), (.goto 4, [414])]
def b_W_plan_413 : List RI := [(.iconst 0, []), (.nop, [414])]
def b_W_plan_414 : List RI := [(.iload 10, []), (.if_icmp .eq 5, [421]), (.nop, [419])]
def b_W_plan_419 : List RI := [(.iconst 0, []), (.ireturn, [1])]
def b_W_plan_421 : List RI := [(.aload_n 0, []), (.iconst 0, []), (.invokevirtual 34, [77, 2, 15]), (.bipush (-99), []), (.if_icmp .ne 10, [438]), (.aload_n 0, []), (.invokevirtual 30, [78, 1, 15]), (.goto 4, [439])]
def b_W_plan_438 : List RI := [(.iload_n 2, []), (.nop, [439])]
def b_W_plan_439 : List RI := [(.istore 6, []), (.iload 6, []), (.iload_n 2, []), (.if_icmp .lt 7, [451]), (.iconst 1, []), (.goto 4, [452])]
def b_W_plan_451 : List RI := [(.iconst 0, []), (.nop, [452])]
def b_W_plan_452 : List RI := [(.ireturn, [1])]
def p_W_plan (L : Nat) : List RI := cond (Nat.blt L 275) (cond (Nat.blt L 149) (cond (Nat.blt L 103) (cond (Nat.blt L 23) (cond (Nat.beq L 0) b_W_plan_0 []) (cond (Nat.blt L 102) (cond (Nat.beq L 23) b_W_plan_23 []) (cond (Nat.beq L 102) b_W_plan_102 []))) (cond (Nat.blt L 113) (cond (Nat.blt L 104) (cond (Nat.beq L 103) b_W_plan_103 []) (cond (Nat.beq L 104) b_W_plan_104 [])) (cond (Nat.blt L 139) (cond (Nat.beq L 113) b_W_plan_113 []) (cond (Nat.beq L 139) b_W_plan_139 [])))) (cond (Nat.blt L 223) (cond (Nat.blt L 188) (cond (Nat.beq L 149) b_W_plan_149 []) (cond (Nat.blt L 221) (cond (Nat.beq L 188) b_W_plan_188 []) (cond (Nat.beq L 221) b_W_plan_221 []))) (cond (Nat.blt L 238) (cond (Nat.blt L 237) (cond (Nat.beq L 223) b_W_plan_223 []) (cond (Nat.beq L 237) b_W_plan_237 [])) (cond (Nat.blt L 246) (cond (Nat.beq L 238) b_W_plan_238 []) (cond (Nat.beq L 246) b_W_plan_246 []))))) (cond (Nat.blt L 413) (cond (Nat.blt L 366) (cond (Nat.blt L 277) (cond (Nat.beq L 275) b_W_plan_275 []) (cond (Nat.blt L 328) (cond (Nat.beq L 277) b_W_plan_277 []) (cond (Nat.beq L 328) b_W_plan_328 []))) (cond (Nat.blt L 375) (cond (Nat.blt L 367) (cond (Nat.beq L 366) b_W_plan_366 []) (cond (Nat.beq L 367) b_W_plan_367 [])) (cond (Nat.blt L 388) (cond (Nat.beq L 375) b_W_plan_375 []) (cond (Nat.beq L 388) b_W_plan_388 [])))) (cond (Nat.blt L 438) (cond (Nat.blt L 419) (cond (Nat.blt L 414) (cond (Nat.beq L 413) b_W_plan_413 []) (cond (Nat.beq L 414) b_W_plan_414 [])) (cond (Nat.blt L 421) (cond (Nat.beq L 419) b_W_plan_419 []) (cond (Nat.beq L 421) b_W_plan_421 []))) (cond (Nat.blt L 451) (cond (Nat.blt L 439) (cond (Nat.beq L 438) b_W_plan_438 []) (cond (Nat.beq L 439) b_W_plan_439 [])) (cond (Nat.blt L 452) (cond (Nat.beq L 451) b_W_plan_451 []) (cond (Nat.beq L 452) b_W_plan_452 [])))))
def b_W_finishes_0 : List RI := [(.aload_n 0, []), (.iconst 0, []), (.invokevirtual 37, [74, 2, 15]), (.istore_n 1, []), (.aload_n 0, []), (.invokevirtual 49, [59, 1, 15]), (.istore_n 2, []), (.iload_n 1, []), (.bipush (-99), []), (.if_icmp .ne 15, [29]), (.iload_n 2, []), (.bipush (-2), []), (.if_icmp .ne 7, [27]), (.iconst 1, []), (.goto 4, [28])]
def b_W_finishes_27 : List RI := [(.iconst 0, []), (.nop, [28])]
def b_W_finishes_28 : List RI := [(.ireturn, [1])]
def b_W_finishes_29 : List RI := [(.iload_n 2, []), (.iload_n 1, []), (.if_icmp .ne 32, [63]), (.aload_n 0, []), (.iconst 0, []), (.invokevirtual 34, [77, 2, 15]), (.bipush (-99), []), (.if_icmp .ne 22, [63]), (.aload_n 0, []), (.invokevirtual 30, [78, 1, 15]), (.iload_n 1, []), (.if_icmp .ne 14, [63]), (.aload_n 0, []), (.invokevirtual 58, [63, 1, 15]), (.ifCond .lt 7, [63]), (.iconst 1, []), (.goto 4, [64])]
def b_W_finishes_63 : List RI := [(.iconst 0, []), (.nop, [64])]
def b_W_finishes_64 : List RI := [(.ireturn, [1])]
def p_W_finishes (L : Nat) : List RI := cond (Nat.blt L 29) (cond (Nat.blt L 27) (cond (Nat.beq L 0) b_W_finishes_0 []) (cond (Nat.blt L 28) (cond (Nat.beq L 27) b_W_finishes_27 []) (cond (Nat.beq L 28) b_W_finishes_28 []))) (cond (Nat.blt L 63) (cond (Nat.beq L 29) b_W_finishes_29 []) (cond (Nat.blt L 64) (cond (Nat.beq L 63) b_W_finishes_63 []) (cond (Nat.beq L 64) b_W_finishes_64 [])))
def b_W_refuses_0 : List RI := [(.aload_n 0, []), (.bipush 7, []), (.invokevirtual 9, [66, 2, 15]), (.istore_n 1, []), (.aload_n 0, []), (.iconst 2, []), (.invokevirtual 9, [66, 2, 15]), (.istore_n 2, []), (.aload_n 0, []), (.iconst 1, []), (.invokevirtual 9, [66, 2, 15]), (.istore_n 3, []), (.aload_n 0, []), (.iconst 0, []), (.invokevirtual 9, [66, 2, 15]), (.istore 4, []), (.aload_n 0, []), (.bipush 10, []), (.iconst 0, []), (.invokevirtual 61, [49, 3, 15]), (.iconst (-1), []), (.if_icmp .ne 375, [409]), (.aload_n 0, []), (.iconst 0, []), (.iconst (-1), []), (.invokevirtual 61, [49, 3, 15]), (.iconst (-1), []), (.if_icmp .ne 365, [409]), (.aload_n 0, []), (.iload 4, []), (.iconst 0, []), (.iconst 0, []), (.invokevirtual 64, [50, 4, 15]), (.iconst (-1), []), (.if_icmp .ne 353, [409]), (.aload_n 0, []), (.iconst 0, []), (.bipush 10, []), (.iconst 0, []), (.invokevirtual 64, [50, 4, 15]), (.iconst (-1), []), (.if_icmp .ne 341, [409]), (.aload_n 0, []), (.bipush 9, []), (.iconst 0, []), (.iconst 0, []), (.invokevirtual 68, [51, 4, 15]), (.iconst (-1), []), (.if_icmp .ne 329, [409]), (.aload_n 0, []), (.iconst 0, []), (.iconst 4, []), (.iconst 0, []), (.invokevirtual 68, [51, 4, 15]), (.iconst (-1), []), (.if_icmp .ne 318, [409]), (.aload_n 0, []), (.iconst 0, []), (.iconst 3, []), (.iconst 4, []), (.invokevirtual 68, [51, 4, 15]), (.iconst (-1), []), (.if_icmp .ne 307, [409]), (.aload_n 0, []), (.iconst 5, []), (.iconst 1, []), (.invokevirtual 71, [52, 3, 15]), (.iconst (-1), []), (.if_icmp .ne 297, [409]), (.aload_n 0, []), (.iconst 0, []), (.iconst 0, []), (.invokevirtual 71, [52, 3, 15]), (.iconst (-1), []), (.if_icmp .ne 287, [409]), (.aload_n 0, []), (.iconst 1, []), (.iconst 4, []), (.invokevirtual 71, [52, 3, 15]), (.iconst (-1), []), (.if_icmp .ne 277, [409]), (.aload_n 0, []), (.iload_n 3, []), (.iconst 1, []), (.iadd, []), (.iconst 0, []), (.iconst 1, []), (.invokevirtual 74, [53, 4, 15]), (.iconst (-1), []), (.if_icmp .ne 264, [409]), (.aload_n 0, []), (.iconst 0, []), (.bipush 10, []), (.iconst 1, []), (.invokevirtual 74, [53, 4, 15]), (.iconst (-1), []), (.if_icmp .ne 252, [409]), (.aload_n 0, []), (.iconst 0, []), (.iconst 0, []), (.bipush 21, []), (.invokevirtual 74, [53, 4, 15]), (.iconst (-1), []), (.if_icmp .ne 240, [409]), (.aload_n 0, []), (.iload_n 3, []), (.invokevirtual 77, [54, 2, 15]), (.iconst (-1), []), (.if_icmp .ne 231, [409]), (.aload_n 0, []), (.iload_n 3, []), (.iconst 1, []), (.invokevirtual 80, [55, 3, 15]), (.iconst (-1), []), (.if_icmp .ne 221, [409]), (.aload_n 0, []), (.iload_n 2, []), (.iconst 0, []), (.invokevirtual 83, [56, 3, 15]), (.iconst (-1), []), (.if_icmp .ne 211, [409]), (.aload_n 0, []), (.iconst (-1), []), (.iconst 0, []), (.invokevirtual 83, [56, 3, 15]), (.iconst (-1), []), (.if_icmp .ne 201, [409]), (.aload_n 0, []), (.iload_n 2, []), (.iconst 0, []), (.invokevirtual 86, [57, 3, 15]), (.iconst (-1), []), (.if_icmp .ne 191, [409]), (.aload_n 0, []), (.iconst 0, []), (.iload_n 2, []), (.invokevirtual 89, [58, 3, 15]), (.iconst (-1), []), (.if_icmp .ne 181, [409]), (.aload_n 0, []), (.iconst 0, []), (.invokevirtual 92, [60, 2, 15]), (.iconst (-1), []), (.if_icmp .ne 172, [409]), (.aload_n 0, []), (.iconst 2, []), (.invokevirtual 95, [61, 2, 15]), (.iconst (-1), []), (.if_icmp .ne 163, [409]), (.aload_n 0, []), (.iconst (-1), []), (.invokevirtual 98, [62, 2, 15]), (.iconst (-1), []), (.if_icmp .ne 154, [409]), (.aload_n 0, []), (.iconst 0, []), (.invokevirtual 101, [64, 2, 15]), (.iconst (-1), []), (.if_icmp .ne 145, [409]), (.aload_n 0, []), (.bipush 9, []), (.invokevirtual 9, [66, 2, 15]), (.iconst (-1), []), (.if_icmp .ne 135, [409]), (.aload_n 0, []), (.iload 4, []), (.iconst 0, []), (.invokevirtual 104, [67, 3, 15]), (.iconst (-1), []), (.if_icmp .ne 124, [409]), (.aload_n 0, []), (.iload 4, []), (.iconst 0, []), (.invokevirtual 52, [68, 3, 15]), (.iconst (-1), []), (.if_icmp .ne 113, [409]), (.aload_n 0, []), (.iconst 0, []), (.iconst 4, []), (.invokevirtual 107, [69, 3, 15]), (.iconst (-1), []), (.if_icmp .ne 103, [409]), (.aload_n 0, []), (.iconst (-1), []), (.invokevirtual 27, [70, 2, 15]), (.iconst (-1), []), (.if_icmp .ne 94, [409]), (.aload_n 0, []), (.iload_n 3, []), (.iconst 0, []), (.invokevirtual 15, [71, 3, 15]), (.iconst (-1), []), (.if_icmp .ne 84, [409]), (.aload_n 0, []), (.iload_n 2, []), (.iconst 0, []), (.invokevirtual 19, [72, 3, 15]), (.iconst (-1), []), (.if_icmp .ne 74, [409]), (.aload_n 0, []), (.iload_n 2, []), (.iconst 0, []), (.invokevirtual 24, [73, 3, 15]), (.iconst (-1), []), (.if_icmp .ne 64, [409]), (.aload_n 0, []), (.iconst 2, []), (.invokevirtual 37, [74, 2, 15]), (.iconst (-1), []), (.if_icmp .ne 55, [409]), (.aload_n 0, []), (.iload_n 2, []), (.iconst 0, []), (.invokevirtual 46, [75, 3, 15]), (.iconst (-1), []), (.if_icmp .ne 45, [409]), (.aload_n 0, []), (.iload_n 2, []), (.invokevirtual 43, [76, 2, 15]), (.iconst (-1), []), (.if_icmp .ne 36, [409]), (.aload_n 0, []), (.iconst 2, []), (.invokevirtual 34, [77, 2, 15]), (.iconst (-1), []), (.if_icmp .ne 27, [409]), (.aload_n 0, []), (.iconst (-1), []), (.invokevirtual 55, [79, 2, 15]), (.iconst (-1), []), (.if_icmp .ne 18, [409]), (.aload_n 0, []), (.iconst 0, []), (.bipush 10, []), (.invokevirtual 110, [80, 3, 15]), (.iconst (-1), []), (.if_icmp .ne 7, [409]), (.iconst 1, []), (.goto 4, [410])]
def b_W_refuses_409 : List RI := [(.iconst 0, []), (.nop, [410])]
def b_W_refuses_410 : List RI := [(.istore 5, []), (.iload 5, []), (.ifCond .eq 26, [440]), (.aload_n 0, []), (.bipush 7, []), (.invokevirtual 9, [66, 2, 15]), (.iload_n 1, []), (.if_icmp .ne 16, [440]), (.aload_n 0, []), (.iconst 2, []), (.invokevirtual 9, [66, 2, 15]), (.iload_n 2, []), (.if_icmp .ne 7, [440]), (.iconst 1, []), (.goto 4, [441])]
def b_W_refuses_440 : List RI := [(.iconst 0, []), (.nop, [441])]
def b_W_refuses_441 : List RI := [(.ireturn, [1])]
def p_W_refuses (L : Nat) : List RI := cond (Nat.blt L 410) (cond (Nat.blt L 409) (cond (Nat.beq L 0) b_W_refuses_0 []) (cond (Nat.beq L 409) b_W_refuses_409 [])) (cond (Nat.blt L 440) (cond (Nat.beq L 410) b_W_refuses_410 []) (cond (Nat.blt L 441) (cond (Nat.beq L 440) b_W_refuses_440 []) (cond (Nat.beq L 441) b_W_refuses_441 [])))
def b_W_inserts_0 : List RI := [(.aload_n 0, []), (.iconst 1, []), (.invokevirtual 9, [66, 2, 15]), (.istore_n 3, []), (.aload_n 0, []), (.iconst 2, []), (.invokevirtual 9, [66, 2, 15]), (.istore 4, []), (.iload_n 2, []), (.iload_n 3, []), (.iconst 1, []), (.iadd, []), (.invokestatic 40, [86, 2, 0]), (.istore 5, []), (.iload_n 2, []), (.iconst 3, []), (.ishr, []), (.bipush 10, []), (.invokestatic 40, [86, 2, 0]), (.istore 6, []), (.iconst 1, []), (.iload_n 2, []), (.bipush 6, []), (.ishr, []), (.bipush 7, []), (.invokestatic 40, [86, 2, 0]), (.iadd, []), (.istore 7, []), (.iload_n 3, []), (.bipush 30, []), (.if_icmp .eq 13, [61]), (.iload 4, []), (.iload 7, []), (.iadd, []), (.bipush 99, []), (.if_icmp .le 24, [82]), (.nop, [61])]
def b_W_inserts_61 : List RI := [(.aload_n 0, []), (.iload 5, []), (.iload 6, []), (.iload 7, []), (.invokevirtual 74, [53, 4, 15]), (.bipush (-3), []), (.if_icmp .ne 7, [80]), (.iconst 1, []), (.goto 4, [81])]
def b_W_inserts_80 : List RI := [(.iconst 0, []), (.nop, [81])]
def b_W_inserts_81 : List RI := [(.ireturn, [1])]
def b_W_inserts_82 : List RI := [(.iload 4, []), (.ifCond .ne 8, [92]), (.bipush (-99), []), (.goto 12, [101])]
def b_W_inserts_92 : List RI := [(.aload_n 0, []), (.iload 4, []), (.iconst 1, []), (.isub, []), (.iconst 2, []), (.invokevirtual 19, [72, 3, 15]), (.nop, [101])]
def b_W_inserts_101 : List RI := [(.istore 8, []), (.iload 4, []), (.ifCond .ne 8, [113]), (.bipush (-99), []), (.goto 12, [122])]
def b_W_inserts_113 : List RI := [(.aload_n 0, []), (.iload 4, []), (.iconst 1, []), (.isub, []), (.iconst 3, []), (.invokevirtual 19, [72, 3, 15]), (.nop, [122])]
def b_W_inserts_122 : List RI := [(.istore 9, []), (.aload_n 0, []), (.iload 5, []), (.iload 6, []), (.iload 7, []), (.invokevirtual 74, [53, 4, 15]), (.iload 4, []), (.iload 7, []), (.iadd, []), (.if_icmp .ne 44, [183]), (.aload_n 0, []), (.iload 5, []), (.iconst 0, []), (.invokevirtual 15, [71, 3, 15]), (.iload 6, []), (.if_icmp .ne 32, [183]), (.aload_n 0, []), (.iload 5, []), (.iconst 1, []), (.invokevirtual 15, [71, 3, 15]), (.iload 7, []), (.if_icmp .ne 20, [183]), (.aload_n 0, []), (.aload_n 0, []), (.iload 5, []), (.iconst 2, []), (.invokevirtual 15, [71, 3, 15]), (.iconst 2, []), (.invokevirtual 19, [72, 3, 15]), (.bipush (-99), []), (.if_icmp .eq 5, [185]), (.nop, [183])]
def b_W_inserts_183 : List RI := [(.iconst 0, []), (.ireturn, [1])]
def b_W_inserts_185 : List RI := [(.iload 5, []), (.iload_n 3, []), (.if_icmp .eq 37, [225]), (.aload_n 0, []), (.iload 4, []), (.iload 7, []), (.iadd, []), (.iconst 1, []), (.isub, []), (.iconst 2, []), (.invokevirtual 19, [72, 3, 15]), (.iload 8, []), (.if_icmp .ne 24, [229]), (.aload_n 0, []), (.iload 4, []), (.iload 7, []), (.iadd, []), (.iconst 1, []), (.isub, []), (.iconst 3, []), (.invokevirtual 19, [72, 3, 15]), (.iload 9, []), (.if_icmp .ne 7, [229]), (.nop, [225])]
def b_W_inserts_225 : List RI := [(.iconst 1, []), (.goto 4, [230])]
def b_W_inserts_229 : List RI := [(.iconst 0, []), (.nop, [230])]
def b_W_inserts_230 : List RI := [(.istore 10, []), (.iload 10, []), (.ifCond .eq 59, [293]), (.iload_n 1, []), (.iconst 3, []), (.invokestatic 40, [86, 2, 0]), (.ifCond .gt 47, [289]), (.aload_n 0, []), (.iload 5, []), (.invokevirtual 77, [54, 2, 15]), (.iload 4, []), (.if_icmp .ne 40, [293]), (.iload 4, []), (.ifCond .eq 31, [289]), (.aload_n 0, []), (.iload 4, []), (.iconst 1, []), (.isub, []), (.iconst 2, []), (.invokevirtual 19, [72, 3, 15]), (.iload 8, []), (.if_icmp .ne 21, [293]), (.aload_n 0, []), (.iload 4, []), (.iconst 1, []), (.isub, []), (.iconst 3, []), (.invokevirtual 19, [72, 3, 15]), (.iload 9, []), (.if_icmp .ne 7, [293]), (.nop, [289])]
def b_W_inserts_289 : List RI := [(.iconst 1, []), (.goto 4, [294])]
def b_W_inserts_293 : List RI := [(.iconst 0, []), (.nop, [294])]
def b_W_inserts_294 : List RI := [(.ireturn, [1])]
def p_W_inserts (L : Nat) : List RI := cond (Nat.blt L 122) (cond (Nat.blt L 82) (cond (Nat.blt L 80) (cond (Nat.blt L 61) (cond (Nat.beq L 0) b_W_inserts_0 []) (cond (Nat.beq L 61) b_W_inserts_61 [])) (cond (Nat.blt L 81) (cond (Nat.beq L 80) b_W_inserts_80 []) (cond (Nat.beq L 81) b_W_inserts_81 []))) (cond (Nat.blt L 101) (cond (Nat.blt L 92) (cond (Nat.beq L 82) b_W_inserts_82 []) (cond (Nat.beq L 92) b_W_inserts_92 [])) (cond (Nat.blt L 113) (cond (Nat.beq L 101) b_W_inserts_101 []) (cond (Nat.beq L 113) b_W_inserts_113 [])))) (cond (Nat.blt L 229) (cond (Nat.blt L 185) (cond (Nat.blt L 183) (cond (Nat.beq L 122) b_W_inserts_122 []) (cond (Nat.beq L 183) b_W_inserts_183 [])) (cond (Nat.blt L 225) (cond (Nat.beq L 185) b_W_inserts_185 []) (cond (Nat.beq L 225) b_W_inserts_225 []))) (cond (Nat.blt L 289) (cond (Nat.blt L 230) (cond (Nat.beq L 229) b_W_inserts_229 []) (cond (Nat.beq L 230) b_W_inserts_230 [])) (cond (Nat.blt L 293) (cond (Nat.beq L 289) b_W_inserts_289 []) (cond (Nat.blt L 294) (cond (Nat.beq L 293) b_W_inserts_293 []) (cond (Nat.beq L 294) b_W_inserts_294 [])))))
def b_W_betweens_0 : List RI := [(.iload_n 1, []), (.aload_n 0, []), (.iconst 2, []), (.invokevirtual 9, [66, 2, 15]), (.invokestatic 40, [86, 2, 0]), (.istore_n 2, []), (.iload_n 1, []), (.iconst 4, []), (.ishr, []), (.aload_n 0, []), (.iconst 2, []), (.invokevirtual 9, [66, 2, 15]), (.invokestatic 40, [86, 2, 0]), (.istore_n 3, []), (.iload_n 2, []), (.iload_n 3, []), (.if_icmp .lt 19, [43]), (.aload_n 0, []), (.iload_n 2, []), (.iload_n 3, []), (.invokevirtual 89, [58, 3, 15]), (.iconst (-1), []), (.if_icmp .ne 7, [41]), (.iconst 1, []), (.goto 4, [42])]
def b_W_betweens_41 : List RI := [(.iconst 0, []), (.nop, [42])]
def b_W_betweens_42 : List RI := [(.ireturn, [1])]
def b_W_betweens_43 : List RI := [(.aload_n 0, []), (.iload_n 2, []), (.iconst 3, []), (.invokevirtual 19, [72, 3, 15]), (.bipush (-99), []), (.if_icmp .eq 14, [65]), (.aload_n 0, []), (.iload_n 3, []), (.iconst 3, []), (.invokevirtual 19, [72, 3, 15]), (.bipush (-99), []), (.if_icmp .ne 20, [82]), (.nop, [65])]
def b_W_betweens_65 : List RI := [(.aload_n 0, []), (.iload_n 2, []), (.iload_n 3, []), (.invokevirtual 89, [58, 3, 15]), (.bipush (-2), []), (.if_icmp .ne 7, [80]), (.iconst 1, []), (.goto 4, [81])]
def b_W_betweens_80 : List RI := [(.iconst 0, []), (.nop, [81])]
def b_W_betweens_81 : List RI := [(.ireturn, [1])]
def b_W_betweens_82 : List RI := [(.aload_n 0, []), (.iload_n 2, []), (.iload_n 3, []), (.invokevirtual 89, [58, 3, 15]), (.istore 4, []), (.iload_n 2, []), (.iconst 1, []), (.iadd, []), (.istore 5, []), (.nop, [95])]
def b_W_betweens_95 : List RI := [(.iload 5, []), (.iload_n 3, []), (.if_icmp .ge 51, [149]), (.aload_n 0, []), (.iload 5, []), (.iconst 3, []), (.invokevirtual 19, [72, 3, 15]), (.bipush (-99), []), (.if_icmp .eq 31, [141]), (.aload_n 0, []), (.aload_n 0, []), (.iload 5, []), (.iconst 1, []), (.isub, []), (.iconst 3, []), (.invokevirtual 19, [72, 3, 15]), (.aload_n 0, []), (.iload 5, []), (.iconst 3, []), (.invokevirtual 19, [72, 3, 15]), (.invokevirtual 52, [68, 3, 15]), (.aload_n 0, []), (.iconst 0, []), (.invokevirtual 27, [70, 2, 15]), (.if_icmp .le 5, [143]), (.nop, [141])]
def b_W_betweens_141 : List RI := [(.iconst 0, []), (.ireturn, [1])]
def b_W_betweens_143 : List RI := [(.iinc 5 1, []), (.goto (-51), [95])]
def b_W_betweens_149 : List RI := [(.iload 4, []), (.aload_n 0, []), (.aload_n 0, []), (.iload_n 3, []), (.iconst 1, []), (.isub, []), (.iconst 3, []), (.invokevirtual 19, [72, 3, 15]), (.aload_n 0, []), (.iload_n 3, []), (.iconst 3, []), (.invokevirtual 19, [72, 3, 15]), (.invokevirtual 52, [68, 3, 15]), (.if_icmp .ne 7, [176]), (.iconst 1, []), (.goto 4, [177])]
def b_W_betweens_176 : List RI := [(.iconst 0, []), (.nop, [177])]
def b_W_betweens_177 : List RI := [(.ireturn, [1])]
def p_W_betweens (L : Nat) : List RI := cond (Nat.blt L 82) (cond (Nat.blt L 43) (cond (Nat.blt L 41) (cond (Nat.beq L 0) b_W_betweens_0 []) (cond (Nat.blt L 42) (cond (Nat.beq L 41) b_W_betweens_41 []) (cond (Nat.beq L 42) b_W_betweens_42 []))) (cond (Nat.blt L 80) (cond (Nat.blt L 65) (cond (Nat.beq L 43) b_W_betweens_43 []) (cond (Nat.beq L 65) b_W_betweens_65 [])) (cond (Nat.blt L 81) (cond (Nat.beq L 80) b_W_betweens_80 []) (cond (Nat.beq L 81) b_W_betweens_81 [])))) (cond (Nat.blt L 143) (cond (Nat.blt L 95) (cond (Nat.beq L 82) b_W_betweens_82 []) (cond (Nat.blt L 141) (cond (Nat.beq L 95) b_W_betweens_95 []) (cond (Nat.beq L 141) b_W_betweens_141 []))) (cond (Nat.blt L 176) (cond (Nat.blt L 149) (cond (Nat.beq L 143) b_W_betweens_143 []) (cond (Nat.beq L 149) b_W_betweens_149 [])) (cond (Nat.blt L 177) (cond (Nat.beq L 176) b_W_betweens_176 []) (cond (Nat.beq L 177) b_W_betweens_177 []))))
def b_W_breathes_0 : List RI := [(.aload_n 0, []), (.iconst 1, []), (.invokevirtual 9, [66, 2, 15]), (.istore_n 2, []), (.aload_n 0, []), (.iconst 2, []), (.invokevirtual 9, [66, 2, 15]), (.istore_n 3, []), (.iconst 1, []), (.iload_n 1, []), (.bipush 6, []), (.invokestatic 40, [86, 2, 0]), (.iadd, []), (.istore 4, []), (.aload_n 0, []), (.iconst 5, []), (.invokevirtual 9, [66, 2, 15]), (.istore 5, []), (.aload_n 0, []), (.iload 4, []), (.invokevirtual 92, [60, 2, 15]), (.istore 6, []), (.iload 6, []), (.ifCond .ge 46, [85]), (.iload 6, []), (.bipush (-2), []), (.if_icmp .eq 10, [56]), (.iload 6, []), (.bipush (-3), []), (.if_icmp .ne 30, [83]), (.nop, [56])]
def b_W_breathes_56 : List RI := [(.iload 5, []), (.ifCond .le 25, [83]), (.aload_n 0, []), (.iconst 1, []), (.invokevirtual 9, [66, 2, 15]), (.iload_n 2, []), (.if_icmp .ne 16, [83]), (.aload_n 0, []), (.iconst 2, []), (.invokevirtual 9, [66, 2, 15]), (.iload_n 3, []), (.if_icmp .ne 7, [83]), (.iconst 1, []), (.goto 4, [84])]
def b_W_breathes_83 : List RI := [(.iconst 0, []), (.nop, [84])]
def b_W_breathes_84 : List RI := [(.ireturn, [1])]
def b_W_breathes_85 : List RI := [(.aload_n 0, []), (.iconst 5, []), (.invokevirtual 9, [66, 2, 15]), (.ifCond .ne 84, [174]), (.aload_n 0, []), (.iconst 1, []), (.invokevirtual 9, [66, 2, 15]), (.iload_n 2, []), (.iload 6, []), (.iadd, []), (.if_icmp .ne 72, [174]), (.aload_n 0, []), (.iconst 2, []), (.invokevirtual 9, [66, 2, 15]), (.iload_n 3, []), (.iload 6, []), (.iload 4, []), (.imul, []), (.iadd, []), (.if_icmp .ne 57, [174]), (.iload 6, []), (.ifCond .le 7, [129]), (.iconst 1, []), (.goto 4, [130])]
def b_W_breathes_129 : List RI := [(.iconst 0, []), (.nop, [130])]
def b_W_breathes_130 : List RI := [(.iload 5, []), (.ifCond .le 7, [139]), (.iconst 1, []), (.goto 4, [140])]
def b_W_breathes_139 : List RI := [(.iconst 0, []), (.nop, [140])]
def b_W_breathes_140 : List RI := [(.if_icmp .ne 34, [174]), (.iload_n 1, []), (.iconst 5, []), (.ishr, []), (.iconst 2, []), (.invokestatic 40, [86, 2, 0]), (.ifCond .eq 20, [170]), (.aload_n 0, []), (.invokevirtual 58, [63, 1, 15]), (.ifCond .lt 17, [174]), (.aload_n 0, []), (.iconst 5, []), (.invokevirtual 9, [66, 2, 15]), (.iload 5, []), (.if_icmp .ne 7, [174]), (.nop, [170])]
def b_W_breathes_170 : List RI := [(.iconst 1, []), (.goto 4, [175])]
def b_W_breathes_174 : List RI := [(.iconst 0, []), (.nop, [175])]
def b_W_breathes_175 : List RI := [(.ireturn, [1])]
def p_W_breathes (L : Nat) : List RI := cond (Nat.blt L 130) (cond (Nat.blt L 84) (cond (Nat.blt L 56) (cond (Nat.beq L 0) b_W_breathes_0 []) (cond (Nat.blt L 83) (cond (Nat.beq L 56) b_W_breathes_56 []) (cond (Nat.beq L 83) b_W_breathes_83 []))) (cond (Nat.blt L 85) (cond (Nat.beq L 84) b_W_breathes_84 []) (cond (Nat.blt L 129) (cond (Nat.beq L 85) b_W_breathes_85 []) (cond (Nat.beq L 129) b_W_breathes_129 [])))) (cond (Nat.blt L 170) (cond (Nat.blt L 139) (cond (Nat.beq L 130) b_W_breathes_130 []) (cond (Nat.blt L 140) (cond (Nat.beq L 139) b_W_breathes_139 []) (cond (Nat.beq L 140) b_W_breathes_140 []))) (cond (Nat.blt L 174) (cond (Nat.beq L 170) b_W_breathes_170 []) (cond (Nat.blt L 175) (cond (Nat.beq L 174) b_W_breathes_174 []) (cond (Nat.beq L 175) b_W_breathes_175 []))))
def b_W_acts_0 : List RI := [(.iload_n 1, []), (.bipush 16, []), (.invokestatic 40, [86, 2, 0]), (.istore_n 3, []), (.aload_n 0, []), (.iconst 2, []), (.invokevirtual 9, [66, 2, 15]), (.istore 4, []), (.iload_n 3, []), (.iconst 3, []), (.if_icmp .lt 8, [24]), (.iload 4, []), (.ifCond .ne 12, [33]), (.nop, [24])]
def b_W_acts_24 : List RI := [(.aload_n 0, []), (.iload_n 1, []), (.iconst 5, []), (.ishr, []), (.iload_n 2, []), (.invokestatic 113, [91, 3, 0]), (.ireturn, [1])]
def b_W_acts_33 : List RI := [(.iload_n 2, []), (.iload 4, []), (.invokestatic 40, [86, 2, 0]), (.istore 5, []), (.iload_n 2, []), (.bipush 7, []), (.ishr, []), (.aload_n 0, []), (.iconst 0, []), (.invokevirtual 9, [66, 2, 15]), (.iconst 1, []), (.iadd, []), (.invokestatic 40, [86, 2, 0]), (.iconst 1, []), (.isub, []), (.istore 6, []), (.iload_n 3, []), (.iconst 5, []), (.if_icmp .ge 53, [114]), (.aload_n 0, []), (.iload 5, []), (.iconst 2, []), (.invokevirtual 19, [72, 3, 15]), (.istore 7, []), (.aload_n 0, []), (.iload 5, []), (.iload 6, []), (.invokevirtual 83, [56, 3, 15]), (.iload 7, []), (.if_icmp .ne 29, [112]), (.aload_n 0, []), (.iload 5, []), (.iconst 2, []), (.invokevirtual 19, [72, 3, 15]), (.iload 6, []), (.ifCond .ge 8, [103]), (.bipush (-99), []), (.goto 5, [105])]
def b_W_acts_103 : List RI := [(.iload 6, []), (.nop, [105])]
def b_W_acts_105 : List RI := [(.if_icmp .ne 7, [112]), (.iconst 1, []), (.goto 4, [113])]
def b_W_acts_112 : List RI := [(.iconst 0, []), (.nop, [113])]
def b_W_acts_113 : List RI := [(.ireturn, [1])]
def b_W_acts_114 : List RI := [(.iload_n 3, []), (.bipush 9, []), (.if_icmp .ge 53, [170]), (.aload_n 0, []), (.iload 5, []), (.iconst 3, []), (.invokevirtual 19, [72, 3, 15]), (.istore 7, []), (.aload_n 0, []), (.iload 5, []), (.iload 6, []), (.invokevirtual 86, [57, 3, 15]), (.iload 7, []), (.if_icmp .ne 29, [168]), (.aload_n 0, []), (.iload 5, []), (.iconst 3, []), (.invokevirtual 19, [72, 3, 15]), (.iload 6, []), (.ifCond .ge 8, [159]), (.bipush (-99), []), (.goto 5, [161])]
def b_W_acts_159 : List RI := [(.iload 6, []), (.nop, [161])]
def b_W_acts_161 : List RI := [(.if_icmp .ne 7, [168]), (.iconst 1, []), (.goto 4, [169])]
def b_W_acts_168 : List RI := [(.iconst 0, []), (.nop, [169])]
def b_W_acts_169 : List RI := [(.ireturn, [1])]
def b_W_acts_170 : List RI := [(.iload_n 3, []), (.bipush 9, []), (.if_icmp .ne 9, [182]), (.aload_n 0, []), (.iload_n 2, []), (.invokestatic 117, [92, 2, 0]), (.ireturn, [1])]
def b_W_acts_182 : List RI := [(.iload_n 3, []), (.bipush 10, []), (.if_icmp .ne 9, [194]), (.aload_n 0, []), (.iload_n 2, []), (.invokestatic 121, [93, 2, 0]), (.ireturn, [1])]
def b_W_acts_194 : List RI := [(.iload_n 3, []), (.bipush 11, []), (.if_icmp .ne 132, [329]), (.iload_n 2, []), (.iconst 5, []), (.invokestatic 40, [86, 2, 0]), (.istore 7, []), (.iload 7, []), (.ifCond .ne 16, [225]), (.iconst 1, []), (.iload_n 2, []), (.iconst 3, []), (.ishr, []), (.bipush 9, []), (.invokestatic 40, [86, 2, 0]), (.iadd, []), (.goto 67, [289])]
def b_W_acts_225 : List RI := [(.iload 7, []), (.iconst 1, []), (.if_icmp .ne 15, [243]), (.iconst 1, []), (.iload_n 2, []), (.iconst 3, []), (.ishr, []), (.iconst 3, []), (.invokestatic 40, [86, 2, 0]), (.iadd, []), (.goto 49, [289])]
def b_W_acts_243 : List RI := [(.iload 7, []), (.iconst 2, []), (.if_icmp .ne 14, [260]), (.iload_n 2, []), (.iconst 3, []), (.ishr, []), (.bipush 10, []), (.invokestatic 40, [86, 2, 0]), (.goto 32, [289])]
def b_W_acts_260 : List RI := [(.iload 7, []), (.iconst 3, []), (.if_icmp .ne 16, [279]), (.iconst 1, []), (.iload_n 2, []), (.iconst 3, []), (.ishr, []), (.bipush 60, []), (.invokestatic 40, [86, 2, 0]), (.iadd, []), (.goto 13, [289])]
def b_W_acts_279 : List RI := [(.iconst 1, []), (.iload_n 2, []), (.iconst 3, []), (.ishr, []), (.bipush 20, []), (.invokestatic 40, [86, 2, 0]), (.iadd, []), (.nop, [289])]
def b_W_acts_289 : List RI := [(.istore 8, []), (.aload_n 0, []), (.iload 7, []), (.invokevirtual 27, [70, 2, 15]), (.istore 9, []), (.aload_n 0, []), (.iload 7, []), (.iload 8, []), (.invokevirtual 71, [52, 3, 15]), (.iload 9, []), (.if_icmp .ne 18, [327]), (.aload_n 0, []), (.iload 7, []), (.invokevirtual 27, [70, 2, 15]), (.iload 8, []), (.if_icmp .ne 7, [327]), (.iconst 1, []), (.goto 4, [328])]
def b_W_acts_327 : List RI := [(.iconst 0, []), (.nop, [328])]
def b_W_acts_328 : List RI := [(.ireturn, [1])]
def b_W_acts_329 : List RI := [(.iload_n 3, []), (.bipush 12, []), (.if_icmp .ne 76, [408]), (.iload_n 2, []), (.bipush 9, []), (.invokestatic 40, [86, 2, 0]), (.istore 7, []), (.iload_n 2, []), (.iconst 4, []), (.ishr, []), (.iconst 4, []), (.invokestatic 40, [86, 2, 0]), (.istore 8, []), (.aload_n 0, []), (.iload 7, []), (.iload 8, []), (.invokevirtual 107, [69, 3, 15]), (.istore 9, []), (.aload_n 0, []), (.iload 7, []), (.iload 8, []), (.iload_n 2, []), (.bipush 6, []), (.ishr, []), (.iconst 4, []), (.invokestatic 40, [86, 2, 0]), (.invokevirtual 68, [51, 4, 15]), (.iload 9, []), (.if_icmp .ne 26, [406]), (.aload_n 0, []), (.iload 7, []), (.iload 8, []), (.invokevirtual 107, [69, 3, 15]), (.iload_n 2, []), (.bipush 6, []), (.ishr, []), (.iconst 4, []), (.invokestatic 40, [86, 2, 0]), (.if_icmp .ne 7, [406]), (.iconst 1, []), (.goto 4, [407])]
def b_W_acts_406 : List RI := [(.iconst 0, []), (.nop, [407])]
def b_W_acts_407 : List RI := [(.ireturn, [1])]
def b_W_acts_408 : List RI := [(.iload_n 3, []), (.bipush 13, []), (.if_icmp .ne 89, [500]), (.aload_n 0, []), (.iconst 0, []), (.invokevirtual 9, [66, 2, 15]), (.istore 7, []), (.aload_n 0, []), (.iload_n 2, []), (.bipush 10, []), (.invokestatic 40, [86, 2, 0]), (.iload_n 2, []), (.iconst 4, []), (.ishr, []), (.bipush 10, []), (.invokestatic 40, [86, 2, 0]), (.invokevirtual 61, [49, 3, 15]), (.istore 8, []), (.iload 8, []), (.iload 7, []), (.bipush 8, []), (.if_icmp .ne 8, [455]), (.bipush (-3), []), (.goto 5, [457])]
def b_W_acts_455 : List RI := [(.iload 7, []), (.nop, [457])]
def b_W_acts_457 : List RI := [(.if_icmp .ne 41, [498]), (.iload 7, []), (.bipush 8, []), (.if_icmp .eq 30, [494]), (.aload_n 0, []), (.iload 7, []), (.iconst 0, []), (.invokevirtual 104, [67, 3, 15]), (.iload_n 2, []), (.bipush 10, []), (.invokestatic 40, [86, 2, 0]), (.if_icmp .ne 18, [498]), (.aload_n 0, []), (.iload 7, []), (.iload 7, []), (.invokevirtual 52, [68, 3, 15]), (.ifCond .ne 7, [498]), (.nop, [494])]
def b_W_acts_494 : List RI := [(.iconst 1, []), (.goto 4, [499])]
def b_W_acts_498 : List RI := [(.iconst 0, []), (.nop, [499])]
def b_W_acts_499 : List RI := [(.ireturn, [1])]
def b_W_acts_500 : List RI := [(.iload_n 3, []), (.bipush 14, []), (.if_icmp .ne 72, [575]), (.iload_n 2, []), (.aload_n 0, []), (.iconst 1, []), (.invokevirtual 9, [66, 2, 15]), (.invokestatic 40, [86, 2, 0]), (.istore 7, []), (.aload_n 0, []), (.iload 7, []), (.iconst 1, []), (.invokevirtual 15, [71, 3, 15]), (.istore 8, []), (.iconst 1, []), (.iload_n 2, []), (.iconst 5, []), (.ishr, []), (.bipush 6, []), (.invokestatic 40, [86, 2, 0]), (.iadd, []), (.istore 9, []), (.aload_n 0, []), (.iload 7, []), (.iload 9, []), (.invokevirtual 80, [55, 3, 15]), (.iload 4, []), (.iload 8, []), (.isub, []), (.iload 9, []), (.iadd, []), (.bipush 99, []), (.if_icmp .le 8, [564]), (.bipush (-3), []), (.goto 5, [566])]
def b_W_acts_564 : List RI := [(.iload 8, []), (.nop, [566])]
def b_W_acts_566 : List RI := [(.if_icmp .ne 7, [573]), (.iconst 1, []), (.goto 4, [574])]
def b_W_acts_573 : List RI := [(.iconst 0, []), (.nop, [574])]
def b_W_acts_574 : List RI := [(.ireturn, [1])]
def b_W_acts_575 : List RI := [(.aload_n 0, []), (.iload_n 2, []), (.iconst 2, []), (.invokestatic 40, [86, 2, 0]), (.invokevirtual 95, [61, 2, 15]), (.iload 4, []), (.if_icmp .ne 49, [635]), (.aload_n 0, []), (.iconst 4, []), (.iconst 1, []), (.iload_n 2, []), (.iconst 3, []), (.ishr, []), (.bipush 20, []), (.invokestatic 40, [86, 2, 0]), (.iadd, []), (.invokevirtual 71, [52, 3, 15]), (.ifCond .lt 31, [635]), (.aload_n 0, []), (.iload_n 2, []), (.iconst 2, []), (.invokestatic 40, [86, 2, 0]), (.invokevirtual 98, [62, 2, 15]), (.iload 4, []), (.if_icmp .ne 17, [635]), (.aload_n 0, []), (.iconst 2, []), (.invokevirtual 9, [66, 2, 15]), (.iload 4, []), (.if_icmp .ne 7, [635]), (.iconst 1, []), (.goto 4, [636])]
def b_W_acts_635 : List RI := [(.iconst 0, []), (.nop, [636])]
def b_W_acts_636 : List RI := [(.ireturn, [1])]
def p_W_acts (L : Nat) : List RI := cond (Nat.blt L 289) (cond (Nat.blt L 161) (cond (Nat.blt L 105) (cond (Nat.blt L 33) (cond (Nat.blt L 24) (cond (Nat.beq L 0) b_W_acts_0 []) (cond (Nat.beq L 24) b_W_acts_24 [])) (cond (Nat.blt L 103) (cond (Nat.beq L 33) b_W_acts_33 []) (cond (Nat.beq L 103) b_W_acts_103 []))) (cond (Nat.blt L 113) (cond (Nat.blt L 112) (cond (Nat.beq L 105) b_W_acts_105 []) (cond (Nat.beq L 112) b_W_acts_112 [])) (cond (Nat.blt L 114) (cond (Nat.beq L 113) b_W_acts_113 []) (cond (Nat.blt L 159) (cond (Nat.beq L 114) b_W_acts_114 []) (cond (Nat.beq L 159) b_W_acts_159 []))))) (cond (Nat.blt L 194) (cond (Nat.blt L 169) (cond (Nat.blt L 168) (cond (Nat.beq L 161) b_W_acts_161 []) (cond (Nat.beq L 168) b_W_acts_168 [])) (cond (Nat.blt L 170) (cond (Nat.beq L 169) b_W_acts_169 []) (cond (Nat.blt L 182) (cond (Nat.beq L 170) b_W_acts_170 []) (cond (Nat.beq L 182) b_W_acts_182 [])))) (cond (Nat.blt L 243) (cond (Nat.blt L 225) (cond (Nat.beq L 194) b_W_acts_194 []) (cond (Nat.beq L 225) b_W_acts_225 [])) (cond (Nat.blt L 260) (cond (Nat.beq L 243) b_W_acts_243 []) (cond (Nat.blt L 279) (cond (Nat.beq L 260) b_W_acts_260 []) (cond (Nat.beq L 279) b_W_acts_279 [])))))) (cond (Nat.blt L 498) (cond (Nat.blt L 407) (cond (Nat.blt L 328) (cond (Nat.blt L 327) (cond (Nat.beq L 289) b_W_acts_289 []) (cond (Nat.beq L 327) b_W_acts_327 [])) (cond (Nat.blt L 329) (cond (Nat.beq L 328) b_W_acts_328 []) (cond (Nat.blt L 406) (cond (Nat.beq L 329) b_W_acts_329 []) (cond (Nat.beq L 406) b_W_acts_406 [])))) (cond (Nat.blt L 455) (cond (Nat.blt L 408) (cond (Nat.beq L 407) b_W_acts_407 []) (cond (Nat.beq L 408) b_W_acts_408 [])) (cond (Nat.blt L 457) (cond (Nat.beq L 455) b_W_acts_455 []) (cond (Nat.blt L 494) (cond (Nat.beq L 457) b_W_acts_457 []) (cond (Nat.beq L 494) b_W_acts_494 []))))) (cond (Nat.blt L 573) (cond (Nat.blt L 500) (cond (Nat.blt L 499) (cond (Nat.beq L 498) b_W_acts_498 []) (cond (Nat.beq L 499) b_W_acts_499 [])) (cond (Nat.blt L 564) (cond (Nat.beq L 500) b_W_acts_500 []) (cond (Nat.blt L 566) (cond (Nat.beq L 564) b_W_acts_564 []) (cond (Nat.beq L 566) b_W_acts_566 [])))) (cond (Nat.blt L 575) (cond (Nat.blt L 574) (cond (Nat.beq L 573) b_W_acts_573 []) (cond (Nat.beq L 574) b_W_acts_574 [])) (cond (Nat.blt L 635) (cond (Nat.beq L 575) b_W_acts_575 []) (cond (Nat.blt L 636) (cond (Nat.beq L 635) b_W_acts_635 []) (cond (Nat.beq L 636) b_W_acts_636 []))))))
def b_W_law_0 : List RI := [(.new 10, [5]), (.dup, []), (.invokespecial 124, [48, 1, 15]), (.astore_n 1, []), (.aload_n 1, []), (.invokestatic 125, [87, 1, 0]), (.ifCond .eq 54, [66]), (.aload_n 1, []), (.iconst 0, []), (.invokestatic 128, [88, 2, 0]), (.ifCond .eq 46, [66]), (.aload_n 1, []), (.invokevirtual 58, [63, 1, 15]), (.bipush (-2), []), (.if_icmp .ne 37, [66]), (.aload_n 1, []), (.iconst 0, []), (.invokevirtual 98, [62, 2, 15]), (.bipush (-2), []), (.if_icmp .ne 27, [66]), (.aload_n 1, []), (.iconst 1, []), (.invokevirtual 98, [62, 2, 15]), (.bipush (-2), []), (.if_icmp .ne 17, [66]), (.aload_n 1, []), (.invokevirtual 131, [65, 1, 15]), (.ifCond .ne 10, [66]), (.aload_n 1, []), (.invokevirtual 58, [63, 1, 15]), (.ifCond .eq 5, [68]), (.nop, [66])]
def b_W_law_66 : List RI := [(.iconst 0, []), (.ireturn, [1])]
def b_W_law_68 : List RI := [(.iconst 0, []), (.istore_n 2, []), (.nop, [70])]
def b_W_law_70 : List RI := [(.iload_n 2, []), (.iconst 3, []), (.if_icmp .ge 49, [121]), (.aload_n 1, []), (.aload_n 0, []), (.bipush 90, []), (.iload_n 2, []), (.iadd, []), (.invokestatic 134, [85, 2, 0]), (.bipush 10, []), (.invokestatic 40, [86, 2, 0]), (.aload_n 0, []), (.bipush 90, []), (.iload_n 2, []), (.iadd, []), (.invokestatic 134, [85, 2, 0]), (.iconst 4, []), (.ishr, []), (.bipush 10, []), (.invokestatic 40, [86, 2, 0]), (.invokevirtual 61, [49, 3, 15]), (.iload_n 2, []), (.iconst 1, []), (.iadd, []), (.if_icmp .eq 5, [115]), (.iconst 0, []), (.ireturn, [1])]
def b_W_law_115 : List RI := [(.iinc 2 1, []), (.goto (-48), [70])]
def b_W_law_121 : List RI := [(.iconst 0, []), (.istore_n 2, []), (.nop, [123])]
def b_W_law_123 : List RI := [(.iload_n 2, []), (.bipush 40, []), (.if_icmp .ge 71, [197]), (.aload_n 0, []), (.iconst 2, []), (.iload_n 2, []), (.imul, []), (.invokestatic 134, [85, 2, 0]), (.istore_n 3, []), (.aload_n 0, []), (.iconst 2, []), (.iload_n 2, []), (.imul, []), (.iconst 1, []), (.iadd, []), (.invokestatic 134, [85, 2, 0]), (.istore 4, []), (.aload_n 1, []), (.iload_n 3, []), (.iload 4, []), (.invokestatic 138, [94, 3, 0]), (.ifCond .eq 34, [189]), (.aload_n 1, []), (.invokestatic 125, [87, 1, 0]), (.ifCond .eq 27, [189]), (.iload_n 2, []), (.bipush 6, []), (.irem, []), (.iconst 5, []), (.if_icmp .ne 21, [191]), (.aload_n 1, []), (.iload 4, []), (.invokestatic 128, [88, 2, 0]), (.ifCond .eq 10, [189]), (.aload_n 1, []), (.invokestatic 141, [89, 1, 0]), (.ifCond .ne 5, [191]), (.nop, [189])]
def b_W_law_189 : List RI := [(.iconst 0, []), (.ireturn, [1])]
def b_W_law_191 : List RI := [(.iinc 2 1, []), (.goto (-71), [123])]
def b_W_law_197 : List RI := [(.aload_n 1, []), (.invokestatic 144, [90, 1, 0]), (.ireturn, [1])]
def p_W_law (L : Nat) : List RI := cond (Nat.blt L 121) (cond (Nat.blt L 68) (cond (Nat.blt L 66) (cond (Nat.beq L 0) b_W_law_0 []) (cond (Nat.beq L 66) b_W_law_66 [])) (cond (Nat.blt L 70) (cond (Nat.beq L 68) b_W_law_68 []) (cond (Nat.blt L 115) (cond (Nat.beq L 70) b_W_law_70 []) (cond (Nat.beq L 115) b_W_law_115 [])))) (cond (Nat.blt L 189) (cond (Nat.blt L 123) (cond (Nat.beq L 121) b_W_law_121 []) (cond (Nat.beq L 123) b_W_law_123 [])) (cond (Nat.blt L 191) (cond (Nat.beq L 189) b_W_law_189 []) (cond (Nat.blt L 197) (cond (Nat.beq L 191) b_W_law_191 []) (cond (Nat.beq L 197) b_W_law_197 []))))
def P (k : Nat) : Nat → List RI := cond (Nat.blt k 48) (cond (Nat.blt k 24) (cond (Nat.blt k 12) (cond (Nat.blt k 6) (cond (Nat.blt k 3) (cond (Nat.blt k 1) (cond (Nat.beq k 0) p_A_init (fun _ => [])) (cond (Nat.blt k 2) (cond (Nat.beq k 1) p_A_follow (fun _ => [])) (cond (Nat.beq k 2) p_A_changeIn (fun _ => [])))) (cond (Nat.blt k 4) (cond (Nat.beq k 3) p_P_init (fun _ => [])) (cond (Nat.blt k 5) (cond (Nat.beq k 4) p_P_prepare (fun _ => [])) (cond (Nat.beq k 5) p_P_fillCosts (fun _ => []))))) (cond (Nat.blt k 9) (cond (Nat.blt k 7) (cond (Nat.beq k 6) p_P_useSpeed (fun _ => [])) (cond (Nat.blt k 8) (cond (Nat.beq k 7) p_P_barOthers (fun _ => [])) (cond (Nat.beq k 8) p_P_leastFromEnd (fun _ => [])))) (cond (Nat.blt k 10) (cond (Nat.beq k 9) p_P_fillRest (fun _ => [])) (cond (Nat.blt k 11) (cond (Nat.beq k 10) p_P_leastOfLeaving (fun _ => [])) (cond (Nat.beq k 11) p_P_longer (fun _ => [])))))) (cond (Nat.blt k 18) (cond (Nat.blt k 15) (cond (Nat.blt k 13) (cond (Nat.beq k 12) p_P_leastFromStart (fun _ => [])) (cond (Nat.blt k 14) (cond (Nat.beq k 13) p_P_fillHere (fun _ => [])) (cond (Nat.beq k 14) p_P_leastOfEntering (fun _ => [])))) (cond (Nat.blt k 16) (cond (Nat.beq k 15) p_P_choose (fun _ => [])) (cond (Nat.blt k 17) (cond (Nat.beq k 16) p_P_bestFirst (fun _ => [])) (cond (Nat.beq k 17) p_P_bestNext (fun _ => []))))) (cond (Nat.blt k 21) (cond (Nat.blt k 19) (cond (Nat.beq k 18) p_R_init (fun _ => [])) (cond (Nat.blt k 20) (cond (Nat.beq k 19) p_R_readItems (fun _ => [])) (cond (Nat.beq k 20) p_R_readItem (fun _ => [])))) (cond (Nat.blt k 22) (cond (Nat.beq k 21) p_R_readNumber (fun _ => [])) (cond (Nat.blt k 23) (cond (Nat.beq k 22) p_R_skipSpaces (fun _ => [])) (cond (Nat.beq k 23) p_R_isDigit (fun _ => []))))))) (cond (Nat.blt k 36) (cond (Nat.blt k 30) (cond (Nat.blt k 27) (cond (Nat.blt k 25) (cond (Nat.beq k 24) p_R_kindOf (fun _ => [])) (cond (Nat.blt k 26) (cond (Nat.beq k 25) p_S_init (fun _ => [])) (cond (Nat.beq k 26) p_S_copyFrom (fun _ => [])))) (cond (Nat.blt k 28) (cond (Nat.beq k 27) p_S_hasMouth (fun _ => [])) (cond (Nat.blt k 29) (cond (Nat.beq k 28) p_S_hasSegment (fun _ => [])) (cond (Nat.beq k 29) p_S_hasFrame (fun _ => []))))) (cond (Nat.blt k 33) (cond (Nat.blt k 31) (cond (Nat.beq k 30) p_S_hasRoomFor (fun _ => [])) (cond (Nat.blt k 32) (cond (Nat.beq k 31) p_S_distanceOf (fun _ => [])) (cond (Nat.beq k 32) p_S_jumpOf (fun _ => [])))) (cond (Nat.blt k 34) (cond (Nat.beq k 33) p_S_nearestOfAll (fun _ => [])) (cond (Nat.blt k 35) (cond (Nat.beq k 34) p_S_nearestWithin (fun _ => [])) (cond (Nat.beq k 35) p_S_wrongOf (fun _ => [])))))) (cond (Nat.blt k 42) (cond (Nat.blt k 39) (cond (Nat.blt k 37) (cond (Nat.beq k 36) p_S_leastWrongFor (fun _ => [])) (cond (Nat.blt k 38) (cond (Nat.beq k 37) p_S_countSet (fun _ => [])) (cond (Nat.beq k 38) p_S_firstFrameOf (fun _ => [])))) (cond (Nat.blt k 40) (cond (Nat.beq k 39) p_S_segmentAt (fun _ => [])) (cond (Nat.blt k 41) (cond (Nat.beq k 40) p_S_kindAt (fun _ => [])) (cond (Nat.beq k 41) p_S_openSegment (fun _ => []))))) (cond (Nat.blt k 45) (cond (Nat.blt k 43) (cond (Nat.beq k 42) p_S_closeSegment (fun _ => [])) (cond (Nat.blt k 44) (cond (Nat.beq k 43) p_S_openFrames (fun _ => [])) (cond (Nat.beq k 44) p_S_closeFrames (fun _ => [])))) (cond (Nat.blt k 46) (cond (Nat.beq k 45) p_T_init (fun _ => [])) (cond (Nat.blt k 47) (cond (Nat.beq k 46) p_T_copyFrom (fun _ => [])) (cond (Nat.beq k 47) p_T_countTaken (fun _ => [])))))))) (cond (Nat.blt k 72) (cond (Nat.blt k 60) (cond (Nat.blt k 54) (cond (Nat.blt k 51) (cond (Nat.blt k 49) (cond (Nat.beq k 48) p_L_init (fun _ => [])) (cond (Nat.blt k 50) (cond (Nat.beq k 49) p_L_addMouth (fun _ => [])) (cond (Nat.beq k 50) p_L_setMouth (fun _ => [])))) (cond (Nat.blt k 52) (cond (Nat.beq k 51) p_L_setSound (fun _ => [])) (cond (Nat.blt k 53) (cond (Nat.beq k 52) p_L_setNumber (fun _ => [])) (cond (Nat.beq k 53) p_L_insert (fun _ => []))))) (cond (Nat.blt k 57) (cond (Nat.blt k 55) (cond (Nat.beq k 54) p_L_remove (fun _ => [])) (cond (Nat.blt k 56) (cond (Nat.beq k 55) p_L_stretch (fun _ => [])) (cond (Nat.beq k 56) p_L_pin (fun _ => [])))) (cond (Nat.blt k 58) (cond (Nat.beq k 57) p_L_draw (fun _ => [])) (cond (Nat.blt k 59) (cond (Nat.beq k 58) p_L_between (fun _ => [])) (cond (Nat.beq k 59) p_L_finish (fun _ => [])))))) (cond (Nat.blt k 66) (cond (Nat.blt k 63) (cond (Nat.blt k 61) (cond (Nat.beq k 60) p_L_breathe (fun _ => [])) (cond (Nat.blt k 62) (cond (Nat.beq k 61) p_L_take (fun _ => [])) (cond (Nat.beq k 62) p_L_restore (fun _ => [])))) (cond (Nat.blt k 64) (cond (Nat.beq k 63) p_L_undo (fun _ => [])) (cond (Nat.blt k 65) (cond (Nat.beq k 64) p_L_append (fun _ => [])) (cond (Nat.beq k 65) p_L_load (fun _ => []))))) (cond (Nat.blt k 69) (cond (Nat.blt k 67) (cond (Nat.beq k 66) p_L_count (fun _ => [])) (cond (Nat.blt k 68) (cond (Nat.beq k 67) p_L_mouth (fun _ => [])) (cond (Nat.beq k 68) p_L_jump (fun _ => [])))) (cond (Nat.blt k 70) (cond (Nat.beq k 69) p_L_sound (fun _ => [])) (cond (Nat.blt k 71) (cond (Nat.beq k 70) p_L_number (fun _ => [])) (cond (Nat.beq k 71) p_L_segment (fun _ => []))))))) (cond (Nat.blt k 84) (cond (Nat.blt k 78) (cond (Nat.blt k 75) (cond (Nat.blt k 73) (cond (Nat.beq k 72) p_L_frame (fun _ => [])) (cond (Nat.blt k 74) (cond (Nat.beq k 73) p_L_wrongness (fun _ => [])) (cond (Nat.beq k 74) p_L_least (fun _ => [])))) (cond (Nat.blt k 76) (cond (Nat.beq k 75) p_L_leastWith (fun _ => [])) (cond (Nat.blt k 77) (cond (Nat.beq k 76) p_L_why (fun _ => [])) (cond (Nat.beq k 77) p_L_fault (fun _ => []))))) (cond (Nat.blt k 81) (cond (Nat.blt k 79) (cond (Nat.beq k 78) p_L_drawnSum (fun _ => [])) (cond (Nat.blt k 80) (cond (Nat.beq k 79) p_L_speedFor (fun _ => [])) (cond (Nat.beq k 80) p_L_nearest (fun _ => [])))) (cond (Nat.blt k 82) (cond (Nat.beq k 81) p_L_isOutside (fun _ => [])) (cond (Nat.blt k 83) (cond (Nat.beq k 82) p_L_recordState (fun _ => [])) (cond (Nat.beq k 83) p_L_partWay (fun _ => [])))))) (cond (Nat.blt k 90) (cond (Nat.blt k 87) (cond (Nat.blt k 85) (cond (Nat.beq k 84) p_L_faultAt (fun _ => [])) (cond (Nat.blt k 86) (cond (Nat.beq k 85) p_W_lot (fun _ => [])) (cond (Nat.beq k 86) p_W_low (fun _ => [])))) (cond (Nat.blt k 88) (cond (Nat.beq k 87) p_W_sound (fun _ => [])) (cond (Nat.blt k 89) (cond (Nat.beq k 88) p_W_plan (fun _ => [])) (cond (Nat.beq k 89) p_W_finishes (fun _ => []))))) (cond (Nat.blt k 93) (cond (Nat.blt k 91) (cond (Nat.beq k 90) p_W_refuses (fun _ => [])) (cond (Nat.blt k 92) (cond (Nat.beq k 91) p_W_inserts (fun _ => [])) (cond (Nat.beq k 92) p_W_betweens (fun _ => [])))) (cond (Nat.blt k 94) (cond (Nat.beq k 93) p_W_breathes (fun _ => [])) (cond (Nat.blt k 95) (cond (Nat.beq k 94) p_W_acts (fun _ => [])) (cond (Nat.beq k 95) p_W_law (fun _ => []))))))))
def lbM (k : Nat) : List Nat := cond (Nat.blt k 48) (cond (Nat.blt k 24) (cond (Nat.blt k 12) (cond (Nat.blt k 6) (cond (Nat.blt k 3) (cond (Nat.blt k 1) (cond (Nat.beq k 0) ([0]) []) (cond (Nat.blt k 2) (cond (Nat.beq k 1) ([0, 22, 49, 84, 85, 108, 112, 125, 156, 162]) []) (cond (Nat.beq k 2) ([0, 15, 26]) []))) (cond (Nat.blt k 4) (cond (Nat.beq k 3) ([0]) []) (cond (Nat.blt k 5) (cond (Nat.beq k 4) ([0, 41, 66, 90, 96]) []) (cond (Nat.beq k 5) ([0, 3, 37, 59]) [])))) (cond (Nat.blt k 9) (cond (Nat.blt k 7) (cond (Nat.beq k 6) ([0, 2, 13, 48, 49, 56, 62]) []) (cond (Nat.blt k 8) (cond (Nat.beq k 7) ([0, 2, 28, 34]) []) (cond (Nat.beq k 8) ([0, 9, 16, 22, 42, 48, 53, 80, 90, 92]) []))) (cond (Nat.blt k 10) (cond (Nat.beq k 9) ([0, 23, 24, 29, 47, 63, 96, 130]) []) (cond (Nat.blt k 11) (cond (Nat.beq k 10) ([0, 6, 55, 61]) []) (cond (Nat.beq k 11) ([0]) []))))) (cond (Nat.blt k 18) (cond (Nat.blt k 15) (cond (Nat.blt k 13) (cond (Nat.beq k 12) ([0, 9, 11, 36, 56, 62, 67, 77, 106, 112, 122, 124]) []) (cond (Nat.blt k 14) (cond (Nat.beq k 13) ([0, 7, 33, 46, 51, 60, 64, 69, 120, 123, 173]) []) (cond (Nat.beq k 14) ([0, 5, 52, 58]) []))) (cond (Nat.blt k 16) (cond (Nat.beq k 15) ([0, 11, 15, 39, 53, 83, 84, 91]) []) (cond (Nat.blt k 17) (cond (Nat.beq k 16) ([0, 4, 33, 39]) []) (cond (Nat.beq k 17) ([0, 10, 54, 95, 110, 116]) [])))) (cond (Nat.blt k 21) (cond (Nat.blt k 19) (cond (Nat.beq k 18) ([0]) []) (cond (Nat.blt k 20) (cond (Nat.beq k 19) ([0, 32, 73]) []) (cond (Nat.beq k 20) ([0, 27, 36, 76, 155]) []))) (cond (Nat.blt k 22) (cond (Nat.beq k 21) ([0, 12, 77, 102, 103, 130, 135]) []) (cond (Nat.blt k 23) (cond (Nat.beq k 22) ([0, 38]) []) (cond (Nat.beq k 23) ([0, 16, 17]) [])))))) (cond (Nat.blt k 36) (cond (Nat.blt k 30) (cond (Nat.blt k 27) (cond (Nat.blt k 25) (cond (Nat.beq k 24) ([0, 9, 28, 29]) []) (cond (Nat.blt k 26) (cond (Nat.beq k 25) ([0, 81, 106, 108, 130]) []) (cond (Nat.beq k 26) ([0]) []))) (cond (Nat.blt k 28) (cond (Nat.beq k 27) ([0, 16, 17]) []) (cond (Nat.blt k 29) (cond (Nat.beq k 28) ([0, 16, 17]) []) (cond (Nat.beq k 29) ([0, 16, 17]) [])))) (cond (Nat.blt k 33) (cond (Nat.blt k 31) (cond (Nat.beq k 30) ([0, 24, 25]) []) (cond (Nat.blt k 32) (cond (Nat.beq k 31) ([0]) []) (cond (Nat.beq k 32) ([0]) []))) (cond (Nat.blt k 34) (cond (Nat.beq k 33) ([0, 5, 35, 41]) []) (cond (Nat.blt k 35) (cond (Nat.beq k 34) ([0, 6, 56, 60, 66, 76, 78]) []) (cond (Nat.beq k 35) ([0, 27]) []))))) (cond (Nat.blt k 42) (cond (Nat.blt k 39) (cond (Nat.blt k 37) (cond (Nat.beq k 36) ([0, 4, 29, 35]) []) (cond (Nat.blt k 38) (cond (Nat.beq k 37) ([0, 4, 23, 29]) []) (cond (Nat.beq k 38) ([0, 4, 24]) []))) (cond (Nat.blt k 40) (cond (Nat.beq k 39) ([0, 4, 28, 34]) []) (cond (Nat.blt k 41) (cond (Nat.beq k 40) ([0]) []) (cond (Nat.beq k 41) ([0, 16, 60]) [])))) (cond (Nat.blt k 45) (cond (Nat.blt k 43) (cond (Nat.beq k 42) ([0, 19, 61]) []) (cond (Nat.blt k 44) (cond (Nat.beq k 43) ([0, 7, 46, 48, 77]) []) (cond (Nat.beq k 44) ([0, 4, 46]) []))) (cond (Nat.blt k 46) (cond (Nat.beq k 45) ([0, 25, 49]) []) (cond (Nat.blt k 47) (cond (Nat.beq k 46) ([0, 13, 54, 60]) []) (cond (Nat.beq k 47) ([0, 4, 21, 27]) []))))))) (cond (Nat.blt k 72) (cond (Nat.blt k 60) (cond (Nat.blt k 54) (cond (Nat.blt k 51) (cond (Nat.blt k 49) (cond (Nat.beq k 48) ([0, 25, 49]) []) (cond (Nat.blt k 50) (cond (Nat.beq k 49) ([0, 28, 30, 42]) []) (cond (Nat.beq k 50) ([0, 38, 40]) []))) (cond (Nat.blt k 52) (cond (Nat.beq k 51) ([0, 32, 34]) []) (cond (Nat.blt k 53) (cond (Nat.beq k 52) ([0, 26, 28]) []) (cond (Nat.beq k 53) ([0, 42, 44, 56]) [])))) (cond (Nat.blt k 57) (cond (Nat.blt k 55) (cond (Nat.beq k 54) ([0, 18]) []) (cond (Nat.blt k 56) (cond (Nat.beq k 55) ([0, 26, 28, 53, 85, 98]) []) (cond (Nat.beq k 56) ([0, 29, 31, 58, 59]) []))) (cond (Nat.blt k 58) (cond (Nat.beq k 57) ([0, 29, 31, 58, 59]) []) (cond (Nat.blt k 59) (cond (Nat.beq k 58) ([0, 29, 31, 65, 68, 81, 166]) []) (cond (Nat.beq k 59) ([0, 31, 45, 86]) []))))) (cond (Nat.blt k 66) (cond (Nat.blt k 63) (cond (Nat.blt k 61) (cond (Nat.beq k 60) ([0, 12, 28, 61, 81, 84, 98, 115]) []) (cond (Nat.blt k 62) (cond (Nat.beq k 61) ([0, 11]) []) (cond (Nat.beq k 62) ([0, 11, 26]) []))) (cond (Nat.blt k 64) (cond (Nat.beq k 63) ([0, 10]) []) (cond (Nat.blt k 65) (cond (Nat.beq k 64) ([0, 13, 25]) []) (cond (Nat.beq k 65) ([0, 57]) [])))) (cond (Nat.blt k 69) (cond (Nat.blt k 67) (cond (Nat.beq k 66) ([0, 60, 65, 70, 75, 84, 93, 109, 117, 122, 127]) []) (cond (Nat.blt k 68) (cond (Nat.beq k 67) ([0, 23, 25, 44, 56]) []) (cond (Nat.beq k 68) ([0, 28, 30]) []))) (cond (Nat.blt k 70) (cond (Nat.beq k 69) ([0, 19, 21]) []) (cond (Nat.blt k 71) (cond (Nat.beq k 70) ([0, 11]) []) (cond (Nat.beq k 71) ([0, 18, 44, 51, 58, 64]) [])))))) (cond (Nat.blt k 84) (cond (Nat.blt k 78) (cond (Nat.blt k 75) (cond (Nat.blt k 73) (cond (Nat.beq k 72) ([0, 18, 60, 66, 72, 79, 86, 104, 128, 129, 130, 160, 162, 163]) []) (cond (Nat.blt k 74) (cond (Nat.beq k 73) ([0, 28, 30]) []) (cond (Nat.beq k 74) ([0, 11, 39, 46]) []))) (cond (Nat.blt k 76) (cond (Nat.beq k 75) ([0, 28, 30]) []) (cond (Nat.blt k 77) (cond (Nat.beq k 76) ([0, 18, 39, 86, 99, 127, 161]) []) (cond (Nat.beq k 77) ([0, 11, 24, 56, 58, 59, 89, 90, 97]) [])))) (cond (Nat.blt k 81) (cond (Nat.blt k 79) (cond (Nat.beq k 78) ([0, 12, 36, 60]) []) (cond (Nat.blt k 80) (cond (Nat.beq k 79) ([0, 12, 32, 77, 83]) []) (cond (Nat.beq k 80) ([0, 20, 22]) []))) (cond (Nat.blt k 82) (cond (Nat.beq k 81) ([0, 10, 14, 15]) []) (cond (Nat.blt k 83) (cond (Nat.beq k 82) ([0, 17, 42, 54]) []) (cond (Nat.beq k 83) ([0, 16, 17]) []))))) (cond (Nat.blt k 90) (cond (Nat.blt k 87) (cond (Nat.blt k 85) (cond (Nat.beq k 84) ([0, 17, 40, 46, 74, 94, 95]) []) (cond (Nat.blt k 86) (cond (Nat.beq k 85) ([0, 12, 24]) []) (cond (Nat.beq k 86) ([0]) []))) (cond (Nat.blt k 88) (cond (Nat.beq k 87) ([0, 4, 58, 60, 75, 88, 139, 140, 155, 156, 172, 180, 226, 228, 234, 286, 288, 305, 306, 320, 321, 328, 329]) []) (cond (Nat.blt k 89) (cond (Nat.beq k 88) ([0, 23, 102, 103, 104, 113, 139, 149, 188, 221, 223, 237, 238, 246, 275, 277, 328, 366, 367, 375, 388, 413, 414, 419, 421, 438, 439, 451, 452]) []) (cond (Nat.beq k 89) ([0, 27, 28, 29, 63, 64]) [])))) (cond (Nat.blt k 93) (cond (Nat.blt k 91) (cond (Nat.beq k 90) ([0, 409, 410, 440, 441]) []) (cond (Nat.blt k 92) (cond (Nat.beq k 91) ([0, 61, 80, 81, 82, 92, 101, 113, 122, 183, 185, 225, 229, 230, 289, 293, 294]) []) (cond (Nat.beq k 92) ([0, 41, 42, 43, 65, 80, 81, 82, 95, 141, 143, 149, 176, 177]) []))) (cond (Nat.blt k 94) (cond (Nat.beq k 93) ([0, 56, 83, 84, 85, 129, 130, 139, 140, 170, 174, 175]) []) (cond (Nat.blt k 95) (cond (Nat.beq k 94) ([0, 24, 33, 103, 105, 112, 113, 114, 159, 161, 168, 169, 170, 182, 194, 225, 243, 260, 279, 289, 327, 328, 329, 406, 407, 408, 455, 457, 494, 498, 499, 500, 564, 566, 573, 574, 575, 635, 636]) []) (cond (Nat.beq k 95) ([0, 66, 68, 70, 115, 121, 123, 189, 191, 197]) [])))))))
theorem P_A_init_0 : P 0 0 = b_A_init_0 := rfl
theorem P_A_follow_0 : P 1 0 = b_A_follow_0 := rfl
theorem P_A_follow_22 : P 1 22 = b_A_follow_22 := rfl
theorem P_A_follow_49 : P 1 49 = b_A_follow_49 := rfl
theorem P_A_follow_84 : P 1 84 = b_A_follow_84 := rfl
theorem P_A_follow_85 : P 1 85 = b_A_follow_85 := rfl
theorem P_A_follow_108 : P 1 108 = b_A_follow_108 := rfl
theorem P_A_follow_112 : P 1 112 = b_A_follow_112 := rfl
theorem P_A_follow_125 : P 1 125 = b_A_follow_125 := rfl
theorem P_A_follow_156 : P 1 156 = b_A_follow_156 := rfl
theorem P_A_follow_162 : P 1 162 = b_A_follow_162 := rfl
theorem P_A_changeIn_0 : P 2 0 = b_A_changeIn_0 := rfl
theorem P_A_changeIn_15 : P 2 15 = b_A_changeIn_15 := rfl
theorem P_A_changeIn_26 : P 2 26 = b_A_changeIn_26 := rfl
theorem P_P_init_0 : P 3 0 = b_P_init_0 := rfl
theorem P_P_prepare_0 : P 4 0 = b_P_prepare_0 := rfl
theorem P_P_prepare_41 : P 4 41 = b_P_prepare_41 := rfl
theorem P_P_prepare_66 : P 4 66 = b_P_prepare_66 := rfl
theorem P_P_prepare_90 : P 4 90 = b_P_prepare_90 := rfl
theorem P_P_prepare_96 : P 4 96 = b_P_prepare_96 := rfl
theorem P_P_fillCosts_0 : P 5 0 = b_P_fillCosts_0 := rfl
theorem P_P_fillCosts_3 : P 5 3 = b_P_fillCosts_3 := rfl
theorem P_P_fillCosts_37 : P 5 37 = b_P_fillCosts_37 := rfl
theorem P_P_fillCosts_59 : P 5 59 = b_P_fillCosts_59 := rfl
theorem P_P_useSpeed_0 : P 6 0 = b_P_useSpeed_0 := rfl
theorem P_P_useSpeed_2 : P 6 2 = b_P_useSpeed_2 := rfl
theorem P_P_useSpeed_13 : P 6 13 = b_P_useSpeed_13 := rfl
theorem P_P_useSpeed_48 : P 6 48 = b_P_useSpeed_48 := rfl
theorem P_P_useSpeed_49 : P 6 49 = b_P_useSpeed_49 := rfl
theorem P_P_useSpeed_56 : P 6 56 = b_P_useSpeed_56 := rfl
theorem P_P_useSpeed_62 : P 6 62 = b_P_useSpeed_62 := rfl
theorem P_P_barOthers_0 : P 7 0 = b_P_barOthers_0 := rfl
theorem P_P_barOthers_2 : P 7 2 = b_P_barOthers_2 := rfl
theorem P_P_barOthers_28 : P 7 28 = b_P_barOthers_28 := rfl
theorem P_P_barOthers_34 : P 7 34 = b_P_barOthers_34 := rfl
theorem P_P_leastFromEnd_0 : P 8 0 = b_P_leastFromEnd_0 := rfl
theorem P_P_leastFromEnd_9 : P 8 9 = b_P_leastFromEnd_9 := rfl
theorem P_P_leastFromEnd_16 : P 8 16 = b_P_leastFromEnd_16 := rfl
theorem P_P_leastFromEnd_22 : P 8 22 = b_P_leastFromEnd_22 := rfl
theorem P_P_leastFromEnd_42 : P 8 42 = b_P_leastFromEnd_42 := rfl
theorem P_P_leastFromEnd_48 : P 8 48 = b_P_leastFromEnd_48 := rfl
theorem P_P_leastFromEnd_53 : P 8 53 = b_P_leastFromEnd_53 := rfl
theorem P_P_leastFromEnd_80 : P 8 80 = b_P_leastFromEnd_80 := rfl
theorem P_P_leastFromEnd_90 : P 8 90 = b_P_leastFromEnd_90 := rfl
theorem P_P_leastFromEnd_92 : P 8 92 = b_P_leastFromEnd_92 := rfl
theorem P_P_fillRest_0 : P 9 0 = b_P_fillRest_0 := rfl
theorem P_P_fillRest_23 : P 9 23 = b_P_fillRest_23 := rfl
theorem P_P_fillRest_24 : P 9 24 = b_P_fillRest_24 := rfl
theorem P_P_fillRest_29 : P 9 29 = b_P_fillRest_29 := rfl
theorem P_P_fillRest_47 : P 9 47 = b_P_fillRest_47 := rfl
theorem P_P_fillRest_63 : P 9 63 = b_P_fillRest_63 := rfl
theorem P_P_fillRest_96 : P 9 96 = b_P_fillRest_96 := rfl
theorem P_P_fillRest_130 : P 9 130 = b_P_fillRest_130 := rfl
theorem P_P_leastOfLeaving_0 : P 10 0 = b_P_leastOfLeaving_0 := rfl
theorem P_P_leastOfLeaving_6 : P 10 6 = b_P_leastOfLeaving_6 := rfl
theorem P_P_leastOfLeaving_55 : P 10 55 = b_P_leastOfLeaving_55 := rfl
theorem P_P_leastOfLeaving_61 : P 10 61 = b_P_leastOfLeaving_61 := rfl
theorem P_P_longer_0 : P 11 0 = b_P_longer_0 := rfl
theorem P_P_leastFromStart_0 : P 12 0 = b_P_leastFromStart_0 := rfl
theorem P_P_leastFromStart_9 : P 12 9 = b_P_leastFromStart_9 := rfl
theorem P_P_leastFromStart_11 : P 12 11 = b_P_leastFromStart_11 := rfl
theorem P_P_leastFromStart_36 : P 12 36 = b_P_leastFromStart_36 := rfl
theorem P_P_leastFromStart_56 : P 12 56 = b_P_leastFromStart_56 := rfl
theorem P_P_leastFromStart_62 : P 12 62 = b_P_leastFromStart_62 := rfl
theorem P_P_leastFromStart_67 : P 12 67 = b_P_leastFromStart_67 := rfl
theorem P_P_leastFromStart_77 : P 12 77 = b_P_leastFromStart_77 := rfl
theorem P_P_leastFromStart_106 : P 12 106 = b_P_leastFromStart_106 := rfl
theorem P_P_leastFromStart_112 : P 12 112 = b_P_leastFromStart_112 := rfl
theorem P_P_leastFromStart_122 : P 12 122 = b_P_leastFromStart_122 := rfl
theorem P_P_leastFromStart_124 : P 12 124 = b_P_leastFromStart_124 := rfl
theorem P_P_fillHere_0 : P 13 0 = b_P_fillHere_0 := rfl
theorem P_P_fillHere_7 : P 13 7 = b_P_fillHere_7 := rfl
theorem P_P_fillHere_33 : P 13 33 = b_P_fillHere_33 := rfl
theorem P_P_fillHere_46 : P 13 46 = b_P_fillHere_46 := rfl
theorem P_P_fillHere_51 : P 13 51 = b_P_fillHere_51 := rfl
theorem P_P_fillHere_60 : P 13 60 = b_P_fillHere_60 := rfl
theorem P_P_fillHere_64 : P 13 64 = b_P_fillHere_64 := rfl
theorem P_P_fillHere_69 : P 13 69 = b_P_fillHere_69 := rfl
theorem P_P_fillHere_120 : P 13 120 = b_P_fillHere_120 := rfl
theorem P_P_fillHere_123 : P 13 123 = b_P_fillHere_123 := rfl
theorem P_P_fillHere_173 : P 13 173 = b_P_fillHere_173 := rfl
theorem P_P_leastOfEntering_0 : P 14 0 = b_P_leastOfEntering_0 := rfl
theorem P_P_leastOfEntering_5 : P 14 5 = b_P_leastOfEntering_5 := rfl
theorem P_P_leastOfEntering_52 : P 14 52 = b_P_leastOfEntering_52 := rfl
theorem P_P_leastOfEntering_58 : P 14 58 = b_P_leastOfEntering_58 := rfl
theorem P_P_choose_0 : P 15 0 = b_P_choose_0 := rfl
theorem P_P_choose_11 : P 15 11 = b_P_choose_11 := rfl
theorem P_P_choose_15 : P 15 15 = b_P_choose_15 := rfl
theorem P_P_choose_39 : P 15 39 = b_P_choose_39 := rfl
theorem P_P_choose_53 : P 15 53 = b_P_choose_53 := rfl
theorem P_P_choose_83 : P 15 83 = b_P_choose_83 := rfl
theorem P_P_choose_84 : P 15 84 = b_P_choose_84 := rfl
theorem P_P_choose_91 : P 15 91 = b_P_choose_91 := rfl
theorem P_P_bestFirst_0 : P 16 0 = b_P_bestFirst_0 := rfl
theorem P_P_bestFirst_4 : P 16 4 = b_P_bestFirst_4 := rfl
theorem P_P_bestFirst_33 : P 16 33 = b_P_bestFirst_33 := rfl
theorem P_P_bestFirst_39 : P 16 39 = b_P_bestFirst_39 := rfl
theorem P_P_bestNext_0 : P 17 0 = b_P_bestNext_0 := rfl
theorem P_P_bestNext_10 : P 17 10 = b_P_bestNext_10 := rfl
theorem P_P_bestNext_54 : P 17 54 = b_P_bestNext_54 := rfl
theorem P_P_bestNext_95 : P 17 95 = b_P_bestNext_95 := rfl
theorem P_P_bestNext_110 : P 17 110 = b_P_bestNext_110 := rfl
theorem P_P_bestNext_116 : P 17 116 = b_P_bestNext_116 := rfl
theorem P_R_init_0 : P 18 0 = b_R_init_0 := rfl
theorem P_R_readItems_0 : P 19 0 = b_R_readItems_0 := rfl
theorem P_R_readItems_32 : P 19 32 = b_R_readItems_32 := rfl
theorem P_R_readItems_73 : P 19 73 = b_R_readItems_73 := rfl
theorem P_R_readItem_0 : P 20 0 = b_R_readItem_0 := rfl
theorem P_R_readItem_27 : P 20 27 = b_R_readItem_27 := rfl
theorem P_R_readItem_36 : P 20 36 = b_R_readItem_36 := rfl
theorem P_R_readItem_76 : P 20 76 = b_R_readItem_76 := rfl
theorem P_R_readItem_155 : P 20 155 = b_R_readItem_155 := rfl
theorem P_R_readNumber_0 : P 21 0 = b_R_readNumber_0 := rfl
theorem P_R_readNumber_12 : P 21 12 = b_R_readNumber_12 := rfl
theorem P_R_readNumber_77 : P 21 77 = b_R_readNumber_77 := rfl
theorem P_R_readNumber_102 : P 21 102 = b_R_readNumber_102 := rfl
theorem P_R_readNumber_103 : P 21 103 = b_R_readNumber_103 := rfl
theorem P_R_readNumber_130 : P 21 130 = b_R_readNumber_130 := rfl
theorem P_R_readNumber_135 : P 21 135 = b_R_readNumber_135 := rfl
theorem P_R_skipSpaces_0 : P 22 0 = b_R_skipSpaces_0 := rfl
theorem P_R_skipSpaces_38 : P 22 38 = b_R_skipSpaces_38 := rfl
theorem P_R_isDigit_0 : P 23 0 = b_R_isDigit_0 := rfl
theorem P_R_isDigit_16 : P 23 16 = b_R_isDigit_16 := rfl
theorem P_R_isDigit_17 : P 23 17 = b_R_isDigit_17 := rfl
theorem P_R_kindOf_0 : P 24 0 = b_R_kindOf_0 := rfl
theorem P_R_kindOf_9 : P 24 9 = b_R_kindOf_9 := rfl
theorem P_R_kindOf_28 : P 24 28 = b_R_kindOf_28 := rfl
theorem P_R_kindOf_29 : P 24 29 = b_R_kindOf_29 := rfl
theorem P_S_init_0 : P 25 0 = b_S_init_0 := rfl
theorem P_S_init_81 : P 25 81 = b_S_init_81 := rfl
theorem P_S_init_106 : P 25 106 = b_S_init_106 := rfl
theorem P_S_init_108 : P 25 108 = b_S_init_108 := rfl
theorem P_S_init_130 : P 25 130 = b_S_init_130 := rfl
theorem P_S_copyFrom_0 : P 26 0 = b_S_copyFrom_0 := rfl
theorem P_S_hasMouth_0 : P 27 0 = b_S_hasMouth_0 := rfl
theorem P_S_hasMouth_16 : P 27 16 = b_S_hasMouth_16 := rfl
theorem P_S_hasMouth_17 : P 27 17 = b_S_hasMouth_17 := rfl
theorem P_S_hasSegment_0 : P 28 0 = b_S_hasSegment_0 := rfl
theorem P_S_hasSegment_16 : P 28 16 = b_S_hasSegment_16 := rfl
theorem P_S_hasSegment_17 : P 28 17 = b_S_hasSegment_17 := rfl
theorem P_S_hasFrame_0 : P 29 0 = b_S_hasFrame_0 := rfl
theorem P_S_hasFrame_16 : P 29 16 = b_S_hasFrame_16 := rfl
theorem P_S_hasFrame_17 : P 29 17 = b_S_hasFrame_17 := rfl
theorem P_S_hasRoomFor_0 : P 30 0 = b_S_hasRoomFor_0 := rfl
theorem P_S_hasRoomFor_24 : P 30 24 = b_S_hasRoomFor_24 := rfl
theorem P_S_hasRoomFor_25 : P 30 25 = b_S_hasRoomFor_25 := rfl
theorem P_S_distanceOf_0 : P 31 0 = b_S_distanceOf_0 := rfl
theorem P_S_jumpOf_0 : P 32 0 = b_S_jumpOf_0 := rfl
theorem P_S_nearestOfAll_0 : P 33 0 = b_S_nearestOfAll_0 := rfl
theorem P_S_nearestOfAll_5 : P 33 5 = b_S_nearestOfAll_5 := rfl
theorem P_S_nearestOfAll_35 : P 33 35 = b_S_nearestOfAll_35 := rfl
theorem P_S_nearestOfAll_41 : P 33 41 = b_S_nearestOfAll_41 := rfl
theorem P_S_nearestWithin_0 : P 34 0 = b_S_nearestWithin_0 := rfl
theorem P_S_nearestWithin_6 : P 34 6 = b_S_nearestWithin_6 := rfl
theorem P_S_nearestWithin_56 : P 34 56 = b_S_nearestWithin_56 := rfl
theorem P_S_nearestWithin_60 : P 34 60 = b_S_nearestWithin_60 := rfl
theorem P_S_nearestWithin_66 : P 34 66 = b_S_nearestWithin_66 := rfl
theorem P_S_nearestWithin_76 : P 34 76 = b_S_nearestWithin_76 := rfl
theorem P_S_nearestWithin_78 : P 34 78 = b_S_nearestWithin_78 := rfl
theorem P_S_wrongOf_0 : P 35 0 = b_S_wrongOf_0 := rfl
theorem P_S_wrongOf_27 : P 35 27 = b_S_wrongOf_27 := rfl
theorem P_S_leastWrongFor_0 : P 36 0 = b_S_leastWrongFor_0 := rfl
theorem P_S_leastWrongFor_4 : P 36 4 = b_S_leastWrongFor_4 := rfl
theorem P_S_leastWrongFor_29 : P 36 29 = b_S_leastWrongFor_29 := rfl
theorem P_S_leastWrongFor_35 : P 36 35 = b_S_leastWrongFor_35 := rfl
theorem P_S_countSet_0 : P 37 0 = b_S_countSet_0 := rfl
theorem P_S_countSet_4 : P 37 4 = b_S_countSet_4 := rfl
theorem P_S_countSet_23 : P 37 23 = b_S_countSet_23 := rfl
theorem P_S_countSet_29 : P 37 29 = b_S_countSet_29 := rfl
theorem P_S_firstFrameOf_0 : P 38 0 = b_S_firstFrameOf_0 := rfl
theorem P_S_firstFrameOf_4 : P 38 4 = b_S_firstFrameOf_4 := rfl
theorem P_S_firstFrameOf_24 : P 38 24 = b_S_firstFrameOf_24 := rfl
theorem P_S_segmentAt_0 : P 39 0 = b_S_segmentAt_0 := rfl
theorem P_S_segmentAt_4 : P 39 4 = b_S_segmentAt_4 := rfl
theorem P_S_segmentAt_28 : P 39 28 = b_S_segmentAt_28 := rfl
theorem P_S_segmentAt_34 : P 39 34 = b_S_segmentAt_34 := rfl
theorem P_S_kindAt_0 : P 40 0 = b_S_kindAt_0 := rfl
theorem P_S_openSegment_0 : P 41 0 = b_S_openSegment_0 := rfl
theorem P_S_openSegment_16 : P 41 16 = b_S_openSegment_16 := rfl
theorem P_S_openSegment_60 : P 41 60 = b_S_openSegment_60 := rfl
theorem P_S_closeSegment_0 : P 42 0 = b_S_closeSegment_0 := rfl
theorem P_S_closeSegment_19 : P 42 19 = b_S_closeSegment_19 := rfl
theorem P_S_closeSegment_61 : P 42 61 = b_S_closeSegment_61 := rfl
theorem P_S_openFrames_0 : P 43 0 = b_S_openFrames_0 := rfl
theorem P_S_openFrames_7 : P 43 7 = b_S_openFrames_7 := rfl
theorem P_S_openFrames_46 : P 43 46 = b_S_openFrames_46 := rfl
theorem P_S_openFrames_48 : P 43 48 = b_S_openFrames_48 := rfl
theorem P_S_openFrames_77 : P 43 77 = b_S_openFrames_77 := rfl
theorem P_S_closeFrames_0 : P 44 0 = b_S_closeFrames_0 := rfl
theorem P_S_closeFrames_4 : P 44 4 = b_S_closeFrames_4 := rfl
theorem P_S_closeFrames_46 : P 44 46 = b_S_closeFrames_46 := rfl
theorem P_T_init_0 : P 45 0 = b_T_init_0 := rfl
theorem P_T_init_25 : P 45 25 = b_T_init_25 := rfl
theorem P_T_init_49 : P 45 49 = b_T_init_49 := rfl
theorem P_T_copyFrom_0 : P 46 0 = b_T_copyFrom_0 := rfl
theorem P_T_copyFrom_13 : P 46 13 = b_T_copyFrom_13 := rfl
theorem P_T_copyFrom_54 : P 46 54 = b_T_copyFrom_54 := rfl
theorem P_T_copyFrom_60 : P 46 60 = b_T_copyFrom_60 := rfl
theorem P_T_countTaken_0 : P 47 0 = b_T_countTaken_0 := rfl
theorem P_T_countTaken_4 : P 47 4 = b_T_countTaken_4 := rfl
theorem P_T_countTaken_21 : P 47 21 = b_T_countTaken_21 := rfl
theorem P_T_countTaken_27 : P 47 27 = b_T_countTaken_27 := rfl
theorem P_L_init_0 : P 48 0 = b_L_init_0 := rfl
theorem P_L_init_25 : P 48 25 = b_L_init_25 := rfl
theorem P_L_init_49 : P 48 49 = b_L_init_49 := rfl
theorem P_L_addMouth_0 : P 49 0 = b_L_addMouth_0 := rfl
theorem P_L_addMouth_28 : P 49 28 = b_L_addMouth_28 := rfl
theorem P_L_addMouth_30 : P 49 30 = b_L_addMouth_30 := rfl
theorem P_L_addMouth_42 : P 49 42 = b_L_addMouth_42 := rfl
theorem P_L_setMouth_0 : P 50 0 = b_L_setMouth_0 := rfl
theorem P_L_setMouth_38 : P 50 38 = b_L_setMouth_38 := rfl
theorem P_L_setMouth_40 : P 50 40 = b_L_setMouth_40 := rfl
theorem P_L_setSound_0 : P 51 0 = b_L_setSound_0 := rfl
theorem P_L_setSound_32 : P 51 32 = b_L_setSound_32 := rfl
theorem P_L_setSound_34 : P 51 34 = b_L_setSound_34 := rfl
theorem P_L_setNumber_0 : P 52 0 = b_L_setNumber_0 := rfl
theorem P_L_setNumber_26 : P 52 26 = b_L_setNumber_26 := rfl
theorem P_L_setNumber_28 : P 52 28 = b_L_setNumber_28 := rfl
theorem P_L_insert_0 : P 53 0 = b_L_insert_0 := rfl
theorem P_L_insert_42 : P 53 42 = b_L_insert_42 := rfl
theorem P_L_insert_44 : P 53 44 = b_L_insert_44 := rfl
theorem P_L_insert_56 : P 53 56 = b_L_insert_56 := rfl
theorem P_L_remove_0 : P 54 0 = b_L_remove_0 := rfl
theorem P_L_remove_18 : P 54 18 = b_L_remove_18 := rfl
theorem P_L_stretch_0 : P 55 0 = b_L_stretch_0 := rfl
theorem P_L_stretch_26 : P 55 26 = b_L_stretch_26 := rfl
theorem P_L_stretch_28 : P 55 28 = b_L_stretch_28 := rfl
theorem P_L_stretch_53 : P 55 53 = b_L_stretch_53 := rfl
theorem P_L_stretch_85 : P 55 85 = b_L_stretch_85 := rfl
theorem P_L_stretch_98 : P 55 98 = b_L_stretch_98 := rfl
theorem P_L_pin_0 : P 56 0 = b_L_pin_0 := rfl
theorem P_L_pin_29 : P 56 29 = b_L_pin_29 := rfl
theorem P_L_pin_31 : P 56 31 = b_L_pin_31 := rfl
theorem P_L_pin_58 : P 56 58 = b_L_pin_58 := rfl
theorem P_L_pin_59 : P 56 59 = b_L_pin_59 := rfl
theorem P_L_draw_0 : P 57 0 = b_L_draw_0 := rfl
theorem P_L_draw_29 : P 57 29 = b_L_draw_29 := rfl
theorem P_L_draw_31 : P 57 31 = b_L_draw_31 := rfl
theorem P_L_draw_58 : P 57 58 = b_L_draw_58 := rfl
theorem P_L_draw_59 : P 57 59 = b_L_draw_59 := rfl
theorem P_L_between_0 : P 58 0 = b_L_between_0 := rfl
theorem P_L_between_29 : P 58 29 = b_L_between_29 := rfl
theorem P_L_between_31 : P 58 31 = b_L_between_31 := rfl
theorem P_L_between_65 : P 58 65 = b_L_between_65 := rfl
theorem P_L_between_68 : P 58 68 = b_L_between_68 := rfl
theorem P_L_between_81 : P 58 81 = b_L_between_81 := rfl
theorem P_L_between_166 : P 58 166 = b_L_between_166 := rfl
theorem P_L_finish_0 : P 59 0 = b_L_finish_0 := rfl
theorem P_L_finish_31 : P 59 31 = b_L_finish_31 := rfl
theorem P_L_finish_45 : P 59 45 = b_L_finish_45 := rfl
theorem P_L_finish_86 : P 59 86 = b_L_finish_86 := rfl
theorem P_L_breathe_0 : P 60 0 = b_L_breathe_0 := rfl
theorem P_L_breathe_12 : P 60 12 = b_L_breathe_12 := rfl
theorem P_L_breathe_28 : P 60 28 = b_L_breathe_28 := rfl
theorem P_L_breathe_61 : P 60 61 = b_L_breathe_61 := rfl
theorem P_L_breathe_81 : P 60 81 = b_L_breathe_81 := rfl
theorem P_L_breathe_84 : P 60 84 = b_L_breathe_84 := rfl
theorem P_L_breathe_98 : P 60 98 = b_L_breathe_98 := rfl
theorem P_L_breathe_115 : P 60 115 = b_L_breathe_115 := rfl
theorem P_L_take_0 : P 61 0 = b_L_take_0 := rfl
theorem P_L_take_11 : P 61 11 = b_L_take_11 := rfl
theorem P_L_restore_0 : P 62 0 = b_L_restore_0 := rfl
theorem P_L_restore_11 : P 62 11 = b_L_restore_11 := rfl
theorem P_L_restore_26 : P 62 26 = b_L_restore_26 := rfl
theorem P_L_undo_0 : P 63 0 = b_L_undo_0 := rfl
theorem P_L_undo_10 : P 63 10 = b_L_undo_10 := rfl
theorem P_L_append_0 : P 64 0 = b_L_append_0 := rfl
theorem P_L_append_13 : P 64 13 = b_L_append_13 := rfl
theorem P_L_append_25 : P 64 25 = b_L_append_25 := rfl
theorem P_L_load_0 : P 65 0 = b_L_load_0 := rfl
theorem P_L_load_57 : P 65 57 = b_L_load_57 := rfl
theorem P_L_count_0 : P 66 0 = b_L_count_0 := rfl
theorem P_L_count_60 : P 66 60 = b_L_count_60 := rfl
theorem P_L_count_65 : P 66 65 = b_L_count_65 := rfl
theorem P_L_count_70 : P 66 70 = b_L_count_70 := rfl
theorem P_L_count_75 : P 66 75 = b_L_count_75 := rfl
theorem P_L_count_84 : P 66 84 = b_L_count_84 := rfl
theorem P_L_count_93 : P 66 93 = b_L_count_93 := rfl
theorem P_L_count_109 : P 66 109 = b_L_count_109 := rfl
theorem P_L_count_117 : P 66 117 = b_L_count_117 := rfl
theorem P_L_count_122 : P 66 122 = b_L_count_122 := rfl
theorem P_L_count_127 : P 66 127 = b_L_count_127 := rfl
theorem P_L_mouth_0 : P 67 0 = b_L_mouth_0 := rfl
theorem P_L_mouth_23 : P 67 23 = b_L_mouth_23 := rfl
theorem P_L_mouth_25 : P 67 25 = b_L_mouth_25 := rfl
theorem P_L_mouth_44 : P 67 44 = b_L_mouth_44 := rfl
theorem P_L_mouth_56 : P 67 56 = b_L_mouth_56 := rfl
theorem P_L_jump_0 : P 68 0 = b_L_jump_0 := rfl
theorem P_L_jump_28 : P 68 28 = b_L_jump_28 := rfl
theorem P_L_jump_30 : P 68 30 = b_L_jump_30 := rfl
theorem P_L_sound_0 : P 69 0 = b_L_sound_0 := rfl
theorem P_L_sound_19 : P 69 19 = b_L_sound_19 := rfl
theorem P_L_sound_21 : P 69 21 = b_L_sound_21 := rfl
theorem P_L_number_0 : P 70 0 = b_L_number_0 := rfl
theorem P_L_number_11 : P 70 11 = b_L_number_11 := rfl
theorem P_L_segment_0 : P 71 0 = b_L_segment_0 := rfl
theorem P_L_segment_18 : P 71 18 = b_L_segment_18 := rfl
theorem P_L_segment_44 : P 71 44 = b_L_segment_44 := rfl
theorem P_L_segment_51 : P 71 51 = b_L_segment_51 := rfl
theorem P_L_segment_58 : P 71 58 = b_L_segment_58 := rfl
theorem P_L_segment_64 : P 71 64 = b_L_segment_64 := rfl
theorem P_L_frame_0 : P 72 0 = b_L_frame_0 := rfl
theorem P_L_frame_18 : P 72 18 = b_L_frame_18 := rfl
theorem P_L_frame_60 : P 72 60 = b_L_frame_60 := rfl
theorem P_L_frame_66 : P 72 66 = b_L_frame_66 := rfl
theorem P_L_frame_72 : P 72 72 = b_L_frame_72 := rfl
theorem P_L_frame_79 : P 72 79 = b_L_frame_79 := rfl
theorem P_L_frame_86 : P 72 86 = b_L_frame_86 := rfl
theorem P_L_frame_104 : P 72 104 = b_L_frame_104 := rfl
theorem P_L_frame_128 : P 72 128 = b_L_frame_128 := rfl
theorem P_L_frame_129 : P 72 129 = b_L_frame_129 := rfl
theorem P_L_frame_130 : P 72 130 = b_L_frame_130 := rfl
theorem P_L_frame_160 : P 72 160 = b_L_frame_160 := rfl
theorem P_L_frame_162 : P 72 162 = b_L_frame_162 := rfl
theorem P_L_frame_163 : P 72 163 = b_L_frame_163 := rfl
theorem P_L_wrongness_0 : P 73 0 = b_L_wrongness_0 := rfl
theorem P_L_wrongness_28 : P 73 28 = b_L_wrongness_28 := rfl
theorem P_L_wrongness_30 : P 73 30 = b_L_wrongness_30 := rfl
theorem P_L_least_0 : P 74 0 = b_L_least_0 := rfl
theorem P_L_least_11 : P 74 11 = b_L_least_11 := rfl
theorem P_L_least_39 : P 74 39 = b_L_least_39 := rfl
theorem P_L_least_46 : P 74 46 = b_L_least_46 := rfl
theorem P_L_leastWith_0 : P 75 0 = b_L_leastWith_0 := rfl
theorem P_L_leastWith_28 : P 75 28 = b_L_leastWith_28 := rfl
theorem P_L_leastWith_30 : P 75 30 = b_L_leastWith_30 := rfl
theorem P_L_why_0 : P 76 0 = b_L_why_0 := rfl
theorem P_L_why_18 : P 76 18 = b_L_why_18 := rfl
theorem P_L_why_39 : P 76 39 = b_L_why_39 := rfl
theorem P_L_why_86 : P 76 86 = b_L_why_86 := rfl
theorem P_L_why_99 : P 76 99 = b_L_why_99 := rfl
theorem P_L_why_127 : P 76 127 = b_L_why_127 := rfl
theorem P_L_why_161 : P 76 161 = b_L_why_161 := rfl
theorem P_L_fault_0 : P 77 0 = b_L_fault_0 := rfl
theorem P_L_fault_11 : P 77 11 = b_L_fault_11 := rfl
theorem P_L_fault_24 : P 77 24 = b_L_fault_24 := rfl
theorem P_L_fault_56 : P 77 56 = b_L_fault_56 := rfl
theorem P_L_fault_58 : P 77 58 = b_L_fault_58 := rfl
theorem P_L_fault_59 : P 77 59 = b_L_fault_59 := rfl
theorem P_L_fault_89 : P 77 89 = b_L_fault_89 := rfl
theorem P_L_fault_90 : P 77 90 = b_L_fault_90 := rfl
theorem P_L_fault_97 : P 77 97 = b_L_fault_97 := rfl
theorem P_L_drawnSum_0 : P 78 0 = b_L_drawnSum_0 := rfl
theorem P_L_drawnSum_12 : P 78 12 = b_L_drawnSum_12 := rfl
theorem P_L_drawnSum_36 : P 78 36 = b_L_drawnSum_36 := rfl
theorem P_L_drawnSum_60 : P 78 60 = b_L_drawnSum_60 := rfl
theorem P_L_speedFor_0 : P 79 0 = b_L_speedFor_0 := rfl
theorem P_L_speedFor_12 : P 79 12 = b_L_speedFor_12 := rfl
theorem P_L_speedFor_32 : P 79 32 = b_L_speedFor_32 := rfl
theorem P_L_speedFor_77 : P 79 77 = b_L_speedFor_77 := rfl
theorem P_L_speedFor_83 : P 79 83 = b_L_speedFor_83 := rfl
theorem P_L_nearest_0 : P 80 0 = b_L_nearest_0 := rfl
theorem P_L_nearest_20 : P 80 20 = b_L_nearest_20 := rfl
theorem P_L_nearest_22 : P 80 22 = b_L_nearest_22 := rfl
theorem P_L_isOutside_0 : P 81 0 = b_L_isOutside_0 := rfl
theorem P_L_isOutside_10 : P 81 10 = b_L_isOutside_10 := rfl
theorem P_L_isOutside_14 : P 81 14 = b_L_isOutside_14 := rfl
theorem P_L_isOutside_15 : P 81 15 = b_L_isOutside_15 := rfl
theorem P_L_recordState_0 : P 82 0 = b_L_recordState_0 := rfl
theorem P_L_recordState_17 : P 82 17 = b_L_recordState_17 := rfl
theorem P_L_recordState_42 : P 82 42 = b_L_recordState_42 := rfl
theorem P_L_recordState_54 : P 82 54 = b_L_recordState_54 := rfl
theorem P_L_partWay_0 : P 83 0 = b_L_partWay_0 := rfl
theorem P_L_partWay_16 : P 83 16 = b_L_partWay_16 := rfl
theorem P_L_partWay_17 : P 83 17 = b_L_partWay_17 := rfl
theorem P_L_faultAt_0 : P 84 0 = b_L_faultAt_0 := rfl
theorem P_L_faultAt_17 : P 84 17 = b_L_faultAt_17 := rfl
theorem P_L_faultAt_40 : P 84 40 = b_L_faultAt_40 := rfl
theorem P_L_faultAt_46 : P 84 46 = b_L_faultAt_46 := rfl
theorem P_L_faultAt_74 : P 84 74 = b_L_faultAt_74 := rfl
theorem P_L_faultAt_94 : P 84 94 = b_L_faultAt_94 := rfl
theorem P_L_faultAt_95 : P 84 95 = b_L_faultAt_95 := rfl
theorem P_W_lot_0 : P 85 0 = b_W_lot_0 := rfl
theorem P_W_lot_12 : P 85 12 = b_W_lot_12 := rfl
theorem P_W_lot_24 : P 85 24 = b_W_lot_24 := rfl
theorem P_W_low_0 : P 86 0 = b_W_low_0 := rfl
theorem P_W_sound_0 : P 87 0 = b_W_sound_0 := rfl
theorem P_W_sound_4 : P 87 4 = b_W_sound_4 := rfl
theorem P_W_sound_58 : P 87 58 = b_W_sound_58 := rfl
theorem P_W_sound_60 : P 87 60 = b_W_sound_60 := rfl
theorem P_W_sound_75 : P 87 75 = b_W_sound_75 := rfl
theorem P_W_sound_88 : P 87 88 = b_W_sound_88 := rfl
theorem P_W_sound_139 : P 87 139 = b_W_sound_139 := rfl
theorem P_W_sound_140 : P 87 140 = b_W_sound_140 := rfl
theorem P_W_sound_155 : P 87 155 = b_W_sound_155 := rfl
theorem P_W_sound_156 : P 87 156 = b_W_sound_156 := rfl
theorem P_W_sound_172 : P 87 172 = b_W_sound_172 := rfl
theorem P_W_sound_180 : P 87 180 = b_W_sound_180 := rfl
theorem P_W_sound_226 : P 87 226 = b_W_sound_226 := rfl
theorem P_W_sound_228 : P 87 228 = b_W_sound_228 := rfl
theorem P_W_sound_234 : P 87 234 = b_W_sound_234 := rfl
theorem P_W_sound_286 : P 87 286 = b_W_sound_286 := rfl
theorem P_W_sound_288 : P 87 288 = b_W_sound_288 := rfl
theorem P_W_sound_305 : P 87 305 = b_W_sound_305 := rfl
theorem P_W_sound_306 : P 87 306 = b_W_sound_306 := rfl
theorem P_W_sound_320 : P 87 320 = b_W_sound_320 := rfl
theorem P_W_sound_321 : P 87 321 = b_W_sound_321 := rfl
theorem P_W_sound_328 : P 87 328 = b_W_sound_328 := rfl
theorem P_W_sound_329 : P 87 329 = b_W_sound_329 := rfl
theorem P_W_plan_0 : P 88 0 = b_W_plan_0 := rfl
theorem P_W_plan_23 : P 88 23 = b_W_plan_23 := rfl
theorem P_W_plan_102 : P 88 102 = b_W_plan_102 := rfl
theorem P_W_plan_103 : P 88 103 = b_W_plan_103 := rfl
theorem P_W_plan_104 : P 88 104 = b_W_plan_104 := rfl
theorem P_W_plan_113 : P 88 113 = b_W_plan_113 := rfl
theorem P_W_plan_139 : P 88 139 = b_W_plan_139 := rfl
theorem P_W_plan_149 : P 88 149 = b_W_plan_149 := rfl
theorem P_W_plan_188 : P 88 188 = b_W_plan_188 := rfl
theorem P_W_plan_221 : P 88 221 = b_W_plan_221 := rfl
theorem P_W_plan_223 : P 88 223 = b_W_plan_223 := rfl
theorem P_W_plan_237 : P 88 237 = b_W_plan_237 := rfl
theorem P_W_plan_238 : P 88 238 = b_W_plan_238 := rfl
theorem P_W_plan_246 : P 88 246 = b_W_plan_246 := rfl
theorem P_W_plan_275 : P 88 275 = b_W_plan_275 := rfl
theorem P_W_plan_277 : P 88 277 = b_W_plan_277 := rfl
theorem P_W_plan_328 : P 88 328 = b_W_plan_328 := rfl
theorem P_W_plan_366 : P 88 366 = b_W_plan_366 := rfl
theorem P_W_plan_367 : P 88 367 = b_W_plan_367 := rfl
theorem P_W_plan_375 : P 88 375 = b_W_plan_375 := rfl
theorem P_W_plan_388 : P 88 388 = b_W_plan_388 := rfl
theorem P_W_plan_413 : P 88 413 = b_W_plan_413 := rfl
theorem P_W_plan_414 : P 88 414 = b_W_plan_414 := rfl
theorem P_W_plan_419 : P 88 419 = b_W_plan_419 := rfl
theorem P_W_plan_421 : P 88 421 = b_W_plan_421 := rfl
theorem P_W_plan_438 : P 88 438 = b_W_plan_438 := rfl
theorem P_W_plan_439 : P 88 439 = b_W_plan_439 := rfl
theorem P_W_plan_451 : P 88 451 = b_W_plan_451 := rfl
theorem P_W_plan_452 : P 88 452 = b_W_plan_452 := rfl
theorem P_W_finishes_0 : P 89 0 = b_W_finishes_0 := rfl
theorem P_W_finishes_27 : P 89 27 = b_W_finishes_27 := rfl
theorem P_W_finishes_28 : P 89 28 = b_W_finishes_28 := rfl
theorem P_W_finishes_29 : P 89 29 = b_W_finishes_29 := rfl
theorem P_W_finishes_63 : P 89 63 = b_W_finishes_63 := rfl
theorem P_W_finishes_64 : P 89 64 = b_W_finishes_64 := rfl
theorem P_W_refuses_0 : P 90 0 = b_W_refuses_0 := rfl
theorem P_W_refuses_409 : P 90 409 = b_W_refuses_409 := rfl
theorem P_W_refuses_410 : P 90 410 = b_W_refuses_410 := rfl
theorem P_W_refuses_440 : P 90 440 = b_W_refuses_440 := rfl
theorem P_W_refuses_441 : P 90 441 = b_W_refuses_441 := rfl
theorem P_W_inserts_0 : P 91 0 = b_W_inserts_0 := rfl
theorem P_W_inserts_61 : P 91 61 = b_W_inserts_61 := rfl
theorem P_W_inserts_80 : P 91 80 = b_W_inserts_80 := rfl
theorem P_W_inserts_81 : P 91 81 = b_W_inserts_81 := rfl
theorem P_W_inserts_82 : P 91 82 = b_W_inserts_82 := rfl
theorem P_W_inserts_92 : P 91 92 = b_W_inserts_92 := rfl
theorem P_W_inserts_101 : P 91 101 = b_W_inserts_101 := rfl
theorem P_W_inserts_113 : P 91 113 = b_W_inserts_113 := rfl
theorem P_W_inserts_122 : P 91 122 = b_W_inserts_122 := rfl
theorem P_W_inserts_183 : P 91 183 = b_W_inserts_183 := rfl
theorem P_W_inserts_185 : P 91 185 = b_W_inserts_185 := rfl
theorem P_W_inserts_225 : P 91 225 = b_W_inserts_225 := rfl
theorem P_W_inserts_229 : P 91 229 = b_W_inserts_229 := rfl
theorem P_W_inserts_230 : P 91 230 = b_W_inserts_230 := rfl
theorem P_W_inserts_289 : P 91 289 = b_W_inserts_289 := rfl
theorem P_W_inserts_293 : P 91 293 = b_W_inserts_293 := rfl
theorem P_W_inserts_294 : P 91 294 = b_W_inserts_294 := rfl
theorem P_W_betweens_0 : P 92 0 = b_W_betweens_0 := rfl
theorem P_W_betweens_41 : P 92 41 = b_W_betweens_41 := rfl
theorem P_W_betweens_42 : P 92 42 = b_W_betweens_42 := rfl
theorem P_W_betweens_43 : P 92 43 = b_W_betweens_43 := rfl
theorem P_W_betweens_65 : P 92 65 = b_W_betweens_65 := rfl
theorem P_W_betweens_80 : P 92 80 = b_W_betweens_80 := rfl
theorem P_W_betweens_81 : P 92 81 = b_W_betweens_81 := rfl
theorem P_W_betweens_82 : P 92 82 = b_W_betweens_82 := rfl
theorem P_W_betweens_95 : P 92 95 = b_W_betweens_95 := rfl
theorem P_W_betweens_141 : P 92 141 = b_W_betweens_141 := rfl
theorem P_W_betweens_143 : P 92 143 = b_W_betweens_143 := rfl
theorem P_W_betweens_149 : P 92 149 = b_W_betweens_149 := rfl
theorem P_W_betweens_176 : P 92 176 = b_W_betweens_176 := rfl
theorem P_W_betweens_177 : P 92 177 = b_W_betweens_177 := rfl
theorem P_W_breathes_0 : P 93 0 = b_W_breathes_0 := rfl
theorem P_W_breathes_56 : P 93 56 = b_W_breathes_56 := rfl
theorem P_W_breathes_83 : P 93 83 = b_W_breathes_83 := rfl
theorem P_W_breathes_84 : P 93 84 = b_W_breathes_84 := rfl
theorem P_W_breathes_85 : P 93 85 = b_W_breathes_85 := rfl
theorem P_W_breathes_129 : P 93 129 = b_W_breathes_129 := rfl
theorem P_W_breathes_130 : P 93 130 = b_W_breathes_130 := rfl
theorem P_W_breathes_139 : P 93 139 = b_W_breathes_139 := rfl
theorem P_W_breathes_140 : P 93 140 = b_W_breathes_140 := rfl
theorem P_W_breathes_170 : P 93 170 = b_W_breathes_170 := rfl
theorem P_W_breathes_174 : P 93 174 = b_W_breathes_174 := rfl
theorem P_W_breathes_175 : P 93 175 = b_W_breathes_175 := rfl
theorem P_W_acts_0 : P 94 0 = b_W_acts_0 := rfl
theorem P_W_acts_24 : P 94 24 = b_W_acts_24 := rfl
theorem P_W_acts_33 : P 94 33 = b_W_acts_33 := rfl
theorem P_W_acts_103 : P 94 103 = b_W_acts_103 := rfl
theorem P_W_acts_105 : P 94 105 = b_W_acts_105 := rfl
theorem P_W_acts_112 : P 94 112 = b_W_acts_112 := rfl
theorem P_W_acts_113 : P 94 113 = b_W_acts_113 := rfl
theorem P_W_acts_114 : P 94 114 = b_W_acts_114 := rfl
theorem P_W_acts_159 : P 94 159 = b_W_acts_159 := rfl
theorem P_W_acts_161 : P 94 161 = b_W_acts_161 := rfl
theorem P_W_acts_168 : P 94 168 = b_W_acts_168 := rfl
theorem P_W_acts_169 : P 94 169 = b_W_acts_169 := rfl
theorem P_W_acts_170 : P 94 170 = b_W_acts_170 := rfl
theorem P_W_acts_182 : P 94 182 = b_W_acts_182 := rfl
theorem P_W_acts_194 : P 94 194 = b_W_acts_194 := rfl
theorem P_W_acts_225 : P 94 225 = b_W_acts_225 := rfl
theorem P_W_acts_243 : P 94 243 = b_W_acts_243 := rfl
theorem P_W_acts_260 : P 94 260 = b_W_acts_260 := rfl
theorem P_W_acts_279 : P 94 279 = b_W_acts_279 := rfl
theorem P_W_acts_289 : P 94 289 = b_W_acts_289 := rfl
theorem P_W_acts_327 : P 94 327 = b_W_acts_327 := rfl
theorem P_W_acts_328 : P 94 328 = b_W_acts_328 := rfl
theorem P_W_acts_329 : P 94 329 = b_W_acts_329 := rfl
theorem P_W_acts_406 : P 94 406 = b_W_acts_406 := rfl
theorem P_W_acts_407 : P 94 407 = b_W_acts_407 := rfl
theorem P_W_acts_408 : P 94 408 = b_W_acts_408 := rfl
theorem P_W_acts_455 : P 94 455 = b_W_acts_455 := rfl
theorem P_W_acts_457 : P 94 457 = b_W_acts_457 := rfl
theorem P_W_acts_494 : P 94 494 = b_W_acts_494 := rfl
theorem P_W_acts_498 : P 94 498 = b_W_acts_498 := rfl
theorem P_W_acts_499 : P 94 499 = b_W_acts_499 := rfl
theorem P_W_acts_500 : P 94 500 = b_W_acts_500 := rfl
theorem P_W_acts_564 : P 94 564 = b_W_acts_564 := rfl
theorem P_W_acts_566 : P 94 566 = b_W_acts_566 := rfl
theorem P_W_acts_573 : P 94 573 = b_W_acts_573 := rfl
theorem P_W_acts_574 : P 94 574 = b_W_acts_574 := rfl
theorem P_W_acts_575 : P 94 575 = b_W_acts_575 := rfl
theorem P_W_acts_635 : P 94 635 = b_W_acts_635 := rfl
theorem P_W_acts_636 : P 94 636 = b_W_acts_636 := rfl
theorem P_W_law_0 : P 95 0 = b_W_law_0 := rfl
theorem P_W_law_66 : P 95 66 = b_W_law_66 := rfl
theorem P_W_law_68 : P 95 68 = b_W_law_68 := rfl
theorem P_W_law_70 : P 95 70 = b_W_law_70 := rfl
theorem P_W_law_115 : P 95 115 = b_W_law_115 := rfl
theorem P_W_law_121 : P 95 121 = b_W_law_121 := rfl
theorem P_W_law_123 : P 95 123 = b_W_law_123 := rfl
theorem P_W_law_189 : P 95 189 = b_W_law_189 := rfl
theorem P_W_law_191 : P 95 191 = b_W_law_191 := rfl
theorem P_W_law_197 : P 95 197 = b_W_law_197 := rfl
