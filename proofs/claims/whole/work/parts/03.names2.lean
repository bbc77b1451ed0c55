abbrev cX1_up : ByteArray := prog_3_method_4_code
def yX1_up : MethodName := ⟨RX1, "up", "()V"⟩
abbrev cX1_segment : ByteArray := prog_3_method_5_code
def yX1_segment : MethodName := ⟨RX1, "segment", "(IJI)I"⟩
abbrev cX1_end : ByteArray := prog_3_method_6_code
def yX1_end : MethodName := ⟨RX1, "end", "(I)Z"⟩
abbrev cX1_read : ByteArray := prog_3_method_7_code
def yX1_read : MethodName := ⟨RX1, "read", "()I"⟩
abbrev cX1_from : ByteArray := prog_3_method_8_code
def yX1_from : MethodName := ⟨RX1, "from", "(I)I"⟩
abbrev cX1_told : ByteArray := prog_3_method_9_code
def yX1_told : MethodName := ⟨RX1, "told", "(I)I"⟩
abbrev cX1_block : ByteArray := prog_3_method_10_code
def yX1_block : MethodName := ⟨RX1, "block", "(IZ)I"⟩
abbrev cX1_held : ByteArray := prog_3_method_11_code
def yX1_held : MethodName := ⟨RX1, "held", "(I)Z"⟩
def wsX1_up : List Cond := .code yX1_up cX1_up 2 none :: ([.fieldLink RX1 9 "SegmentBoxModel" "unread" "[I", .fieldLink RX1 27 "SegmentBoxModel" "many" "I", .fieldLink RX1 13 "SegmentBoxModel" "byteAt" "[I", .fieldLink RX1 24 "SegmentBoxModel" "next" "I", .fieldLink RX1 16 "SegmentBoxModel" "isHeld" "[Z"] ++ wsX10)
theorem dX1_up_0 : decode cX1_up 0 = .ok (.aload_n 0, 1) := by decide +kernel
theorem dX1_up_1 : decode cX1_up 1 = .ok (.getfield 9, 3) := by decide +kernel
theorem dX1_up_4 : decode cX1_up 4 = .ok (.aload_n 0, 1) := by decide +kernel
theorem dX1_up_5 : decode cX1_up 5 = .ok (.getfield 27, 3) := by decide +kernel
theorem dX1_up_8 : decode cX1_up 8 = .ok (.aload_n 0, 1) := by decide +kernel
theorem dX1_up_9 : decode cX1_up 9 = .ok (.getfield 13, 3) := by decide +kernel
theorem dX1_up_12 : decode cX1_up 12 = .ok (.iconst 0, 1) := by decide +kernel
theorem dX1_up_13 : decode cX1_up 13 = .ok (.iaload, 1) := by decide +kernel
theorem dX1_up_14 : decode cX1_up 14 = .ok (.iastore, 1) := by decide +kernel
theorem dX1_up_15 : decode cX1_up 15 = .ok (.aload_n 0, 1) := by decide +kernel
theorem dX1_up_16 : decode cX1_up 16 = .ok (.dup, 1) := by decide +kernel
theorem dX1_up_17 : decode cX1_up 17 = .ok (.getfield 27, 3) := by decide +kernel
theorem dX1_up_20 : decode cX1_up 20 = .ok (.iconst 1, 1) := by decide +kernel
theorem dX1_up_21 : decode cX1_up 21 = .ok (.iadd, 1) := by decide +kernel
theorem dX1_up_22 : decode cX1_up 22 = .ok (.putfield 27, 3) := by decide +kernel
theorem dX1_up_25 : decode cX1_up 25 = .ok (.aload_n 0, 1) := by decide +kernel
theorem dX1_up_26 : decode cX1_up 26 = .ok (.dup, 1) := by decide +kernel
theorem dX1_up_27 : decode cX1_up 27 = .ok (.getfield 24, 3) := by decide +kernel
theorem dX1_up_30 : decode cX1_up 30 = .ok (.iconst 1, 1) := by decide +kernel
theorem dX1_up_31 : decode cX1_up 31 = .ok (.iadd, 1) := by decide +kernel
theorem dX1_up_32 : decode cX1_up 32 = .ok (.putfield 24, 3) := by decide +kernel
theorem dX1_up_35 : decode cX1_up 35 = .ok (.iconst 0, 1) := by decide +kernel
theorem dX1_up_36 : decode cX1_up 36 = .ok (.istore_n 1, 1) := by decide +kernel
theorem dX1_up_37 : decode cX1_up 37 = .ok (.iload_n 1, 1) := by decide +kernel
theorem dX1_up_38 : decode cX1_up 38 = .ok (.iconst 1, 1) := by decide +kernel
theorem dX1_up_39 : decode cX1_up 39 = .ok (.iadd, 1) := by decide +kernel
theorem dX1_up_40 : decode cX1_up 40 = .ok (.bipush 64, 2) := by decide +kernel
theorem dX1_up_42 : decode cX1_up 42 = .ok (.if_icmp .ge 37, 3) := by decide +kernel
theorem dX1_up_45 : decode cX1_up 45 = .ok (.aload_n 0, 1) := by decide +kernel
theorem dX1_up_46 : decode cX1_up 46 = .ok (.getfield 16, 3) := by decide +kernel
theorem dX1_up_49 : decode cX1_up 49 = .ok (.iload_n 1, 1) := by decide +kernel
theorem dX1_up_50 : decode cX1_up 50 = .ok (.aload_n 0, 1) := by decide +kernel
theorem dX1_up_51 : decode cX1_up 51 = .ok (.getfield 16, 3) := by decide +kernel
theorem dX1_up_54 : decode cX1_up 54 = .ok (.iload_n 1, 1) := by decide +kernel
theorem dX1_up_55 : decode cX1_up 55 = .ok (.iconst 1, 1) := by decide +kernel
theorem dX1_up_56 : decode cX1_up 56 = .ok (.iadd, 1) := by decide +kernel
theorem dX1_up_57 : decode cX1_up 57 = .ok (.baload, 1) := by decide +kernel
theorem dX1_up_58 : decode cX1_up 58 = .ok (.bastore, 1) := by decide +kernel
theorem dX1_up_59 : decode cX1_up 59 = .ok (.aload_n 0, 1) := by decide +kernel
theorem dX1_up_60 : decode cX1_up 60 = .ok (.getfield 13, 3) := by decide +kernel
theorem dX1_up_63 : decode cX1_up 63 = .ok (.iload_n 1, 1) := by decide +kernel
theorem dX1_up_64 : decode cX1_up 64 = .ok (.aload_n 0, 1) := by decide +kernel
theorem dX1_up_65 : decode cX1_up 65 = .ok (.getfield 13, 3) := by decide +kernel
theorem dX1_up_68 : decode cX1_up 68 = .ok (.iload_n 1, 1) := by decide +kernel
theorem dX1_up_69 : decode cX1_up 69 = .ok (.iconst 1, 1) := by decide +kernel
theorem dX1_up_70 : decode cX1_up 70 = .ok (.iadd, 1) := by decide +kernel
theorem dX1_up_71 : decode cX1_up 71 = .ok (.iaload, 1) := by decide +kernel
theorem dX1_up_72 : decode cX1_up 72 = .ok (.iastore, 1) := by decide +kernel
theorem dX1_up_73 : decode cX1_up 73 = .ok (.iinc 1 1, 3) := by decide +kernel
theorem dX1_up_76 : decode cX1_up 76 = .ok (.goto (-39), 3) := by decide +kernel
theorem dX1_up_79 : decode cX1_up 79 = .ok (.aload_n 0, 1) := by decide +kernel
theorem dX1_up_80 : decode cX1_up 80 = .ok (.getfield 16, 3) := by decide +kernel
theorem dX1_up_83 : decode cX1_up 83 = .ok (.bipush 63, 2) := by decide +kernel
theorem dX1_up_85 : decode cX1_up 85 = .ok (.iconst 0, 1) := by decide +kernel
theorem dX1_up_86 : decode cX1_up 86 = .ok (.bastore, 1) := by decide +kernel
theorem dX1_up_87 : decode cX1_up 87 = .ok (.return_, 1) := by decide +kernel
def wsX1_from : List Cond := .code yX1_from cX1_from 4 (some .int) :: ([.fieldLink RX1 16 "SegmentBoxModel" "isHeld" "[Z"] ++ wsX10)
theorem dX1_from_0 : decode cX1_from 0 = .ok (.iload_n 1, 1) := by decide +kernel
theorem dX1_from_1 : decode cX1_from 1 = .ok (.istore_n 2, 1) := by decide +kernel
theorem dX1_from_2 : decode cX1_from 2 = .ok (.iconst 0, 1) := by decide +kernel
theorem dX1_from_3 : decode cX1_from 3 = .ok (.istore_n 3, 1) := by decide +kernel
theorem dX1_from_4 : decode cX1_from 4 = .ok (.iload_n 3, 1) := by decide +kernel
theorem dX1_from_5 : decode cX1_from 5 = .ok (.bipush 64, 2) := by decide +kernel
theorem dX1_from_7 : decode cX1_from 7 = .ok (.if_icmp .ge 45, 3) := by decide +kernel
theorem dX1_from_10 : decode cX1_from 10 = .ok (.aload_n 0, 1) := by decide +kernel
theorem dX1_from_11 : decode cX1_from 11 = .ok (.getfield 16, 3) := by decide +kernel
theorem dX1_from_14 : decode cX1_from 14 = .ok (.iload_n 3, 1) := by decide +kernel
theorem dX1_from_15 : decode cX1_from 15 = .ok (.baload, 1) := by decide +kernel
theorem dX1_from_16 : decode cX1_from 16 = .ok (.ifCond .eq 30, 3) := by decide +kernel
theorem dX1_from_19 : decode cX1_from 19 = .ok (.iload_n 3, 1) := by decide +kernel
theorem dX1_from_20 : decode cX1_from 20 = .ok (.ifCond .le 17, 3) := by decide +kernel
theorem dX1_from_23 : decode cX1_from 23 = .ok (.aload_n 0, 1) := by decide +kernel
theorem dX1_from_24 : decode cX1_from 24 = .ok (.getfield 16, 3) := by decide +kernel
theorem dX1_from_27 : decode cX1_from 27 = .ok (.iload_n 3, 1) := by decide +kernel
theorem dX1_from_28 : decode cX1_from 28 = .ok (.iconst 1, 1) := by decide +kernel
theorem dX1_from_29 : decode cX1_from 29 = .ok (.isub, 1) := by decide +kernel
theorem dX1_from_30 : decode cX1_from 30 = .ok (.baload, 1) := by decide +kernel
theorem dX1_from_31 : decode cX1_from 31 = .ok (.ifCond .eq 6, 3) := by decide +kernel
theorem dX1_from_34 : decode cX1_from 34 = .ok (.goto 12, 3) := by decide +kernel
theorem dX1_from_37 : decode cX1_from 37 = .ok (.iload_n 2, 1) := by decide +kernel
theorem dX1_from_38 : decode cX1_from 38 = .ok (.ifCond .ne 5, 3) := by decide +kernel
theorem dX1_from_41 : decode cX1_from 41 = .ok (.iload_n 3, 1) := by decide +kernel
theorem dX1_from_42 : decode cX1_from 42 = .ok (.ireturn, 1) := by decide +kernel
theorem dX1_from_43 : decode cX1_from 43 = .ok (.iinc 2 (-1), 3) := by decide +kernel
theorem dX1_from_46 : decode cX1_from 46 = .ok (.iinc 3 1, 3) := by decide +kernel
theorem dX1_from_49 : decode cX1_from 49 = .ok (.goto (-45), 3) := by decide +kernel
theorem dX1_from_52 : decode cX1_from 52 = .ok (.iconst (-1), 1) := by decide +kernel
theorem dX1_from_53 : decode cX1_from 53 = .ok (.ireturn, 1) := by decide +kernel
def wsX1_segment : List Cond := .code yX1_segment cX1_segment 8 (some .int) :: ([.fieldLink RX1 20 "SegmentBoxModel" "thrown" "I", .fieldLink RX1 27 "SegmentBoxModel" "many" "I", .fieldLink RX1 24 "SegmentBoxModel" "next" "I", .fieldLink RX1 16 "SegmentBoxModel" "isHeld" "[Z", .fieldLink RX1 30 "SegmentBoxModel" "hasEnd" "Z", .fieldLink RX1 34 "SegmentBoxModel" "end" "I", .fieldLink RX1 13 "SegmentBoxModel" "byteAt" "[I", .methodLink RX1 37 yX1_up, .instanceMethod yX1_up, .selects RX1 yX1_up yX1_up, .initialized RX1, .code yX1_up cX1_up 2 none, .fieldLink RX1 9 "SegmentBoxModel" "unread" "[I"] ++ wsX10)
set_option maxRecDepth 20000 in
theorem gX1_segment_X1_up : GoodIn wsX1_segment (wsV RX1 37 RX1 yX1_up wsX1_up) := goodIn_sub (by decide +kernel) (by decide +kernel)
theorem dX1_segment_0 : decode cX1_segment 0 = .ok (.aload_n 0, 1) := by decide +kernel
theorem dX1_segment_1 : decode cX1_segment 1 = .ok (.iload 4, 2) := by decide +kernel
theorem dX1_segment_3 : decode cX1_segment 3 = .ok (.ifCond .lt 10, 3) := by decide +kernel
theorem dX1_segment_6 : decode cX1_segment 6 = .ok (.iload 4, 2) := by decide +kernel
theorem dX1_segment_8 : decode cX1_segment 8 = .ok (.bipush 8, 2) := by decide +kernel
theorem dX1_segment_10 : decode cX1_segment 10 = .ok (.if_icmp .le 7, 3) := by decide +kernel
theorem dX1_segment_13 : decode cX1_segment 13 = .ok (.iconst 1, 1) := by decide +kernel
theorem dX1_segment_14 : decode cX1_segment 14 = .ok (.goto 4, 3) := by decide +kernel
theorem dX1_segment_17 : decode cX1_segment 17 = .ok (.iconst 0, 1) := by decide +kernel
theorem dX1_segment_18 : decode cX1_segment 18 = .ok (.putfield 20, 3) := by decide +kernel
theorem dX1_segment_21 : decode cX1_segment 21 = .ok (.aload_n 0, 1) := by decide +kernel
theorem dX1_segment_22 : decode cX1_segment 22 = .ok (.getfield 20, 3) := by decide +kernel
theorem dX1_segment_25 : decode cX1_segment 25 = .ok (.ifCond .le 5, 3) := by decide +kernel
theorem dX1_segment_28 : decode cX1_segment 28 = .ok (.iconst 0, 1) := by decide +kernel
theorem dX1_segment_29 : decode cX1_segment 29 = .ok (.ireturn, 1) := by decide +kernel
theorem dX1_segment_30 : decode cX1_segment 30 = .ok (.aload_n 0, 1) := by decide +kernel
theorem dX1_segment_31 : decode cX1_segment 31 = .ok (.getfield 27, 3) := by decide +kernel
theorem dX1_segment_34 : decode cX1_segment 34 = .ok (.istore 5, 2) := by decide +kernel
theorem dX1_segment_36 : decode cX1_segment 36 = .ok (.iconst 0, 1) := by decide +kernel
theorem dX1_segment_37 : decode cX1_segment 37 = .ok (.istore 6, 2) := by decide +kernel
theorem dX1_segment_39 : decode cX1_segment 39 = .ok (.iload 6, 2) := by decide +kernel
theorem dX1_segment_41 : decode cX1_segment 41 = .ok (.iload 4, 2) := by decide +kernel
theorem dX1_segment_43 : decode cX1_segment 43 = .ok (.if_icmp .ge 114, 3) := by decide +kernel
theorem dX1_segment_46 : decode cX1_segment 46 = .ok (.iload_n 1, 1) := by decide +kernel
theorem dX1_segment_47 : decode cX1_segment 47 = .ok (.iload 6, 2) := by decide +kernel
theorem dX1_segment_49 : decode cX1_segment 49 = .ok (.iadd, 1) := by decide +kernel
theorem dX1_segment_50 : decode cX1_segment 50 = .ok (.aload_n 0, 1) := by decide +kernel
theorem dX1_segment_51 : decode cX1_segment 51 = .ok (.getfield 24, 3) := by decide +kernel
theorem dX1_segment_54 : decode cX1_segment 54 = .ok (.isub, 1) := by decide +kernel
theorem dX1_segment_55 : decode cX1_segment 55 = .ok (.istore 7, 2) := by decide +kernel
theorem dX1_segment_57 : decode cX1_segment 57 = .ok (.iload 7, 2) := by decide +kernel
theorem dX1_segment_59 : decode cX1_segment 59 = .ok (.ifCond .lt 92, 3) := by decide +kernel
theorem dX1_segment_62 : decode cX1_segment 62 = .ok (.iload 7, 2) := by decide +kernel
theorem dX1_segment_64 : decode cX1_segment 64 = .ok (.bipush 64, 2) := by decide +kernel
theorem dX1_segment_66 : decode cX1_segment 66 = .ok (.aload_n 0, 1) := by decide +kernel
theorem dX1_segment_67 : decode cX1_segment 67 = .ok (.getfield 27, 3) := by decide +kernel
theorem dX1_segment_70 : decode cX1_segment 70 = .ok (.isub, 1) := by decide +kernel
theorem dX1_segment_71 : decode cX1_segment 71 = .ok (.if_icmp .ge 80, 3) := by decide +kernel
theorem dX1_segment_74 : decode cX1_segment 74 = .ok (.aload_n 0, 1) := by decide +kernel
theorem dX1_segment_75 : decode cX1_segment 75 = .ok (.getfield 16, 3) := by decide +kernel
theorem dX1_segment_78 : decode cX1_segment 78 = .ok (.iload 7, 2) := by decide +kernel
theorem dX1_segment_80 : decode cX1_segment 80 = .ok (.baload, 1) := by decide +kernel
theorem dX1_segment_81 : decode cX1_segment 81 = .ok (.ifCond .ne 70, 3) := by decide +kernel
theorem dX1_segment_84 : decode cX1_segment 84 = .ok (.aload_n 0, 1) := by decide +kernel
theorem dX1_segment_85 : decode cX1_segment 85 = .ok (.getfield 30, 3) := by decide +kernel
theorem dX1_segment_88 : decode cX1_segment 88 = .ok (.ifCond .eq 20, 3) := by decide +kernel
theorem dX1_segment_91 : decode cX1_segment 91 = .ok (.iload 7, 2) := by decide +kernel
theorem dX1_segment_93 : decode cX1_segment 93 = .ok (.aload_n 0, 1) := by decide +kernel
theorem dX1_segment_94 : decode cX1_segment 94 = .ok (.getfield 34, 3) := by decide +kernel
theorem dX1_segment_97 : decode cX1_segment 97 = .ok (.aload_n 0, 1) := by decide +kernel
theorem dX1_segment_98 : decode cX1_segment 98 = .ok (.getfield 24, 3) := by decide +kernel
theorem dX1_segment_101 : decode cX1_segment 101 = .ok (.isub, 1) := by decide +kernel
theorem dX1_segment_102 : decode cX1_segment 102 = .ok (.if_icmp .lt 6, 3) := by decide +kernel
theorem dX1_segment_105 : decode cX1_segment 105 = .ok (.goto 46, 3) := by decide +kernel
theorem dX1_segment_108 : decode cX1_segment 108 = .ok (.aload_n 0, 1) := by decide +kernel
theorem dX1_segment_109 : decode cX1_segment 109 = .ok (.getfield 16, 3) := by decide +kernel
theorem dX1_segment_112 : decode cX1_segment 112 = .ok (.iload 7, 2) := by decide +kernel
theorem dX1_segment_114 : decode cX1_segment 114 = .ok (.iconst 1, 1) := by decide +kernel
theorem dX1_segment_115 : decode cX1_segment 115 = .ok (.bastore, 1) := by decide +kernel
theorem dX1_segment_116 : decode cX1_segment 116 = .ok (.aload_n 0, 1) := by decide +kernel
theorem dX1_segment_117 : decode cX1_segment 117 = .ok (.getfield 13, 3) := by decide +kernel
theorem dX1_segment_120 : decode cX1_segment 120 = .ok (.iload 7, 2) := by decide +kernel
theorem dX1_segment_122 : decode cX1_segment 122 = .ok (.lload_n 2, 1) := by decide +kernel
theorem dX1_segment_123 : decode cX1_segment 123 = .ok (.bipush 8, 2) := by decide +kernel
theorem dX1_segment_125 : decode cX1_segment 125 = .ok (.iload 6, 2) := by decide +kernel
theorem dX1_segment_127 : decode cX1_segment 127 = .ok (.imul, 1) := by decide +kernel
theorem dX1_segment_128 : decode cX1_segment 128 = .ok (.lshr, 1) := by decide +kernel
theorem dX1_segment_129 : decode cX1_segment 129 = .ok (.l2i, 1) := by decide +kernel
theorem dX1_segment_130 : decode cX1_segment 130 = .ok (.sipush 255, 3) := by decide +kernel
theorem dX1_segment_133 : decode cX1_segment 133 = .ok (.iand, 1) := by decide +kernel
theorem dX1_segment_134 : decode cX1_segment 134 = .ok (.iastore, 1) := by decide +kernel
theorem dX1_segment_135 : decode cX1_segment 135 = .ok (.aload_n 0, 1) := by decide +kernel
theorem dX1_segment_136 : decode cX1_segment 136 = .ok (.getfield 16, 3) := by decide +kernel
theorem dX1_segment_139 : decode cX1_segment 139 = .ok (.iconst 0, 1) := by decide +kernel
theorem dX1_segment_140 : decode cX1_segment 140 = .ok (.baload, 1) := by decide +kernel
theorem dX1_segment_141 : decode cX1_segment 141 = .ok (.ifCond .eq 10, 3) := by decide +kernel
theorem dX1_segment_144 : decode cX1_segment 144 = .ok (.aload_n 0, 1) := by decide +kernel
theorem dX1_segment_145 : decode cX1_segment 145 = .ok (.invokevirtual 37, 3) := by decide +kernel
theorem dX1_segment_148 : decode cX1_segment 148 = .ok (.goto (-13), 3) := by decide +kernel
theorem dX1_segment_151 : decode cX1_segment 151 = .ok (.iinc 6 1, 3) := by decide +kernel
theorem dX1_segment_154 : decode cX1_segment 154 = .ok (.goto (-115), 3) := by decide +kernel
theorem dX1_segment_157 : decode cX1_segment 157 = .ok (.aload_n 0, 1) := by decide +kernel
theorem dX1_segment_158 : decode cX1_segment 158 = .ok (.getfield 27, 3) := by decide +kernel
theorem dX1_segment_161 : decode cX1_segment 161 = .ok (.iload 5, 2) := by decide +kernel
theorem dX1_segment_163 : decode cX1_segment 163 = .ok (.isub, 1) := by decide +kernel
theorem dX1_segment_164 : decode cX1_segment 164 = .ok (.ireturn, 1) := by decide +kernel
def wsX1_end : List Cond := .code yX1_end cX1_end 4 (some .boolean) :: ([.fieldLink RX1 20 "SegmentBoxModel" "thrown" "I", .fieldLink RX1 24 "SegmentBoxModel" "next" "I", .fieldLink RX1 30 "SegmentBoxModel" "hasEnd" "Z", .fieldLink RX1 27 "SegmentBoxModel" "many" "I", .fieldLink RX1 16 "SegmentBoxModel" "isHeld" "[Z", .fieldLink RX1 34 "SegmentBoxModel" "end" "I"] ++ wsX10)
theorem dX1_end_0 : decode cX1_end 0 = .ok (.aload_n 0, 1) := by decide +kernel
theorem dX1_end_1 : decode cX1_end 1 = .ok (.iconst 0, 1) := by decide +kernel
theorem dX1_end_2 : decode cX1_end 2 = .ok (.putfield 20, 3) := by decide +kernel
theorem dX1_end_5 : decode cX1_end 5 = .ok (.iload_n 1, 1) := by decide +kernel
theorem dX1_end_6 : decode cX1_end 6 = .ok (.aload_n 0, 1) := by decide +kernel
theorem dX1_end_7 : decode cX1_end 7 = .ok (.getfield 24, 3) := by decide +kernel
theorem dX1_end_10 : decode cX1_end 10 = .ok (.isub, 1) := by decide +kernel
theorem dX1_end_11 : decode cX1_end 11 = .ok (.istore_n 2, 1) := by decide +kernel
theorem dX1_end_12 : decode cX1_end 12 = .ok (.aload_n 0, 1) := by decide +kernel
theorem dX1_end_13 : decode cX1_end 13 = .ok (.getfield 30, 3) := by decide +kernel
theorem dX1_end_16 : decode cX1_end 16 = .ok (.ifCond .ne 18, 3) := by decide +kernel
theorem dX1_end_19 : decode cX1_end 19 = .ok (.iload_n 2, 1) := by decide +kernel
theorem dX1_end_20 : decode cX1_end 20 = .ok (.ifCond .lt 14, 3) := by decide +kernel
theorem dX1_end_23 : decode cX1_end 23 = .ok (.iload_n 2, 1) := by decide +kernel
theorem dX1_end_24 : decode cX1_end 24 = .ok (.bipush 64, 2) := by decide +kernel
theorem dX1_end_26 : decode cX1_end 26 = .ok (.aload_n 0, 1) := by decide +kernel
theorem dX1_end_27 : decode cX1_end 27 = .ok (.getfield 27, 3) := by decide +kernel
theorem dX1_end_30 : decode cX1_end 30 = .ok (.isub, 1) := by decide +kernel
theorem dX1_end_31 : decode cX1_end 31 = .ok (.if_icmp .le 5, 3) := by decide +kernel
theorem dX1_end_34 : decode cX1_end 34 = .ok (.iconst 0, 1) := by decide +kernel
theorem dX1_end_35 : decode cX1_end 35 = .ok (.ireturn, 1) := by decide +kernel
theorem dX1_end_36 : decode cX1_end 36 = .ok (.iload_n 2, 1) := by decide +kernel
theorem dX1_end_37 : decode cX1_end 37 = .ok (.istore_n 3, 1) := by decide +kernel
theorem dX1_end_38 : decode cX1_end 38 = .ok (.iload_n 3, 1) := by decide +kernel
theorem dX1_end_39 : decode cX1_end 39 = .ok (.bipush 64, 2) := by decide +kernel
theorem dX1_end_41 : decode cX1_end 41 = .ok (.if_icmp .ge 20, 3) := by decide +kernel
theorem dX1_end_44 : decode cX1_end 44 = .ok (.aload_n 0, 1) := by decide +kernel
theorem dX1_end_45 : decode cX1_end 45 = .ok (.getfield 16, 3) := by decide +kernel
theorem dX1_end_48 : decode cX1_end 48 = .ok (.iload_n 3, 1) := by decide +kernel
theorem dX1_end_49 : decode cX1_end 49 = .ok (.baload, 1) := by decide +kernel
theorem dX1_end_50 : decode cX1_end 50 = .ok (.ifCond .eq 5, 3) := by decide +kernel
theorem dX1_end_53 : decode cX1_end 53 = .ok (.iconst 0, 1) := by decide +kernel
theorem dX1_end_54 : decode cX1_end 54 = .ok (.ireturn, 1) := by decide +kernel
theorem dX1_end_55 : decode cX1_end 55 = .ok (.iinc 3 1, 3) := by decide +kernel
theorem dX1_end_58 : decode cX1_end 58 = .ok (.goto (-20), 3) := by decide +kernel
theorem dX1_end_61 : decode cX1_end 61 = .ok (.aload_n 0, 1) := by decide +kernel
theorem dX1_end_62 : decode cX1_end 62 = .ok (.iconst 1, 1) := by decide +kernel
theorem dX1_end_63 : decode cX1_end 63 = .ok (.putfield 30, 3) := by decide +kernel
theorem dX1_end_66 : decode cX1_end 66 = .ok (.aload_n 0, 1) := by decide +kernel
theorem dX1_end_67 : decode cX1_end 67 = .ok (.iload_n 1, 1) := by decide +kernel
theorem dX1_end_68 : decode cX1_end 68 = .ok (.putfield 34, 3) := by decide +kernel
theorem dX1_end_71 : decode cX1_end 71 = .ok (.iconst 1, 1) := by decide +kernel
theorem dX1_end_72 : decode cX1_end 72 = .ok (.ireturn, 1) := by decide +kernel
def wsX1_read : List Cond := .code yX1_read cX1_read 3 (some .int) :: ([.fieldLink RX1 20 "SegmentBoxModel" "thrown" "I", .fieldLink RX1 27 "SegmentBoxModel" "many" "I", .fieldLink RX1 30 "SegmentBoxModel" "hasEnd" "Z", .fieldLink RX1 24 "SegmentBoxModel" "next" "I", .fieldLink RX1 34 "SegmentBoxModel" "end" "I", .fieldLink RX1 9 "SegmentBoxModel" "unread" "[I"] ++ wsX10)
theorem dX1_read_0 : decode cX1_read 0 = .ok (.aload_n 0, 1) := by decide +kernel
theorem dX1_read_1 : decode cX1_read 1 = .ok (.iconst 0, 1) := by decide +kernel
theorem dX1_read_2 : decode cX1_read 2 = .ok (.putfield 20, 3) := by decide +kernel
theorem dX1_read_5 : decode cX1_read 5 = .ok (.aload_n 0, 1) := by decide +kernel
theorem dX1_read_6 : decode cX1_read 6 = .ok (.getfield 27, 3) := by decide +kernel
theorem dX1_read_9 : decode cX1_read 9 = .ok (.ifCond .ne 28, 3) := by decide +kernel
theorem dX1_read_12 : decode cX1_read 12 = .ok (.aload_n 0, 1) := by decide +kernel
theorem dX1_read_13 : decode cX1_read 13 = .ok (.getfield 30, 3) := by decide +kernel
theorem dX1_read_16 : decode cX1_read 16 = .ok (.ifCond .eq 19, 3) := by decide +kernel
theorem dX1_read_19 : decode cX1_read 19 = .ok (.aload_n 0, 1) := by decide +kernel
theorem dX1_read_20 : decode cX1_read 20 = .ok (.getfield 24, 3) := by decide +kernel
theorem dX1_read_23 : decode cX1_read 23 = .ok (.aload_n 0, 1) := by decide +kernel
theorem dX1_read_24 : decode cX1_read 24 = .ok (.getfield 34, 3) := by decide +kernel
theorem dX1_read_27 : decode cX1_read 27 = .ok (.if_icmp .ne 8, 3) := by decide +kernel
theorem dX1_read_30 : decode cX1_read 30 = .ok (.bipush (-2), 2) := by decide +kernel
theorem dX1_read_32 : decode cX1_read 32 = .ok (.goto 4, 3) := by decide +kernel
theorem dX1_read_35 : decode cX1_read 35 = .ok (.iconst (-1), 1) := by decide +kernel
theorem dX1_read_36 : decode cX1_read 36 = .ok (.ireturn, 1) := by decide +kernel
theorem dX1_read_37 : decode cX1_read 37 = .ok (.aload_n 0, 1) := by decide +kernel
theorem dX1_read_38 : decode cX1_read 38 = .ok (.getfield 9, 3) := by decide +kernel
theorem dX1_read_41 : decode cX1_read 41 = .ok (.iconst 0, 1) := by decide +kernel
theorem dX1_read_42 : decode cX1_read 42 = .ok (.iaload, 1) := by decide +kernel
theorem dX1_read_43 : decode cX1_read 43 = .ok (.istore_n 1, 1) := by decide +kernel
theorem dX1_read_44 : decode cX1_read 44 = .ok (.aload_n 0, 1) := by decide +kernel
theorem dX1_read_45 : decode cX1_read 45 = .ok (.dup, 1) := by decide +kernel
theorem dX1_read_46 : decode cX1_read 46 = .ok (.getfield 27, 3) := by decide +kernel
theorem dX1_read_49 : decode cX1_read 49 = .ok (.iconst 1, 1) := by decide +kernel
theorem dX1_read_50 : decode cX1_read 50 = .ok (.isub, 1) := by decide +kernel
theorem dX1_read_51 : decode cX1_read 51 = .ok (.putfield 27, 3) := by decide +kernel
theorem dX1_read_54 : decode cX1_read 54 = .ok (.iconst 0, 1) := by decide +kernel
theorem dX1_read_55 : decode cX1_read 55 = .ok (.istore_n 2, 1) := by decide +kernel
theorem dX1_read_56 : decode cX1_read 56 = .ok (.iload_n 2, 1) := by decide +kernel
theorem dX1_read_57 : decode cX1_read 57 = .ok (.aload_n 0, 1) := by decide +kernel
theorem dX1_read_58 : decode cX1_read 58 = .ok (.getfield 27, 3) := by decide +kernel
theorem dX1_read_61 : decode cX1_read 61 = .ok (.if_icmp .ge 23, 3) := by decide +kernel
theorem dX1_read_64 : decode cX1_read 64 = .ok (.aload_n 0, 1) := by decide +kernel
theorem dX1_read_65 : decode cX1_read 65 = .ok (.getfield 9, 3) := by decide +kernel
theorem dX1_read_68 : decode cX1_read 68 = .ok (.iload_n 2, 1) := by decide +kernel
theorem dX1_read_69 : decode cX1_read 69 = .ok (.aload_n 0, 1) := by decide +kernel
theorem dX1_read_70 : decode cX1_read 70 = .ok (.getfield 9, 3) := by decide +kernel
theorem dX1_read_73 : decode cX1_read 73 = .ok (.iload_n 2, 1) := by decide +kernel
theorem dX1_read_74 : decode cX1_read 74 = .ok (.iconst 1, 1) := by decide +kernel
theorem dX1_read_75 : decode cX1_read 75 = .ok (.iadd, 1) := by decide +kernel
theorem dX1_read_76 : decode cX1_read 76 = .ok (.iaload, 1) := by decide +kernel
theorem dX1_read_77 : decode cX1_read 77 = .ok (.iastore, 1) := by decide +kernel
theorem dX1_read_78 : decode cX1_read 78 = .ok (.iinc 2 1, 3) := by decide +kernel
theorem dX1_read_81 : decode cX1_read 81 = .ok (.goto (-25), 3) := by decide +kernel
theorem dX1_read_84 : decode cX1_read 84 = .ok (.iload_n 1, 1) := by decide +kernel
theorem dX1_read_85 : decode cX1_read 85 = .ok (.ireturn, 1) := by decide +kernel
def wsX1_told : List Cond := .code yX1_told cX1_told 4 (some .int) :: ([.fieldLink RX1 20 "SegmentBoxModel" "thrown" "I", .fieldLink RX1 24 "SegmentBoxModel" "next" "I", .fieldLink RX1 27 "SegmentBoxModel" "many" "I", .fieldLink RX1 16 "SegmentBoxModel" "isHeld" "[Z", .methodLink RX1 40 yX1_from, .instanceMethod yX1_from, .selects RX1 yX1_from yX1_from, .initialized RX1, .code yX1_from cX1_from 4 (some .int), .fieldLink RX1 30 "SegmentBoxModel" "hasEnd" "Z"] ++ wsX10)
set_option maxRecDepth 20000 in
theorem gX1_told_X1_from : GoodIn wsX1_told (wsV RX1 40 RX1 yX1_from wsX1_from) := goodIn_sub (by decide +kernel) (by decide +kernel)
theorem dX1_told_0 : decode cX1_told 0 = .ok (.aload_n 0, 1) := by decide +kernel
theorem dX1_told_1 : decode cX1_told 1 = .ok (.iload_n 1, 1) := by decide +kernel
theorem dX1_told_2 : decode cX1_told 2 = .ok (.ifCond .lt 8, 3) := by decide +kernel
theorem dX1_told_5 : decode cX1_told 5 = .ok (.iload_n 1, 1) := by decide +kernel
theorem dX1_told_6 : decode cX1_told 6 = .ok (.iconst 5, 1) := by decide +kernel
theorem dX1_told_7 : decode cX1_told 7 = .ok (.if_icmp .le 7, 3) := by decide +kernel
theorem dX1_told_10 : decode cX1_told 10 = .ok (.iconst 1, 1) := by decide +kernel
theorem dX1_told_11 : decode cX1_told 11 = .ok (.goto 4, 3) := by decide +kernel
theorem dX1_told_14 : decode cX1_told 14 = .ok (.iconst 0, 1) := by decide +kernel
theorem dX1_told_15 : decode cX1_told 15 = .ok (.putfield 20, 3) := by decide +kernel
theorem dX1_told_18 : decode cX1_told 18 = .ok (.aload_n 0, 1) := by decide +kernel
theorem dX1_told_19 : decode cX1_told 19 = .ok (.getfield 20, 3) := by decide +kernel
theorem dX1_told_22 : decode cX1_told 22 = .ok (.ifCond .le 5, 3) := by decide +kernel
theorem dX1_told_25 : decode cX1_told 25 = .ok (.iconst 0, 1) := by decide +kernel
theorem dX1_told_26 : decode cX1_told 26 = .ok (.ireturn, 1) := by decide +kernel
theorem dX1_told_27 : decode cX1_told 27 = .ok (.iconst 0, 1) := by decide +kernel
theorem dX1_told_28 : decode cX1_told 28 = .ok (.istore_n 2, 1) := by decide +kernel
theorem dX1_told_29 : decode cX1_told 29 = .ok (.iload_n 1, 1) := by decide +kernel
theorem dX1_told_30 : decode cX1_told 30 = .ok (.tableswitch 96 0 4 #[34, 39, 47, 52, 80], 34) := by decide +kernel
theorem dX1_told_64 : decode cX1_told 64 = .ok (.aload_n 0, 1) := by decide +kernel
theorem dX1_told_65 : decode cX1_told 65 = .ok (.getfield 24, 3) := by decide +kernel
theorem dX1_told_68 : decode cX1_told 68 = .ok (.ireturn, 1) := by decide +kernel
theorem dX1_told_69 : decode cX1_told 69 = .ok (.bipush 64, 2) := by decide +kernel
theorem dX1_told_71 : decode cX1_told 71 = .ok (.aload_n 0, 1) := by decide +kernel
theorem dX1_told_72 : decode cX1_told 72 = .ok (.getfield 27, 3) := by decide +kernel
theorem dX1_told_75 : decode cX1_told 75 = .ok (.isub, 1) := by decide +kernel
theorem dX1_told_76 : decode cX1_told 76 = .ok (.ireturn, 1) := by decide +kernel
theorem dX1_told_77 : decode cX1_told 77 = .ok (.aload_n 0, 1) := by decide +kernel
theorem dX1_told_78 : decode cX1_told 78 = .ok (.getfield 27, 3) := by decide +kernel
theorem dX1_told_81 : decode cX1_told 81 = .ok (.ireturn, 1) := by decide +kernel
theorem dX1_told_82 : decode cX1_told 82 = .ok (.iconst 0, 1) := by decide +kernel
theorem dX1_told_83 : decode cX1_told 83 = .ok (.istore_n 3, 1) := by decide +kernel
theorem dX1_told_84 : decode cX1_told 84 = .ok (.iload_n 3, 1) := by decide +kernel
theorem dX1_told_85 : decode cX1_told 85 = .ok (.bipush 64, 2) := by decide +kernel
theorem dX1_told_87 : decode cX1_told 87 = .ok (.if_icmp .ge 21, 3) := by decide +kernel
theorem dX1_told_90 : decode cX1_told 90 = .ok (.aload_n 0, 1) := by decide +kernel
theorem dX1_told_91 : decode cX1_told 91 = .ok (.getfield 16, 3) := by decide +kernel
theorem dX1_told_94 : decode cX1_told 94 = .ok (.iload_n 3, 1) := by decide +kernel
theorem dX1_told_95 : decode cX1_told 95 = .ok (.baload, 1) := by decide +kernel
theorem dX1_told_96 : decode cX1_told 96 = .ok (.ifCond .eq 6, 3) := by decide +kernel
theorem dX1_told_99 : decode cX1_told 99 = .ok (.iinc 2 1, 3) := by decide +kernel
theorem dX1_told_102 : decode cX1_told 102 = .ok (.iinc 3 1, 3) := by decide +kernel
theorem dX1_told_105 : decode cX1_told 105 = .ok (.goto (-21), 3) := by decide +kernel
theorem dX1_told_108 : decode cX1_told 108 = .ok (.iload_n 2, 1) := by decide +kernel
theorem dX1_told_109 : decode cX1_told 109 = .ok (.ireturn, 1) := by decide +kernel
theorem dX1_told_110 : decode cX1_told 110 = .ok (.aload_n 0, 1) := by decide +kernel
theorem dX1_told_111 : decode cX1_told 111 = .ok (.iload_n 2, 1) := by decide +kernel
theorem dX1_told_112 : decode cX1_told 112 = .ok (.invokevirtual 40, 3) := by decide +kernel
theorem dX1_told_115 : decode cX1_told 115 = .ok (.ifCond .lt 9, 3) := by decide +kernel
theorem dX1_told_118 : decode cX1_told 118 = .ok (.iinc 2 1, 3) := by decide +kernel
theorem dX1_told_121 : decode cX1_told 121 = .ok (.goto (-11), 3) := by decide +kernel
theorem dX1_told_124 : decode cX1_told 124 = .ok (.iload_n 2, 1) := by decide +kernel
theorem dX1_told_125 : decode cX1_told 125 = .ok (.ireturn, 1) := by decide +kernel
theorem dX1_told_126 : decode cX1_told 126 = .ok (.aload_n 0, 1) := by decide +kernel
theorem dX1_told_127 : decode cX1_told 127 = .ok (.getfield 30, 3) := by decide +kernel
theorem dX1_told_130 : decode cX1_told 130 = .ok (.ifCond .eq 7, 3) := by decide +kernel
theorem dX1_told_133 : decode cX1_told 133 = .ok (.iconst 1, 1) := by decide +kernel
theorem dX1_told_134 : decode cX1_told 134 = .ok (.goto 4, 3) := by decide +kernel
theorem dX1_told_137 : decode cX1_told 137 = .ok (.iconst 0, 1) := by decide +kernel
theorem dX1_told_138 : decode cX1_told 138 = .ok (.ireturn, 1) := by decide +kernel
def wsX1_block : List Cond := .code yX1_block cX1_block 5 (some .int) :: ([.methodLink RX1 40 yX1_from, .instanceMethod yX1_from, .selects RX1 yX1_from yX1_from, .initialized RX1, .code yX1_from cX1_from 4 (some .int), .fieldLink RX1 16 "SegmentBoxModel" "isHeld" "[Z", .fieldLink RX1 20 "SegmentBoxModel" "thrown" "I", .fieldLink RX1 24 "SegmentBoxModel" "next" "I"] ++ wsX10)
set_option maxRecDepth 20000 in
theorem gX1_block_X1_from : GoodIn wsX1_block (wsV RX1 40 RX1 yX1_from wsX1_from) := goodIn_sub (by decide +kernel) (by decide +kernel)
theorem dX1_block_0 : decode cX1_block 0 = .ok (.iload_n 1, 1) := by decide +kernel
theorem dX1_block_1 : decode cX1_block 1 = .ok (.ifCond .ge 7, 3) := by decide +kernel
theorem dX1_block_4 : decode cX1_block 4 = .ok (.iconst (-1), 1) := by decide +kernel
theorem dX1_block_5 : decode cX1_block 5 = .ok (.goto 8, 3) := by decide +kernel
theorem dX1_block_8 : decode cX1_block 8 = .ok (.aload_n 0, 1) := by decide +kernel
theorem dX1_block_9 : decode cX1_block 9 = .ok (.iload_n 1, 1) := by decide +kernel
theorem dX1_block_10 : decode cX1_block 10 = .ok (.invokevirtual 40, 3) := by decide +kernel
theorem dX1_block_13 : decode cX1_block 13 = .ok (.istore_n 3, 1) := by decide +kernel
theorem dX1_block_14 : decode cX1_block 14 = .ok (.iconst 0, 1) := by decide +kernel
theorem dX1_block_15 : decode cX1_block 15 = .ok (.istore 4, 2) := by decide +kernel
theorem dX1_block_17 : decode cX1_block 17 = .ok (.aload_n 0, 1) := by decide +kernel
theorem dX1_block_18 : decode cX1_block 18 = .ok (.iload_n 3, 1) := by decide +kernel
theorem dX1_block_19 : decode cX1_block 19 = .ok (.ifCond .ge 7, 3) := by decide +kernel
theorem dX1_block_22 : decode cX1_block 22 = .ok (.iconst 1, 1) := by decide +kernel
theorem dX1_block_23 : decode cX1_block 23 = .ok (.goto 4, 3) := by decide +kernel
theorem dX1_block_26 : decode cX1_block 26 = .ok (.iconst 0, 1) := by decide +kernel
theorem dX1_block_27 : decode cX1_block 27 = .ok (.putfield 20, 3) := by decide +kernel
theorem dX1_block_30 : decode cX1_block 30 = .ok (.aload_n 0, 1) := by decide +kernel
theorem dX1_block_31 : decode cX1_block 31 = .ok (.getfield 20, 3) := by decide +kernel
theorem dX1_block_34 : decode cX1_block 34 = .ok (.ifCond .le 5, 3) := by decide +kernel
theorem dX1_block_37 : decode cX1_block 37 = .ok (.iconst 0, 1) := by decide +kernel
theorem dX1_block_38 : decode cX1_block 38 = .ok (.ireturn, 1) := by decide +kernel
theorem dX1_block_39 : decode cX1_block 39 = .ok (.iload_n 3, 1) := by decide +kernel
theorem dX1_block_40 : decode cX1_block 40 = .ok (.iload 4, 2) := by decide +kernel
theorem dX1_block_42 : decode cX1_block 42 = .ok (.iadd, 1) := by decide +kernel
theorem dX1_block_43 : decode cX1_block 43 = .ok (.bipush 64, 2) := by decide +kernel
theorem dX1_block_45 : decode cX1_block 45 = .ok (.if_icmp .ge 21, 3) := by decide +kernel
theorem dX1_block_48 : decode cX1_block 48 = .ok (.aload_n 0, 1) := by decide +kernel
theorem dX1_block_49 : decode cX1_block 49 = .ok (.getfield 16, 3) := by decide +kernel
theorem dX1_block_52 : decode cX1_block 52 = .ok (.iload_n 3, 1) := by decide +kernel
theorem dX1_block_53 : decode cX1_block 53 = .ok (.iload 4, 2) := by decide +kernel
theorem dX1_block_55 : decode cX1_block 55 = .ok (.iadd, 1) := by decide +kernel
theorem dX1_block_56 : decode cX1_block 56 = .ok (.baload, 1) := by decide +kernel
theorem dX1_block_57 : decode cX1_block 57 = .ok (.ifCond .eq 9, 3) := by decide +kernel
theorem dX1_block_60 : decode cX1_block 60 = .ok (.iinc 4 1, 3) := by decide +kernel
theorem dX1_block_63 : decode cX1_block 63 = .ok (.goto (-24), 3) := by decide +kernel
theorem dX1_block_66 : decode cX1_block 66 = .ok (.iload_n 2, 1) := by decide +kernel
theorem dX1_block_67 : decode cX1_block 67 = .ok (.ifCond .eq 8, 3) := by decide +kernel
theorem dX1_block_70 : decode cX1_block 70 = .ok (.iload 4, 2) := by decide +kernel
theorem dX1_block_72 : decode cX1_block 72 = .ok (.goto 9, 3) := by decide +kernel
theorem dX1_block_75 : decode cX1_block 75 = .ok (.aload_n 0, 1) := by decide +kernel
theorem dX1_block_76 : decode cX1_block 76 = .ok (.getfield 24, 3) := by decide +kernel
theorem dX1_block_79 : decode cX1_block 79 = .ok (.iload_n 3, 1) := by decide +kernel
theorem dX1_block_80 : decode cX1_block 80 = .ok (.iadd, 1) := by decide +kernel
theorem dX1_block_81 : decode cX1_block 81 = .ok (.ireturn, 1) := by decide +kernel
def wsX1_held : List Cond := .code yX1_held cX1_held 3 (some .boolean) :: ([.fieldLink RX1 20 "SegmentBoxModel" "thrown" "I", .fieldLink RX1 24 "SegmentBoxModel" "next" "I", .fieldLink RX1 16 "SegmentBoxModel" "isHeld" "[Z"] ++ wsX10)
theorem dX1_held_0 : decode cX1_held 0 = .ok (.aload_n 0, 1) := by decide +kernel
theorem dX1_held_1 : decode cX1_held 1 = .ok (.iconst 0, 1) := by decide +kernel
theorem dX1_held_2 : decode cX1_held 2 = .ok (.putfield 20, 3) := by decide +kernel
theorem dX1_held_5 : decode cX1_held 5 = .ok (.iload_n 1, 1) := by decide +kernel
theorem dX1_held_6 : decode cX1_held 6 = .ok (.aload_n 0, 1) := by decide +kernel
theorem dX1_held_7 : decode cX1_held 7 = .ok (.getfield 24, 3) := by decide +kernel
theorem dX1_held_10 : decode cX1_held 10 = .ok (.isub, 1) := by decide +kernel
theorem dX1_held_11 : decode cX1_held 11 = .ok (.istore_n 2, 1) := by decide +kernel
theorem dX1_held_12 : decode cX1_held 12 = .ok (.iload_n 2, 1) := by decide +kernel
theorem dX1_held_13 : decode cX1_held 13 = .ok (.ifCond .lt 22, 3) := by decide +kernel
theorem dX1_held_16 : decode cX1_held 16 = .ok (.iload_n 2, 1) := by decide +kernel
theorem dX1_held_17 : decode cX1_held 17 = .ok (.bipush 64, 2) := by decide +kernel
theorem dX1_held_19 : decode cX1_held 19 = .ok (.if_icmp .ge 16, 3) := by decide +kernel
theorem dX1_held_22 : decode cX1_held 22 = .ok (.aload_n 0, 1) := by decide +kernel
theorem dX1_held_23 : decode cX1_held 23 = .ok (.getfield 16, 3) := by decide +kernel
theorem dX1_held_26 : decode cX1_held 26 = .ok (.iload_n 2, 1) := by decide +kernel
theorem dX1_held_27 : decode cX1_held 27 = .ok (.baload, 1) := by decide +kernel
theorem dX1_held_28 : decode cX1_held 28 = .ok (.ifCond .eq 7, 3) := by decide +kernel
theorem dX1_held_31 : decode cX1_held 31 = .ok (.iconst 1, 1) := by decide +kernel
theorem dX1_held_32 : decode cX1_held 32 = .ok (.goto 4, 3) := by decide +kernel
theorem dX1_held_35 : decode cX1_held 35 = .ok (.iconst 0, 1) := by decide +kernel
theorem dX1_held_36 : decode cX1_held 36 = .ok (.ireturn, 1) := by decide +kernel
def wsL_m : List Cond := [.methodLink RL 41 yX1_segment, .instanceMethod yX1_segment, .selects RX1 yX1_segment yX1_segment, .code yX1_segment cX1_segment 8 (some .int), .fieldLink RX1 20 "SegmentBoxModel" "thrown" "I", .fieldLink RX1 27 "SegmentBoxModel" "many" "I", .fieldLink RX1 24 "SegmentBoxModel" "next" "I", .fieldLink RX1 16 "SegmentBoxModel" "isHeld" "[Z", .fieldLink RX1 30 "SegmentBoxModel" "hasEnd" "Z", .fieldLink RX1 34 "SegmentBoxModel" "end" "I", .fieldLink RX1 13 "SegmentBoxModel" "byteAt" "[I", .methodLink RX1 37 yX1_up, .instanceMethod yX1_up, .selects RX1 yX1_up yX1_up, .initialized RX1, .code yX1_up cX1_up 2 none, .fieldLink RX1 9 "SegmentBoxModel" "unread" "[I", .methodLink RL 50 yX1_end, .instanceMethod yX1_end, .selects RX1 yX1_end yX1_end, .code yX1_end cX1_end 4 (some .boolean), .methodLink RL 54 yX1_read, .instanceMethod yX1_read, .selects RX1 yX1_read yX1_read, .code yX1_read cX1_read 3 (some .int), .methodLink RL 58 yX1_told, .instanceMethod yX1_told, .selects RX1 yX1_told yX1_told, .code yX1_told cX1_told 4 (some .int), .methodLink RX1 40 yX1_from, .instanceMethod yX1_from, .selects RX1 yX1_from yX1_from, .code yX1_from cX1_from 4 (some .int), .methodLink RL 62 yX1_block, .instanceMethod yX1_block, .selects RX1 yX1_block yX1_block, .code yX1_block cX1_block 5 (some .int), .methodLink RL 66 yX1_held, .instanceMethod yX1_held, .selects RX1 yX1_held yX1_held, .code yX1_held cX1_held 3 (some .boolean)] ++ wsX10
set_option maxRecDepth 20000 in
theorem wsL_m_in : ∀ w ∈ wsL_m, w ∈ lw_tbl := by decide +kernel
set_option maxRecDepth 20000 in
theorem gL_m_X1_segment : GoodIn wsL_m (wsV RL 41 RX1 yX1_segment wsX1_segment) := goodIn_sub (by decide +kernel) (by decide +kernel)
set_option maxRecDepth 20000 in
theorem gL_m_X1_end : GoodIn wsL_m (wsV RL 50 RX1 yX1_end wsX1_end) := goodIn_sub (by decide +kernel) (by decide +kernel)
set_option maxRecDepth 20000 in
theorem gL_m_X1_read : GoodIn wsL_m (wsV RL 54 RX1 yX1_read wsX1_read) := goodIn_sub (by decide +kernel) (by decide +kernel)
set_option maxRecDepth 20000 in
theorem gL_m_X1_told : GoodIn wsL_m (wsV RL 58 RX1 yX1_told wsX1_told) := goodIn_sub (by decide +kernel) (by decide +kernel)
set_option maxRecDepth 20000 in
theorem gL_m_X1_block : GoodIn wsL_m (wsV RL 62 RX1 yX1_block wsX1_block) := goodIn_sub (by decide +kernel) (by decide +kernel)
set_option maxRecDepth 20000 in
theorem gL_m_X1_held : GoodIn wsL_m (wsV RL 66 RX1 yX1_held wsX1_held) := goodIn_sub (by decide +kernel) (by decide +kernel)
