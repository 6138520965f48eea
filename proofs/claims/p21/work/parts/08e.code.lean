theorem dX11_fork_0 : decode cX11_fork 0 = .ok (.aload_n 0, 1) := by decide +kernel
theorem dX11_fork_1 : decode cX11_fork 1 = .ok (.iconst 0, 1) := by decide +kernel
theorem dX11_fork_2 : decode cX11_fork 2 = .ok (.putfield 165, 3) := by decide +kernel
theorem dX11_fork_5 : decode cX11_fork 5 = .ok (.aload_n 0, 1) := by decide +kernel
theorem dX11_fork_6 : decode cX11_fork 6 = .ok (.iload_n 1, 1) := by decide +kernel
theorem dX11_fork_7 : decode cX11_fork 7 = .ok (.invokevirtual 232, 3) := by decide +kernel
theorem dX11_fork_10 : decode cX11_fork 10 = .ok (.ifCond .eq 11, 3) := by decide +kernel
theorem dX11_fork_13 : decode cX11_fork 13 = .ok (.aload_n 0, 1) := by decide +kernel
theorem dX11_fork_14 : decode cX11_fork 14 = .ok (.iload_n 1, 1) := by decide +kernel
theorem dX11_fork_15 : decode cX11_fork 15 = .ok (.invokevirtual 229, 3) := by decide +kernel
theorem dX11_fork_18 : decode cX11_fork 18 = .ok (.ifCond .ne 5, 3) := by decide +kernel
theorem dX11_fork_21 : decode cX11_fork 21 = .ok (.iconst (-1), 1) := by decide +kernel
theorem dX11_fork_22 : decode cX11_fork 22 = .ok (.ireturn, 1) := by decide +kernel
theorem dX11_fork_23 : decode cX11_fork 23 = .ok (.aload_n 0, 1) := by decide +kernel
theorem dX11_fork_24 : decode cX11_fork 24 = .ok (.iload_n 1, 1) := by decide +kernel
theorem dX11_fork_25 : decode cX11_fork 25 = .ok (.invokevirtual 235, 3) := by decide +kernel
theorem dX11_fork_28 : decode cX11_fork 28 = .ok (.lconst 0, 1) := by decide +kernel
theorem dX11_fork_29 : decode cX11_fork 29 = .ok (.lstore_n 2, 1) := by decide +kernel
theorem dX11_fork_30 : decode cX11_fork 30 = .ok (.ldc2_w 186, 3) := by decide +kernel
theorem dX11_fork_33 : decode cX11_fork 33 = .ok (.lstore 4, 2) := by decide +kernel
theorem dX11_fork_35 : decode cX11_fork 35 = .ok (.aload_n 0, 1) := by decide +kernel
theorem dX11_fork_36 : decode cX11_fork 36 = .ok (.lload_n 2, 1) := by decide +kernel
theorem dX11_fork_37 : decode cX11_fork 37 = .ok (.lload 4, 2) := by decide +kernel
theorem dX11_fork_39 : decode cX11_fork 39 = .ok (.invokevirtual 226, 3) := by decide +kernel
theorem dX11_fork_42 : decode cX11_fork 42 = .ok (.iconst 2, 1) := by decide +kernel
theorem dX11_fork_43 : decode cX11_fork 43 = .ok (.if_icmp .ne 64, 3) := by decide +kernel
theorem dX11_fork_46 : decode cX11_fork 46 = .ok (.aload_n 0, 1) := by decide +kernel
theorem dX11_fork_47 : decode cX11_fork 47 = .ok (.lload_n 2, 1) := by decide +kernel
theorem dX11_fork_48 : decode cX11_fork 48 = .ok (.lload 4, 2) := by decide +kernel
theorem dX11_fork_50 : decode cX11_fork 50 = .ok (.ldc2_w 224, 3) := by decide +kernel
theorem dX11_fork_53 : decode cX11_fork 53 = .ok (.ldiv, 1) := by decide +kernel
theorem dX11_fork_54 : decode cX11_fork 54 = .ok (.invokevirtual 226, 3) := by decide +kernel
theorem dX11_fork_57 : decode cX11_fork 57 = .ok (.ifCond .eq 24, 3) := by decide +kernel
theorem dX11_fork_60 : decode cX11_fork 60 = .ok (.aload_n 0, 1) := by decide +kernel
theorem dX11_fork_61 : decode cX11_fork 61 = .ok (.lload_n 2, 1) := by decide +kernel
theorem dX11_fork_62 : decode cX11_fork 62 = .ok (.lload 4, 2) := by decide +kernel
theorem dX11_fork_64 : decode cX11_fork 64 = .ok (.ldc2_w 224, 3) := by decide +kernel
theorem dX11_fork_67 : decode cX11_fork 67 = .ok (.ldiv, 1) := by decide +kernel
theorem dX11_fork_68 : decode cX11_fork 68 = .ok (.ladd, 1) := by decide +kernel
theorem dX11_fork_69 : decode cX11_fork 69 = .ok (.lload 4, 2) := by decide +kernel
theorem dX11_fork_71 : decode cX11_fork 71 = .ok (.ldc2_w 224, 3) := by decide +kernel
theorem dX11_fork_74 : decode cX11_fork 74 = .ok (.ldiv, 1) := by decide +kernel
theorem dX11_fork_75 : decode cX11_fork 75 = .ok (.invokevirtual 226, 3) := by decide +kernel
theorem dX11_fork_78 : decode cX11_fork 78 = .ok (.ifCond .ne 29, 3) := by decide +kernel
theorem dX11_fork_81 : decode cX11_fork 81 = .ok (.lload 4, 2) := by decide +kernel
theorem dX11_fork_83 : decode cX11_fork 83 = .ok (.ldc2_w 224, 3) := by decide +kernel
theorem dX11_fork_86 : decode cX11_fork 86 = .ok (.ldiv, 1) := by decide +kernel
theorem dX11_fork_87 : decode cX11_fork 87 = .ok (.lstore 4, 2) := by decide +kernel
theorem dX11_fork_89 : decode cX11_fork 89 = .ok (.aload_n 0, 1) := by decide +kernel
theorem dX11_fork_90 : decode cX11_fork 90 = .ok (.lload_n 2, 1) := by decide +kernel
theorem dX11_fork_91 : decode cX11_fork 91 = .ok (.lload 4, 2) := by decide +kernel
theorem dX11_fork_93 : decode cX11_fork 93 = .ok (.invokevirtual 226, 3) := by decide +kernel
theorem dX11_fork_96 : decode cX11_fork 96 = .ok (.ifCond .ne (-61), 3) := by decide +kernel
theorem dX11_fork_99 : decode cX11_fork 99 = .ok (.lload_n 2, 1) := by decide +kernel
theorem dX11_fork_100 : decode cX11_fork 100 = .ok (.lload 4, 2) := by decide +kernel
theorem dX11_fork_102 : decode cX11_fork 102 = .ok (.ladd, 1) := by decide +kernel
theorem dX11_fork_103 : decode cX11_fork 103 = .ok (.lstore_n 2, 1) := by decide +kernel
theorem dX11_fork_104 : decode cX11_fork 104 = .ok (.goto (-69), 3) := by decide +kernel
theorem dX11_fork_107 : decode cX11_fork 107 = .ok (.lload 4, 2) := by decide +kernel
theorem dX11_fork_109 : decode cX11_fork 109 = .ok (.lconst 1, 1) := by decide +kernel
theorem dX11_fork_110 : decode cX11_fork 110 = .ok (.lcmp, 1) := by decide +kernel
theorem dX11_fork_111 : decode cX11_fork 111 = .ok (.ifCond .ne 5, 3) := by decide +kernel
theorem dX11_fork_114 : decode cX11_fork 114 = .ok (.iconst (-1), 1) := by decide +kernel
theorem dX11_fork_115 : decode cX11_fork 115 = .ok (.ireturn, 1) := by decide +kernel
theorem dX11_fork_116 : decode cX11_fork 116 = .ok (.lload_n 2, 1) := by decide +kernel
theorem dX11_fork_117 : decode cX11_fork 117 = .ok (.lload 4, 2) := by decide +kernel
theorem dX11_fork_119 : decode cX11_fork 119 = .ok (.ldc2_w 224, 3) := by decide +kernel
theorem dX11_fork_122 : decode cX11_fork 122 = .ok (.ldiv, 1) := by decide +kernel
theorem dX11_fork_123 : decode cX11_fork 123 = .ok (.ladd, 1) := by decide +kernel
theorem dX11_fork_124 : decode cX11_fork 124 = .ok (.lstore 6, 2) := by decide +kernel
theorem dX11_fork_126 : decode cX11_fork 126 = .ok (.aload_n 0, 1) := by decide +kernel
theorem dX11_fork_127 : decode cX11_fork 127 = .ok (.iload_n 1, 1) := by decide +kernel
theorem dX11_fork_128 : decode cX11_fork 128 = .ok (.lconst 0, 1) := by decide +kernel
theorem dX11_fork_129 : decode cX11_fork 129 = .ok (.lload 6, 2) := by decide +kernel
theorem dX11_fork_131 : decode cX11_fork 131 = .ok (.invokevirtual 238, 3) := by decide +kernel
theorem dX11_fork_134 : decode cX11_fork 134 = .ok (.aload_n 0, 1) := by decide +kernel
theorem dX11_fork_135 : decode cX11_fork 135 = .ok (.lconst 0, 1) := by decide +kernel
theorem dX11_fork_136 : decode cX11_fork 136 = .ok (.ldc2_w 186, 3) := by decide +kernel
theorem dX11_fork_139 : decode cX11_fork 139 = .ok (.invokevirtual 196, 3) := by decide +kernel
theorem dX11_fork_142 : decode cX11_fork 142 = .ok (.istore 8, 2) := by decide +kernel
theorem dX11_fork_144 : decode cX11_fork 144 = .ok (.aload_n 0, 1) := by decide +kernel
theorem dX11_fork_145 : decode cX11_fork 145 = .ok (.iload_n 1, 1) := by decide +kernel
theorem dX11_fork_146 : decode cX11_fork 146 = .ok (.lload 6, 2) := by decide +kernel
theorem dX11_fork_148 : decode cX11_fork 148 = .ok (.ldc2_w 186, 3) := by decide +kernel
theorem dX11_fork_151 : decode cX11_fork 151 = .ok (.invokevirtual 238, 3) := by decide +kernel
theorem dX11_fork_154 : decode cX11_fork 154 = .ok (.aload_n 0, 1) := by decide +kernel
theorem dX11_fork_155 : decode cX11_fork 155 = .ok (.lconst 0, 1) := by decide +kernel
theorem dX11_fork_156 : decode cX11_fork 156 = .ok (.ldc2_w 186, 3) := by decide +kernel
theorem dX11_fork_159 : decode cX11_fork 159 = .ok (.invokevirtual 196, 3) := by decide +kernel
theorem dX11_fork_162 : decode cX11_fork 162 = .ok (.istore 9, 2) := by decide +kernel
theorem dX11_fork_164 : decode cX11_fork 164 = .ok (.aload_n 0, 1) := by decide +kernel
theorem dX11_fork_165 : decode cX11_fork 165 = .ok (.iconst 2, 1) := by decide +kernel
theorem dX11_fork_166 : decode cX11_fork 166 = .ok (.iload 8, 2) := by decide +kernel
theorem dX11_fork_168 : decode cX11_fork 168 = .ok (.iload 9, 2) := by decide +kernel
theorem dX11_fork_170 : decode cX11_fork 170 = .ok (.iadd, 1) := by decide +kernel
theorem dX11_fork_171 : decode cX11_fork 171 = .ok (.iconst 2, 1) := by decide +kernel
theorem dX11_fork_172 : decode cX11_fork 172 = .ok (.aload_n 0, 1) := by decide +kernel
theorem dX11_fork_173 : decode cX11_fork 173 = .ok (.getfield 53, 3) := by decide +kernel
theorem dX11_fork_176 : decode cX11_fork 176 = .ok (.iload_n 1, 1) := by decide +kernel
theorem dX11_fork_177 : decode cX11_fork 177 = .ok (.iaload, 1) := by decide +kernel
theorem dX11_fork_178 : decode cX11_fork 178 = .ok (.imul, 1) := by decide +kernel
theorem dX11_fork_179 : decode cX11_fork 179 = .ok (.iadd, 1) := by decide +kernel
theorem dX11_fork_180 : decode cX11_fork 180 = .ok (.invokevirtual 242, 3) := by decide +kernel
theorem dX11_fork_183 : decode cX11_fork 183 = .ok (.ifCond .ne 5, 3) := by decide +kernel
theorem dX11_fork_186 : decode cX11_fork 186 = .ok (.iconst (-1), 1) := by decide +kernel
theorem dX11_fork_187 : decode cX11_fork 187 = .ok (.ireturn, 1) := by decide +kernel
theorem dX11_fork_188 : decode cX11_fork 188 = .ok (.aload_n 0, 1) := by decide +kernel
theorem dX11_fork_189 : decode cX11_fork 189 = .ok (.iload_n 1, 1) := by decide +kernel
theorem dX11_fork_190 : decode cX11_fork 190 = .ok (.iconst (-1), 1) := by decide +kernel
theorem dX11_fork_191 : decode cX11_fork 191 = .ok (.invokevirtual 246, 3) := by decide +kernel
theorem dX11_fork_194 : decode cX11_fork 194 = .ok (.aload_n 0, 1) := by decide +kernel
theorem dX11_fork_195 : decode cX11_fork 195 = .ok (.iload_n 1, 1) := by decide +kernel
theorem dX11_fork_196 : decode cX11_fork 196 = .ok (.invokevirtual 250, 3) := by decide +kernel
theorem dX11_fork_199 : decode cX11_fork 199 = .ok (.aload_n 0, 1) := by decide +kernel
theorem dX11_fork_200 : decode cX11_fork 200 = .ok (.iload_n 1, 1) := by decide +kernel
theorem dX11_fork_201 : decode cX11_fork 201 = .ok (.lconst 0, 1) := by decide +kernel
theorem dX11_fork_202 : decode cX11_fork 202 = .ok (.lload 6, 2) := by decide +kernel
theorem dX11_fork_204 : decode cX11_fork 204 = .ok (.invokevirtual 238, 3) := by decide +kernel
theorem dX11_fork_207 : decode cX11_fork 207 = .ok (.aload_n 0, 1) := by decide +kernel
theorem dX11_fork_208 : decode cX11_fork 208 = .ok (.iconst 1, 1) := by decide +kernel
theorem dX11_fork_209 : decode cX11_fork 209 = .ok (.iload_n 1, 1) := by decide +kernel
theorem dX11_fork_210 : decode cX11_fork 210 = .ok (.iconst (-1), 1) := by decide +kernel
theorem dX11_fork_211 : decode cX11_fork 211 = .ok (.invokevirtual 188, 3) := by decide +kernel
theorem dX11_fork_214 : decode cX11_fork 214 = .ok (.istore 10, 2) := by decide +kernel
theorem dX11_fork_216 : decode cX11_fork 216 = .ok (.aload_n 0, 1) := by decide +kernel
theorem dX11_fork_217 : decode cX11_fork 217 = .ok (.iload_n 1, 1) := by decide +kernel
theorem dX11_fork_218 : decode cX11_fork 218 = .ok (.invokevirtual 250, 3) := by decide +kernel
theorem dX11_fork_221 : decode cX11_fork 221 = .ok (.aload_n 0, 1) := by decide +kernel
theorem dX11_fork_222 : decode cX11_fork 222 = .ok (.iload_n 1, 1) := by decide +kernel
theorem dX11_fork_223 : decode cX11_fork 223 = .ok (.lload 6, 2) := by decide +kernel
theorem dX11_fork_225 : decode cX11_fork 225 = .ok (.ldc2_w 186, 3) := by decide +kernel
theorem dX11_fork_228 : decode cX11_fork 228 = .ok (.invokevirtual 238, 3) := by decide +kernel
theorem dX11_fork_231 : decode cX11_fork 231 = .ok (.aload_n 0, 1) := by decide +kernel
theorem dX11_fork_232 : decode cX11_fork 232 = .ok (.iconst 1, 1) := by decide +kernel
theorem dX11_fork_233 : decode cX11_fork 233 = .ok (.iload_n 1, 1) := by decide +kernel
theorem dX11_fork_234 : decode cX11_fork 234 = .ok (.iconst (-1), 1) := by decide +kernel
theorem dX11_fork_235 : decode cX11_fork 235 = .ok (.invokevirtual 188, 3) := by decide +kernel
theorem dX11_fork_238 : decode cX11_fork 238 = .ok (.pop, 1) := by decide +kernel
theorem dX11_fork_239 : decode cX11_fork 239 = .ok (.aload_n 0, 1) := by decide +kernel
theorem dX11_fork_240 : decode cX11_fork 240 = .ok (.iload_n 1, 1) := by decide +kernel
theorem dX11_fork_241 : decode cX11_fork 241 = .ok (.invokevirtual 253, 3) := by decide +kernel
theorem dX11_fork_244 : decode cX11_fork 244 = .ok (.iload 10, 2) := by decide +kernel
theorem dX11_fork_246 : decode cX11_fork 246 = .ok (.ireturn, 1) := by decide +kernel
def cd_157 : dm_Code := [[dm_ald 1 0, dm_push 2 (.int 0), dm_putf 5 8 40 .int, dm_no, dm_no, dm_ald 6 0, dm_ild 7 1, dm_inv 10 137 1 8, dm_no, dm_no, dm_if_eq 13 21, dm_no, dm_no, dm_ald 14 0, dm_ild 15 1, dm_inv 18 138 1 8],
  [dm_no, dm_no, dm_if_ne 21 23, dm_no, dm_no, dm_push 22 (.int (-1)), dm_ret .int, dm_ald 24 0, dm_ild 25 1, dm_inv 28 142 1 8, dm_no, dm_no, dm_push 29 (.long 0), dm_lst 30 2, dm_push 33 (.long 1152921504606846976), dm_no],
  [dm_no, dm_lst 35 4, dm_no, dm_ald 36 0, dm_lld 37 2, dm_lld 39 4, dm_no, dm_inv 42 152 2 8, dm_no, dm_no, dm_push 43 (.int 2), dm_ic_ne 46 107, dm_no, dm_no, dm_ald 47 0, dm_lld 48 2],
  [dm_lld 50 4, dm_no, dm_push 53 (.long 2), dm_no, dm_no, dm_lq 54 (fun x y => x / y), dm_inv 57 152 2 8, dm_no, dm_no, dm_if_eq 60 81, dm_no, dm_no, dm_ald 61 0, dm_lld 62 2, dm_lld 64 4, dm_no],
  [dm_push 67 (.long 2), dm_no, dm_no, dm_lq 68 (fun x y => x / y), dm_ll 69 (fun x y => x + y), dm_lld 71 4, dm_no, dm_push 74 (.long 2), dm_no, dm_no, dm_lq 75 (fun x y => x / y), dm_inv 78 152 2 8, dm_no, dm_no, dm_if_ne 81 107, dm_no],
  [dm_no, dm_lld 83 4, dm_no, dm_push 86 (.long 2), dm_no, dm_no, dm_lq 87 (fun x y => x / y), dm_lst 89 4, dm_no, dm_ald 90 0, dm_lld 91 2, dm_lld 93 4, dm_no, dm_inv 96 152 2 8, dm_no, dm_no],
  [dm_if_ne 99 35, dm_no, dm_no, dm_lld 100 2, dm_lld 102 4, dm_no, dm_ll 103 (fun x y => x + y), dm_lst 104 2, dm_goto 35, dm_no, dm_no, dm_lld 109 4, dm_no, dm_push 110 (.long 1), dm_lc 111, dm_if_ne 114 116],
  [dm_no, dm_no, dm_push 115 (.int (-1)), dm_ret .int, dm_lld 117 2, dm_lld 119 4, dm_no, dm_push 122 (.long 2), dm_no, dm_no, dm_lq 123 (fun x y => x / y), dm_ll 124 (fun x y => x + y), dm_lst 126 6, dm_no, dm_ald 127 0, dm_ild 128 1],
  [dm_push 129 (.long 0), dm_lld 131 6, dm_no, dm_inv 134 154 3 8, dm_no, dm_no, dm_ald 135 0, dm_push 136 (.long 0), dm_push 139 (.long 1152921504606846976), dm_no, dm_no, dm_inv 142 153 2 8, dm_no, dm_no, dm_ist 144 8, dm_no],
  [dm_ald 145 0, dm_ild 146 1, dm_lld 148 6, dm_no, dm_push 151 (.long 1152921504606846976), dm_no, dm_no, dm_inv 154 154 3 8, dm_no, dm_no, dm_ald 155 0, dm_push 156 (.long 0), dm_push 159 (.long 1152921504606846976), dm_no, dm_no, dm_inv 162 153 2 8],
  [dm_no, dm_no, dm_ist 164 9, dm_no, dm_ald 165 0, dm_push 166 (.int 2), dm_ild 168 8, dm_no, dm_ild 170 9, dm_no, dm_ii 171 (fun x y => x + y), dm_push 172 (.int 2), dm_ald 173 0, dm_getf 176 8 13, dm_no, dm_no],
  [dm_ild 177 1, dm_iald 178, dm_ii 179 (fun x y => x * y), dm_ii 180 (fun x y => x + y), dm_inv 183 139 2 8, dm_no, dm_no, dm_if_ne 186 188, dm_no, dm_no, dm_push 187 (.int (-1)), dm_ret .int, dm_ald 189 0, dm_ild 190 1, dm_push 191 (.int (-1)), dm_inv 194 155 2 8],
  [dm_no, dm_no, dm_ald 195 0, dm_ild 196 1, dm_inv 199 141 1 8, dm_no, dm_no, dm_ald 200 0, dm_ild 201 1, dm_push 202 (.long 0), dm_lld 204 6, dm_no, dm_inv 207 154 3 8, dm_no, dm_no, dm_ald 208 0],
  [dm_push 209 (.int 1), dm_ild 210 1, dm_push 211 (.int (-1)), dm_inv 214 140 3 8, dm_no, dm_no, dm_ist 216 10, dm_no, dm_ald 217 0, dm_ild 218 1, dm_inv 221 141 1 8, dm_no, dm_no, dm_ald 222 0, dm_ild 223 1, dm_lld 225 6],
  [dm_no, dm_push 228 (.long 1152921504606846976), dm_no, dm_no, dm_inv 231 154 3 8, dm_no, dm_no, dm_ald 232 0, dm_push 233 (.int 1), dm_ild 234 1, dm_push 235 (.int (-1)), dm_inv 238 140 3 8, dm_no, dm_no, dm_pop 239, dm_ald 240 0],
  [dm_ild 241 1, dm_inv 244 156 1 8, dm_no, dm_no, dm_ild 246 10, dm_no, dm_ret .int]]
theorem tr_157_0 : dm_AllR (dm_Good dm_tb RX11 cX11_fork 11 (some .int) false none) 0 [dm_ald 1 0, dm_push 2 (.int 0), dm_putf 5 8 40 .int, dm_no, dm_no, dm_ald 6 0, dm_ild 7 1, dm_inv 10 137 1 8, dm_no, dm_no, dm_if_eq 13 21, dm_no, dm_no, dm_ald 14 0, dm_ild 15 1, dm_inv 18 138 1 8] := dr_c (dg_aload_n (k := 0) rfl dX11_fork_0) <| dr_c (dg_iconst (by decide) dX11_fork_1) <| dr_c (dg_putf (T := TX11) (C := RX11) (N := 68) dX11_fork_2 rfl (by decide) iw_X11 tyX11_ok nmX11 wd_988 rfl rfl) <| dr_c (dg_no) <| dr_c (dg_no) <| dr_c (dg_aload_n (k := 0) rfl dX11_fork_5) <| dr_c (dg_iload_n (k := 1) rfl dX11_fork_6) <| dr_c (dg_inv dX11_fork_7 mo_137 rfl rfl wd_1161 wd_1163 wd_23 pd_137) <| dr_c (dg_no) <| dr_c (dg_no) <| dr_c (dg_if_eq (by decide) dX11_fork_10) <| dr_c (dg_no) <| dr_c (dg_no) <| dr_c (dg_aload_n (k := 0) rfl dX11_fork_13) <| dr_c (dg_iload_n (k := 1) rfl dX11_fork_14) <| dr_c (dg_inv dX11_fork_15 mo_138 rfl rfl wd_1169 wd_1171 wd_25 pd_138) <| dr_n
theorem tr_157_1 : dm_AllR (dm_Good dm_tb RX11 cX11_fork 11 (some .int) false none) 16 [dm_no, dm_no, dm_if_ne 21 23, dm_no, dm_no, dm_push 22 (.int (-1)), dm_ret .int, dm_ald 24 0, dm_ild 25 1, dm_inv 28 142 1 8, dm_no, dm_no, dm_push 29 (.long 0), dm_lst 30 2, dm_push 33 (.long 1152921504606846976), dm_no] := dr_c (dg_no) <| dr_c (dg_no) <| dr_c (dg_if_ne (by decide) dX11_fork_18) <| dr_c (dg_no) <| dr_c (dg_no) <| dr_c (dg_iconst (by decide) dX11_fork_21) <| dr_c (dg_ret dX11_fork_22) <| dr_c (dg_aload_n (k := 0) rfl dX11_fork_23) <| dr_c (dg_iload_n (k := 1) rfl dX11_fork_24) <| dr_c (dg_inv dX11_fork_25 mo_142 rfl rfl wd_1173 wd_1175 wd_26 pd_142) <| dr_c (dg_no) <| dr_c (dg_no) <| dr_c (dg_lconst (by decide) dX11_fork_28) <| dr_c (dg_lstore_n (k := 2) rfl (by decide) dX11_fork_29) <| dr_c (dg_ldc2 wd_918 dX11_fork_30) <| dr_c (dg_no) <| dr_n
theorem tr_157_2 : dm_AllR (dm_Good dm_tb RX11 cX11_fork 11 (some .int) false none) 32 [dm_no, dm_lst 35 4, dm_no, dm_ald 36 0, dm_lld 37 2, dm_lld 39 4, dm_no, dm_inv 42 152 2 8, dm_no, dm_no, dm_push 43 (.int 2), dm_ic_ne 46 107, dm_no, dm_no, dm_ald 47 0, dm_lld 48 2] := dr_c (dg_no) <| dr_c (dg_lstore (by decide) dX11_fork_33) <| dr_c (dg_no) <| dr_c (dg_aload_n (k := 0) rfl dX11_fork_35) <| dr_c (dg_lload_n (k := 2) rfl dX11_fork_36) <| dr_c (dg_lload dX11_fork_37) <| dr_c (dg_no) <| dr_c (dg_inv dX11_fork_39 mo_152 rfl rfl wd_927 wd_929 wd_18 pd_152) <| dr_c (dg_no) <| dr_c (dg_no) <| dr_c (dg_iconst (by decide) dX11_fork_42) <| dr_c (dg_ic_ne (by decide) dX11_fork_43) <| dr_c (dg_no) <| dr_c (dg_no) <| dr_c (dg_aload_n (k := 0) rfl dX11_fork_46) <| dr_c (dg_lload_n (k := 2) rfl dX11_fork_47) <| dr_n
theorem tr_157_3 : dm_AllR (dm_Good dm_tb RX11 cX11_fork 11 (some .int) false none) 48 [dm_lld 50 4, dm_no, dm_push 53 (.long 2), dm_no, dm_no, dm_lq 54 (fun x y => x / y), dm_inv 57 152 2 8, dm_no, dm_no, dm_if_eq 60 81, dm_no, dm_no, dm_ald 61 0, dm_lld 62 2, dm_lld 64 4, dm_no] := dr_c (dg_lload dX11_fork_48) <| dr_c (dg_no) <| dr_c (dg_ldc2 wd_931 dX11_fork_50) <| dr_c (dg_no) <| dr_c (dg_no) <| dr_c (dg_ldiv dX11_fork_53) <| dr_c (dg_inv dX11_fork_54 mo_152 rfl rfl wd_927 wd_929 wd_18 pd_152) <| dr_c (dg_no) <| dr_c (dg_no) <| dr_c (dg_if_eq (by decide) dX11_fork_57) <| dr_c (dg_no) <| dr_c (dg_no) <| dr_c (dg_aload_n (k := 0) rfl dX11_fork_60) <| dr_c (dg_lload_n (k := 2) rfl dX11_fork_61) <| dr_c (dg_lload dX11_fork_62) <| dr_c (dg_no) <| dr_n
theorem tr_157_4 : dm_AllR (dm_Good dm_tb RX11 cX11_fork 11 (some .int) false none) 64 [dm_push 67 (.long 2), dm_no, dm_no, dm_lq 68 (fun x y => x / y), dm_ll 69 (fun x y => x + y), dm_lld 71 4, dm_no, dm_push 74 (.long 2), dm_no, dm_no, dm_lq 75 (fun x y => x / y), dm_inv 78 152 2 8, dm_no, dm_no, dm_if_ne 81 107, dm_no] := dr_c (dg_ldc2 wd_931 dX11_fork_64) <| dr_c (dg_no) <| dr_c (dg_no) <| dr_c (dg_ldiv dX11_fork_67) <| dr_c (dg_ladd dX11_fork_68) <| dr_c (dg_lload dX11_fork_69) <| dr_c (dg_no) <| dr_c (dg_ldc2 wd_931 dX11_fork_71) <| dr_c (dg_no) <| dr_c (dg_no) <| dr_c (dg_ldiv dX11_fork_74) <| dr_c (dg_inv dX11_fork_75 mo_152 rfl rfl wd_927 wd_929 wd_18 pd_152) <| dr_c (dg_no) <| dr_c (dg_no) <| dr_c (dg_if_ne (by decide) dX11_fork_78) <| dr_c (dg_no) <| dr_n
theorem tr_157_5 : dm_AllR (dm_Good dm_tb RX11 cX11_fork 11 (some .int) false none) 80 [dm_no, dm_lld 83 4, dm_no, dm_push 86 (.long 2), dm_no, dm_no, dm_lq 87 (fun x y => x / y), dm_lst 89 4, dm_no, dm_ald 90 0, dm_lld 91 2, dm_lld 93 4, dm_no, dm_inv 96 152 2 8, dm_no, dm_no] := dr_c (dg_no) <| dr_c (dg_lload dX11_fork_81) <| dr_c (dg_no) <| dr_c (dg_ldc2 wd_931 dX11_fork_83) <| dr_c (dg_no) <| dr_c (dg_no) <| dr_c (dg_ldiv dX11_fork_86) <| dr_c (dg_lstore (by decide) dX11_fork_87) <| dr_c (dg_no) <| dr_c (dg_aload_n (k := 0) rfl dX11_fork_89) <| dr_c (dg_lload_n (k := 2) rfl dX11_fork_90) <| dr_c (dg_lload dX11_fork_91) <| dr_c (dg_no) <| dr_c (dg_inv dX11_fork_93 mo_152 rfl rfl wd_927 wd_929 wd_18 pd_152) <| dr_c (dg_no) <| dr_c (dg_no) <| dr_n
theorem tr_157_6 : dm_AllR (dm_Good dm_tb RX11 cX11_fork 11 (some .int) false none) 96 [dm_if_ne 99 35, dm_no, dm_no, dm_lld 100 2, dm_lld 102 4, dm_no, dm_ll 103 (fun x y => x + y), dm_lst 104 2, dm_goto 35, dm_no, dm_no, dm_lld 109 4, dm_no, dm_push 110 (.long 1), dm_lc 111, dm_if_ne 114 116] := dr_c (dg_if_ne (by decide) dX11_fork_96) <| dr_c (dg_no) <| dr_c (dg_no) <| dr_c (dg_lload_n (k := 2) rfl dX11_fork_99) <| dr_c (dg_lload dX11_fork_100) <| dr_c (dg_no) <| dr_c (dg_ladd dX11_fork_102) <| dr_c (dg_lstore_n (k := 2) rfl (by decide) dX11_fork_103) <| dr_c (dg_goto (by decide) dX11_fork_104) <| dr_c (dg_no) <| dr_c (dg_no) <| dr_c (dg_lload dX11_fork_107) <| dr_c (dg_no) <| dr_c (dg_lconst (by decide) dX11_fork_109) <| dr_c (dg_lcmp dX11_fork_110) <| dr_c (dg_if_ne (by decide) dX11_fork_111) <| dr_n
theorem tr_157_7 : dm_AllR (dm_Good dm_tb RX11 cX11_fork 11 (some .int) false none) 112 [dm_no, dm_no, dm_push 115 (.int (-1)), dm_ret .int, dm_lld 117 2, dm_lld 119 4, dm_no, dm_push 122 (.long 2), dm_no, dm_no, dm_lq 123 (fun x y => x / y), dm_ll 124 (fun x y => x + y), dm_lst 126 6, dm_no, dm_ald 127 0, dm_ild 128 1] := dr_c (dg_no) <| dr_c (dg_no) <| dr_c (dg_iconst (by decide) dX11_fork_114) <| dr_c (dg_ret dX11_fork_115) <| dr_c (dg_lload_n (k := 2) rfl dX11_fork_116) <| dr_c (dg_lload dX11_fork_117) <| dr_c (dg_no) <| dr_c (dg_ldc2 wd_931 dX11_fork_119) <| dr_c (dg_no) <| dr_c (dg_no) <| dr_c (dg_ldiv dX11_fork_122) <| dr_c (dg_ladd dX11_fork_123) <| dr_c (dg_lstore (by decide) dX11_fork_124) <| dr_c (dg_no) <| dr_c (dg_aload_n (k := 0) rfl dX11_fork_126) <| dr_c (dg_iload_n (k := 1) rfl dX11_fork_127) <| dr_n
theorem tr_157_8 : dm_AllR (dm_Good dm_tb RX11 cX11_fork 11 (some .int) false none) 128 [dm_push 129 (.long 0), dm_lld 131 6, dm_no, dm_inv 134 154 3 8, dm_no, dm_no, dm_ald 135 0, dm_push 136 (.long 0), dm_push 139 (.long 1152921504606846976), dm_no, dm_no, dm_inv 142 153 2 8, dm_no, dm_no, dm_ist 144 8, dm_no] := dr_c (dg_lconst (by decide) dX11_fork_128) <| dr_c (dg_lload dX11_fork_129) <| dr_c (dg_no) <| dr_c (dg_inv dX11_fork_131 mo_154 rfl rfl wd_1177 wd_1179 wd_27 pd_154) <| dr_c (dg_no) <| dr_c (dg_no) <| dr_c (dg_aload_n (k := 0) rfl dX11_fork_134) <| dr_c (dg_lconst (by decide) dX11_fork_135) <| dr_c (dg_ldc2 wd_918 dX11_fork_136) <| dr_c (dg_no) <| dr_c (dg_no) <| dr_c (dg_inv dX11_fork_139 mo_153 rfl rfl wd_923 wd_925 wd_17 pd_153) <| dr_c (dg_no) <| dr_c (dg_no) <| dr_c (dg_istore (by decide) dX11_fork_142) <| dr_c (dg_no) <| dr_n
theorem tr_157_9 : dm_AllR (dm_Good dm_tb RX11 cX11_fork 11 (some .int) false none) 144 [dm_ald 145 0, dm_ild 146 1, dm_lld 148 6, dm_no, dm_push 151 (.long 1152921504606846976), dm_no, dm_no, dm_inv 154 154 3 8, dm_no, dm_no, dm_ald 155 0, dm_push 156 (.long 0), dm_push 159 (.long 1152921504606846976), dm_no, dm_no, dm_inv 162 153 2 8] := dr_c (dg_aload_n (k := 0) rfl dX11_fork_144) <| dr_c (dg_iload_n (k := 1) rfl dX11_fork_145) <| dr_c (dg_lload dX11_fork_146) <| dr_c (dg_no) <| dr_c (dg_ldc2 wd_918 dX11_fork_148) <| dr_c (dg_no) <| dr_c (dg_no) <| dr_c (dg_inv dX11_fork_151 mo_154 rfl rfl wd_1177 wd_1179 wd_27 pd_154) <| dr_c (dg_no) <| dr_c (dg_no) <| dr_c (dg_aload_n (k := 0) rfl dX11_fork_154) <| dr_c (dg_lconst (by decide) dX11_fork_155) <| dr_c (dg_ldc2 wd_918 dX11_fork_156) <| dr_c (dg_no) <| dr_c (dg_no) <| dr_c (dg_inv dX11_fork_159 mo_153 rfl rfl wd_923 wd_925 wd_17 pd_153) <| dr_n
theorem tr_157_10 : dm_AllR (dm_Good dm_tb RX11 cX11_fork 11 (some .int) false none) 160 [dm_no, dm_no, dm_ist 164 9, dm_no, dm_ald 165 0, dm_push 166 (.int 2), dm_ild 168 8, dm_no, dm_ild 170 9, dm_no, dm_ii 171 (fun x y => x + y), dm_push 172 (.int 2), dm_ald 173 0, dm_getf 176 8 13, dm_no, dm_no] := dr_c (dg_no) <| dr_c (dg_no) <| dr_c (dg_istore (by decide) dX11_fork_162) <| dr_c (dg_no) <| dr_c (dg_aload_n (k := 0) rfl dX11_fork_164) <| dr_c (dg_iconst (by decide) dX11_fork_165) <| dr_c (dg_iload dX11_fork_166) <| dr_c (dg_no) <| dr_c (dg_iload dX11_fork_168) <| dr_c (dg_no) <| dr_c (dg_iadd dX11_fork_170) <| dr_c (dg_iconst (by decide) dX11_fork_171) <| dr_c (dg_aload_n (k := 0) rfl dX11_fork_172) <| dr_c (dg_getf (T := TX11) (C := RX11) (N := 68) dX11_fork_173 rfl (by decide) iw_X11 wd_961) <| dr_c (dg_no) <| dr_c (dg_no) <| dr_n
theorem tr_157_11 : dm_AllR (dm_Good dm_tb RX11 cX11_fork 11 (some .int) false none) 176 [dm_ild 177 1, dm_iald 178, dm_ii 179 (fun x y => x * y), dm_ii 180 (fun x y => x + y), dm_inv 183 139 2 8, dm_no, dm_no, dm_if_ne 186 188, dm_no, dm_no, dm_push 187 (.int (-1)), dm_ret .int, dm_ald 189 0, dm_ild 190 1, dm_push 191 (.int (-1)), dm_inv 194 155 2 8] := dr_c (dg_iload_n (k := 1) rfl dX11_fork_176) <| dr_c (dg_iald dX11_fork_177) <| dr_c (dg_imul dX11_fork_178) <| dr_c (dg_iadd dX11_fork_179) <| dr_c (dg_inv dX11_fork_180 mo_139 rfl rfl wd_1181 wd_1183 wd_28 pd_139) <| dr_c (dg_no) <| dr_c (dg_no) <| dr_c (dg_if_ne (by decide) dX11_fork_183) <| dr_c (dg_no) <| dr_c (dg_no) <| dr_c (dg_iconst (by decide) dX11_fork_186) <| dr_c (dg_ret dX11_fork_187) <| dr_c (dg_aload_n (k := 0) rfl dX11_fork_188) <| dr_c (dg_iload_n (k := 1) rfl dX11_fork_189) <| dr_c (dg_iconst (by decide) dX11_fork_190) <| dr_c (dg_inv dX11_fork_191 mo_155 rfl rfl wd_1185 wd_1187 wd_29 pd_155) <| dr_n
theorem tr_157_12 : dm_AllR (dm_Good dm_tb RX11 cX11_fork 11 (some .int) false none) 192 [dm_no, dm_no, dm_ald 195 0, dm_ild 196 1, dm_inv 199 141 1 8, dm_no, dm_no, dm_ald 200 0, dm_ild 201 1, dm_push 202 (.long 0), dm_lld 204 6, dm_no, dm_inv 207 154 3 8, dm_no, dm_no, dm_ald 208 0] := dr_c (dg_no) <| dr_c (dg_no) <| dr_c (dg_aload_n (k := 0) rfl dX11_fork_194) <| dr_c (dg_iload_n (k := 1) rfl dX11_fork_195) <| dr_c (dg_inv dX11_fork_196 mo_141 rfl rfl wd_1189 wd_1191 wd_30 pd_141) <| dr_c (dg_no) <| dr_c (dg_no) <| dr_c (dg_aload_n (k := 0) rfl dX11_fork_199) <| dr_c (dg_iload_n (k := 1) rfl dX11_fork_200) <| dr_c (dg_lconst (by decide) dX11_fork_201) <| dr_c (dg_lload dX11_fork_202) <| dr_c (dg_no) <| dr_c (dg_inv dX11_fork_204 mo_154 rfl rfl wd_1177 wd_1179 wd_27 pd_154) <| dr_c (dg_no) <| dr_c (dg_no) <| dr_c (dg_aload_n (k := 0) rfl dX11_fork_207) <| dr_n
theorem tr_157_13 : dm_AllR (dm_Good dm_tb RX11 cX11_fork 11 (some .int) false none) 208 [dm_push 209 (.int 1), dm_ild 210 1, dm_push 211 (.int (-1)), dm_inv 214 140 3 8, dm_no, dm_no, dm_ist 216 10, dm_no, dm_ald 217 0, dm_ild 218 1, dm_inv 221 141 1 8, dm_no, dm_no, dm_ald 222 0, dm_ild 223 1, dm_lld 225 6] := dr_c (dg_iconst (by decide) dX11_fork_208) <| dr_c (dg_iload_n (k := 1) rfl dX11_fork_209) <| dr_c (dg_iconst (by decide) dX11_fork_210) <| dr_c (dg_inv dX11_fork_211 mo_140 rfl rfl wd_919 wd_921 wd_16 pd_140) <| dr_c (dg_no) <| dr_c (dg_no) <| dr_c (dg_istore (by decide) dX11_fork_214) <| dr_c (dg_no) <| dr_c (dg_aload_n (k := 0) rfl dX11_fork_216) <| dr_c (dg_iload_n (k := 1) rfl dX11_fork_217) <| dr_c (dg_inv dX11_fork_218 mo_141 rfl rfl wd_1189 wd_1191 wd_30 pd_141) <| dr_c (dg_no) <| dr_c (dg_no) <| dr_c (dg_aload_n (k := 0) rfl dX11_fork_221) <| dr_c (dg_iload_n (k := 1) rfl dX11_fork_222) <| dr_c (dg_lload dX11_fork_223) <| dr_n
theorem tr_157_14 : dm_AllR (dm_Good dm_tb RX11 cX11_fork 11 (some .int) false none) 224 [dm_no, dm_push 228 (.long 1152921504606846976), dm_no, dm_no, dm_inv 231 154 3 8, dm_no, dm_no, dm_ald 232 0, dm_push 233 (.int 1), dm_ild 234 1, dm_push 235 (.int (-1)), dm_inv 238 140 3 8, dm_no, dm_no, dm_pop 239, dm_ald 240 0] := dr_c (dg_no) <| dr_c (dg_ldc2 wd_918 dX11_fork_225) <| dr_c (dg_no) <| dr_c (dg_no) <| dr_c (dg_inv dX11_fork_228 mo_154 rfl rfl wd_1177 wd_1179 wd_27 pd_154) <| dr_c (dg_no) <| dr_c (dg_no) <| dr_c (dg_aload_n (k := 0) rfl dX11_fork_231) <| dr_c (dg_iconst (by decide) dX11_fork_232) <| dr_c (dg_iload_n (k := 1) rfl dX11_fork_233) <| dr_c (dg_iconst (by decide) dX11_fork_234) <| dr_c (dg_inv dX11_fork_235 mo_140 rfl rfl wd_919 wd_921 wd_16 pd_140) <| dr_c (dg_no) <| dr_c (dg_no) <| dr_c (dg_pop dX11_fork_238) <| dr_c (dg_aload_n (k := 0) rfl dX11_fork_239) <| dr_n
theorem tr_157_15 : dm_AllR (dm_Good dm_tb RX11 cX11_fork 11 (some .int) false none) 240 [dm_ild 241 1, dm_inv 244 156 1 8, dm_no, dm_no, dm_ild 246 10, dm_no, dm_ret .int] := dr_c (dg_iload_n (k := 1) rfl dX11_fork_240) <| dr_c (dg_inv dX11_fork_241 mo_156 rfl rfl wd_1193 wd_1195 wd_31 pd_156) <| dr_c (dg_no) <| dr_c (dg_no) <| dr_c (dg_iload dX11_fork_244) <| dr_c (dg_no) <| dr_c (dg_ret dX11_fork_246) <| dr_n
theorem tk_157 : dm_AllC (dm_Good dm_tb RX11 cX11_fork 11 (some .int) false none) 0 cd_157 := dc_c (by decide) tr_157_0 <| dc_c (by decide) tr_157_1 <| dc_c (by decide) tr_157_2 <| dc_c (by decide) tr_157_3 <| dc_c (by decide) tr_157_4 <| dc_c (by decide) tr_157_5 <| dc_c (by decide) tr_157_6 <| dc_c (by decide) tr_157_7 <| dc_c (by decide) tr_157_8 <| dc_c (by decide) tr_157_9 <| dc_c (by decide) tr_157_10 <| dc_c (by decide) tr_157_11 <| dc_c (by decide) tr_157_12 <| dc_c (by decide) tr_157_13 <| dc_c (by decide) tr_157_14 <| dc_c (by decide) tr_157_15 <| dc_n
theorem dX11_fill_0 : decode cX11_fill 0 = .ok (.aload_n 0, 1) := by decide +kernel
theorem dX11_fill_1 : decode cX11_fill 1 = .ok (.lload_n 1, 1) := by decide +kernel
theorem dX11_fill_2 : decode cX11_fill 2 = .ok (.lload_n 3, 1) := by decide +kernel
theorem dX11_fill_3 : decode cX11_fill 3 = .ok (.invokevirtual 226, 3) := by decide +kernel
theorem dX11_fill_6 : decode cX11_fill 6 = .ok (.istore 5, 2) := by decide +kernel
theorem dX11_fill_8 : decode cX11_fill 8 = .ok (.iload 5, 2) := by decide +kernel
theorem dX11_fill_10 : decode cX11_fill 10 = .ok (.ifCond .eq 18, 3) := by decide +kernel
theorem dX11_fill_13 : decode cX11_fill 13 = .ok (.iload 5, 2) := by decide +kernel
theorem dX11_fill_15 : decode cX11_fill 15 = .ok (.iconst 2, 1) := by decide +kernel
theorem dX11_fill_16 : decode cX11_fill 16 = .ok (.if_icmp .ne 13, 3) := by decide +kernel
theorem dX11_fill_19 : decode cX11_fill 19 = .ok (.aload_n 0, 1) := by decide +kernel
theorem dX11_fill_20 : decode cX11_fill 20 = .ok (.lload_n 1, 1) := by decide +kernel
theorem dX11_fill_21 : decode cX11_fill 21 = .ok (.lload_n 3, 1) := by decide +kernel
theorem dX11_fill_22 : decode cX11_fill 22 = .ok (.invokevirtual 220, 3) := by decide +kernel
theorem dX11_fill_25 : decode cX11_fill 25 = .ok (.ifCond .eq 4, 3) := by decide +kernel
theorem dX11_fill_28 : decode cX11_fill 28 = .ok (.return_, 1) := by decide +kernel
theorem dX11_fill_29 : decode cX11_fill 29 = .ok (.iload 5, 2) := by decide +kernel
theorem dX11_fill_31 : decode cX11_fill 31 = .ok (.iconst 1, 1) := by decide +kernel
theorem dX11_fill_32 : decode cX11_fill 32 = .ok (.if_icmp .ne 17, 3) := by decide +kernel
theorem dX11_fill_35 : decode cX11_fill 35 = .ok (.aload_n 0, 1) := by decide +kernel
theorem dX11_fill_36 : decode cX11_fill 36 = .ok (.lload_n 1, 1) := by decide +kernel
theorem dX11_fill_37 : decode cX11_fill 37 = .ok (.lload_n 3, 1) := by decide +kernel
theorem dX11_fill_38 : decode cX11_fill 38 = .ok (.aload_n 0, 1) := by decide +kernel
theorem dX11_fill_39 : decode cX11_fill 39 = .ok (.lload_n 1, 1) := by decide +kernel
theorem dX11_fill_40 : decode cX11_fill 40 = .ok (.lload_n 3, 1) := by decide +kernel
theorem dX11_fill_41 : decode cX11_fill 41 = .ok (.invokevirtual 256, 3) := by decide +kernel
theorem dX11_fill_44 : decode cX11_fill 44 = .ok (.iconst 0, 1) := by decide +kernel
theorem dX11_fill_45 : decode cX11_fill 45 = .ok (.invokevirtual 259, 3) := by decide +kernel
theorem dX11_fill_48 : decode cX11_fill 48 = .ok (.return_, 1) := by decide +kernel
theorem dX11_fill_49 : decode cX11_fill 49 = .ok (.lload_n 3, 1) := by decide +kernel
theorem dX11_fill_50 : decode cX11_fill 50 = .ok (.ldc2_w 224, 3) := by decide +kernel
theorem dX11_fill_53 : decode cX11_fill 53 = .ok (.ldiv, 1) := by decide +kernel
theorem dX11_fill_54 : decode cX11_fill 54 = .ok (.lstore 6, 2) := by decide +kernel
theorem dX11_fill_56 : decode cX11_fill 56 = .ok (.lload_n 1, 1) := by decide +kernel
theorem dX11_fill_57 : decode cX11_fill 57 = .ok (.lload 6, 2) := by decide +kernel
theorem dX11_fill_59 : decode cX11_fill 59 = .ok (.ladd, 1) := by decide +kernel
theorem dX11_fill_60 : decode cX11_fill 60 = .ok (.lstore 8, 2) := by decide +kernel
theorem dX11_fill_62 : decode cX11_fill 62 = .ok (.aload_n 0, 1) := by decide +kernel
theorem dX11_fill_63 : decode cX11_fill 63 = .ok (.lload_n 1, 1) := by decide +kernel
theorem dX11_fill_64 : decode cX11_fill 64 = .ok (.lload 6, 2) := by decide +kernel
theorem dX11_fill_66 : decode cX11_fill 66 = .ok (.invokevirtual 226, 3) := by decide +kernel
theorem dX11_fill_69 : decode cX11_fill 69 = .ok (.iconst 1, 1) := by decide +kernel
theorem dX11_fill_70 : decode cX11_fill 70 = .ok (.if_icmp .ne 55, 3) := by decide +kernel
theorem dX11_fill_73 : decode cX11_fill 73 = .ok (.aload_n 0, 1) := by decide +kernel
theorem dX11_fill_74 : decode cX11_fill 74 = .ok (.lload 8, 2) := by decide +kernel
theorem dX11_fill_76 : decode cX11_fill 76 = .ok (.lload 6, 2) := by decide +kernel
theorem dX11_fill_78 : decode cX11_fill 78 = .ok (.invokevirtual 263, 3) := by decide +kernel
theorem dX11_fill_81 : decode cX11_fill 81 = .ok (.aload_n 0, 1) := by decide +kernel
theorem dX11_fill_82 : decode cX11_fill 82 = .ok (.lload_n 1, 1) := by decide +kernel
theorem dX11_fill_83 : decode cX11_fill 83 = .ok (.lload 6, 2) := by decide +kernel
theorem dX11_fill_85 : decode cX11_fill 85 = .ok (.invokevirtual 256, 3) := by decide +kernel
theorem dX11_fill_88 : decode cX11_fill 88 = .ok (.istore 10, 2) := by decide +kernel
theorem dX11_fill_90 : decode cX11_fill 90 = .ok (.aload_n 0, 1) := by decide +kernel
theorem dX11_fill_91 : decode cX11_fill 91 = .ok (.lload 8, 2) := by decide +kernel
theorem dX11_fill_93 : decode cX11_fill 93 = .ok (.lload 6, 2) := by decide +kernel
theorem dX11_fill_95 : decode cX11_fill 95 = .ok (.invokevirtual 267, 3) := by decide +kernel
theorem dX11_fill_98 : decode cX11_fill 98 = .ok (.istore 11, 2) := by decide +kernel
theorem dX11_fill_100 : decode cX11_fill 100 = .ok (.aload_n 0, 1) := by decide +kernel
theorem dX11_fill_101 : decode cX11_fill 101 = .ok (.lload_n 1, 1) := by decide +kernel
theorem dX11_fill_102 : decode cX11_fill 102 = .ok (.lload 6, 2) := by decide +kernel
theorem dX11_fill_104 : decode cX11_fill 104 = .ok (.iload 10, 2) := by decide +kernel
theorem dX11_fill_106 : decode cX11_fill 106 = .ok (.iload 11, 2) := by decide +kernel
theorem dX11_fill_108 : decode cX11_fill 108 = .ok (.if_icmp .le 8, 3) := by decide +kernel
theorem dX11_fill_111 : decode cX11_fill 111 = .ok (.iload 10, 2) := by decide +kernel
theorem dX11_fill_113 : decode cX11_fill 113 = .ok (.goto 5, 3) := by decide +kernel
theorem dX11_fill_116 : decode cX11_fill 116 = .ok (.iload 11, 2) := by decide +kernel
theorem dX11_fill_118 : decode cX11_fill 118 = .ok (.iconst 0, 1) := by decide +kernel
theorem dX11_fill_119 : decode cX11_fill 119 = .ok (.invokevirtual 259, 3) := by decide +kernel
theorem dX11_fill_122 : decode cX11_fill 122 = .ok (.goto 82, 3) := by decide +kernel
theorem dX11_fill_125 : decode cX11_fill 125 = .ok (.aload_n 0, 1) := by decide +kernel
theorem dX11_fill_126 : decode cX11_fill 126 = .ok (.lload 8, 2) := by decide +kernel
theorem dX11_fill_128 : decode cX11_fill 128 = .ok (.lload 6, 2) := by decide +kernel
theorem dX11_fill_130 : decode cX11_fill 130 = .ok (.invokevirtual 226, 3) := by decide +kernel
theorem dX11_fill_133 : decode cX11_fill 133 = .ok (.iconst 1, 1) := by decide +kernel
theorem dX11_fill_134 : decode cX11_fill 134 = .ok (.if_icmp .ne 55, 3) := by decide +kernel
theorem dX11_fill_137 : decode cX11_fill 137 = .ok (.aload_n 0, 1) := by decide +kernel
theorem dX11_fill_138 : decode cX11_fill 138 = .ok (.lload_n 1, 1) := by decide +kernel
theorem dX11_fill_139 : decode cX11_fill 139 = .ok (.lload 6, 2) := by decide +kernel
theorem dX11_fill_141 : decode cX11_fill 141 = .ok (.invokevirtual 263, 3) := by decide +kernel
theorem dX11_fill_144 : decode cX11_fill 144 = .ok (.aload_n 0, 1) := by decide +kernel
theorem dX11_fill_145 : decode cX11_fill 145 = .ok (.lload 8, 2) := by decide +kernel
theorem dX11_fill_147 : decode cX11_fill 147 = .ok (.lload 6, 2) := by decide +kernel
theorem dX11_fill_149 : decode cX11_fill 149 = .ok (.invokevirtual 256, 3) := by decide +kernel
theorem dX11_fill_152 : decode cX11_fill 152 = .ok (.istore 10, 2) := by decide +kernel
theorem dX11_fill_154 : decode cX11_fill 154 = .ok (.aload_n 0, 1) := by decide +kernel
theorem dX11_fill_155 : decode cX11_fill 155 = .ok (.lload_n 1, 1) := by decide +kernel
theorem dX11_fill_156 : decode cX11_fill 156 = .ok (.lload 6, 2) := by decide +kernel
theorem dX11_fill_158 : decode cX11_fill 158 = .ok (.invokevirtual 267, 3) := by decide +kernel
theorem dX11_fill_161 : decode cX11_fill 161 = .ok (.istore 11, 2) := by decide +kernel
theorem dX11_fill_163 : decode cX11_fill 163 = .ok (.aload_n 0, 1) := by decide +kernel
theorem dX11_fill_164 : decode cX11_fill 164 = .ok (.lload 8, 2) := by decide +kernel
theorem dX11_fill_166 : decode cX11_fill 166 = .ok (.lload 6, 2) := by decide +kernel
theorem dX11_fill_168 : decode cX11_fill 168 = .ok (.iload 10, 2) := by decide +kernel
theorem dX11_fill_170 : decode cX11_fill 170 = .ok (.iload 11, 2) := by decide +kernel
theorem dX11_fill_172 : decode cX11_fill 172 = .ok (.if_icmp .le 8, 3) := by decide +kernel
theorem dX11_fill_175 : decode cX11_fill 175 = .ok (.iload 10, 2) := by decide +kernel
theorem dX11_fill_177 : decode cX11_fill 177 = .ok (.goto 5, 3) := by decide +kernel
theorem dX11_fill_180 : decode cX11_fill 180 = .ok (.iload 11, 2) := by decide +kernel
theorem dX11_fill_182 : decode cX11_fill 182 = .ok (.iconst 0, 1) := by decide +kernel
theorem dX11_fill_183 : decode cX11_fill 183 = .ok (.invokevirtual 259, 3) := by decide +kernel
theorem dX11_fill_186 : decode cX11_fill 186 = .ok (.goto 18, 3) := by decide +kernel
theorem dX11_fill_189 : decode cX11_fill 189 = .ok (.aload_n 0, 1) := by decide +kernel
theorem dX11_fill_190 : decode cX11_fill 190 = .ok (.lload_n 1, 1) := by decide +kernel
theorem dX11_fill_191 : decode cX11_fill 191 = .ok (.lload 6, 2) := by decide +kernel
theorem dX11_fill_193 : decode cX11_fill 193 = .ok (.invokevirtual 263, 3) := by decide +kernel
theorem dX11_fill_196 : decode cX11_fill 196 = .ok (.aload_n 0, 1) := by decide +kernel
theorem dX11_fill_197 : decode cX11_fill 197 = .ok (.lload 8, 2) := by decide +kernel
theorem dX11_fill_199 : decode cX11_fill 199 = .ok (.lload 6, 2) := by decide +kernel
theorem dX11_fill_201 : decode cX11_fill 201 = .ok (.invokevirtual 263, 3) := by decide +kernel
theorem dX11_fill_204 : decode cX11_fill 204 = .ok (.return_, 1) := by decide +kernel
def cd_158 : dm_Code := [[dm_ald 1 0, dm_lld 2 1, dm_lld 3 3, dm_inv 6 152 2 8, dm_no, dm_no, dm_ist 8 5, dm_no, dm_ild 10 5, dm_no, dm_if_eq 13 28, dm_no, dm_no, dm_ild 15 5, dm_no, dm_push 16 (.int 2)],
  [dm_ic_ne 19 29, dm_no, dm_no, dm_ald 20 0, dm_lld 21 1, dm_lld 22 3, dm_inv 25 145 2 8, dm_no, dm_no, dm_if_eq 28 29, dm_no, dm_no, dm_vret, dm_ild 31 5, dm_no, dm_push 32 (.int 1)],
  [dm_ic_ne 35 49, dm_no, dm_no, dm_ald 36 0, dm_lld 37 1, dm_lld 38 3, dm_ald 39 0, dm_lld 40 1, dm_lld 41 3, dm_inv 44 146 2 8, dm_no, dm_no, dm_push 45 (.int 0), dm_inv 48 150 4 8, dm_no, dm_no],
  [dm_vret, dm_lld 50 3, dm_push 53 (.long 2), dm_no, dm_no, dm_lq 54 (fun x y => x / y), dm_lst 56 6, dm_no, dm_lld 57 1, dm_lld 59 6, dm_no, dm_ll 60 (fun x y => x + y), dm_lst 62 8, dm_no, dm_ald 63 0, dm_lld 64 1],
  [dm_lld 66 6, dm_no, dm_inv 69 152 2 8, dm_no, dm_no, dm_push 70 (.int 1), dm_ic_ne 73 125, dm_no, dm_no, dm_ald 74 0, dm_lld 76 8, dm_no, dm_lld 78 6, dm_no, dm_inv 81 158 2 8, dm_no],
  [dm_no, dm_ald 82 0, dm_lld 83 1, dm_lld 85 6, dm_no, dm_inv 88 146 2 8, dm_no, dm_no, dm_ist 90 10, dm_no, dm_ald 91 0, dm_lld 93 8, dm_no, dm_lld 95 6, dm_no, dm_inv 98 147 2 8],
  [dm_no, dm_no, dm_ist 100 11, dm_no, dm_ald 101 0, dm_lld 102 1, dm_lld 104 6, dm_no, dm_ild 106 10, dm_no, dm_ild 108 11, dm_no, dm_ic_le 111 116, dm_no, dm_no, dm_ild 113 10],
  [dm_no, dm_goto 118, dm_no, dm_no, dm_ild 118 11, dm_no, dm_push 119 (.int 0), dm_inv 122 150 4 8, dm_no, dm_no, dm_goto 204, dm_no, dm_no, dm_ald 126 0, dm_lld 128 8, dm_no],
  [dm_lld 130 6, dm_no, dm_inv 133 152 2 8, dm_no, dm_no, dm_push 134 (.int 1), dm_ic_ne 137 189, dm_no, dm_no, dm_ald 138 0, dm_lld 139 1, dm_lld 141 6, dm_no, dm_inv 144 158 2 8, dm_no, dm_no],
  [dm_ald 145 0, dm_lld 147 8, dm_no, dm_lld 149 6, dm_no, dm_inv 152 146 2 8, dm_no, dm_no, dm_ist 154 10, dm_no, dm_ald 155 0, dm_lld 156 1, dm_lld 158 6, dm_no, dm_inv 161 147 2 8, dm_no],
  [dm_no, dm_ist 163 11, dm_no, dm_ald 164 0, dm_lld 166 8, dm_no, dm_lld 168 6, dm_no, dm_ild 170 10, dm_no, dm_ild 172 11, dm_no, dm_ic_le 175 180, dm_no, dm_no, dm_ild 177 10],
  [dm_no, dm_goto 182, dm_no, dm_no, dm_ild 182 11, dm_no, dm_push 183 (.int 0), dm_inv 186 150 4 8, dm_no, dm_no, dm_goto 204, dm_no, dm_no, dm_ald 190 0, dm_lld 191 1, dm_lld 193 6],
  [dm_no, dm_inv 196 158 2 8, dm_no, dm_no, dm_ald 197 0, dm_lld 199 8, dm_no, dm_lld 201 6, dm_no, dm_inv 204 158 2 8, dm_no, dm_no, dm_vret]]
theorem tr_158_0 : dm_AllR (dm_Good dm_tb RX11 cX11_fill 12 none false none) 0 [dm_ald 1 0, dm_lld 2 1, dm_lld 3 3, dm_inv 6 152 2 8, dm_no, dm_no, dm_ist 8 5, dm_no, dm_ild 10 5, dm_no, dm_if_eq 13 28, dm_no, dm_no, dm_ild 15 5, dm_no, dm_push 16 (.int 2)] := dr_c (dg_aload_n (k := 0) rfl dX11_fill_0) <| dr_c (dg_lload_n (k := 1) rfl dX11_fill_1) <| dr_c (dg_lload_n (k := 3) rfl dX11_fill_2) <| dr_c (dg_inv dX11_fill_3 mo_152 rfl rfl wd_927 wd_929 wd_18 pd_152) <| dr_c (dg_no) <| dr_c (dg_no) <| dr_c (dg_istore (by decide) dX11_fill_6) <| dr_c (dg_no) <| dr_c (dg_iload dX11_fill_8) <| dr_c (dg_no) <| dr_c (dg_if_eq (by decide) dX11_fill_10) <| dr_c (dg_no) <| dr_c (dg_no) <| dr_c (dg_iload dX11_fill_13) <| dr_c (dg_no) <| dr_c (dg_iconst (by decide) dX11_fill_15) <| dr_n
theorem tr_158_1 : dm_AllR (dm_Good dm_tb RX11 cX11_fill 12 none false none) 16 [dm_ic_ne 19 29, dm_no, dm_no, dm_ald 20 0, dm_lld 21 1, dm_lld 22 3, dm_inv 25 145 2 8, dm_no, dm_no, dm_if_eq 28 29, dm_no, dm_no, dm_vret, dm_ild 31 5, dm_no, dm_push 32 (.int 1)] := dr_c (dg_ic_ne (by decide) dX11_fill_16) <| dr_c (dg_no) <| dr_c (dg_no) <| dr_c (dg_aload_n (k := 0) rfl dX11_fill_19) <| dr_c (dg_lload_n (k := 1) rfl dX11_fill_20) <| dr_c (dg_lload_n (k := 3) rfl dX11_fill_21) <| dr_c (dg_inv dX11_fill_22 mo_145 rfl rfl wd_936 wd_938 wd_20 pd_145) <| dr_c (dg_no) <| dr_c (dg_no) <| dr_c (dg_if_eq (by decide) dX11_fill_25) <| dr_c (dg_no) <| dr_c (dg_no) <| dr_c (dg_vret dX11_fill_28) <| dr_c (dg_iload dX11_fill_29) <| dr_c (dg_no) <| dr_c (dg_iconst (by decide) dX11_fill_31) <| dr_n
theorem tr_158_2 : dm_AllR (dm_Good dm_tb RX11 cX11_fill 12 none false none) 32 [dm_ic_ne 35 49, dm_no, dm_no, dm_ald 36 0, dm_lld 37 1, dm_lld 38 3, dm_ald 39 0, dm_lld 40 1, dm_lld 41 3, dm_inv 44 146 2 8, dm_no, dm_no, dm_push 45 (.int 0), dm_inv 48 150 4 8, dm_no, dm_no] := dr_c (dg_ic_ne (by decide) dX11_fill_32) <| dr_c (dg_no) <| dr_c (dg_no) <| dr_c (dg_aload_n (k := 0) rfl dX11_fill_35) <| dr_c (dg_lload_n (k := 1) rfl dX11_fill_36) <| dr_c (dg_lload_n (k := 3) rfl dX11_fill_37) <| dr_c (dg_aload_n (k := 0) rfl dX11_fill_38) <| dr_c (dg_lload_n (k := 1) rfl dX11_fill_39) <| dr_c (dg_lload_n (k := 3) rfl dX11_fill_40) <| dr_c (dg_inv dX11_fill_41 mo_146 rfl rfl wd_1209 wd_1211 wd_34 pd_146) <| dr_c (dg_no) <| dr_c (dg_no) <| dr_c (dg_iconst (by decide) dX11_fill_44) <| dr_c (dg_inv dX11_fill_45 mo_150 rfl rfl wd_1213 wd_1215 wd_35 pd_150) <| dr_c (dg_no) <| dr_c (dg_no) <| dr_n
theorem tr_158_3 : dm_AllR (dm_Good dm_tb RX11 cX11_fill 12 none false none) 48 [dm_vret, dm_lld 50 3, dm_push 53 (.long 2), dm_no, dm_no, dm_lq 54 (fun x y => x / y), dm_lst 56 6, dm_no, dm_lld 57 1, dm_lld 59 6, dm_no, dm_ll 60 (fun x y => x + y), dm_lst 62 8, dm_no, dm_ald 63 0, dm_lld 64 1] := dr_c (dg_vret dX11_fill_48) <| dr_c (dg_lload_n (k := 3) rfl dX11_fill_49) <| dr_c (dg_ldc2 wd_931 dX11_fill_50) <| dr_c (dg_no) <| dr_c (dg_no) <| dr_c (dg_ldiv dX11_fill_53) <| dr_c (dg_lstore (by decide) dX11_fill_54) <| dr_c (dg_no) <| dr_c (dg_lload_n (k := 1) rfl dX11_fill_56) <| dr_c (dg_lload dX11_fill_57) <| dr_c (dg_no) <| dr_c (dg_ladd dX11_fill_59) <| dr_c (dg_lstore (by decide) dX11_fill_60) <| dr_c (dg_no) <| dr_c (dg_aload_n (k := 0) rfl dX11_fill_62) <| dr_c (dg_lload_n (k := 1) rfl dX11_fill_63) <| dr_n
theorem tr_158_4 : dm_AllR (dm_Good dm_tb RX11 cX11_fill 12 none false none) 64 [dm_lld 66 6, dm_no, dm_inv 69 152 2 8, dm_no, dm_no, dm_push 70 (.int 1), dm_ic_ne 73 125, dm_no, dm_no, dm_ald 74 0, dm_lld 76 8, dm_no, dm_lld 78 6, dm_no, dm_inv 81 158 2 8, dm_no] := dr_c (dg_lload dX11_fill_64) <| dr_c (dg_no) <| dr_c (dg_inv dX11_fill_66 mo_152 rfl rfl wd_927 wd_929 wd_18 pd_152) <| dr_c (dg_no) <| dr_c (dg_no) <| dr_c (dg_iconst (by decide) dX11_fill_69) <| dr_c (dg_ic_ne (by decide) dX11_fill_70) <| dr_c (dg_no) <| dr_c (dg_no) <| dr_c (dg_aload_n (k := 0) rfl dX11_fill_73) <| dr_c (dg_lload dX11_fill_74) <| dr_c (dg_no) <| dr_c (dg_lload dX11_fill_76) <| dr_c (dg_no) <| dr_c (dg_inv dX11_fill_78 mo_158 rfl rfl wd_1205 wd_1207 wd_33 pd_158) <| dr_c (dg_no) <| dr_n
theorem tr_158_5 : dm_AllR (dm_Good dm_tb RX11 cX11_fill 12 none false none) 80 [dm_no, dm_ald 82 0, dm_lld 83 1, dm_lld 85 6, dm_no, dm_inv 88 146 2 8, dm_no, dm_no, dm_ist 90 10, dm_no, dm_ald 91 0, dm_lld 93 8, dm_no, dm_lld 95 6, dm_no, dm_inv 98 147 2 8] := dr_c (dg_no) <| dr_c (dg_aload_n (k := 0) rfl dX11_fill_81) <| dr_c (dg_lload_n (k := 1) rfl dX11_fill_82) <| dr_c (dg_lload dX11_fill_83) <| dr_c (dg_no) <| dr_c (dg_inv dX11_fill_85 mo_146 rfl rfl wd_1209 wd_1211 wd_34 pd_146) <| dr_c (dg_no) <| dr_c (dg_no) <| dr_c (dg_istore (by decide) dX11_fill_88) <| dr_c (dg_no) <| dr_c (dg_aload_n (k := 0) rfl dX11_fill_90) <| dr_c (dg_lload dX11_fill_91) <| dr_c (dg_no) <| dr_c (dg_lload dX11_fill_93) <| dr_c (dg_no) <| dr_c (dg_inv dX11_fill_95 mo_147 rfl rfl wd_1225 wd_1227 wd_38 pd_147) <| dr_n
theorem tr_158_6 : dm_AllR (dm_Good dm_tb RX11 cX11_fill 12 none false none) 96 [dm_no, dm_no, dm_ist 100 11, dm_no, dm_ald 101 0, dm_lld 102 1, dm_lld 104 6, dm_no, dm_ild 106 10, dm_no, dm_ild 108 11, dm_no, dm_ic_le 111 116, dm_no, dm_no, dm_ild 113 10] := dr_c (dg_no) <| dr_c (dg_no) <| dr_c (dg_istore (by decide) dX11_fill_98) <| dr_c (dg_no) <| dr_c (dg_aload_n (k := 0) rfl dX11_fill_100) <| dr_c (dg_lload_n (k := 1) rfl dX11_fill_101) <| dr_c (dg_lload dX11_fill_102) <| dr_c (dg_no) <| dr_c (dg_iload dX11_fill_104) <| dr_c (dg_no) <| dr_c (dg_iload dX11_fill_106) <| dr_c (dg_no) <| dr_c (dg_ic_le (by decide) dX11_fill_108) <| dr_c (dg_no) <| dr_c (dg_no) <| dr_c (dg_iload dX11_fill_111) <| dr_n
theorem tr_158_7 : dm_AllR (dm_Good dm_tb RX11 cX11_fill 12 none false none) 112 [dm_no, dm_goto 118, dm_no, dm_no, dm_ild 118 11, dm_no, dm_push 119 (.int 0), dm_inv 122 150 4 8, dm_no, dm_no, dm_goto 204, dm_no, dm_no, dm_ald 126 0, dm_lld 128 8, dm_no] := dr_c (dg_no) <| dr_c (dg_goto (by decide) dX11_fill_113) <| dr_c (dg_no) <| dr_c (dg_no) <| dr_c (dg_iload dX11_fill_116) <| dr_c (dg_no) <| dr_c (dg_iconst (by decide) dX11_fill_118) <| dr_c (dg_inv dX11_fill_119 mo_150 rfl rfl wd_1213 wd_1215 wd_35 pd_150) <| dr_c (dg_no) <| dr_c (dg_no) <| dr_c (dg_goto (by decide) dX11_fill_122) <| dr_c (dg_no) <| dr_c (dg_no) <| dr_c (dg_aload_n (k := 0) rfl dX11_fill_125) <| dr_c (dg_lload dX11_fill_126) <| dr_c (dg_no) <| dr_n
theorem tr_158_8 : dm_AllR (dm_Good dm_tb RX11 cX11_fill 12 none false none) 128 [dm_lld 130 6, dm_no, dm_inv 133 152 2 8, dm_no, dm_no, dm_push 134 (.int 1), dm_ic_ne 137 189, dm_no, dm_no, dm_ald 138 0, dm_lld 139 1, dm_lld 141 6, dm_no, dm_inv 144 158 2 8, dm_no, dm_no] := dr_c (dg_lload dX11_fill_128) <| dr_c (dg_no) <| dr_c (dg_inv dX11_fill_130 mo_152 rfl rfl wd_927 wd_929 wd_18 pd_152) <| dr_c (dg_no) <| dr_c (dg_no) <| dr_c (dg_iconst (by decide) dX11_fill_133) <| dr_c (dg_ic_ne (by decide) dX11_fill_134) <| dr_c (dg_no) <| dr_c (dg_no) <| dr_c (dg_aload_n (k := 0) rfl dX11_fill_137) <| dr_c (dg_lload_n (k := 1) rfl dX11_fill_138) <| dr_c (dg_lload dX11_fill_139) <| dr_c (dg_no) <| dr_c (dg_inv dX11_fill_141 mo_158 rfl rfl wd_1205 wd_1207 wd_33 pd_158) <| dr_c (dg_no) <| dr_c (dg_no) <| dr_n
theorem tr_158_9 : dm_AllR (dm_Good dm_tb RX11 cX11_fill 12 none false none) 144 [dm_ald 145 0, dm_lld 147 8, dm_no, dm_lld 149 6, dm_no, dm_inv 152 146 2 8, dm_no, dm_no, dm_ist 154 10, dm_no, dm_ald 155 0, dm_lld 156 1, dm_lld 158 6, dm_no, dm_inv 161 147 2 8, dm_no] := dr_c (dg_aload_n (k := 0) rfl dX11_fill_144) <| dr_c (dg_lload dX11_fill_145) <| dr_c (dg_no) <| dr_c (dg_lload dX11_fill_147) <| dr_c (dg_no) <| dr_c (dg_inv dX11_fill_149 mo_146 rfl rfl wd_1209 wd_1211 wd_34 pd_146) <| dr_c (dg_no) <| dr_c (dg_no) <| dr_c (dg_istore (by decide) dX11_fill_152) <| dr_c (dg_no) <| dr_c (dg_aload_n (k := 0) rfl dX11_fill_154) <| dr_c (dg_lload_n (k := 1) rfl dX11_fill_155) <| dr_c (dg_lload dX11_fill_156) <| dr_c (dg_no) <| dr_c (dg_inv dX11_fill_158 mo_147 rfl rfl wd_1225 wd_1227 wd_38 pd_147) <| dr_c (dg_no) <| dr_n
theorem tr_158_10 : dm_AllR (dm_Good dm_tb RX11 cX11_fill 12 none false none) 160 [dm_no, dm_ist 163 11, dm_no, dm_ald 164 0, dm_lld 166 8, dm_no, dm_lld 168 6, dm_no, dm_ild 170 10, dm_no, dm_ild 172 11, dm_no, dm_ic_le 175 180, dm_no, dm_no, dm_ild 177 10] := dr_c (dg_no) <| dr_c (dg_istore (by decide) dX11_fill_161) <| dr_c (dg_no) <| dr_c (dg_aload_n (k := 0) rfl dX11_fill_163) <| dr_c (dg_lload dX11_fill_164) <| dr_c (dg_no) <| dr_c (dg_lload dX11_fill_166) <| dr_c (dg_no) <| dr_c (dg_iload dX11_fill_168) <| dr_c (dg_no) <| dr_c (dg_iload dX11_fill_170) <| dr_c (dg_no) <| dr_c (dg_ic_le (by decide) dX11_fill_172) <| dr_c (dg_no) <| dr_c (dg_no) <| dr_c (dg_iload dX11_fill_175) <| dr_n
theorem tr_158_11 : dm_AllR (dm_Good dm_tb RX11 cX11_fill 12 none false none) 176 [dm_no, dm_goto 182, dm_no, dm_no, dm_ild 182 11, dm_no, dm_push 183 (.int 0), dm_inv 186 150 4 8, dm_no, dm_no, dm_goto 204, dm_no, dm_no, dm_ald 190 0, dm_lld 191 1, dm_lld 193 6] := dr_c (dg_no) <| dr_c (dg_goto (by decide) dX11_fill_177) <| dr_c (dg_no) <| dr_c (dg_no) <| dr_c (dg_iload dX11_fill_180) <| dr_c (dg_no) <| dr_c (dg_iconst (by decide) dX11_fill_182) <| dr_c (dg_inv dX11_fill_183 mo_150 rfl rfl wd_1213 wd_1215 wd_35 pd_150) <| dr_c (dg_no) <| dr_c (dg_no) <| dr_c (dg_goto (by decide) dX11_fill_186) <| dr_c (dg_no) <| dr_c (dg_no) <| dr_c (dg_aload_n (k := 0) rfl dX11_fill_189) <| dr_c (dg_lload_n (k := 1) rfl dX11_fill_190) <| dr_c (dg_lload dX11_fill_191) <| dr_n
theorem tr_158_12 : dm_AllR (dm_Good dm_tb RX11 cX11_fill 12 none false none) 192 [dm_no, dm_inv 196 158 2 8, dm_no, dm_no, dm_ald 197 0, dm_lld 199 8, dm_no, dm_lld 201 6, dm_no, dm_inv 204 158 2 8, dm_no, dm_no, dm_vret] := dr_c (dg_no) <| dr_c (dg_inv dX11_fill_193 mo_158 rfl rfl wd_1205 wd_1207 wd_33 pd_158) <| dr_c (dg_no) <| dr_c (dg_no) <| dr_c (dg_aload_n (k := 0) rfl dX11_fill_196) <| dr_c (dg_lload dX11_fill_197) <| dr_c (dg_no) <| dr_c (dg_lload dX11_fill_199) <| dr_c (dg_no) <| dr_c (dg_inv dX11_fill_201 mo_158 rfl rfl wd_1205 wd_1207 wd_33 pd_158) <| dr_c (dg_no) <| dr_c (dg_no) <| dr_c (dg_vret dX11_fill_204) <| dr_n
theorem tk_158 : dm_AllC (dm_Good dm_tb RX11 cX11_fill 12 none false none) 0 cd_158 := dc_c (by decide) tr_158_0 <| dc_c (by decide) tr_158_1 <| dc_c (by decide) tr_158_2 <| dc_c (by decide) tr_158_3 <| dc_c (by decide) tr_158_4 <| dc_c (by decide) tr_158_5 <| dc_c (by decide) tr_158_6 <| dc_c (by decide) tr_158_7 <| dc_c (by decide) tr_158_8 <| dc_c (by decide) tr_158_9 <| dc_c (by decide) tr_158_10 <| dc_c (by decide) tr_158_11 <| dc_c (by decide) tr_158_12 <| dc_n
theorem dX11_grow_0 : decode cX11_grow 0 = .ok (.aload_n 0, 1) := by decide +kernel
theorem dX11_grow_1 : decode cX11_grow 1 = .ok (.lload_n 1, 1) := by decide +kernel
theorem dX11_grow_2 : decode cX11_grow 2 = .ok (.lload_n 3, 1) := by decide +kernel
theorem dX11_grow_3 : decode cX11_grow 3 = .ok (.invokevirtual 226, 3) := by decide +kernel
theorem dX11_grow_6 : decode cX11_grow 6 = .ok (.iconst 1, 1) := by decide +kernel
theorem dX11_grow_7 : decode cX11_grow 7 = .ok (.if_icmp .ne 15, 3) := by decide +kernel
theorem dX11_grow_10 : decode cX11_grow 10 = .ok (.aload_n 0, 1) := by decide +kernel
theorem dX11_grow_11 : decode cX11_grow 11 = .ok (.lload_n 1, 1) := by decide +kernel
theorem dX11_grow_12 : decode cX11_grow 12 = .ok (.putfield 270, 3) := by decide +kernel
theorem dX11_grow_15 : decode cX11_grow 15 = .ok (.aload_n 0, 1) := by decide +kernel
theorem dX11_grow_16 : decode cX11_grow 16 = .ok (.lload_n 3, 1) := by decide +kernel
theorem dX11_grow_17 : decode cX11_grow 17 = .ok (.putfield 274, 3) := by decide +kernel
theorem dX11_grow_20 : decode cX11_grow 20 = .ok (.iconst 0, 1) := by decide +kernel
theorem dX11_grow_21 : decode cX11_grow 21 = .ok (.ireturn, 1) := by decide +kernel
theorem dX11_grow_22 : decode cX11_grow 22 = .ok (.aload_n 0, 1) := by decide +kernel
theorem dX11_grow_23 : decode cX11_grow 23 = .ok (.lload_n 1, 1) := by decide +kernel
theorem dX11_grow_24 : decode cX11_grow 24 = .ok (.lload_n 3, 1) := by decide +kernel
theorem dX11_grow_25 : decode cX11_grow 25 = .ok (.invokevirtual 220, 3) := by decide +kernel
theorem dX11_grow_28 : decode cX11_grow 28 = .ok (.ifCond .eq 9, 3) := by decide +kernel
theorem dX11_grow_31 : decode cX11_grow 31 = .ok (.sipush 1001, 3) := by decide +kernel
theorem dX11_grow_34 : decode cX11_grow 34 = .ok (.goto 4, 3) := by decide +kernel
theorem dX11_grow_37 : decode cX11_grow 37 = .ok (.iconst 1, 1) := by decide +kernel
theorem dX11_grow_38 : decode cX11_grow 38 = .ok (.istore 5, 2) := by decide +kernel
theorem dX11_grow_40 : decode cX11_grow 40 = .ok (.lload_n 3, 1) := by decide +kernel
theorem dX11_grow_41 : decode cX11_grow 41 = .ok (.ldc2_w 224, 3) := by decide +kernel
theorem dX11_grow_44 : decode cX11_grow 44 = .ok (.ldiv, 1) := by decide +kernel
theorem dX11_grow_45 : decode cX11_grow 45 = .ok (.lstore 6, 2) := by decide +kernel
theorem dX11_grow_47 : decode cX11_grow 47 = .ok (.aload_n 0, 1) := by decide +kernel
theorem dX11_grow_48 : decode cX11_grow 48 = .ok (.lload_n 1, 1) := by decide +kernel
theorem dX11_grow_49 : decode cX11_grow 49 = .ok (.lload 6, 2) := by decide +kernel
theorem dX11_grow_51 : decode cX11_grow 51 = .ok (.invokevirtual 226, 3) := by decide +kernel
theorem dX11_grow_54 : decode cX11_grow 54 = .ok (.ifCond .ne 17, 3) := by decide +kernel
theorem dX11_grow_57 : decode cX11_grow 57 = .ok (.iload 5, 2) := by decide +kernel
theorem dX11_grow_59 : decode cX11_grow 59 = .ok (.aload_n 0, 1) := by decide +kernel
theorem dX11_grow_60 : decode cX11_grow 60 = .ok (.lload_n 1, 1) := by decide +kernel
theorem dX11_grow_61 : decode cX11_grow 61 = .ok (.lload 6, 2) := by decide +kernel
theorem dX11_grow_63 : decode cX11_grow 63 = .ok (.ladd, 1) := by decide +kernel
theorem dX11_grow_64 : decode cX11_grow 64 = .ok (.lload 6, 2) := by decide +kernel
theorem dX11_grow_66 : decode cX11_grow 66 = .ok (.invokevirtual 277, 3) := by decide +kernel
theorem dX11_grow_69 : decode cX11_grow 69 = .ok (.iadd, 1) := by decide +kernel
theorem dX11_grow_70 : decode cX11_grow 70 = .ok (.ireturn, 1) := by decide +kernel
theorem dX11_grow_71 : decode cX11_grow 71 = .ok (.aload_n 0, 1) := by decide +kernel
theorem dX11_grow_72 : decode cX11_grow 72 = .ok (.lload_n 1, 1) := by decide +kernel
theorem dX11_grow_73 : decode cX11_grow 73 = .ok (.lload 6, 2) := by decide +kernel
theorem dX11_grow_75 : decode cX11_grow 75 = .ok (.invokevirtual 277, 3) := by decide +kernel
theorem dX11_grow_78 : decode cX11_grow 78 = .ok (.istore 8, 2) := by decide +kernel
theorem dX11_grow_80 : decode cX11_grow 80 = .ok (.aload_n 0, 1) := by decide +kernel
theorem dX11_grow_81 : decode cX11_grow 81 = .ok (.lload_n 1, 1) := by decide +kernel
theorem dX11_grow_82 : decode cX11_grow 82 = .ok (.lload 6, 2) := by decide +kernel
theorem dX11_grow_84 : decode cX11_grow 84 = .ok (.ladd, 1) := by decide +kernel
theorem dX11_grow_85 : decode cX11_grow 85 = .ok (.lload 6, 2) := by decide +kernel
theorem dX11_grow_87 : decode cX11_grow 87 = .ok (.invokevirtual 226, 3) := by decide +kernel
theorem dX11_grow_90 : decode cX11_grow 90 = .ok (.ifCond .ne 9, 3) := by decide +kernel
theorem dX11_grow_93 : decode cX11_grow 93 = .ok (.iload 5, 2) := by decide +kernel
theorem dX11_grow_95 : decode cX11_grow 95 = .ok (.iload 8, 2) := by decide +kernel
theorem dX11_grow_97 : decode cX11_grow 97 = .ok (.iadd, 1) := by decide +kernel
theorem dX11_grow_98 : decode cX11_grow 98 = .ok (.ireturn, 1) := by decide +kernel
theorem dX11_grow_99 : decode cX11_grow 99 = .ok (.aload_n 0, 1) := by decide +kernel
theorem dX11_grow_100 : decode cX11_grow 100 = .ok (.getfield 270, 3) := by decide +kernel
theorem dX11_grow_103 : decode cX11_grow 103 = .ok (.lstore 9, 2) := by decide +kernel
theorem dX11_grow_105 : decode cX11_grow 105 = .ok (.aload_n 0, 1) := by decide +kernel
theorem dX11_grow_106 : decode cX11_grow 106 = .ok (.getfield 274, 3) := by decide +kernel
theorem dX11_grow_109 : decode cX11_grow 109 = .ok (.lstore 11, 2) := by decide +kernel
theorem dX11_grow_111 : decode cX11_grow 111 = .ok (.aload_n 0, 1) := by decide +kernel
theorem dX11_grow_112 : decode cX11_grow 112 = .ok (.lload_n 1, 1) := by decide +kernel
theorem dX11_grow_113 : decode cX11_grow 113 = .ok (.lload 6, 2) := by decide +kernel
theorem dX11_grow_115 : decode cX11_grow 115 = .ok (.ladd, 1) := by decide +kernel
theorem dX11_grow_116 : decode cX11_grow 116 = .ok (.lload 6, 2) := by decide +kernel
theorem dX11_grow_118 : decode cX11_grow 118 = .ok (.invokevirtual 277, 3) := by decide +kernel
theorem dX11_grow_121 : decode cX11_grow 121 = .ok (.istore 13, 2) := by decide +kernel
theorem dX11_grow_123 : decode cX11_grow 123 = .ok (.iload 8, 2) := by decide +kernel
theorem dX11_grow_125 : decode cX11_grow 125 = .ok (.iload 13, 2) := by decide +kernel
theorem dX11_grow_127 : decode cX11_grow 127 = .ok (.if_icmp .lt 9, 3) := by decide +kernel
theorem dX11_grow_130 : decode cX11_grow 130 = .ok (.iload 5, 2) := by decide +kernel
theorem dX11_grow_132 : decode cX11_grow 132 = .ok (.iload 13, 2) := by decide +kernel
theorem dX11_grow_134 : decode cX11_grow 134 = .ok (.iadd, 1) := by decide +kernel
theorem dX11_grow_135 : decode cX11_grow 135 = .ok (.ireturn, 1) := by decide +kernel
theorem dX11_grow_136 : decode cX11_grow 136 = .ok (.aload_n 0, 1) := by decide +kernel
theorem dX11_grow_137 : decode cX11_grow 137 = .ok (.lload 9, 2) := by decide +kernel
theorem dX11_grow_139 : decode cX11_grow 139 = .ok (.putfield 270, 3) := by decide +kernel
theorem dX11_grow_142 : decode cX11_grow 142 = .ok (.aload_n 0, 1) := by decide +kernel
theorem dX11_grow_143 : decode cX11_grow 143 = .ok (.lload 11, 2) := by decide +kernel
theorem dX11_grow_145 : decode cX11_grow 145 = .ok (.putfield 274, 3) := by decide +kernel
theorem dX11_grow_148 : decode cX11_grow 148 = .ok (.iload 5, 2) := by decide +kernel
theorem dX11_grow_150 : decode cX11_grow 150 = .ok (.iload 8, 2) := by decide +kernel
theorem dX11_grow_152 : decode cX11_grow 152 = .ok (.iadd, 1) := by decide +kernel
theorem dX11_grow_153 : decode cX11_grow 153 = .ok (.ireturn, 1) := by decide +kernel
def cd_159 : dm_Code := [[dm_ald 1 0, dm_lld 2 1, dm_lld 3 3, dm_inv 6 152 2 8, dm_no, dm_no, dm_push 7 (.int 1), dm_ic_ne 10 22, dm_no, dm_no, dm_ald 11 0, dm_lld 12 1, dm_putf 15 8 60 .long, dm_no, dm_no, dm_ald 16 0],
  [dm_lld 17 3, dm_putf 20 8 61 .long, dm_no, dm_no, dm_push 21 (.int 0), dm_ret .int, dm_ald 23 0, dm_lld 24 1, dm_lld 25 3, dm_inv 28 145 2 8, dm_no, dm_no, dm_if_eq 31 37, dm_no, dm_no, dm_push 34 (.int 1001)],
  [dm_no, dm_no, dm_goto 38, dm_no, dm_no, dm_push 38 (.int 1), dm_ist 40 5, dm_no, dm_lld 41 3, dm_push 44 (.long 2), dm_no, dm_no, dm_lq 45 (fun x y => x / y), dm_lst 47 6, dm_no, dm_ald 48 0],
  [dm_lld 49 1, dm_lld 51 6, dm_no, dm_inv 54 152 2 8, dm_no, dm_no, dm_if_ne 57 71, dm_no, dm_no, dm_ild 59 5, dm_no, dm_ald 60 0, dm_lld 61 1, dm_lld 63 6, dm_no, dm_ll 64 (fun x y => x + y)],
  [dm_lld 66 6, dm_no, dm_inv 69 159 2 8, dm_no, dm_no, dm_ii 70 (fun x y => x + y), dm_ret .int, dm_ald 72 0, dm_lld 73 1, dm_lld 75 6, dm_no, dm_inv 78 159 2 8, dm_no, dm_no, dm_ist 80 8, dm_no],
  [dm_ald 81 0, dm_lld 82 1, dm_lld 84 6, dm_no, dm_ll 85 (fun x y => x + y), dm_lld 87 6, dm_no, dm_inv 90 152 2 8, dm_no, dm_no, dm_if_ne 93 99, dm_no, dm_no, dm_ild 95 5, dm_no, dm_ild 97 8],
  [dm_no, dm_ii 98 (fun x y => x + y), dm_ret .int, dm_ald 100 0, dm_getf 103 8 60, dm_no, dm_no, dm_lst 105 9, dm_no, dm_ald 106 0, dm_getf 109 8 61, dm_no, dm_no, dm_lst 111 11, dm_no, dm_ald 112 0],
  [dm_lld 113 1, dm_lld 115 6, dm_no, dm_ll 116 (fun x y => x + y), dm_lld 118 6, dm_no, dm_inv 121 159 2 8, dm_no, dm_no, dm_ist 123 13, dm_no, dm_ild 125 8, dm_no, dm_ild 127 13, dm_no, dm_ic_lt 130 136],
  [dm_no, dm_no, dm_ild 132 5, dm_no, dm_ild 134 13, dm_no, dm_ii 135 (fun x y => x + y), dm_ret .int, dm_ald 137 0, dm_lld 139 9, dm_no, dm_putf 142 8 60 .long, dm_no, dm_no, dm_ald 143 0, dm_lld 145 11],
  [dm_no, dm_putf 148 8 61 .long, dm_no, dm_no, dm_ild 150 5, dm_no, dm_ild 152 8, dm_no, dm_ii 153 (fun x y => x + y), dm_ret .int]]
theorem tr_159_0 : dm_AllR (dm_Good dm_tb RX11 cX11_grow 14 (some .int) false none) 0 [dm_ald 1 0, dm_lld 2 1, dm_lld 3 3, dm_inv 6 152 2 8, dm_no, dm_no, dm_push 7 (.int 1), dm_ic_ne 10 22, dm_no, dm_no, dm_ald 11 0, dm_lld 12 1, dm_putf 15 8 60 .long, dm_no, dm_no, dm_ald 16 0] := dr_c (dg_aload_n (k := 0) rfl dX11_grow_0) <| dr_c (dg_lload_n (k := 1) rfl dX11_grow_1) <| dr_c (dg_lload_n (k := 3) rfl dX11_grow_2) <| dr_c (dg_inv dX11_grow_3 mo_152 rfl rfl wd_927 wd_929 wd_18 pd_152) <| dr_c (dg_no) <| dr_c (dg_no) <| dr_c (dg_iconst (by decide) dX11_grow_6) <| dr_c (dg_ic_ne (by decide) dX11_grow_7) <| dr_c (dg_no) <| dr_c (dg_no) <| dr_c (dg_aload_n (k := 0) rfl dX11_grow_10) <| dr_c (dg_lload_n (k := 1) rfl dX11_grow_11) <| dr_c (dg_putf (T := TX11) (C := RX11) (N := 68) dX11_grow_12 rfl (by decide) iw_X11 tyX11_ok nmX11 wd_1008 rfl rfl) <| dr_c (dg_no) <| dr_c (dg_no) <| dr_c (dg_aload_n (k := 0) rfl dX11_grow_15) <| dr_n
theorem tr_159_1 : dm_AllR (dm_Good dm_tb RX11 cX11_grow 14 (some .int) false none) 16 [dm_lld 17 3, dm_putf 20 8 61 .long, dm_no, dm_no, dm_push 21 (.int 0), dm_ret .int, dm_ald 23 0, dm_lld 24 1, dm_lld 25 3, dm_inv 28 145 2 8, dm_no, dm_no, dm_if_eq 31 37, dm_no, dm_no, dm_push 34 (.int 1001)] := dr_c (dg_lload_n (k := 3) rfl dX11_grow_16) <| dr_c (dg_putf (T := TX11) (C := RX11) (N := 68) dX11_grow_17 rfl (by decide) iw_X11 tyX11_ok nmX11 wd_1009 rfl rfl) <| dr_c (dg_no) <| dr_c (dg_no) <| dr_c (dg_iconst (by decide) dX11_grow_20) <| dr_c (dg_ret dX11_grow_21) <| dr_c (dg_aload_n (k := 0) rfl dX11_grow_22) <| dr_c (dg_lload_n (k := 1) rfl dX11_grow_23) <| dr_c (dg_lload_n (k := 3) rfl dX11_grow_24) <| dr_c (dg_inv dX11_grow_25 mo_145 rfl rfl wd_936 wd_938 wd_20 pd_145) <| dr_c (dg_no) <| dr_c (dg_no) <| dr_c (dg_if_eq (by decide) dX11_grow_28) <| dr_c (dg_no) <| dr_c (dg_no) <| dr_c (dg_sipush (by decide) dX11_grow_31) <| dr_n
theorem tr_159_2 : dm_AllR (dm_Good dm_tb RX11 cX11_grow 14 (some .int) false none) 32 [dm_no, dm_no, dm_goto 38, dm_no, dm_no, dm_push 38 (.int 1), dm_ist 40 5, dm_no, dm_lld 41 3, dm_push 44 (.long 2), dm_no, dm_no, dm_lq 45 (fun x y => x / y), dm_lst 47 6, dm_no, dm_ald 48 0] := dr_c (dg_no) <| dr_c (dg_no) <| dr_c (dg_goto (by decide) dX11_grow_34) <| dr_c (dg_no) <| dr_c (dg_no) <| dr_c (dg_iconst (by decide) dX11_grow_37) <| dr_c (dg_istore (by decide) dX11_grow_38) <| dr_c (dg_no) <| dr_c (dg_lload_n (k := 3) rfl dX11_grow_40) <| dr_c (dg_ldc2 wd_931 dX11_grow_41) <| dr_c (dg_no) <| dr_c (dg_no) <| dr_c (dg_ldiv dX11_grow_44) <| dr_c (dg_lstore (by decide) dX11_grow_45) <| dr_c (dg_no) <| dr_c (dg_aload_n (k := 0) rfl dX11_grow_47) <| dr_n
theorem tr_159_3 : dm_AllR (dm_Good dm_tb RX11 cX11_grow 14 (some .int) false none) 48 [dm_lld 49 1, dm_lld 51 6, dm_no, dm_inv 54 152 2 8, dm_no, dm_no, dm_if_ne 57 71, dm_no, dm_no, dm_ild 59 5, dm_no, dm_ald 60 0, dm_lld 61 1, dm_lld 63 6, dm_no, dm_ll 64 (fun x y => x + y)] := dr_c (dg_lload_n (k := 1) rfl dX11_grow_48) <| dr_c (dg_lload dX11_grow_49) <| dr_c (dg_no) <| dr_c (dg_inv dX11_grow_51 mo_152 rfl rfl wd_927 wd_929 wd_18 pd_152) <| dr_c (dg_no) <| dr_c (dg_no) <| dr_c (dg_if_ne (by decide) dX11_grow_54) <| dr_c (dg_no) <| dr_c (dg_no) <| dr_c (dg_iload dX11_grow_57) <| dr_c (dg_no) <| dr_c (dg_aload_n (k := 0) rfl dX11_grow_59) <| dr_c (dg_lload_n (k := 1) rfl dX11_grow_60) <| dr_c (dg_lload dX11_grow_61) <| dr_c (dg_no) <| dr_c (dg_ladd dX11_grow_63) <| dr_n
theorem tr_159_4 : dm_AllR (dm_Good dm_tb RX11 cX11_grow 14 (some .int) false none) 64 [dm_lld 66 6, dm_no, dm_inv 69 159 2 8, dm_no, dm_no, dm_ii 70 (fun x y => x + y), dm_ret .int, dm_ald 72 0, dm_lld 73 1, dm_lld 75 6, dm_no, dm_inv 78 159 2 8, dm_no, dm_no, dm_ist 80 8, dm_no] := dr_c (dg_lload dX11_grow_64) <| dr_c (dg_no) <| dr_c (dg_inv dX11_grow_66 mo_159 rfl rfl wd_1230 wd_1232 wd_39 pd_159) <| dr_c (dg_no) <| dr_c (dg_no) <| dr_c (dg_iadd dX11_grow_69) <| dr_c (dg_ret dX11_grow_70) <| dr_c (dg_aload_n (k := 0) rfl dX11_grow_71) <| dr_c (dg_lload_n (k := 1) rfl dX11_grow_72) <| dr_c (dg_lload dX11_grow_73) <| dr_c (dg_no) <| dr_c (dg_inv dX11_grow_75 mo_159 rfl rfl wd_1230 wd_1232 wd_39 pd_159) <| dr_c (dg_no) <| dr_c (dg_no) <| dr_c (dg_istore (by decide) dX11_grow_78) <| dr_c (dg_no) <| dr_n
theorem tr_159_5 : dm_AllR (dm_Good dm_tb RX11 cX11_grow 14 (some .int) false none) 80 [dm_ald 81 0, dm_lld 82 1, dm_lld 84 6, dm_no, dm_ll 85 (fun x y => x + y), dm_lld 87 6, dm_no, dm_inv 90 152 2 8, dm_no, dm_no, dm_if_ne 93 99, dm_no, dm_no, dm_ild 95 5, dm_no, dm_ild 97 8] := dr_c (dg_aload_n (k := 0) rfl dX11_grow_80) <| dr_c (dg_lload_n (k := 1) rfl dX11_grow_81) <| dr_c (dg_lload dX11_grow_82) <| dr_c (dg_no) <| dr_c (dg_ladd dX11_grow_84) <| dr_c (dg_lload dX11_grow_85) <| dr_c (dg_no) <| dr_c (dg_inv dX11_grow_87 mo_152 rfl rfl wd_927 wd_929 wd_18 pd_152) <| dr_c (dg_no) <| dr_c (dg_no) <| dr_c (dg_if_ne (by decide) dX11_grow_90) <| dr_c (dg_no) <| dr_c (dg_no) <| dr_c (dg_iload dX11_grow_93) <| dr_c (dg_no) <| dr_c (dg_iload dX11_grow_95) <| dr_n
theorem tr_159_6 : dm_AllR (dm_Good dm_tb RX11 cX11_grow 14 (some .int) false none) 96 [dm_no, dm_ii 98 (fun x y => x + y), dm_ret .int, dm_ald 100 0, dm_getf 103 8 60, dm_no, dm_no, dm_lst 105 9, dm_no, dm_ald 106 0, dm_getf 109 8 61, dm_no, dm_no, dm_lst 111 11, dm_no, dm_ald 112 0] := dr_c (dg_no) <| dr_c (dg_iadd dX11_grow_97) <| dr_c (dg_ret dX11_grow_98) <| dr_c (dg_aload_n (k := 0) rfl dX11_grow_99) <| dr_c (dg_getf (T := TX11) (C := RX11) (N := 68) dX11_grow_100 rfl (by decide) iw_X11 wd_1008) <| dr_c (dg_no) <| dr_c (dg_no) <| dr_c (dg_lstore (by decide) dX11_grow_103) <| dr_c (dg_no) <| dr_c (dg_aload_n (k := 0) rfl dX11_grow_105) <| dr_c (dg_getf (T := TX11) (C := RX11) (N := 68) dX11_grow_106 rfl (by decide) iw_X11 wd_1009) <| dr_c (dg_no) <| dr_c (dg_no) <| dr_c (dg_lstore (by decide) dX11_grow_109) <| dr_c (dg_no) <| dr_c (dg_aload_n (k := 0) rfl dX11_grow_111) <| dr_n
theorem tr_159_7 : dm_AllR (dm_Good dm_tb RX11 cX11_grow 14 (some .int) false none) 112 [dm_lld 113 1, dm_lld 115 6, dm_no, dm_ll 116 (fun x y => x + y), dm_lld 118 6, dm_no, dm_inv 121 159 2 8, dm_no, dm_no, dm_ist 123 13, dm_no, dm_ild 125 8, dm_no, dm_ild 127 13, dm_no, dm_ic_lt 130 136] := dr_c (dg_lload_n (k := 1) rfl dX11_grow_112) <| dr_c (dg_lload dX11_grow_113) <| dr_c (dg_no) <| dr_c (dg_ladd dX11_grow_115) <| dr_c (dg_lload dX11_grow_116) <| dr_c (dg_no) <| dr_c (dg_inv dX11_grow_118 mo_159 rfl rfl wd_1230 wd_1232 wd_39 pd_159) <| dr_c (dg_no) <| dr_c (dg_no) <| dr_c (dg_istore (by decide) dX11_grow_121) <| dr_c (dg_no) <| dr_c (dg_iload dX11_grow_123) <| dr_c (dg_no) <| dr_c (dg_iload dX11_grow_125) <| dr_c (dg_no) <| dr_c (dg_ic_lt (by decide) dX11_grow_127) <| dr_n
theorem tr_159_8 : dm_AllR (dm_Good dm_tb RX11 cX11_grow 14 (some .int) false none) 128 [dm_no, dm_no, dm_ild 132 5, dm_no, dm_ild 134 13, dm_no, dm_ii 135 (fun x y => x + y), dm_ret .int, dm_ald 137 0, dm_lld 139 9, dm_no, dm_putf 142 8 60 .long, dm_no, dm_no, dm_ald 143 0, dm_lld 145 11] := dr_c (dg_no) <| dr_c (dg_no) <| dr_c (dg_iload dX11_grow_130) <| dr_c (dg_no) <| dr_c (dg_iload dX11_grow_132) <| dr_c (dg_no) <| dr_c (dg_iadd dX11_grow_134) <| dr_c (dg_ret dX11_grow_135) <| dr_c (dg_aload_n (k := 0) rfl dX11_grow_136) <| dr_c (dg_lload dX11_grow_137) <| dr_c (dg_no) <| dr_c (dg_putf (T := TX11) (C := RX11) (N := 68) dX11_grow_139 rfl (by decide) iw_X11 tyX11_ok nmX11 wd_1008 rfl rfl) <| dr_c (dg_no) <| dr_c (dg_no) <| dr_c (dg_aload_n (k := 0) rfl dX11_grow_142) <| dr_c (dg_lload dX11_grow_143) <| dr_n
theorem tr_159_9 : dm_AllR (dm_Good dm_tb RX11 cX11_grow 14 (some .int) false none) 144 [dm_no, dm_putf 148 8 61 .long, dm_no, dm_no, dm_ild 150 5, dm_no, dm_ild 152 8, dm_no, dm_ii 153 (fun x y => x + y), dm_ret .int] := dr_c (dg_no) <| dr_c (dg_putf (T := TX11) (C := RX11) (N := 68) dX11_grow_145 rfl (by decide) iw_X11 tyX11_ok nmX11 wd_1009 rfl rfl) <| dr_c (dg_no) <| dr_c (dg_no) <| dr_c (dg_iload dX11_grow_148) <| dr_c (dg_no) <| dr_c (dg_iload dX11_grow_150) <| dr_c (dg_no) <| dr_c (dg_iadd dX11_grow_152) <| dr_c (dg_ret dX11_grow_153) <| dr_n
theorem tk_159 : dm_AllC (dm_Good dm_tb RX11 cX11_grow 14 (some .int) false none) 0 cd_159 := dc_c (by decide) tr_159_0 <| dc_c (by decide) tr_159_1 <| dc_c (by decide) tr_159_2 <| dc_c (by decide) tr_159_3 <| dc_c (by decide) tr_159_4 <| dc_c (by decide) tr_159_5 <| dc_c (by decide) tr_159_6 <| dc_c (by decide) tr_159_7 <| dc_c (by decide) tr_159_8 <| dc_c (by decide) tr_159_9 <| dc_n
theorem dX11_happen_0 : decode cX11_happen 0 = .ok (.aload_n 0, 1) := by decide +kernel
theorem dX11_happen_1 : decode cX11_happen 1 = .ok (.getfield 180, 3) := by decide +kernel
theorem dX11_happen_4 : decode cX11_happen 4 = .ok (.istore_n 1, 1) := by decide +kernel
theorem dX11_happen_5 : decode cX11_happen 5 = .ok (.iconst 0, 1) := by decide +kernel
theorem dX11_happen_6 : decode cX11_happen 6 = .ok (.istore_n 2, 1) := by decide +kernel
theorem dX11_happen_7 : decode cX11_happen 7 = .ok (.iload_n 2, 1) := by decide +kernel
theorem dX11_happen_8 : decode cX11_happen 8 = .ok (.iload_n 1, 1) := by decide +kernel
theorem dX11_happen_9 : decode cX11_happen 9 = .ok (.if_icmp .ge 33, 3) := by decide +kernel
theorem dX11_happen_12 : decode cX11_happen 12 = .ok (.aload_n 0, 1) := by decide +kernel
theorem dX11_happen_13 : decode cX11_happen 13 = .ok (.getfield 156, 3) := by decide +kernel
theorem dX11_happen_16 : decode cX11_happen 16 = .ok (.iload_n 2, 1) := by decide +kernel
theorem dX11_happen_17 : decode cX11_happen 17 = .ok (.aload_n 0, 1) := by decide +kernel
theorem dX11_happen_18 : decode cX11_happen 18 = .ok (.getfield 83, 3) := by decide +kernel
theorem dX11_happen_21 : decode cX11_happen 21 = .ok (.iload_n 2, 1) := by decide +kernel
theorem dX11_happen_22 : decode cX11_happen 22 = .ok (.laload, 1) := by decide +kernel
theorem dX11_happen_23 : decode cX11_happen 23 = .ok (.lastore, 1) := by decide +kernel
theorem dX11_happen_24 : decode cX11_happen 24 = .ok (.aload_n 0, 1) := by decide +kernel
theorem dX11_happen_25 : decode cX11_happen 25 = .ok (.getfield 159, 3) := by decide +kernel
theorem dX11_happen_28 : decode cX11_happen 28 = .ok (.iload_n 2, 1) := by decide +kernel
theorem dX11_happen_29 : decode cX11_happen 29 = .ok (.aload_n 0, 1) := by decide +kernel
theorem dX11_happen_30 : decode cX11_happen 30 = .ok (.getfield 86, 3) := by decide +kernel
theorem dX11_happen_33 : decode cX11_happen 33 = .ok (.iload_n 2, 1) := by decide +kernel
theorem dX11_happen_34 : decode cX11_happen 34 = .ok (.iaload, 1) := by decide +kernel
theorem dX11_happen_35 : decode cX11_happen 35 = .ok (.iastore, 1) := by decide +kernel
theorem dX11_happen_36 : decode cX11_happen 36 = .ok (.iinc 2 1, 3) := by decide +kernel
theorem dX11_happen_39 : decode cX11_happen 39 = .ok (.goto (-32), 3) := by decide +kernel
theorem dX11_happen_42 : decode cX11_happen 42 = .ok (.aload_n 0, 1) := by decide +kernel
theorem dX11_happen_43 : decode cX11_happen 43 = .ok (.lconst 0, 1) := by decide +kernel
theorem dX11_happen_44 : decode cX11_happen 44 = .ok (.ldc2_w 186, 3) := by decide +kernel
theorem dX11_happen_47 : decode cX11_happen 47 = .ok (.invokevirtual 263, 3) := by decide +kernel
theorem dX11_happen_50 : decode cX11_happen 50 = .ok (.aload_n 0, 1) := by decide +kernel
theorem dX11_happen_51 : decode cX11_happen 51 = .ok (.getfield 180, 3) := by decide +kernel
theorem dX11_happen_54 : decode cX11_happen 54 = .ok (.iload_n 1, 1) := by decide +kernel
theorem dX11_happen_55 : decode cX11_happen 55 = .ok (.if_icmp .ne 7, 3) := by decide +kernel
theorem dX11_happen_58 : decode cX11_happen 58 = .ok (.iconst 1, 1) := by decide +kernel
theorem dX11_happen_59 : decode cX11_happen 59 = .ok (.goto 4, 3) := by decide +kernel
theorem dX11_happen_62 : decode cX11_happen 62 = .ok (.iconst 0, 1) := by decide +kernel
theorem dX11_happen_63 : decode cX11_happen 63 = .ok (.istore_n 2, 1) := by decide +kernel
theorem dX11_happen_64 : decode cX11_happen 64 = .ok (.iconst 0, 1) := by decide +kernel
theorem dX11_happen_65 : decode cX11_happen 65 = .ok (.istore_n 3, 1) := by decide +kernel
theorem dX11_happen_66 : decode cX11_happen 66 = .ok (.iload_n 2, 1) := by decide +kernel
theorem dX11_happen_67 : decode cX11_happen 67 = .ok (.ifCond .eq 51, 3) := by decide +kernel
theorem dX11_happen_70 : decode cX11_happen 70 = .ok (.iload_n 3, 1) := by decide +kernel
theorem dX11_happen_71 : decode cX11_happen 71 = .ok (.iload_n 1, 1) := by decide +kernel
theorem dX11_happen_72 : decode cX11_happen 72 = .ok (.if_icmp .ge 46, 3) := by decide +kernel
theorem dX11_happen_75 : decode cX11_happen 75 = .ok (.aload_n 0, 1) := by decide +kernel
theorem dX11_happen_76 : decode cX11_happen 76 = .ok (.getfield 156, 3) := by decide +kernel
theorem dX11_happen_79 : decode cX11_happen 79 = .ok (.iload_n 3, 1) := by decide +kernel
theorem dX11_happen_80 : decode cX11_happen 80 = .ok (.laload, 1) := by decide +kernel
theorem dX11_happen_81 : decode cX11_happen 81 = .ok (.aload_n 0, 1) := by decide +kernel
theorem dX11_happen_82 : decode cX11_happen 82 = .ok (.getfield 83, 3) := by decide +kernel
theorem dX11_happen_85 : decode cX11_happen 85 = .ok (.iload_n 3, 1) := by decide +kernel
theorem dX11_happen_86 : decode cX11_happen 86 = .ok (.laload, 1) := by decide +kernel
theorem dX11_happen_87 : decode cX11_happen 87 = .ok (.lcmp, 1) := by decide +kernel
theorem dX11_happen_88 : decode cX11_happen 88 = .ok (.ifCond .ne 22, 3) := by decide +kernel
theorem dX11_happen_91 : decode cX11_happen 91 = .ok (.aload_n 0, 1) := by decide +kernel
theorem dX11_happen_92 : decode cX11_happen 92 = .ok (.getfield 159, 3) := by decide +kernel
theorem dX11_happen_95 : decode cX11_happen 95 = .ok (.iload_n 3, 1) := by decide +kernel
theorem dX11_happen_96 : decode cX11_happen 96 = .ok (.iaload, 1) := by decide +kernel
theorem dX11_happen_97 : decode cX11_happen 97 = .ok (.aload_n 0, 1) := by decide +kernel
theorem dX11_happen_98 : decode cX11_happen 98 = .ok (.getfield 86, 3) := by decide +kernel
theorem dX11_happen_101 : decode cX11_happen 101 = .ok (.iload_n 3, 1) := by decide +kernel
theorem dX11_happen_102 : decode cX11_happen 102 = .ok (.iaload, 1) := by decide +kernel
theorem dX11_happen_103 : decode cX11_happen 103 = .ok (.if_icmp .ne 7, 3) := by decide +kernel
theorem dX11_happen_106 : decode cX11_happen 106 = .ok (.iconst 1, 1) := by decide +kernel
theorem dX11_happen_107 : decode cX11_happen 107 = .ok (.goto 4, 3) := by decide +kernel
theorem dX11_happen_110 : decode cX11_happen 110 = .ok (.iconst 0, 1) := by decide +kernel
theorem dX11_happen_111 : decode cX11_happen 111 = .ok (.istore_n 2, 1) := by decide +kernel
theorem dX11_happen_112 : decode cX11_happen 112 = .ok (.iinc 3 1, 3) := by decide +kernel
theorem dX11_happen_115 : decode cX11_happen 115 = .ok (.goto (-49), 3) := by decide +kernel
theorem dX11_happen_118 : decode cX11_happen 118 = .ok (.iload_n 2, 1) := by decide +kernel
theorem dX11_happen_119 : decode cX11_happen 119 = .ok (.ifCond .ne 4, 3) := by decide +kernel
theorem dX11_happen_122 : decode cX11_happen 122 = .ok (.return_, 1) := by decide +kernel
theorem dX11_happen_123 : decode cX11_happen 123 = .ok (.aload_n 0, 1) := by decide +kernel
theorem dX11_happen_124 : decode cX11_happen 124 = .ok (.lconst 0, 1) := by decide +kernel
theorem dX11_happen_125 : decode cX11_happen 125 = .ok (.ldc2_w 186, 3) := by decide +kernel
theorem dX11_happen_128 : decode cX11_happen 128 = .ok (.invokevirtual 277, 3) := by decide +kernel
theorem dX11_happen_131 : decode cX11_happen 131 = .ok (.pop, 1) := by decide +kernel
theorem dX11_happen_132 : decode cX11_happen 132 = .ok (.aload_n 0, 1) := by decide +kernel
theorem dX11_happen_133 : decode cX11_happen 133 = .ok (.aload_n 0, 1) := by decide +kernel
theorem dX11_happen_134 : decode cX11_happen 134 = .ok (.getfield 270, 3) := by decide +kernel
theorem dX11_happen_137 : decode cX11_happen 137 = .ok (.aload_n 0, 1) := by decide +kernel
theorem dX11_happen_138 : decode cX11_happen 138 = .ok (.getfield 274, 3) := by decide +kernel
theorem dX11_happen_141 : decode cX11_happen 141 = .ok (.iconst 1, 1) := by decide +kernel
theorem dX11_happen_142 : decode cX11_happen 142 = .ok (.iconst 1, 1) := by decide +kernel
theorem dX11_happen_143 : decode cX11_happen 143 = .ok (.invokevirtual 259, 3) := by decide +kernel
theorem dX11_happen_146 : decode cX11_happen 146 = .ok (.return_, 1) := by decide +kernel
def cd_160 : dm_Code := [[dm_ald 1 0, dm_getf 4 8 29, dm_no, dm_no, dm_ist 5 1, dm_push 6 (.int 0), dm_ist 7 2, dm_ild 8 2, dm_ild 9 1, dm_ic_ge 12 42, dm_no, dm_no, dm_ald 13 0, dm_getf 16 8 62, dm_no, dm_no],
  [dm_ild 17 2, dm_ald 18 0, dm_getf 21 8 27, dm_no, dm_no, dm_ild 22 2, dm_lald 23, dm_last 24, dm_ald 25 0, dm_getf 28 8 63, dm_no, dm_no, dm_ild 29 2, dm_ald 30 0, dm_getf 33 8 28, dm_no],
  [dm_no, dm_ild 34 2, dm_iald 35, dm_iast 36, dm_iinc 39 2 1, dm_no, dm_no, dm_goto 7, dm_no, dm_no, dm_ald 43 0, dm_push 44 (.long 0), dm_push 47 (.long 1152921504606846976), dm_no, dm_no, dm_inv 50 158 2 8],
  [dm_no, dm_no, dm_ald 51 0, dm_getf 54 8 29, dm_no, dm_no, dm_ild 55 1, dm_ic_ne 58 62, dm_no, dm_no, dm_push 59 (.int 1), dm_goto 63, dm_no, dm_no, dm_push 63 (.int 0), dm_ist 64 2],
  [dm_push 65 (.int 0), dm_ist 66 3, dm_ild 67 2, dm_if_eq 70 118, dm_no, dm_no, dm_ild 71 3, dm_ild 72 1, dm_ic_ge 75 118, dm_no, dm_no, dm_ald 76 0, dm_getf 79 8 62, dm_no, dm_no, dm_ild 80 3],
  [dm_lald 81, dm_ald 82 0, dm_getf 85 8 27, dm_no, dm_no, dm_ild 86 3, dm_lald 87, dm_lc 88, dm_if_ne 91 110, dm_no, dm_no, dm_ald 92 0, dm_getf 95 8 63, dm_no, dm_no, dm_ild 96 3],
  [dm_iald 97, dm_ald 98 0, dm_getf 101 8 28, dm_no, dm_no, dm_ild 102 3, dm_iald 103, dm_ic_ne 106 110, dm_no, dm_no, dm_push 107 (.int 1), dm_goto 111, dm_no, dm_no, dm_push 111 (.int 0), dm_ist 112 2],
  [dm_iinc 115 3 1, dm_no, dm_no, dm_goto 66, dm_no, dm_no, dm_ild 119 2, dm_if_ne 122 123, dm_no, dm_no, dm_vret, dm_ald 124 0, dm_push 125 (.long 0), dm_push 128 (.long 1152921504606846976), dm_no, dm_no],
  [dm_inv 131 159 2 8, dm_no, dm_no, dm_pop 132, dm_ald 133 0, dm_ald 134 0, dm_getf 137 8 60, dm_no, dm_no, dm_ald 138 0, dm_getf 141 8 61, dm_no, dm_no, dm_push 142 (.int 1), dm_push 143 (.int 1), dm_inv 146 150 4 8],
  [dm_no, dm_no, dm_vret]]
theorem tr_160_0 : dm_AllR (dm_Good dm_tb RX11 cX11_happen 4 none false none) 0 [dm_ald 1 0, dm_getf 4 8 29, dm_no, dm_no, dm_ist 5 1, dm_push 6 (.int 0), dm_ist 7 2, dm_ild 8 2, dm_ild 9 1, dm_ic_ge 12 42, dm_no, dm_no, dm_ald 13 0, dm_getf 16 8 62, dm_no, dm_no] := dr_c (dg_aload_n (k := 0) rfl dX11_happen_0) <| dr_c (dg_getf (T := TX11) (C := RX11) (N := 68) dX11_happen_1 rfl (by decide) iw_X11 wd_977) <| dr_c (dg_no) <| dr_c (dg_no) <| dr_c (dg_istore_n (k := 1) rfl (by decide) dX11_happen_4) <| dr_c (dg_iconst (by decide) dX11_happen_5) <| dr_c (dg_istore_n (k := 2) rfl (by decide) dX11_happen_6) <| dr_c (dg_iload_n (k := 2) rfl dX11_happen_7) <| dr_c (dg_iload_n (k := 1) rfl dX11_happen_8) <| dr_c (dg_ic_ge (by decide) dX11_happen_9) <| dr_c (dg_no) <| dr_c (dg_no) <| dr_c (dg_aload_n (k := 0) rfl dX11_happen_12) <| dr_c (dg_getf (T := TX11) (C := RX11) (N := 68) dX11_happen_13 rfl (by decide) iw_X11 wd_1010) <| dr_c (dg_no) <| dr_c (dg_no) <| dr_n
theorem tr_160_1 : dm_AllR (dm_Good dm_tb RX11 cX11_happen 4 none false none) 16 [dm_ild 17 2, dm_ald 18 0, dm_getf 21 8 27, dm_no, dm_no, dm_ild 22 2, dm_lald 23, dm_last 24, dm_ald 25 0, dm_getf 28 8 63, dm_no, dm_no, dm_ild 29 2, dm_ald 30 0, dm_getf 33 8 28, dm_no] := dr_c (dg_iload_n (k := 2) rfl dX11_happen_16) <| dr_c (dg_aload_n (k := 0) rfl dX11_happen_17) <| dr_c (dg_getf (T := TX11) (C := RX11) (N := 68) dX11_happen_18 rfl (by decide) iw_X11 wd_975) <| dr_c (dg_no) <| dr_c (dg_no) <| dr_c (dg_iload_n (k := 2) rfl dX11_happen_21) <| dr_c (dg_lald dX11_happen_22) <| dr_c (dg_last dX11_happen_23) <| dr_c (dg_aload_n (k := 0) rfl dX11_happen_24) <| dr_c (dg_getf (T := TX11) (C := RX11) (N := 68) dX11_happen_25 rfl (by decide) iw_X11 wd_1011) <| dr_c (dg_no) <| dr_c (dg_no) <| dr_c (dg_iload_n (k := 2) rfl dX11_happen_28) <| dr_c (dg_aload_n (k := 0) rfl dX11_happen_29) <| dr_c (dg_getf (T := TX11) (C := RX11) (N := 68) dX11_happen_30 rfl (by decide) iw_X11 wd_976) <| dr_c (dg_no) <| dr_n
theorem tr_160_2 : dm_AllR (dm_Good dm_tb RX11 cX11_happen 4 none false none) 32 [dm_no, dm_ild 34 2, dm_iald 35, dm_iast 36, dm_iinc 39 2 1, dm_no, dm_no, dm_goto 7, dm_no, dm_no, dm_ald 43 0, dm_push 44 (.long 0), dm_push 47 (.long 1152921504606846976), dm_no, dm_no, dm_inv 50 158 2 8] := dr_c (dg_no) <| dr_c (dg_iload_n (k := 2) rfl dX11_happen_33) <| dr_c (dg_iald dX11_happen_34) <| dr_c (dg_iast dX11_happen_35) <| dr_c (dg_iinc (by decide) (by decide) dX11_happen_36) <| dr_c (dg_no) <| dr_c (dg_no) <| dr_c (dg_goto (by decide) dX11_happen_39) <| dr_c (dg_no) <| dr_c (dg_no) <| dr_c (dg_aload_n (k := 0) rfl dX11_happen_42) <| dr_c (dg_lconst (by decide) dX11_happen_43) <| dr_c (dg_ldc2 wd_918 dX11_happen_44) <| dr_c (dg_no) <| dr_c (dg_no) <| dr_c (dg_inv dX11_happen_47 mo_158 rfl rfl wd_1205 wd_1207 wd_33 pd_158) <| dr_n
theorem tr_160_3 : dm_AllR (dm_Good dm_tb RX11 cX11_happen 4 none false none) 48 [dm_no, dm_no, dm_ald 51 0, dm_getf 54 8 29, dm_no, dm_no, dm_ild 55 1, dm_ic_ne 58 62, dm_no, dm_no, dm_push 59 (.int 1), dm_goto 63, dm_no, dm_no, dm_push 63 (.int 0), dm_ist 64 2] := dr_c (dg_no) <| dr_c (dg_no) <| dr_c (dg_aload_n (k := 0) rfl dX11_happen_50) <| dr_c (dg_getf (T := TX11) (C := RX11) (N := 68) dX11_happen_51 rfl (by decide) iw_X11 wd_977) <| dr_c (dg_no) <| dr_c (dg_no) <| dr_c (dg_iload_n (k := 1) rfl dX11_happen_54) <| dr_c (dg_ic_ne (by decide) dX11_happen_55) <| dr_c (dg_no) <| dr_c (dg_no) <| dr_c (dg_iconst (by decide) dX11_happen_58) <| dr_c (dg_goto (by decide) dX11_happen_59) <| dr_c (dg_no) <| dr_c (dg_no) <| dr_c (dg_iconst (by decide) dX11_happen_62) <| dr_c (dg_istore_n (k := 2) rfl (by decide) dX11_happen_63) <| dr_n
theorem tr_160_4 : dm_AllR (dm_Good dm_tb RX11 cX11_happen 4 none false none) 64 [dm_push 65 (.int 0), dm_ist 66 3, dm_ild 67 2, dm_if_eq 70 118, dm_no, dm_no, dm_ild 71 3, dm_ild 72 1, dm_ic_ge 75 118, dm_no, dm_no, dm_ald 76 0, dm_getf 79 8 62, dm_no, dm_no, dm_ild 80 3] := dr_c (dg_iconst (by decide) dX11_happen_64) <| dr_c (dg_istore_n (k := 3) rfl (by decide) dX11_happen_65) <| dr_c (dg_iload_n (k := 2) rfl dX11_happen_66) <| dr_c (dg_if_eq (by decide) dX11_happen_67) <| dr_c (dg_no) <| dr_c (dg_no) <| dr_c (dg_iload_n (k := 3) rfl dX11_happen_70) <| dr_c (dg_iload_n (k := 1) rfl dX11_happen_71) <| dr_c (dg_ic_ge (by decide) dX11_happen_72) <| dr_c (dg_no) <| dr_c (dg_no) <| dr_c (dg_aload_n (k := 0) rfl dX11_happen_75) <| dr_c (dg_getf (T := TX11) (C := RX11) (N := 68) dX11_happen_76 rfl (by decide) iw_X11 wd_1010) <| dr_c (dg_no) <| dr_c (dg_no) <| dr_c (dg_iload_n (k := 3) rfl dX11_happen_79) <| dr_n
theorem tr_160_5 : dm_AllR (dm_Good dm_tb RX11 cX11_happen 4 none false none) 80 [dm_lald 81, dm_ald 82 0, dm_getf 85 8 27, dm_no, dm_no, dm_ild 86 3, dm_lald 87, dm_lc 88, dm_if_ne 91 110, dm_no, dm_no, dm_ald 92 0, dm_getf 95 8 63, dm_no, dm_no, dm_ild 96 3] := dr_c (dg_lald dX11_happen_80) <| dr_c (dg_aload_n (k := 0) rfl dX11_happen_81) <| dr_c (dg_getf (T := TX11) (C := RX11) (N := 68) dX11_happen_82 rfl (by decide) iw_X11 wd_975) <| dr_c (dg_no) <| dr_c (dg_no) <| dr_c (dg_iload_n (k := 3) rfl dX11_happen_85) <| dr_c (dg_lald dX11_happen_86) <| dr_c (dg_lcmp dX11_happen_87) <| dr_c (dg_if_ne (by decide) dX11_happen_88) <| dr_c (dg_no) <| dr_c (dg_no) <| dr_c (dg_aload_n (k := 0) rfl dX11_happen_91) <| dr_c (dg_getf (T := TX11) (C := RX11) (N := 68) dX11_happen_92 rfl (by decide) iw_X11 wd_1011) <| dr_c (dg_no) <| dr_c (dg_no) <| dr_c (dg_iload_n (k := 3) rfl dX11_happen_95) <| dr_n
theorem tr_160_6 : dm_AllR (dm_Good dm_tb RX11 cX11_happen 4 none false none) 96 [dm_iald 97, dm_ald 98 0, dm_getf 101 8 28, dm_no, dm_no, dm_ild 102 3, dm_iald 103, dm_ic_ne 106 110, dm_no, dm_no, dm_push 107 (.int 1), dm_goto 111, dm_no, dm_no, dm_push 111 (.int 0), dm_ist 112 2] := dr_c (dg_iald dX11_happen_96) <| dr_c (dg_aload_n (k := 0) rfl dX11_happen_97) <| dr_c (dg_getf (T := TX11) (C := RX11) (N := 68) dX11_happen_98 rfl (by decide) iw_X11 wd_976) <| dr_c (dg_no) <| dr_c (dg_no) <| dr_c (dg_iload_n (k := 3) rfl dX11_happen_101) <| dr_c (dg_iald dX11_happen_102) <| dr_c (dg_ic_ne (by decide) dX11_happen_103) <| dr_c (dg_no) <| dr_c (dg_no) <| dr_c (dg_iconst (by decide) dX11_happen_106) <| dr_c (dg_goto (by decide) dX11_happen_107) <| dr_c (dg_no) <| dr_c (dg_no) <| dr_c (dg_iconst (by decide) dX11_happen_110) <| dr_c (dg_istore_n (k := 2) rfl (by decide) dX11_happen_111) <| dr_n
theorem tr_160_7 : dm_AllR (dm_Good dm_tb RX11 cX11_happen 4 none false none) 112 [dm_iinc 115 3 1, dm_no, dm_no, dm_goto 66, dm_no, dm_no, dm_ild 119 2, dm_if_ne 122 123, dm_no, dm_no, dm_vret, dm_ald 124 0, dm_push 125 (.long 0), dm_push 128 (.long 1152921504606846976), dm_no, dm_no] := dr_c (dg_iinc (by decide) (by decide) dX11_happen_112) <| dr_c (dg_no) <| dr_c (dg_no) <| dr_c (dg_goto (by decide) dX11_happen_115) <| dr_c (dg_no) <| dr_c (dg_no) <| dr_c (dg_iload_n (k := 2) rfl dX11_happen_118) <| dr_c (dg_if_ne (by decide) dX11_happen_119) <| dr_c (dg_no) <| dr_c (dg_no) <| dr_c (dg_vret dX11_happen_122) <| dr_c (dg_aload_n (k := 0) rfl dX11_happen_123) <| dr_c (dg_lconst (by decide) dX11_happen_124) <| dr_c (dg_ldc2 wd_918 dX11_happen_125) <| dr_c (dg_no) <| dr_c (dg_no) <| dr_n
theorem tr_160_8 : dm_AllR (dm_Good dm_tb RX11 cX11_happen 4 none false none) 128 [dm_inv 131 159 2 8, dm_no, dm_no, dm_pop 132, dm_ald 133 0, dm_ald 134 0, dm_getf 137 8 60, dm_no, dm_no, dm_ald 138 0, dm_getf 141 8 61, dm_no, dm_no, dm_push 142 (.int 1), dm_push 143 (.int 1), dm_inv 146 150 4 8] := dr_c (dg_inv dX11_happen_128 mo_159 rfl rfl wd_1230 wd_1232 wd_39 pd_159) <| dr_c (dg_no) <| dr_c (dg_no) <| dr_c (dg_pop dX11_happen_131) <| dr_c (dg_aload_n (k := 0) rfl dX11_happen_132) <| dr_c (dg_aload_n (k := 0) rfl dX11_happen_133) <| dr_c (dg_getf (T := TX11) (C := RX11) (N := 68) dX11_happen_134 rfl (by decide) iw_X11 wd_1008) <| dr_c (dg_no) <| dr_c (dg_no) <| dr_c (dg_aload_n (k := 0) rfl dX11_happen_137) <| dr_c (dg_getf (T := TX11) (C := RX11) (N := 68) dX11_happen_138 rfl (by decide) iw_X11 wd_1009) <| dr_c (dg_no) <| dr_c (dg_no) <| dr_c (dg_iconst (by decide) dX11_happen_141) <| dr_c (dg_iconst (by decide) dX11_happen_142) <| dr_c (dg_inv dX11_happen_143 mo_150 rfl rfl wd_1213 wd_1215 wd_35 pd_150) <| dr_n
theorem tr_160_9 : dm_AllR (dm_Good dm_tb RX11 cX11_happen 4 none false none) 144 [dm_no, dm_no, dm_vret] := dr_c (dg_no) <| dr_c (dg_no) <| dr_c (dg_vret dX11_happen_146) <| dr_n
theorem tk_160 : dm_AllC (dm_Good dm_tb RX11 cX11_happen 4 none false none) 0 cd_160 := dc_c (by decide) tr_160_0 <| dc_c (by decide) tr_160_1 <| dc_c (by decide) tr_160_2 <| dc_c (by decide) tr_160_3 <| dc_c (by decide) tr_160_4 <| dc_c (by decide) tr_160_5 <| dc_c (by decide) tr_160_6 <| dc_c (by decide) tr_160_7 <| dc_c (by decide) tr_160_8 <| dc_c (by decide) tr_160_9 <| dc_n
theorem dX11_mark_0 : decode cX11_mark 0 = .ok (.aload_n 0, 1) := by decide +kernel
theorem dX11_mark_1 : decode cX11_mark 1 = .ok (.getfield 56, 3) := by decide +kernel
theorem dX11_mark_4 : decode cX11_mark 4 = .ok (.bipush 16, 2) := by decide +kernel
theorem dX11_mark_6 : decode cX11_mark 6 = .ok (.iload_n 1, 1) := by decide +kernel
theorem dX11_mark_7 : decode cX11_mark 7 = .ok (.imul, 1) := by decide +kernel
theorem dX11_mark_8 : decode cX11_mark 8 = .ok (.aload_n 0, 1) := by decide +kernel
theorem dX11_mark_9 : decode cX11_mark 9 = .ok (.getfield 171, 3) := by decide +kernel
theorem dX11_mark_12 : decode cX11_mark 12 = .ok (.bipush 6, 2) := by decide +kernel
theorem dX11_mark_14 : decode cX11_mark 14 = .ok (.ishr, 1) := by decide +kernel
theorem dX11_mark_15 : decode cX11_mark 15 = .ok (.iadd, 1) := by decide +kernel
theorem dX11_mark_16 : decode cX11_mark 16 = .ok (.dup2, 1) := by decide +kernel
theorem dX11_mark_17 : decode cX11_mark 17 = .ok (.laload, 1) := by decide +kernel
theorem dX11_mark_18 : decode cX11_mark 18 = .ok (.lconst 1, 1) := by decide +kernel
theorem dX11_mark_19 : decode cX11_mark 19 = .ok (.aload_n 0, 1) := by decide +kernel
theorem dX11_mark_20 : decode cX11_mark 20 = .ok (.getfield 171, 3) := by decide +kernel
theorem dX11_mark_23 : decode cX11_mark 23 = .ok (.lshl, 1) := by decide +kernel
theorem dX11_mark_24 : decode cX11_mark 24 = .ok (.lor, 1) := by decide +kernel
theorem dX11_mark_25 : decode cX11_mark 25 = .ok (.lastore, 1) := by decide +kernel
theorem dX11_mark_26 : decode cX11_mark 26 = .ok (.aload_n 0, 1) := by decide +kernel
theorem dX11_mark_27 : decode cX11_mark 27 = .ok (.dup, 1) := by decide +kernel
theorem dX11_mark_28 : decode cX11_mark 28 = .ok (.getfield 171, 3) := by decide +kernel
theorem dX11_mark_31 : decode cX11_mark 31 = .ok (.iconst 1, 1) := by decide +kernel
theorem dX11_mark_32 : decode cX11_mark 32 = .ok (.iadd, 1) := by decide +kernel
theorem dX11_mark_33 : decode cX11_mark 33 = .ok (.putfield 171, 3) := by decide +kernel
theorem dX11_mark_36 : decode cX11_mark 36 = .ok (.return_, 1) := by decide +kernel
def cd_161 : dm_Code := [[dm_ald 1 0, dm_getf 4 8 14, dm_no, dm_no, dm_push 6 (.int 16), dm_no, dm_ild 7 1, dm_ii 8 (fun x y => x * y), dm_ald 9 0, dm_getf 12 8 16, dm_no, dm_no, dm_push 14 (.int 6), dm_no, dm_ii 15 (fun x y => x >>> (y &&& 31)), dm_ii 16 (fun x y => x + y)],
  [dm_dup2 17, dm_lald 18, dm_push 19 (.long 1), dm_ald 20 0, dm_getf 23 8 16, dm_no, dm_no, dm_li 24 (fun x y => x <<< (y.toInt64 &&& 63)), dm_ll 25 (fun x y => x ||| y), dm_last 26, dm_ald 27 0, dm_dup 28, dm_getf 31 8 16, dm_no, dm_no, dm_push 32 (.int 1)],
  [dm_ii 33 (fun x y => x + y), dm_putf 36 8 16 .int, dm_no, dm_no, dm_vret]]
theorem tr_161_0 : dm_AllR (dm_Good dm_tb RX11 cX11_mark 2 none false none) 0 [dm_ald 1 0, dm_getf 4 8 14, dm_no, dm_no, dm_push 6 (.int 16), dm_no, dm_ild 7 1, dm_ii 8 (fun x y => x * y), dm_ald 9 0, dm_getf 12 8 16, dm_no, dm_no, dm_push 14 (.int 6), dm_no, dm_ii 15 (fun x y => x >>> (y &&& 31)), dm_ii 16 (fun x y => x + y)] := dr_c (dg_aload_n (k := 0) rfl dX11_mark_0) <| dr_c (dg_getf (T := TX11) (C := RX11) (N := 68) dX11_mark_1 rfl (by decide) iw_X11 wd_962) <| dr_c (dg_no) <| dr_c (dg_no) <| dr_c (dg_bipush (by decide) dX11_mark_4) <| dr_c (dg_no) <| dr_c (dg_iload_n (k := 1) rfl dX11_mark_6) <| dr_c (dg_imul dX11_mark_7) <| dr_c (dg_aload_n (k := 0) rfl dX11_mark_8) <| dr_c (dg_getf (T := TX11) (C := RX11) (N := 68) dX11_mark_9 rfl (by decide) iw_X11 wd_964) <| dr_c (dg_no) <| dr_c (dg_no) <| dr_c (dg_bipush (by decide) dX11_mark_12) <| dr_c (dg_no) <| dr_c (dg_ishr dX11_mark_14) <| dr_c (dg_iadd dX11_mark_15) <| dr_n
theorem tr_161_1 : dm_AllR (dm_Good dm_tb RX11 cX11_mark 2 none false none) 16 [dm_dup2 17, dm_lald 18, dm_push 19 (.long 1), dm_ald 20 0, dm_getf 23 8 16, dm_no, dm_no, dm_li 24 (fun x y => x <<< (y.toInt64 &&& 63)), dm_ll 25 (fun x y => x ||| y), dm_last 26, dm_ald 27 0, dm_dup 28, dm_getf 31 8 16, dm_no, dm_no, dm_push 32 (.int 1)] := dr_c (dg_dup2 dX11_mark_16) <| dr_c (dg_lald dX11_mark_17) <| dr_c (dg_lconst (by decide) dX11_mark_18) <| dr_c (dg_aload_n (k := 0) rfl dX11_mark_19) <| dr_c (dg_getf (T := TX11) (C := RX11) (N := 68) dX11_mark_20 rfl (by decide) iw_X11 wd_964) <| dr_c (dg_no) <| dr_c (dg_no) <| dr_c (dg_lshl dX11_mark_23) <| dr_c (dg_lor dX11_mark_24) <| dr_c (dg_last dX11_mark_25) <| dr_c (dg_aload_n (k := 0) rfl dX11_mark_26) <| dr_c (dg_dup dX11_mark_27) <| dr_c (dg_getf (T := TX11) (C := RX11) (N := 68) dX11_mark_28 rfl (by decide) iw_X11 wd_964) <| dr_c (dg_no) <| dr_c (dg_no) <| dr_c (dg_iconst (by decide) dX11_mark_31) <| dr_n
theorem tr_161_2 : dm_AllR (dm_Good dm_tb RX11 cX11_mark 2 none false none) 32 [dm_ii 33 (fun x y => x + y), dm_putf 36 8 16 .int, dm_no, dm_no, dm_vret] := dr_c (dg_iadd dX11_mark_32) <| dr_c (dg_putf (T := TX11) (C := RX11) (N := 68) dX11_mark_33 rfl (by decide) iw_X11 tyX11_ok nmX11 wd_964 rfl rfl) <| dr_c (dg_no) <| dr_c (dg_no) <| dr_c (dg_vret dX11_mark_36) <| dr_n
theorem tk_161 : dm_AllC (dm_Good dm_tb RX11 cX11_mark 2 none false none) 0 cd_161 := dc_c (by decide) tr_161_0 <| dc_c (by decide) tr_161_1 <| dc_c (by decide) tr_161_2 <| dc_n
theorem dX11_event_0 : decode cX11_event 0 = .ok (.aload_n 0, 1) := by decide +kernel
theorem dX11_event_1 : decode cX11_event 1 = .ok (.iconst 0, 1) := by decide +kernel
theorem dX11_event_2 : decode cX11_event 2 = .ok (.putfield 165, 3) := by decide +kernel
theorem dX11_event_5 : decode cX11_event 5 = .ok (.aload_n 0, 1) := by decide +kernel
theorem dX11_event_6 : decode cX11_event 6 = .ok (.iload_n 1, 1) := by decide +kernel
theorem dX11_event_7 : decode cX11_event 7 = .ok (.invokevirtual 232, 3) := by decide +kernel
theorem dX11_event_10 : decode cX11_event 10 = .ok (.ifCond .eq 11, 3) := by decide +kernel
theorem dX11_event_13 : decode cX11_event 13 = .ok (.aload_n 0, 1) := by decide +kernel
theorem dX11_event_14 : decode cX11_event 14 = .ok (.iload_n 1, 1) := by decide +kernel
theorem dX11_event_15 : decode cX11_event 15 = .ok (.invokevirtual 229, 3) := by decide +kernel
theorem dX11_event_18 : decode cX11_event 18 = .ok (.ifCond .ne 5, 3) := by decide +kernel
theorem dX11_event_21 : decode cX11_event 21 = .ok (.iconst (-1), 1) := by decide +kernel
theorem dX11_event_22 : decode cX11_event 22 = .ok (.ireturn, 1) := by decide +kernel
theorem dX11_event_23 : decode cX11_event 23 = .ok (.aload_n 0, 1) := by decide +kernel
theorem dX11_event_24 : decode cX11_event 24 = .ok (.iload_n 1, 1) := by decide +kernel
theorem dX11_event_25 : decode cX11_event 25 = .ok (.invokevirtual 235, 3) := by decide +kernel
theorem dX11_event_28 : decode cX11_event 28 = .ok (.aload_n 0, 1) := by decide +kernel
theorem dX11_event_29 : decode cX11_event 29 = .ok (.iload_n 1, 1) := by decide +kernel
theorem dX11_event_30 : decode cX11_event 30 = .ok (.invokevirtual 250, 3) := by decide +kernel
theorem dX11_event_33 : decode cX11_event 33 = .ok (.aload_n 0, 1) := by decide +kernel
theorem dX11_event_34 : decode cX11_event 34 = .ok (.invokevirtual 280, 3) := by decide +kernel
theorem dX11_event_37 : decode cX11_event 37 = .ok (.aload_n 0, 1) := by decide +kernel
theorem dX11_event_38 : decode cX11_event 38 = .ok (.iconst 1, 1) := by decide +kernel
theorem dX11_event_39 : decode cX11_event 39 = .ok (.aload_n 0, 1) := by decide +kernel
theorem dX11_event_40 : decode cX11_event 40 = .ok (.getfield 50, 3) := by decide +kernel
theorem dX11_event_43 : decode cX11_event 43 = .ok (.iload_n 1, 1) := by decide +kernel
theorem dX11_event_44 : decode cX11_event 44 = .ok (.iaload, 1) := by decide +kernel
theorem dX11_event_45 : decode cX11_event 45 = .ok (.aload_n 0, 1) := by decide +kernel
theorem dX11_event_46 : decode cX11_event 46 = .ok (.lconst 0, 1) := by decide +kernel
theorem dX11_event_47 : decode cX11_event 47 = .ok (.ldc2_w 186, 3) := by decide +kernel
theorem dX11_event_50 : decode cX11_event 50 = .ok (.invokevirtual 200, 3) := by decide +kernel
theorem dX11_event_53 : decode cX11_event 53 = .ok (.iadd, 1) := by decide +kernel
theorem dX11_event_54 : decode cX11_event 54 = .ok (.invokevirtual 242, 3) := by decide +kernel
theorem dX11_event_57 : decode cX11_event 57 = .ok (.ifCond .ne 5, 3) := by decide +kernel
theorem dX11_event_60 : decode cX11_event 60 = .ok (.iconst (-1), 1) := by decide +kernel
theorem dX11_event_61 : decode cX11_event 61 = .ok (.ireturn, 1) := by decide +kernel
theorem dX11_event_62 : decode cX11_event 62 = .ok (.aload_n 0, 1) := by decide +kernel
theorem dX11_event_63 : decode cX11_event 63 = .ok (.iload_n 1, 1) := by decide +kernel
theorem dX11_event_64 : decode cX11_event 64 = .ok (.iconst (-1), 1) := by decide +kernel
theorem dX11_event_65 : decode cX11_event 65 = .ok (.invokevirtual 246, 3) := by decide +kernel
theorem dX11_event_68 : decode cX11_event 68 = .ok (.aload_n 0, 1) := by decide +kernel
theorem dX11_event_69 : decode cX11_event 69 = .ok (.iconst 2, 1) := by decide +kernel
theorem dX11_event_70 : decode cX11_event 70 = .ok (.iload_n 1, 1) := by decide +kernel
theorem dX11_event_71 : decode cX11_event 71 = .ok (.iconst (-1), 1) := by decide +kernel
theorem dX11_event_72 : decode cX11_event 72 = .ok (.invokevirtual 188, 3) := by decide +kernel
theorem dX11_event_75 : decode cX11_event 75 = .ok (.istore_n 2, 1) := by decide +kernel
theorem dX11_event_76 : decode cX11_event 76 = .ok (.aload_n 0, 1) := by decide +kernel
theorem dX11_event_77 : decode cX11_event 77 = .ok (.iload_n 2, 1) := by decide +kernel
theorem dX11_event_78 : decode cX11_event 78 = .ok (.invokevirtual 283, 3) := by decide +kernel
theorem dX11_event_81 : decode cX11_event 81 = .ok (.aload_n 0, 1) := by decide +kernel
theorem dX11_event_82 : decode cX11_event 82 = .ok (.iload_n 1, 1) := by decide +kernel
theorem dX11_event_83 : decode cX11_event 83 = .ok (.invokevirtual 253, 3) := by decide +kernel
theorem dX11_event_86 : decode cX11_event 86 = .ok (.iload_n 2, 1) := by decide +kernel
theorem dX11_event_87 : decode cX11_event 87 = .ok (.ireturn, 1) := by decide +kernel
def cd_162 : dm_Code := [[dm_ald 1 0, dm_push 2 (.int 0), dm_putf 5 8 40 .int, dm_no, dm_no, dm_ald 6 0, dm_ild 7 1, dm_inv 10 137 1 8, dm_no, dm_no, dm_if_eq 13 21, dm_no, dm_no, dm_ald 14 0, dm_ild 15 1, dm_inv 18 138 1 8],
  [dm_no, dm_no, dm_if_ne 21 23, dm_no, dm_no, dm_push 22 (.int (-1)), dm_ret .int, dm_ald 24 0, dm_ild 25 1, dm_inv 28 142 1 8, dm_no, dm_no, dm_ald 29 0, dm_ild 30 1, dm_inv 33 141 1 8, dm_no],
  [dm_no, dm_ald 34 0, dm_inv 37 160 0 8, dm_no, dm_no, dm_ald 38 0, dm_push 39 (.int 1), dm_ald 40 0, dm_getf 43 8 12, dm_no, dm_no, dm_ild 44 1, dm_iald 45, dm_ald 46 0, dm_push 47 (.long 0), dm_push 50 (.long 1152921504606846976)],
  [dm_no, dm_no, dm_inv 53 151 2 8, dm_no, dm_no, dm_ii 54 (fun x y => x + y), dm_inv 57 139 2 8, dm_no, dm_no, dm_if_ne 60 62, dm_no, dm_no, dm_push 61 (.int (-1)), dm_ret .int, dm_ald 63 0, dm_ild 64 1],
  [dm_push 65 (.int (-1)), dm_inv 68 155 2 8, dm_no, dm_no, dm_ald 69 0, dm_push 70 (.int 2), dm_ild 71 1, dm_push 72 (.int (-1)), dm_inv 75 140 3 8, dm_no, dm_no, dm_ist 76 2, dm_ald 77 0, dm_ild 78 2, dm_inv 81 161 1 8, dm_no],
  [dm_no, dm_ald 82 0, dm_ild 83 1, dm_inv 86 156 1 8, dm_no, dm_no, dm_ild 87 2, dm_ret .int]]
theorem tr_162_0 : dm_AllR (dm_Good dm_tb RX11 cX11_event 3 (some .int) false none) 0 [dm_ald 1 0, dm_push 2 (.int 0), dm_putf 5 8 40 .int, dm_no, dm_no, dm_ald 6 0, dm_ild 7 1, dm_inv 10 137 1 8, dm_no, dm_no, dm_if_eq 13 21, dm_no, dm_no, dm_ald 14 0, dm_ild 15 1, dm_inv 18 138 1 8] := dr_c (dg_aload_n (k := 0) rfl dX11_event_0) <| dr_c (dg_iconst (by decide) dX11_event_1) <| dr_c (dg_putf (T := TX11) (C := RX11) (N := 68) dX11_event_2 rfl (by decide) iw_X11 tyX11_ok nmX11 wd_988 rfl rfl) <| dr_c (dg_no) <| dr_c (dg_no) <| dr_c (dg_aload_n (k := 0) rfl dX11_event_5) <| dr_c (dg_iload_n (k := 1) rfl dX11_event_6) <| dr_c (dg_inv dX11_event_7 mo_137 rfl rfl wd_1161 wd_1163 wd_23 pd_137) <| dr_c (dg_no) <| dr_c (dg_no) <| dr_c (dg_if_eq (by decide) dX11_event_10) <| dr_c (dg_no) <| dr_c (dg_no) <| dr_c (dg_aload_n (k := 0) rfl dX11_event_13) <| dr_c (dg_iload_n (k := 1) rfl dX11_event_14) <| dr_c (dg_inv dX11_event_15 mo_138 rfl rfl wd_1169 wd_1171 wd_25 pd_138) <| dr_n
theorem tr_162_1 : dm_AllR (dm_Good dm_tb RX11 cX11_event 3 (some .int) false none) 16 [dm_no, dm_no, dm_if_ne 21 23, dm_no, dm_no, dm_push 22 (.int (-1)), dm_ret .int, dm_ald 24 0, dm_ild 25 1, dm_inv 28 142 1 8, dm_no, dm_no, dm_ald 29 0, dm_ild 30 1, dm_inv 33 141 1 8, dm_no] := dr_c (dg_no) <| dr_c (dg_no) <| dr_c (dg_if_ne (by decide) dX11_event_18) <| dr_c (dg_no) <| dr_c (dg_no) <| dr_c (dg_iconst (by decide) dX11_event_21) <| dr_c (dg_ret dX11_event_22) <| dr_c (dg_aload_n (k := 0) rfl dX11_event_23) <| dr_c (dg_iload_n (k := 1) rfl dX11_event_24) <| dr_c (dg_inv dX11_event_25 mo_142 rfl rfl wd_1173 wd_1175 wd_26 pd_142) <| dr_c (dg_no) <| dr_c (dg_no) <| dr_c (dg_aload_n (k := 0) rfl dX11_event_28) <| dr_c (dg_iload_n (k := 1) rfl dX11_event_29) <| dr_c (dg_inv dX11_event_30 mo_141 rfl rfl wd_1189 wd_1191 wd_30 pd_141) <| dr_c (dg_no) <| dr_n
theorem tr_162_2 : dm_AllR (dm_Good dm_tb RX11 cX11_event 3 (some .int) false none) 32 [dm_no, dm_ald 34 0, dm_inv 37 160 0 8, dm_no, dm_no, dm_ald 38 0, dm_push 39 (.int 1), dm_ald 40 0, dm_getf 43 8 12, dm_no, dm_no, dm_ild 44 1, dm_iald 45, dm_ald 46 0, dm_push 47 (.long 0), dm_push 50 (.long 1152921504606846976)] := dr_c (dg_no) <| dr_c (dg_aload_n (k := 0) rfl dX11_event_33) <| dr_c (dg_inv dX11_event_34 mo_160 rfl rfl wd_1201 wd_1203 wd_32 pd_160) <| dr_c (dg_no) <| dr_c (dg_no) <| dr_c (dg_aload_n (k := 0) rfl dX11_event_37) <| dr_c (dg_iconst (by decide) dX11_event_38) <| dr_c (dg_aload_n (k := 0) rfl dX11_event_39) <| dr_c (dg_getf (T := TX11) (C := RX11) (N := 68) dX11_event_40 rfl (by decide) iw_X11 wd_960) <| dr_c (dg_no) <| dr_c (dg_no) <| dr_c (dg_iload_n (k := 1) rfl dX11_event_43) <| dr_c (dg_iald dX11_event_44) <| dr_c (dg_aload_n (k := 0) rfl dX11_event_45) <| dr_c (dg_lconst (by decide) dX11_event_46) <| dr_c (dg_ldc2 wd_918 dX11_event_47) <| dr_n
theorem tr_162_3 : dm_AllR (dm_Good dm_tb RX11 cX11_event 3 (some .int) false none) 48 [dm_no, dm_no, dm_inv 53 151 2 8, dm_no, dm_no, dm_ii 54 (fun x y => x + y), dm_inv 57 139 2 8, dm_no, dm_no, dm_if_ne 60 62, dm_no, dm_no, dm_push 61 (.int (-1)), dm_ret .int, dm_ald 63 0, dm_ild 64 1] := dr_c (dg_no) <| dr_c (dg_no) <| dr_c (dg_inv dX11_event_50 mo_151 rfl rfl wd_932 wd_934 wd_19 pd_151) <| dr_c (dg_no) <| dr_c (dg_no) <| dr_c (dg_iadd dX11_event_53) <| dr_c (dg_inv dX11_event_54 mo_139 rfl rfl wd_1181 wd_1183 wd_28 pd_139) <| dr_c (dg_no) <| dr_c (dg_no) <| dr_c (dg_if_ne (by decide) dX11_event_57) <| dr_c (dg_no) <| dr_c (dg_no) <| dr_c (dg_iconst (by decide) dX11_event_60) <| dr_c (dg_ret dX11_event_61) <| dr_c (dg_aload_n (k := 0) rfl dX11_event_62) <| dr_c (dg_iload_n (k := 1) rfl dX11_event_63) <| dr_n
theorem tr_162_4 : dm_AllR (dm_Good dm_tb RX11 cX11_event 3 (some .int) false none) 64 [dm_push 65 (.int (-1)), dm_inv 68 155 2 8, dm_no, dm_no, dm_ald 69 0, dm_push 70 (.int 2), dm_ild 71 1, dm_push 72 (.int (-1)), dm_inv 75 140 3 8, dm_no, dm_no, dm_ist 76 2, dm_ald 77 0, dm_ild 78 2, dm_inv 81 161 1 8, dm_no] := dr_c (dg_iconst (by decide) dX11_event_64) <| dr_c (dg_inv dX11_event_65 mo_155 rfl rfl wd_1185 wd_1187 wd_29 pd_155) <| dr_c (dg_no) <| dr_c (dg_no) <| dr_c (dg_aload_n (k := 0) rfl dX11_event_68) <| dr_c (dg_iconst (by decide) dX11_event_69) <| dr_c (dg_iload_n (k := 1) rfl dX11_event_70) <| dr_c (dg_iconst (by decide) dX11_event_71) <| dr_c (dg_inv dX11_event_72 mo_140 rfl rfl wd_919 wd_921 wd_16 pd_140) <| dr_c (dg_no) <| dr_c (dg_no) <| dr_c (dg_istore_n (k := 2) rfl (by decide) dX11_event_75) <| dr_c (dg_aload_n (k := 0) rfl dX11_event_76) <| dr_c (dg_iload_n (k := 2) rfl dX11_event_77) <| dr_c (dg_inv dX11_event_78 mo_161 rfl rfl wd_1234 wd_1236 wd_40 pd_161) <| dr_c (dg_no) <| dr_n
theorem tr_162_5 : dm_AllR (dm_Good dm_tb RX11 cX11_event 3 (some .int) false none) 80 [dm_no, dm_ald 82 0, dm_ild 83 1, dm_inv 86 156 1 8, dm_no, dm_no, dm_ild 87 2, dm_ret .int] := dr_c (dg_no) <| dr_c (dg_aload_n (k := 0) rfl dX11_event_81) <| dr_c (dg_iload_n (k := 1) rfl dX11_event_82) <| dr_c (dg_inv dX11_event_83 mo_156 rfl rfl wd_1193 wd_1195 wd_31 pd_156) <| dr_c (dg_no) <| dr_c (dg_no) <| dr_c (dg_iload_n (k := 2) rfl dX11_event_86) <| dr_c (dg_ret dX11_event_87) <| dr_n
theorem tk_162 : dm_AllC (dm_Good dm_tb RX11 cX11_event 3 (some .int) false none) 0 cd_162 := dc_c (by decide) tr_162_0 <| dc_c (by decide) tr_162_1 <| dc_c (by decide) tr_162_2 <| dc_c (by decide) tr_162_3 <| dc_c (by decide) tr_162_4 <| dc_c (by decide) tr_162_5 <| dc_n
theorem dX11_together_0 : decode cX11_together 0 = .ok (.iconst 0, 1) := by decide +kernel
theorem dX11_together_1 : decode cX11_together 1 = .ok (.istore_n 3, 1) := by decide +kernel
theorem dX11_together_2 : decode cX11_together 2 = .ok (.aload_n 0, 1) := by decide +kernel
theorem dX11_together_3 : decode cX11_together 3 = .ok (.getfield 23, 3) := by decide +kernel
theorem dX11_together_6 : decode cX11_together 6 = .ok (.iload_n 1, 1) := by decide +kernel
theorem dX11_together_7 : decode cX11_together 7 = .ok (.iaload, 1) := by decide +kernel
theorem dX11_together_8 : decode cX11_together 8 = .ok (.istore 4, 2) := by decide +kernel
theorem dX11_together_10 : decode cX11_together 10 = .ok (.aload_n 0, 1) := by decide +kernel
theorem dX11_together_11 : decode cX11_together 11 = .ok (.getfield 23, 3) := by decide +kernel
theorem dX11_together_14 : decode cX11_together 14 = .ok (.iload_n 2, 1) := by decide +kernel
theorem dX11_together_15 : decode cX11_together 15 = .ok (.iaload, 1) := by decide +kernel
theorem dX11_together_16 : decode cX11_together 16 = .ok (.istore 5, 2) := by decide +kernel
theorem dX11_together_18 : decode cX11_together 18 = .ok (.lconst 0, 1) := by decide +kernel
theorem dX11_together_19 : decode cX11_together 19 = .ok (.lstore 6, 2) := by decide +kernel
theorem dX11_together_21 : decode cX11_together 21 = .ok (.lload 6, 2) := by decide +kernel
theorem dX11_together_23 : decode cX11_together 23 = .ok (.ldc2_w 186, 3) := by decide +kernel
theorem dX11_together_26 : decode cX11_together 26 = .ok (.lcmp, 1) := by decide +kernel
theorem dX11_together_27 : decode cX11_together 27 = .ok (.ifCond .ge 151, 3) := by decide +kernel
theorem dX11_together_30 : decode cX11_together 30 = .ok (.aload_n 0, 1) := by decide +kernel
theorem dX11_together_31 : decode cX11_together 31 = .ok (.iload_n 3, 1) := by decide +kernel
theorem dX11_together_32 : decode cX11_together 32 = .ok (.lload 6, 2) := by decide +kernel
theorem dX11_together_34 : decode cX11_together 34 = .ok (.aload_n 0, 1) := by decide +kernel
theorem dX11_together_35 : decode cX11_together 35 = .ok (.getfield 13, 3) := by decide +kernel
theorem dX11_together_38 : decode cX11_together 38 = .ok (.iload 4, 2) := by decide +kernel
theorem dX11_together_40 : decode cX11_together 40 = .ok (.iaload, 1) := by decide +kernel
theorem dX11_together_41 : decode cX11_together 41 = .ok (.aload_n 0, 1) := by decide +kernel
theorem dX11_together_42 : decode cX11_together 42 = .ok (.getfield 13, 3) := by decide +kernel
theorem dX11_together_45 : decode cX11_together 45 = .ok (.iload 5, 2) := by decide +kernel
theorem dX11_together_47 : decode cX11_together 47 = .ok (.iaload, 1) := by decide +kernel
theorem dX11_together_48 : decode cX11_together 48 = .ok (.if_icmp .le 13, 3) := by decide +kernel
theorem dX11_together_51 : decode cX11_together 51 = .ok (.aload_n 0, 1) := by decide +kernel
theorem dX11_together_52 : decode cX11_together 52 = .ok (.getfield 13, 3) := by decide +kernel
theorem dX11_together_55 : decode cX11_together 55 = .ok (.iload 4, 2) := by decide +kernel
theorem dX11_together_57 : decode cX11_together 57 = .ok (.iaload, 1) := by decide +kernel
theorem dX11_together_58 : decode cX11_together 58 = .ok (.goto 10, 3) := by decide +kernel
theorem dX11_together_61 : decode cX11_together 61 = .ok (.aload_n 0, 1) := by decide +kernel
theorem dX11_together_62 : decode cX11_together 62 = .ok (.getfield 13, 3) := by decide +kernel
theorem dX11_together_65 : decode cX11_together 65 = .ok (.iload 5, 2) := by decide +kernel
theorem dX11_together_67 : decode cX11_together 67 = .ok (.iaload, 1) := by decide +kernel
theorem dX11_together_68 : decode cX11_together 68 = .ok (.invokevirtual 212, 3) := by decide +kernel
theorem dX11_together_71 : decode cX11_together 71 = .ok (.istore_n 3, 1) := by decide +kernel
theorem dX11_together_72 : decode cX11_together 72 = .ok (.iload 4, 2) := by decide +kernel
theorem dX11_together_74 : decode cX11_together 74 = .ok (.iconst 1, 1) := by decide +kernel
theorem dX11_together_75 : decode cX11_together 75 = .ok (.iadd, 1) := by decide +kernel
theorem dX11_together_76 : decode cX11_together 76 = .ok (.aload_n 0, 1) := by decide +kernel
theorem dX11_together_77 : decode cX11_together 77 = .ok (.getfield 23, 3) := by decide +kernel
theorem dX11_together_80 : decode cX11_together 80 = .ok (.iload_n 1, 1) := by decide +kernel
theorem dX11_together_81 : decode cX11_together 81 = .ok (.iconst 1, 1) := by decide +kernel
theorem dX11_together_82 : decode cX11_together 82 = .ok (.iadd, 1) := by decide +kernel
theorem dX11_together_83 : decode cX11_together 83 = .ok (.iaload, 1) := by decide +kernel
theorem dX11_together_84 : decode cX11_together 84 = .ok (.if_icmp .ge 15, 3) := by decide +kernel
theorem dX11_together_87 : decode cX11_together 87 = .ok (.aload_n 0, 1) := by decide +kernel
theorem dX11_together_88 : decode cX11_together 88 = .ok (.getfield 9, 3) := by decide +kernel
theorem dX11_together_91 : decode cX11_together 91 = .ok (.iload 4, 2) := by decide +kernel
theorem dX11_together_93 : decode cX11_together 93 = .ok (.iconst 1, 1) := by decide +kernel
theorem dX11_together_94 : decode cX11_together 94 = .ok (.iadd, 1) := by decide +kernel
theorem dX11_together_95 : decode cX11_together 95 = .ok (.laload, 1) := by decide +kernel
theorem dX11_together_96 : decode cX11_together 96 = .ok (.goto 6, 3) := by decide +kernel
theorem dX11_together_99 : decode cX11_together 99 = .ok (.ldc2_w 186, 3) := by decide +kernel
theorem dX11_together_102 : decode cX11_together 102 = .ok (.lstore 8, 2) := by decide +kernel
theorem dX11_together_104 : decode cX11_together 104 = .ok (.iload 5, 2) := by decide +kernel
theorem dX11_together_106 : decode cX11_together 106 = .ok (.iconst 1, 1) := by decide +kernel
theorem dX11_together_107 : decode cX11_together 107 = .ok (.iadd, 1) := by decide +kernel
theorem dX11_together_108 : decode cX11_together 108 = .ok (.aload_n 0, 1) := by decide +kernel
theorem dX11_together_109 : decode cX11_together 109 = .ok (.getfield 23, 3) := by decide +kernel
theorem dX11_together_112 : decode cX11_together 112 = .ok (.iload_n 2, 1) := by decide +kernel
theorem dX11_together_113 : decode cX11_together 113 = .ok (.iconst 1, 1) := by decide +kernel
theorem dX11_together_114 : decode cX11_together 114 = .ok (.iadd, 1) := by decide +kernel
theorem dX11_together_115 : decode cX11_together 115 = .ok (.iaload, 1) := by decide +kernel
theorem dX11_together_116 : decode cX11_together 116 = .ok (.if_icmp .ge 15, 3) := by decide +kernel
theorem dX11_together_119 : decode cX11_together 119 = .ok (.aload_n 0, 1) := by decide +kernel
theorem dX11_together_120 : decode cX11_together 120 = .ok (.getfield 9, 3) := by decide +kernel
theorem dX11_together_123 : decode cX11_together 123 = .ok (.iload 5, 2) := by decide +kernel
theorem dX11_together_125 : decode cX11_together 125 = .ok (.iconst 1, 1) := by decide +kernel
theorem dX11_together_126 : decode cX11_together 126 = .ok (.iadd, 1) := by decide +kernel
theorem dX11_together_127 : decode cX11_together 127 = .ok (.laload, 1) := by decide +kernel
theorem dX11_together_128 : decode cX11_together 128 = .ok (.goto 6, 3) := by decide +kernel
theorem dX11_together_131 : decode cX11_together 131 = .ok (.ldc2_w 186, 3) := by decide +kernel
theorem dX11_together_134 : decode cX11_together 134 = .ok (.lstore 10, 2) := by decide +kernel
theorem dX11_together_136 : decode cX11_together 136 = .ok (.lload 8, 2) := by decide +kernel
theorem dX11_together_138 : decode cX11_together 138 = .ok (.lload 10, 2) := by decide +kernel
theorem dX11_together_140 : decode cX11_together 140 = .ok (.lcmp, 1) := by decide +kernel
theorem dX11_together_141 : decode cX11_together 141 = .ok (.ifCond .ge 8, 3) := by decide +kernel
theorem dX11_together_144 : decode cX11_together 144 = .ok (.lload 8, 2) := by decide +kernel
theorem dX11_together_146 : decode cX11_together 146 = .ok (.goto 5, 3) := by decide +kernel
theorem dX11_together_149 : decode cX11_together 149 = .ok (.lload 10, 2) := by decide +kernel
theorem dX11_together_151 : decode cX11_together 151 = .ok (.lstore 6, 2) := by decide +kernel
theorem dX11_together_153 : decode cX11_together 153 = .ok (.lload 8, 2) := by decide +kernel
theorem dX11_together_155 : decode cX11_together 155 = .ok (.lload 6, 2) := by decide +kernel
theorem dX11_together_157 : decode cX11_together 157 = .ok (.lcmp, 1) := by decide +kernel
theorem dX11_together_158 : decode cX11_together 158 = .ok (.ifCond .ne 6, 3) := by decide +kernel
theorem dX11_together_161 : decode cX11_together 161 = .ok (.iinc 4 1, 3) := by decide +kernel
theorem dX11_together_164 : decode cX11_together 164 = .ok (.lload 10, 2) := by decide +kernel
theorem dX11_together_166 : decode cX11_together 166 = .ok (.lload 6, 2) := by decide +kernel
theorem dX11_together_168 : decode cX11_together 168 = .ok (.lcmp, 1) := by decide +kernel
theorem dX11_together_169 : decode cX11_together 169 = .ok (.ifCond .ne 6, 3) := by decide +kernel
theorem dX11_together_172 : decode cX11_together 172 = .ok (.iinc 5 1, 3) := by decide +kernel
theorem dX11_together_175 : decode cX11_together 175 = .ok (.goto (-154), 3) := by decide +kernel
theorem dX11_together_178 : decode cX11_together 178 = .ok (.aload_n 0, 1) := by decide +kernel
theorem dX11_together_179 : decode cX11_together 179 = .ok (.iload_n 3, 1) := by decide +kernel
theorem dX11_together_180 : decode cX11_together 180 = .ok (.invokevirtual 216, 3) := by decide +kernel
theorem dX11_together_183 : decode cX11_together 183 = .ok (.return_, 1) := by decide +kernel
def cd_163 : dm_Code := [[dm_push 1 (.int 0), dm_ist 2 3, dm_ald 3 0, dm_getf 6 8 4, dm_no, dm_no, dm_ild 7 1, dm_iald 8, dm_ist 10 4, dm_no, dm_ald 11 0, dm_getf 14 8 4, dm_no, dm_no, dm_ild 15 2, dm_iald 16],
  [dm_ist 18 5, dm_no, dm_push 19 (.long 0), dm_lst 21 6, dm_no, dm_lld 23 6, dm_no, dm_push 26 (.long 1152921504606846976), dm_no, dm_no, dm_lc 27, dm_if_ge 30 178, dm_no, dm_no, dm_ald 31 0, dm_ild 32 3],
  [dm_lld 34 6, dm_no, dm_ald 35 0, dm_getf 38 8 1, dm_no, dm_no, dm_ild 40 4, dm_no, dm_iald 41, dm_ald 42 0, dm_getf 45 8 1, dm_no, dm_no, dm_ild 47 5, dm_no, dm_iald 48],
  [dm_ic_le 51 61, dm_no, dm_no, dm_ald 52 0, dm_getf 55 8 1, dm_no, dm_no, dm_ild 57 4, dm_no, dm_iald 58, dm_goto 68, dm_no, dm_no, dm_ald 62 0, dm_getf 65 8 1, dm_no],
  [dm_no, dm_ild 67 5, dm_no, dm_iald 68, dm_inv 71 148 3 8, dm_no, dm_no, dm_ist 72 3, dm_ild 74 4, dm_no, dm_push 75 (.int 1), dm_ii 76 (fun x y => x + y), dm_ald 77 0, dm_getf 80 8 4, dm_no, dm_no],
  [dm_ild 81 1, dm_push 82 (.int 1), dm_ii 83 (fun x y => x + y), dm_iald 84, dm_ic_ge 87 99, dm_no, dm_no, dm_ald 88 0, dm_getf 91 8 0, dm_no, dm_no, dm_ild 93 4, dm_no, dm_push 94 (.int 1), dm_ii 95 (fun x y => x + y), dm_lald 96],
  [dm_goto 102, dm_no, dm_no, dm_push 102 (.long 1152921504606846976), dm_no, dm_no, dm_lst 104 8, dm_no, dm_ild 106 5, dm_no, dm_push 107 (.int 1), dm_ii 108 (fun x y => x + y), dm_ald 109 0, dm_getf 112 8 4, dm_no, dm_no],
  [dm_ild 113 2, dm_push 114 (.int 1), dm_ii 115 (fun x y => x + y), dm_iald 116, dm_ic_ge 119 131, dm_no, dm_no, dm_ald 120 0, dm_getf 123 8 0, dm_no, dm_no, dm_ild 125 5, dm_no, dm_push 126 (.int 1), dm_ii 127 (fun x y => x + y), dm_lald 128],
  [dm_goto 134, dm_no, dm_no, dm_push 134 (.long 1152921504606846976), dm_no, dm_no, dm_lst 136 10, dm_no, dm_lld 138 8, dm_no, dm_lld 140 10, dm_no, dm_lc 141, dm_if_ge 144 149, dm_no, dm_no],
  [dm_lld 146 8, dm_no, dm_goto 151, dm_no, dm_no, dm_lld 151 10, dm_no, dm_lst 153 6, dm_no, dm_lld 155 8, dm_no, dm_lld 157 6, dm_no, dm_lc 158, dm_if_ne 161 164, dm_no],
  [dm_no, dm_iinc 164 4 1, dm_no, dm_no, dm_lld 166 10, dm_no, dm_lld 168 6, dm_no, dm_lc 169, dm_if_ne 172 175, dm_no, dm_no, dm_iinc 175 5 1, dm_no, dm_no, dm_goto 21],
  [dm_no, dm_no, dm_ald 179 0, dm_ild 180 3, dm_inv 183 149 1 8, dm_no, dm_no, dm_vret]]
theorem tr_163_0 : dm_AllR (dm_Good dm_tb RX11 cX11_together 12 none false none) 0 [dm_push 1 (.int 0), dm_ist 2 3, dm_ald 3 0, dm_getf 6 8 4, dm_no, dm_no, dm_ild 7 1, dm_iald 8, dm_ist 10 4, dm_no, dm_ald 11 0, dm_getf 14 8 4, dm_no, dm_no, dm_ild 15 2, dm_iald 16] := dr_c (dg_iconst (by decide) dX11_together_0) <| dr_c (dg_istore_n (k := 3) rfl (by decide) dX11_together_1) <| dr_c (dg_aload_n (k := 0) rfl dX11_together_2) <| dr_c (dg_getf (T := TX11) (C := RX11) (N := 68) dX11_together_3 rfl (by decide) iw_X11 wd_952) <| dr_c (dg_no) <| dr_c (dg_no) <| dr_c (dg_iload_n (k := 1) rfl dX11_together_6) <| dr_c (dg_iald dX11_together_7) <| dr_c (dg_istore (by decide) dX11_together_8) <| dr_c (dg_no) <| dr_c (dg_aload_n (k := 0) rfl dX11_together_10) <| dr_c (dg_getf (T := TX11) (C := RX11) (N := 68) dX11_together_11 rfl (by decide) iw_X11 wd_952) <| dr_c (dg_no) <| dr_c (dg_no) <| dr_c (dg_iload_n (k := 2) rfl dX11_together_14) <| dr_c (dg_iald dX11_together_15) <| dr_n
theorem tr_163_1 : dm_AllR (dm_Good dm_tb RX11 cX11_together 12 none false none) 16 [dm_ist 18 5, dm_no, dm_push 19 (.long 0), dm_lst 21 6, dm_no, dm_lld 23 6, dm_no, dm_push 26 (.long 1152921504606846976), dm_no, dm_no, dm_lc 27, dm_if_ge 30 178, dm_no, dm_no, dm_ald 31 0, dm_ild 32 3] := dr_c (dg_istore (by decide) dX11_together_16) <| dr_c (dg_no) <| dr_c (dg_lconst (by decide) dX11_together_18) <| dr_c (dg_lstore (by decide) dX11_together_19) <| dr_c (dg_no) <| dr_c (dg_lload dX11_together_21) <| dr_c (dg_no) <| dr_c (dg_ldc2 wd_918 dX11_together_23) <| dr_c (dg_no) <| dr_c (dg_no) <| dr_c (dg_lcmp dX11_together_26) <| dr_c (dg_if_ge (by decide) dX11_together_27) <| dr_c (dg_no) <| dr_c (dg_no) <| dr_c (dg_aload_n (k := 0) rfl dX11_together_30) <| dr_c (dg_iload_n (k := 3) rfl dX11_together_31) <| dr_n
theorem tr_163_2 : dm_AllR (dm_Good dm_tb RX11 cX11_together 12 none false none) 32 [dm_lld 34 6, dm_no, dm_ald 35 0, dm_getf 38 8 1, dm_no, dm_no, dm_ild 40 4, dm_no, dm_iald 41, dm_ald 42 0, dm_getf 45 8 1, dm_no, dm_no, dm_ild 47 5, dm_no, dm_iald 48] := dr_c (dg_lload dX11_together_32) <| dr_c (dg_no) <| dr_c (dg_aload_n (k := 0) rfl dX11_together_34) <| dr_c (dg_getf (T := TX11) (C := RX11) (N := 68) dX11_together_35 rfl (by decide) iw_X11 wd_949) <| dr_c (dg_no) <| dr_c (dg_no) <| dr_c (dg_iload dX11_together_38) <| dr_c (dg_no) <| dr_c (dg_iald dX11_together_40) <| dr_c (dg_aload_n (k := 0) rfl dX11_together_41) <| dr_c (dg_getf (T := TX11) (C := RX11) (N := 68) dX11_together_42 rfl (by decide) iw_X11 wd_949) <| dr_c (dg_no) <| dr_c (dg_no) <| dr_c (dg_iload dX11_together_45) <| dr_c (dg_no) <| dr_c (dg_iald dX11_together_47) <| dr_n
theorem tr_163_3 : dm_AllR (dm_Good dm_tb RX11 cX11_together 12 none false none) 48 [dm_ic_le 51 61, dm_no, dm_no, dm_ald 52 0, dm_getf 55 8 1, dm_no, dm_no, dm_ild 57 4, dm_no, dm_iald 58, dm_goto 68, dm_no, dm_no, dm_ald 62 0, dm_getf 65 8 1, dm_no] := dr_c (dg_ic_le (by decide) dX11_together_48) <| dr_c (dg_no) <| dr_c (dg_no) <| dr_c (dg_aload_n (k := 0) rfl dX11_together_51) <| dr_c (dg_getf (T := TX11) (C := RX11) (N := 68) dX11_together_52 rfl (by decide) iw_X11 wd_949) <| dr_c (dg_no) <| dr_c (dg_no) <| dr_c (dg_iload dX11_together_55) <| dr_c (dg_no) <| dr_c (dg_iald dX11_together_57) <| dr_c (dg_goto (by decide) dX11_together_58) <| dr_c (dg_no) <| dr_c (dg_no) <| dr_c (dg_aload_n (k := 0) rfl dX11_together_61) <| dr_c (dg_getf (T := TX11) (C := RX11) (N := 68) dX11_together_62 rfl (by decide) iw_X11 wd_949) <| dr_c (dg_no) <| dr_n
theorem tr_163_4 : dm_AllR (dm_Good dm_tb RX11 cX11_together 12 none false none) 64 [dm_no, dm_ild 67 5, dm_no, dm_iald 68, dm_inv 71 148 3 8, dm_no, dm_no, dm_ist 72 3, dm_ild 74 4, dm_no, dm_push 75 (.int 1), dm_ii 76 (fun x y => x + y), dm_ald 77 0, dm_getf 80 8 4, dm_no, dm_no] := dr_c (dg_no) <| dr_c (dg_iload dX11_together_65) <| dr_c (dg_no) <| dr_c (dg_iald dX11_together_67) <| dr_c (dg_inv dX11_together_68 mo_148 rfl rfl wd_1217 wd_1219 wd_36 pd_148) <| dr_c (dg_no) <| dr_c (dg_no) <| dr_c (dg_istore_n (k := 3) rfl (by decide) dX11_together_71) <| dr_c (dg_iload dX11_together_72) <| dr_c (dg_no) <| dr_c (dg_iconst (by decide) dX11_together_74) <| dr_c (dg_iadd dX11_together_75) <| dr_c (dg_aload_n (k := 0) rfl dX11_together_76) <| dr_c (dg_getf (T := TX11) (C := RX11) (N := 68) dX11_together_77 rfl (by decide) iw_X11 wd_952) <| dr_c (dg_no) <| dr_c (dg_no) <| dr_n
theorem tr_163_5 : dm_AllR (dm_Good dm_tb RX11 cX11_together 12 none false none) 80 [dm_ild 81 1, dm_push 82 (.int 1), dm_ii 83 (fun x y => x + y), dm_iald 84, dm_ic_ge 87 99, dm_no, dm_no, dm_ald 88 0, dm_getf 91 8 0, dm_no, dm_no, dm_ild 93 4, dm_no, dm_push 94 (.int 1), dm_ii 95 (fun x y => x + y), dm_lald 96] := dr_c (dg_iload_n (k := 1) rfl dX11_together_80) <| dr_c (dg_iconst (by decide) dX11_together_81) <| dr_c (dg_iadd dX11_together_82) <| dr_c (dg_iald dX11_together_83) <| dr_c (dg_ic_ge (by decide) dX11_together_84) <| dr_c (dg_no) <| dr_c (dg_no) <| dr_c (dg_aload_n (k := 0) rfl dX11_together_87) <| dr_c (dg_getf (T := TX11) (C := RX11) (N := 68) dX11_together_88 rfl (by decide) iw_X11 wd_948) <| dr_c (dg_no) <| dr_c (dg_no) <| dr_c (dg_iload dX11_together_91) <| dr_c (dg_no) <| dr_c (dg_iconst (by decide) dX11_together_93) <| dr_c (dg_iadd dX11_together_94) <| dr_c (dg_lald dX11_together_95) <| dr_n
theorem tr_163_6 : dm_AllR (dm_Good dm_tb RX11 cX11_together 12 none false none) 96 [dm_goto 102, dm_no, dm_no, dm_push 102 (.long 1152921504606846976), dm_no, dm_no, dm_lst 104 8, dm_no, dm_ild 106 5, dm_no, dm_push 107 (.int 1), dm_ii 108 (fun x y => x + y), dm_ald 109 0, dm_getf 112 8 4, dm_no, dm_no] := dr_c (dg_goto (by decide) dX11_together_96) <| dr_c (dg_no) <| dr_c (dg_no) <| dr_c (dg_ldc2 wd_918 dX11_together_99) <| dr_c (dg_no) <| dr_c (dg_no) <| dr_c (dg_lstore (by decide) dX11_together_102) <| dr_c (dg_no) <| dr_c (dg_iload dX11_together_104) <| dr_c (dg_no) <| dr_c (dg_iconst (by decide) dX11_together_106) <| dr_c (dg_iadd dX11_together_107) <| dr_c (dg_aload_n (k := 0) rfl dX11_together_108) <| dr_c (dg_getf (T := TX11) (C := RX11) (N := 68) dX11_together_109 rfl (by decide) iw_X11 wd_952) <| dr_c (dg_no) <| dr_c (dg_no) <| dr_n
theorem tr_163_7 : dm_AllR (dm_Good dm_tb RX11 cX11_together 12 none false none) 112 [dm_ild 113 2, dm_push 114 (.int 1), dm_ii 115 (fun x y => x + y), dm_iald 116, dm_ic_ge 119 131, dm_no, dm_no, dm_ald 120 0, dm_getf 123 8 0, dm_no, dm_no, dm_ild 125 5, dm_no, dm_push 126 (.int 1), dm_ii 127 (fun x y => x + y), dm_lald 128] := dr_c (dg_iload_n (k := 2) rfl dX11_together_112) <| dr_c (dg_iconst (by decide) dX11_together_113) <| dr_c (dg_iadd dX11_together_114) <| dr_c (dg_iald dX11_together_115) <| dr_c (dg_ic_ge (by decide) dX11_together_116) <| dr_c (dg_no) <| dr_c (dg_no) <| dr_c (dg_aload_n (k := 0) rfl dX11_together_119) <| dr_c (dg_getf (T := TX11) (C := RX11) (N := 68) dX11_together_120 rfl (by decide) iw_X11 wd_948) <| dr_c (dg_no) <| dr_c (dg_no) <| dr_c (dg_iload dX11_together_123) <| dr_c (dg_no) <| dr_c (dg_iconst (by decide) dX11_together_125) <| dr_c (dg_iadd dX11_together_126) <| dr_c (dg_lald dX11_together_127) <| dr_n
theorem tr_163_8 : dm_AllR (dm_Good dm_tb RX11 cX11_together 12 none false none) 128 [dm_goto 134, dm_no, dm_no, dm_push 134 (.long 1152921504606846976), dm_no, dm_no, dm_lst 136 10, dm_no, dm_lld 138 8, dm_no, dm_lld 140 10, dm_no, dm_lc 141, dm_if_ge 144 149, dm_no, dm_no] := dr_c (dg_goto (by decide) dX11_together_128) <| dr_c (dg_no) <| dr_c (dg_no) <| dr_c (dg_ldc2 wd_918 dX11_together_131) <| dr_c (dg_no) <| dr_c (dg_no) <| dr_c (dg_lstore (by decide) dX11_together_134) <| dr_c (dg_no) <| dr_c (dg_lload dX11_together_136) <| dr_c (dg_no) <| dr_c (dg_lload dX11_together_138) <| dr_c (dg_no) <| dr_c (dg_lcmp dX11_together_140) <| dr_c (dg_if_ge (by decide) dX11_together_141) <| dr_c (dg_no) <| dr_c (dg_no) <| dr_n
theorem tr_163_9 : dm_AllR (dm_Good dm_tb RX11 cX11_together 12 none false none) 144 [dm_lld 146 8, dm_no, dm_goto 151, dm_no, dm_no, dm_lld 151 10, dm_no, dm_lst 153 6, dm_no, dm_lld 155 8, dm_no, dm_lld 157 6, dm_no, dm_lc 158, dm_if_ne 161 164, dm_no] := dr_c (dg_lload dX11_together_144) <| dr_c (dg_no) <| dr_c (dg_goto (by decide) dX11_together_146) <| dr_c (dg_no) <| dr_c (dg_no) <| dr_c (dg_lload dX11_together_149) <| dr_c (dg_no) <| dr_c (dg_lstore (by decide) dX11_together_151) <| dr_c (dg_no) <| dr_c (dg_lload dX11_together_153) <| dr_c (dg_no) <| dr_c (dg_lload dX11_together_155) <| dr_c (dg_no) <| dr_c (dg_lcmp dX11_together_157) <| dr_c (dg_if_ne (by decide) dX11_together_158) <| dr_c (dg_no) <| dr_n
theorem tr_163_10 : dm_AllR (dm_Good dm_tb RX11 cX11_together 12 none false none) 160 [dm_no, dm_iinc 164 4 1, dm_no, dm_no, dm_lld 166 10, dm_no, dm_lld 168 6, dm_no, dm_lc 169, dm_if_ne 172 175, dm_no, dm_no, dm_iinc 175 5 1, dm_no, dm_no, dm_goto 21] := dr_c (dg_no) <| dr_c (dg_iinc (by decide) (by decide) dX11_together_161) <| dr_c (dg_no) <| dr_c (dg_no) <| dr_c (dg_lload dX11_together_164) <| dr_c (dg_no) <| dr_c (dg_lload dX11_together_166) <| dr_c (dg_no) <| dr_c (dg_lcmp dX11_together_168) <| dr_c (dg_if_ne (by decide) dX11_together_169) <| dr_c (dg_no) <| dr_c (dg_no) <| dr_c (dg_iinc (by decide) (by decide) dX11_together_172) <| dr_c (dg_no) <| dr_c (dg_no) <| dr_c (dg_goto (by decide) dX11_together_175) <| dr_n
theorem tr_163_11 : dm_AllR (dm_Good dm_tb RX11 cX11_together 12 none false none) 176 [dm_no, dm_no, dm_ald 179 0, dm_ild 180 3, dm_inv 183 149 1 8, dm_no, dm_no, dm_vret] := dr_c (dg_no) <| dr_c (dg_no) <| dr_c (dg_aload_n (k := 0) rfl dX11_together_178) <| dr_c (dg_iload_n (k := 3) rfl dX11_together_179) <| dr_c (dg_inv dX11_together_180 mo_149 rfl rfl wd_1221 wd_1223 wd_37 pd_149) <| dr_c (dg_no) <| dr_c (dg_no) <| dr_c (dg_vret dX11_together_183) <| dr_n
theorem tk_163 : dm_AllC (dm_Good dm_tb RX11 cX11_together 12 none false none) 0 cd_163 := dc_c (by decide) tr_163_0 <| dc_c (by decide) tr_163_1 <| dc_c (by decide) tr_163_2 <| dc_c (by decide) tr_163_3 <| dc_c (by decide) tr_163_4 <| dc_c (by decide) tr_163_5 <| dc_c (by decide) tr_163_6 <| dc_c (by decide) tr_163_7 <| dc_c (by decide) tr_163_8 <| dc_c (by decide) tr_163_9 <| dc_c (by decide) tr_163_10 <| dc_c (by decide) tr_163_11 <| dc_n
theorem dX11_share_0 : decode cX11_share 0 = .ok (.aload_n 0, 1) := by decide +kernel
theorem dX11_share_1 : decode cX11_share 1 = .ok (.iconst 0, 1) := by decide +kernel
theorem dX11_share_2 : decode cX11_share 2 = .ok (.putfield 183, 3) := by decide +kernel
theorem dX11_share_5 : decode cX11_share 5 = .ok (.aload_n 0, 1) := by decide +kernel
theorem dX11_share_6 : decode cX11_share 6 = .ok (.getfield 26, 3) := by decide +kernel
theorem dX11_share_9 : decode cX11_share 9 = .ok (.iload_n 1, 1) := by decide +kernel
theorem dX11_share_10 : decode cX11_share 10 = .ok (.iaload, 1) := by decide +kernel
theorem dX11_share_11 : decode cX11_share 11 = .ok (.istore_n 3, 1) := by decide +kernel
theorem dX11_share_12 : decode cX11_share 12 = .ok (.aload_n 0, 1) := by decide +kernel
theorem dX11_share_13 : decode cX11_share 13 = .ok (.getfield 26, 3) := by decide +kernel
theorem dX11_share_16 : decode cX11_share 16 = .ok (.iload_n 2, 1) := by decide +kernel
theorem dX11_share_17 : decode cX11_share 17 = .ok (.iaload, 1) := by decide +kernel
theorem dX11_share_18 : decode cX11_share 18 = .ok (.istore 4, 2) := by decide +kernel
theorem dX11_share_20 : decode cX11_share 20 = .ok (.iload_n 3, 1) := by decide +kernel
theorem dX11_share_21 : decode cX11_share 21 = .ok (.aload_n 0, 1) := by decide +kernel
theorem dX11_share_22 : decode cX11_share 22 = .ok (.getfield 26, 3) := by decide +kernel
theorem dX11_share_25 : decode cX11_share 25 = .ok (.iload_n 1, 1) := by decide +kernel
theorem dX11_share_26 : decode cX11_share 26 = .ok (.iconst 1, 1) := by decide +kernel
theorem dX11_share_27 : decode cX11_share 27 = .ok (.iadd, 1) := by decide +kernel
theorem dX11_share_28 : decode cX11_share 28 = .ok (.iaload, 1) := by decide +kernel
theorem dX11_share_29 : decode cX11_share 29 = .ok (.if_icmp .lt 16, 3) := by decide +kernel
theorem dX11_share_32 : decode cX11_share 32 = .ok (.iload 4, 2) := by decide +kernel
theorem dX11_share_34 : decode cX11_share 34 = .ok (.aload_n 0, 1) := by decide +kernel
theorem dX11_share_35 : decode cX11_share 35 = .ok (.getfield 26, 3) := by decide +kernel
theorem dX11_share_38 : decode cX11_share 38 = .ok (.iload_n 2, 1) := by decide +kernel
theorem dX11_share_39 : decode cX11_share 39 = .ok (.iconst 1, 1) := by decide +kernel
theorem dX11_share_40 : decode cX11_share 40 = .ok (.iadd, 1) := by decide +kernel
theorem dX11_share_41 : decode cX11_share 41 = .ok (.iaload, 1) := by decide +kernel
theorem dX11_share_42 : decode cX11_share 42 = .ok (.if_icmp .ge 204, 3) := by decide +kernel
theorem dX11_share_45 : decode cX11_share 45 = .ok (.iload 4, 2) := by decide +kernel
theorem dX11_share_47 : decode cX11_share 47 = .ok (.aload_n 0, 1) := by decide +kernel
theorem dX11_share_48 : decode cX11_share 48 = .ok (.getfield 26, 3) := by decide +kernel
theorem dX11_share_51 : decode cX11_share 51 = .ok (.iload_n 2, 1) := by decide +kernel
theorem dX11_share_52 : decode cX11_share 52 = .ok (.iconst 1, 1) := by decide +kernel
theorem dX11_share_53 : decode cX11_share 53 = .ok (.iadd, 1) := by decide +kernel
theorem dX11_share_54 : decode cX11_share 54 = .ok (.iaload, 1) := by decide +kernel
theorem dX11_share_55 : decode cX11_share 55 = .ok (.if_icmp .eq 32, 3) := by decide +kernel
theorem dX11_share_58 : decode cX11_share 58 = .ok (.iload_n 3, 1) := by decide +kernel
theorem dX11_share_59 : decode cX11_share 59 = .ok (.aload_n 0, 1) := by decide +kernel
theorem dX11_share_60 : decode cX11_share 60 = .ok (.getfield 26, 3) := by decide +kernel
theorem dX11_share_63 : decode cX11_share 63 = .ok (.iload_n 1, 1) := by decide +kernel
theorem dX11_share_64 : decode cX11_share 64 = .ok (.iconst 1, 1) := by decide +kernel
theorem dX11_share_65 : decode cX11_share 65 = .ok (.iadd, 1) := by decide +kernel
theorem dX11_share_66 : decode cX11_share 66 = .ok (.iaload, 1) := by decide +kernel
theorem dX11_share_67 : decode cX11_share 67 = .ok (.if_icmp .ge 24, 3) := by decide +kernel
theorem dX11_share_70 : decode cX11_share 70 = .ok (.aload_n 0, 1) := by decide +kernel
theorem dX11_share_71 : decode cX11_share 71 = .ok (.getfield 17, 3) := by decide +kernel
theorem dX11_share_74 : decode cX11_share 74 = .ok (.iload_n 3, 1) := by decide +kernel
theorem dX11_share_75 : decode cX11_share 75 = .ok (.laload, 1) := by decide +kernel
theorem dX11_share_76 : decode cX11_share 76 = .ok (.aload_n 0, 1) := by decide +kernel
theorem dX11_share_77 : decode cX11_share 77 = .ok (.getfield 17, 3) := by decide +kernel
theorem dX11_share_80 : decode cX11_share 80 = .ok (.iload 4, 2) := by decide +kernel
theorem dX11_share_82 : decode cX11_share 82 = .ok (.laload, 1) := by decide +kernel
theorem dX11_share_83 : decode cX11_share 83 = .ok (.lcmp, 1) := by decide +kernel
theorem dX11_share_84 : decode cX11_share 84 = .ok (.ifCond .gt 7, 3) := by decide +kernel
theorem dX11_share_87 : decode cX11_share 87 = .ok (.iconst 1, 1) := by decide +kernel
theorem dX11_share_88 : decode cX11_share 88 = .ok (.goto 4, 3) := by decide +kernel
theorem dX11_share_91 : decode cX11_share 91 = .ok (.iconst 0, 1) := by decide +kernel
theorem dX11_share_92 : decode cX11_share 92 = .ok (.istore 5, 2) := by decide +kernel
theorem dX11_share_94 : decode cX11_share 94 = .ok (.iload 5, 2) := by decide +kernel
theorem dX11_share_96 : decode cX11_share 96 = .ok (.ifCond .eq 12, 3) := by decide +kernel
theorem dX11_share_99 : decode cX11_share 99 = .ok (.aload_n 0, 1) := by decide +kernel
theorem dX11_share_100 : decode cX11_share 100 = .ok (.getfield 17, 3) := by decide +kernel
theorem dX11_share_103 : decode cX11_share 103 = .ok (.iload_n 3, 1) := by decide +kernel
theorem dX11_share_104 : decode cX11_share 104 = .ok (.laload, 1) := by decide +kernel
theorem dX11_share_105 : decode cX11_share 105 = .ok (.goto 10, 3) := by decide +kernel
theorem dX11_share_108 : decode cX11_share 108 = .ok (.aload_n 0, 1) := by decide +kernel
theorem dX11_share_109 : decode cX11_share 109 = .ok (.getfield 17, 3) := by decide +kernel
theorem dX11_share_112 : decode cX11_share 112 = .ok (.iload 4, 2) := by decide +kernel
theorem dX11_share_114 : decode cX11_share 114 = .ok (.laload, 1) := by decide +kernel
theorem dX11_share_115 : decode cX11_share 115 = .ok (.lstore 6, 2) := by decide +kernel
theorem dX11_share_117 : decode cX11_share 117 = .ok (.iload 5, 2) := by decide +kernel
theorem dX11_share_119 : decode cX11_share 119 = .ok (.ifCond .eq 12, 3) := by decide +kernel
theorem dX11_share_122 : decode cX11_share 122 = .ok (.aload_n 0, 1) := by decide +kernel
theorem dX11_share_123 : decode cX11_share 123 = .ok (.getfield 20, 3) := by decide +kernel
theorem dX11_share_126 : decode cX11_share 126 = .ok (.iload_n 3, 1) := by decide +kernel
theorem dX11_share_127 : decode cX11_share 127 = .ok (.laload, 1) := by decide +kernel
theorem dX11_share_128 : decode cX11_share 128 = .ok (.goto 10, 3) := by decide +kernel
theorem dX11_share_131 : decode cX11_share 131 = .ok (.aload_n 0, 1) := by decide +kernel
theorem dX11_share_132 : decode cX11_share 132 = .ok (.getfield 20, 3) := by decide +kernel
theorem dX11_share_135 : decode cX11_share 135 = .ok (.iload 4, 2) := by decide +kernel
theorem dX11_share_137 : decode cX11_share 137 = .ok (.laload, 1) := by decide +kernel
theorem dX11_share_138 : decode cX11_share 138 = .ok (.lstore 8, 2) := by decide +kernel
theorem dX11_share_140 : decode cX11_share 140 = .ok (.iload 5, 2) := by decide +kernel
theorem dX11_share_142 : decode cX11_share 142 = .ok (.ifCond .eq 9, 3) := by decide +kernel
theorem dX11_share_145 : decode cX11_share 145 = .ok (.iinc 3 1, 3) := by decide +kernel
theorem dX11_share_148 : decode cX11_share 148 = .ok (.goto 6, 3) := by decide +kernel
theorem dX11_share_151 : decode cX11_share 151 = .ok (.iinc 4 1, 3) := by decide +kernel
theorem dX11_share_154 : decode cX11_share 154 = .ok (.aload_n 0, 1) := by decide +kernel
theorem dX11_share_155 : decode cX11_share 155 = .ok (.getfield 183, 3) := by decide +kernel
theorem dX11_share_158 : decode cX11_share 158 = .ok (.ifCond .le 53, 3) := by decide +kernel
theorem dX11_share_161 : decode cX11_share 161 = .ok (.aload_n 0, 1) := by decide +kernel
theorem dX11_share_162 : decode cX11_share 162 = .ok (.getfield 98, 3) := by decide +kernel
theorem dX11_share_165 : decode cX11_share 165 = .ok (.aload_n 0, 1) := by decide +kernel
theorem dX11_share_166 : decode cX11_share 166 = .ok (.getfield 183, 3) := by decide +kernel
theorem dX11_share_169 : decode cX11_share 169 = .ok (.iconst 1, 1) := by decide +kernel
theorem dX11_share_170 : decode cX11_share 170 = .ok (.isub, 1) := by decide +kernel
theorem dX11_share_171 : decode cX11_share 171 = .ok (.laload, 1) := by decide +kernel
theorem dX11_share_172 : decode cX11_share 172 = .ok (.lload 6, 2) := by decide +kernel
theorem dX11_share_174 : decode cX11_share 174 = .ok (.lcmp, 1) := by decide +kernel
theorem dX11_share_175 : decode cX11_share 175 = .ok (.ifCond .lt 36, 3) := by decide +kernel
theorem dX11_share_178 : decode cX11_share 178 = .ok (.lload 8, 2) := by decide +kernel
theorem dX11_share_180 : decode cX11_share 180 = .ok (.aload_n 0, 1) := by decide +kernel
theorem dX11_share_181 : decode cX11_share 181 = .ok (.getfield 98, 3) := by decide +kernel
theorem dX11_share_184 : decode cX11_share 184 = .ok (.aload_n 0, 1) := by decide +kernel
theorem dX11_share_185 : decode cX11_share 185 = .ok (.getfield 183, 3) := by decide +kernel
theorem dX11_share_188 : decode cX11_share 188 = .ok (.iconst 1, 1) := by decide +kernel
theorem dX11_share_189 : decode cX11_share 189 = .ok (.isub, 1) := by decide +kernel
theorem dX11_share_190 : decode cX11_share 190 = .ok (.laload, 1) := by decide +kernel
theorem dX11_share_191 : decode cX11_share 191 = .ok (.lcmp, 1) := by decide +kernel
theorem dX11_share_192 : decode cX11_share 192 = .ok (.ifCond .le 51, 3) := by decide +kernel
theorem dX11_share_195 : decode cX11_share 195 = .ok (.aload_n 0, 1) := by decide +kernel
theorem dX11_share_196 : decode cX11_share 196 = .ok (.getfield 98, 3) := by decide +kernel
theorem dX11_share_199 : decode cX11_share 199 = .ok (.aload_n 0, 1) := by decide +kernel
theorem dX11_share_200 : decode cX11_share 200 = .ok (.getfield 183, 3) := by decide +kernel
theorem dX11_share_203 : decode cX11_share 203 = .ok (.iconst 1, 1) := by decide +kernel
theorem dX11_share_204 : decode cX11_share 204 = .ok (.isub, 1) := by decide +kernel
theorem dX11_share_205 : decode cX11_share 205 = .ok (.lload 8, 2) := by decide +kernel
theorem dX11_share_207 : decode cX11_share 207 = .ok (.lastore, 1) := by decide +kernel
theorem dX11_share_208 : decode cX11_share 208 = .ok (.goto 35, 3) := by decide +kernel
theorem dX11_share_211 : decode cX11_share 211 = .ok (.aload_n 0, 1) := by decide +kernel
theorem dX11_share_212 : decode cX11_share 212 = .ok (.getfield 95, 3) := by decide +kernel
theorem dX11_share_215 : decode cX11_share 215 = .ok (.aload_n 0, 1) := by decide +kernel
theorem dX11_share_216 : decode cX11_share 216 = .ok (.getfield 183, 3) := by decide +kernel
theorem dX11_share_219 : decode cX11_share 219 = .ok (.lload 6, 2) := by decide +kernel
theorem dX11_share_221 : decode cX11_share 221 = .ok (.lastore, 1) := by decide +kernel
theorem dX11_share_222 : decode cX11_share 222 = .ok (.aload_n 0, 1) := by decide +kernel
theorem dX11_share_223 : decode cX11_share 223 = .ok (.getfield 98, 3) := by decide +kernel
theorem dX11_share_226 : decode cX11_share 226 = .ok (.aload_n 0, 1) := by decide +kernel
theorem dX11_share_227 : decode cX11_share 227 = .ok (.getfield 183, 3) := by decide +kernel
theorem dX11_share_230 : decode cX11_share 230 = .ok (.lload 8, 2) := by decide +kernel
theorem dX11_share_232 : decode cX11_share 232 = .ok (.lastore, 1) := by decide +kernel
theorem dX11_share_233 : decode cX11_share 233 = .ok (.aload_n 0, 1) := by decide +kernel
theorem dX11_share_234 : decode cX11_share 234 = .ok (.dup, 1) := by decide +kernel
theorem dX11_share_235 : decode cX11_share 235 = .ok (.getfield 183, 3) := by decide +kernel
theorem dX11_share_238 : decode cX11_share 238 = .ok (.iconst 1, 1) := by decide +kernel
theorem dX11_share_239 : decode cX11_share 239 = .ok (.iadd, 1) := by decide +kernel
theorem dX11_share_240 : decode cX11_share 240 = .ok (.putfield 183, 3) := by decide +kernel
theorem dX11_share_243 : decode cX11_share 243 = .ok (.goto (-223), 3) := by decide +kernel
theorem dX11_share_246 : decode cX11_share 246 = .ok (.return_, 1) := by decide +kernel
def cd_164 : dm_Code := [[dm_ald 1 0, dm_push 2 (.int 0), dm_putf 5 8 34 .int, dm_no, dm_no, dm_ald 6 0, dm_getf 9 8 5, dm_no, dm_no, dm_ild 10 1, dm_iald 11, dm_ist 12 3, dm_ald 13 0, dm_getf 16 8 5, dm_no, dm_no],
  [dm_ild 17 2, dm_iald 18, dm_ist 20 4, dm_no, dm_ild 21 3, dm_ald 22 0, dm_getf 25 8 5, dm_no, dm_no, dm_ild 26 1, dm_push 27 (.int 1), dm_ii 28 (fun x y => x + y), dm_iald 29, dm_ic_lt 32 45, dm_no, dm_no],
  [dm_ild 34 4, dm_no, dm_ald 35 0, dm_getf 38 8 5, dm_no, dm_no, dm_ild 39 2, dm_push 40 (.int 1), dm_ii 41 (fun x y => x + y), dm_iald 42, dm_ic_ge 45 246, dm_no, dm_no, dm_ild 47 4, dm_no, dm_ald 48 0],
  [dm_getf 51 8 5, dm_no, dm_no, dm_ild 52 2, dm_push 53 (.int 1), dm_ii 54 (fun x y => x + y), dm_iald 55, dm_ic_eq 58 87, dm_no, dm_no, dm_ild 59 3, dm_ald 60 0, dm_getf 63 8 5, dm_no, dm_no, dm_ild 64 1],
  [dm_push 65 (.int 1), dm_ii 66 (fun x y => x + y), dm_iald 67, dm_ic_ge 70 91, dm_no, dm_no, dm_ald 71 0, dm_getf 74 8 2, dm_no, dm_no, dm_ild 75 3, dm_lald 76, dm_ald 77 0, dm_getf 80 8 2, dm_no, dm_no],
  [dm_ild 82 4, dm_no, dm_lald 83, dm_lc 84, dm_if_gt 87 91, dm_no, dm_no, dm_push 88 (.int 1), dm_goto 92, dm_no, dm_no, dm_push 92 (.int 0), dm_ist 94 5, dm_no, dm_ild 96 5, dm_no],
  [dm_if_eq 99 108, dm_no, dm_no, dm_ald 100 0, dm_getf 103 8 2, dm_no, dm_no, dm_ild 104 3, dm_lald 105, dm_goto 115, dm_no, dm_no, dm_ald 109 0, dm_getf 112 8 2, dm_no, dm_no],
  [dm_ild 114 4, dm_no, dm_lald 115, dm_lst 117 6, dm_no, dm_ild 119 5, dm_no, dm_if_eq 122 131, dm_no, dm_no, dm_ald 123 0, dm_getf 126 8 3, dm_no, dm_no, dm_ild 127 3, dm_lald 128],
  [dm_goto 138, dm_no, dm_no, dm_ald 132 0, dm_getf 135 8 3, dm_no, dm_no, dm_ild 137 4, dm_no, dm_lald 138, dm_lst 140 8, dm_no, dm_ild 142 5, dm_no, dm_if_eq 145 151, dm_no],
  [dm_no, dm_iinc 148 3 1, dm_no, dm_no, dm_goto 154, dm_no, dm_no, dm_iinc 154 4 1, dm_no, dm_no, dm_ald 155 0, dm_getf 158 8 34, dm_no, dm_no, dm_if_le 161 211, dm_no],
  [dm_no, dm_ald 162 0, dm_getf 165 8 33, dm_no, dm_no, dm_ald 166 0, dm_getf 169 8 34, dm_no, dm_no, dm_push 170 (.int 1), dm_ii 171 (fun x y => x - y), dm_lald 172, dm_lld 174 6, dm_no, dm_lc 175, dm_if_lt 178 211],
  [dm_no, dm_no, dm_lld 180 8, dm_no, dm_ald 181 0, dm_getf 184 8 33, dm_no, dm_no, dm_ald 185 0, dm_getf 188 8 34, dm_no, dm_no, dm_push 189 (.int 1), dm_ii 190 (fun x y => x - y), dm_lald 191, dm_lc 192],
  [dm_if_le 195 243, dm_no, dm_no, dm_ald 196 0, dm_getf 199 8 33, dm_no, dm_no, dm_ald 200 0, dm_getf 203 8 34, dm_no, dm_no, dm_push 204 (.int 1), dm_ii 205 (fun x y => x - y), dm_lld 207 8, dm_no, dm_last 208],
  [dm_goto 243, dm_no, dm_no, dm_ald 212 0, dm_getf 215 8 32, dm_no, dm_no, dm_ald 216 0, dm_getf 219 8 34, dm_no, dm_no, dm_lld 221 6, dm_no, dm_last 222, dm_ald 223 0, dm_getf 226 8 33],
  [dm_no, dm_no, dm_ald 227 0, dm_getf 230 8 34, dm_no, dm_no, dm_lld 232 8, dm_no, dm_last 233, dm_ald 234 0, dm_dup 235, dm_getf 238 8 34, dm_no, dm_no, dm_push 239 (.int 1), dm_ii 240 (fun x y => x + y)],
  [dm_putf 243 8 34 .int, dm_no, dm_no, dm_goto 20, dm_no, dm_no, dm_vret]]
theorem tr_164_0 : dm_AllR (dm_Good dm_tb RX11 cX11_share 10 none false none) 0 [dm_ald 1 0, dm_push 2 (.int 0), dm_putf 5 8 34 .int, dm_no, dm_no, dm_ald 6 0, dm_getf 9 8 5, dm_no, dm_no, dm_ild 10 1, dm_iald 11, dm_ist 12 3, dm_ald 13 0, dm_getf 16 8 5, dm_no, dm_no] := dr_c (dg_aload_n (k := 0) rfl dX11_share_0) <| dr_c (dg_iconst (by decide) dX11_share_1) <| dr_c (dg_putf (T := TX11) (C := RX11) (N := 68) dX11_share_2 rfl (by decide) iw_X11 tyX11_ok nmX11 wd_982 rfl rfl) <| dr_c (dg_no) <| dr_c (dg_no) <| dr_c (dg_aload_n (k := 0) rfl dX11_share_5) <| dr_c (dg_getf (T := TX11) (C := RX11) (N := 68) dX11_share_6 rfl (by decide) iw_X11 wd_953) <| dr_c (dg_no) <| dr_c (dg_no) <| dr_c (dg_iload_n (k := 1) rfl dX11_share_9) <| dr_c (dg_iald dX11_share_10) <| dr_c (dg_istore_n (k := 3) rfl (by decide) dX11_share_11) <| dr_c (dg_aload_n (k := 0) rfl dX11_share_12) <| dr_c (dg_getf (T := TX11) (C := RX11) (N := 68) dX11_share_13 rfl (by decide) iw_X11 wd_953) <| dr_c (dg_no) <| dr_c (dg_no) <| dr_n
theorem tr_164_1 : dm_AllR (dm_Good dm_tb RX11 cX11_share 10 none false none) 16 [dm_ild 17 2, dm_iald 18, dm_ist 20 4, dm_no, dm_ild 21 3, dm_ald 22 0, dm_getf 25 8 5, dm_no, dm_no, dm_ild 26 1, dm_push 27 (.int 1), dm_ii 28 (fun x y => x + y), dm_iald 29, dm_ic_lt 32 45, dm_no, dm_no] := dr_c (dg_iload_n (k := 2) rfl dX11_share_16) <| dr_c (dg_iald dX11_share_17) <| dr_c (dg_istore (by decide) dX11_share_18) <| dr_c (dg_no) <| dr_c (dg_iload_n (k := 3) rfl dX11_share_20) <| dr_c (dg_aload_n (k := 0) rfl dX11_share_21) <| dr_c (dg_getf (T := TX11) (C := RX11) (N := 68) dX11_share_22 rfl (by decide) iw_X11 wd_953) <| dr_c (dg_no) <| dr_c (dg_no) <| dr_c (dg_iload_n (k := 1) rfl dX11_share_25) <| dr_c (dg_iconst (by decide) dX11_share_26) <| dr_c (dg_iadd dX11_share_27) <| dr_c (dg_iald dX11_share_28) <| dr_c (dg_ic_lt (by decide) dX11_share_29) <| dr_c (dg_no) <| dr_c (dg_no) <| dr_n
theorem tr_164_2 : dm_AllR (dm_Good dm_tb RX11 cX11_share 10 none false none) 32 [dm_ild 34 4, dm_no, dm_ald 35 0, dm_getf 38 8 5, dm_no, dm_no, dm_ild 39 2, dm_push 40 (.int 1), dm_ii 41 (fun x y => x + y), dm_iald 42, dm_ic_ge 45 246, dm_no, dm_no, dm_ild 47 4, dm_no, dm_ald 48 0] := dr_c (dg_iload dX11_share_32) <| dr_c (dg_no) <| dr_c (dg_aload_n (k := 0) rfl dX11_share_34) <| dr_c (dg_getf (T := TX11) (C := RX11) (N := 68) dX11_share_35 rfl (by decide) iw_X11 wd_953) <| dr_c (dg_no) <| dr_c (dg_no) <| dr_c (dg_iload_n (k := 2) rfl dX11_share_38) <| dr_c (dg_iconst (by decide) dX11_share_39) <| dr_c (dg_iadd dX11_share_40) <| dr_c (dg_iald dX11_share_41) <| dr_c (dg_ic_ge (by decide) dX11_share_42) <| dr_c (dg_no) <| dr_c (dg_no) <| dr_c (dg_iload dX11_share_45) <| dr_c (dg_no) <| dr_c (dg_aload_n (k := 0) rfl dX11_share_47) <| dr_n
theorem tr_164_3 : dm_AllR (dm_Good dm_tb RX11 cX11_share 10 none false none) 48 [dm_getf 51 8 5, dm_no, dm_no, dm_ild 52 2, dm_push 53 (.int 1), dm_ii 54 (fun x y => x + y), dm_iald 55, dm_ic_eq 58 87, dm_no, dm_no, dm_ild 59 3, dm_ald 60 0, dm_getf 63 8 5, dm_no, dm_no, dm_ild 64 1] := dr_c (dg_getf (T := TX11) (C := RX11) (N := 68) dX11_share_48 rfl (by decide) iw_X11 wd_953) <| dr_c (dg_no) <| dr_c (dg_no) <| dr_c (dg_iload_n (k := 2) rfl dX11_share_51) <| dr_c (dg_iconst (by decide) dX11_share_52) <| dr_c (dg_iadd dX11_share_53) <| dr_c (dg_iald dX11_share_54) <| dr_c (dg_ic_eq (by decide) dX11_share_55) <| dr_c (dg_no) <| dr_c (dg_no) <| dr_c (dg_iload_n (k := 3) rfl dX11_share_58) <| dr_c (dg_aload_n (k := 0) rfl dX11_share_59) <| dr_c (dg_getf (T := TX11) (C := RX11) (N := 68) dX11_share_60 rfl (by decide) iw_X11 wd_953) <| dr_c (dg_no) <| dr_c (dg_no) <| dr_c (dg_iload_n (k := 1) rfl dX11_share_63) <| dr_n
theorem tr_164_4 : dm_AllR (dm_Good dm_tb RX11 cX11_share 10 none false none) 64 [dm_push 65 (.int 1), dm_ii 66 (fun x y => x + y), dm_iald 67, dm_ic_ge 70 91, dm_no, dm_no, dm_ald 71 0, dm_getf 74 8 2, dm_no, dm_no, dm_ild 75 3, dm_lald 76, dm_ald 77 0, dm_getf 80 8 2, dm_no, dm_no] := dr_c (dg_iconst (by decide) dX11_share_64) <| dr_c (dg_iadd dX11_share_65) <| dr_c (dg_iald dX11_share_66) <| dr_c (dg_ic_ge (by decide) dX11_share_67) <| dr_c (dg_no) <| dr_c (dg_no) <| dr_c (dg_aload_n (k := 0) rfl dX11_share_70) <| dr_c (dg_getf (T := TX11) (C := RX11) (N := 68) dX11_share_71 rfl (by decide) iw_X11 wd_950) <| dr_c (dg_no) <| dr_c (dg_no) <| dr_c (dg_iload_n (k := 3) rfl dX11_share_74) <| dr_c (dg_lald dX11_share_75) <| dr_c (dg_aload_n (k := 0) rfl dX11_share_76) <| dr_c (dg_getf (T := TX11) (C := RX11) (N := 68) dX11_share_77 rfl (by decide) iw_X11 wd_950) <| dr_c (dg_no) <| dr_c (dg_no) <| dr_n
theorem tr_164_5 : dm_AllR (dm_Good dm_tb RX11 cX11_share 10 none false none) 80 [dm_ild 82 4, dm_no, dm_lald 83, dm_lc 84, dm_if_gt 87 91, dm_no, dm_no, dm_push 88 (.int 1), dm_goto 92, dm_no, dm_no, dm_push 92 (.int 0), dm_ist 94 5, dm_no, dm_ild 96 5, dm_no] := dr_c (dg_iload dX11_share_80) <| dr_c (dg_no) <| dr_c (dg_lald dX11_share_82) <| dr_c (dg_lcmp dX11_share_83) <| dr_c (dg_if_gt (by decide) dX11_share_84) <| dr_c (dg_no) <| dr_c (dg_no) <| dr_c (dg_iconst (by decide) dX11_share_87) <| dr_c (dg_goto (by decide) dX11_share_88) <| dr_c (dg_no) <| dr_c (dg_no) <| dr_c (dg_iconst (by decide) dX11_share_91) <| dr_c (dg_istore (by decide) dX11_share_92) <| dr_c (dg_no) <| dr_c (dg_iload dX11_share_94) <| dr_c (dg_no) <| dr_n
theorem tr_164_6 : dm_AllR (dm_Good dm_tb RX11 cX11_share 10 none false none) 96 [dm_if_eq 99 108, dm_no, dm_no, dm_ald 100 0, dm_getf 103 8 2, dm_no, dm_no, dm_ild 104 3, dm_lald 105, dm_goto 115, dm_no, dm_no, dm_ald 109 0, dm_getf 112 8 2, dm_no, dm_no] := dr_c (dg_if_eq (by decide) dX11_share_96) <| dr_c (dg_no) <| dr_c (dg_no) <| dr_c (dg_aload_n (k := 0) rfl dX11_share_99) <| dr_c (dg_getf (T := TX11) (C := RX11) (N := 68) dX11_share_100 rfl (by decide) iw_X11 wd_950) <| dr_c (dg_no) <| dr_c (dg_no) <| dr_c (dg_iload_n (k := 3) rfl dX11_share_103) <| dr_c (dg_lald dX11_share_104) <| dr_c (dg_goto (by decide) dX11_share_105) <| dr_c (dg_no) <| dr_c (dg_no) <| dr_c (dg_aload_n (k := 0) rfl dX11_share_108) <| dr_c (dg_getf (T := TX11) (C := RX11) (N := 68) dX11_share_109 rfl (by decide) iw_X11 wd_950) <| dr_c (dg_no) <| dr_c (dg_no) <| dr_n
theorem tr_164_7 : dm_AllR (dm_Good dm_tb RX11 cX11_share 10 none false none) 112 [dm_ild 114 4, dm_no, dm_lald 115, dm_lst 117 6, dm_no, dm_ild 119 5, dm_no, dm_if_eq 122 131, dm_no, dm_no, dm_ald 123 0, dm_getf 126 8 3, dm_no, dm_no, dm_ild 127 3, dm_lald 128] := dr_c (dg_iload dX11_share_112) <| dr_c (dg_no) <| dr_c (dg_lald dX11_share_114) <| dr_c (dg_lstore (by decide) dX11_share_115) <| dr_c (dg_no) <| dr_c (dg_iload dX11_share_117) <| dr_c (dg_no) <| dr_c (dg_if_eq (by decide) dX11_share_119) <| dr_c (dg_no) <| dr_c (dg_no) <| dr_c (dg_aload_n (k := 0) rfl dX11_share_122) <| dr_c (dg_getf (T := TX11) (C := RX11) (N := 68) dX11_share_123 rfl (by decide) iw_X11 wd_951) <| dr_c (dg_no) <| dr_c (dg_no) <| dr_c (dg_iload_n (k := 3) rfl dX11_share_126) <| dr_c (dg_lald dX11_share_127) <| dr_n
theorem tr_164_8 : dm_AllR (dm_Good dm_tb RX11 cX11_share 10 none false none) 128 [dm_goto 138, dm_no, dm_no, dm_ald 132 0, dm_getf 135 8 3, dm_no, dm_no, dm_ild 137 4, dm_no, dm_lald 138, dm_lst 140 8, dm_no, dm_ild 142 5, dm_no, dm_if_eq 145 151, dm_no] := dr_c (dg_goto (by decide) dX11_share_128) <| dr_c (dg_no) <| dr_c (dg_no) <| dr_c (dg_aload_n (k := 0) rfl dX11_share_131) <| dr_c (dg_getf (T := TX11) (C := RX11) (N := 68) dX11_share_132 rfl (by decide) iw_X11 wd_951) <| dr_c (dg_no) <| dr_c (dg_no) <| dr_c (dg_iload dX11_share_135) <| dr_c (dg_no) <| dr_c (dg_lald dX11_share_137) <| dr_c (dg_lstore (by decide) dX11_share_138) <| dr_c (dg_no) <| dr_c (dg_iload dX11_share_140) <| dr_c (dg_no) <| dr_c (dg_if_eq (by decide) dX11_share_142) <| dr_c (dg_no) <| dr_n
theorem tr_164_9 : dm_AllR (dm_Good dm_tb RX11 cX11_share 10 none false none) 144 [dm_no, dm_iinc 148 3 1, dm_no, dm_no, dm_goto 154, dm_no, dm_no, dm_iinc 154 4 1, dm_no, dm_no, dm_ald 155 0, dm_getf 158 8 34, dm_no, dm_no, dm_if_le 161 211, dm_no] := dr_c (dg_no) <| dr_c (dg_iinc (by decide) (by decide) dX11_share_145) <| dr_c (dg_no) <| dr_c (dg_no) <| dr_c (dg_goto (by decide) dX11_share_148) <| dr_c (dg_no) <| dr_c (dg_no) <| dr_c (dg_iinc (by decide) (by decide) dX11_share_151) <| dr_c (dg_no) <| dr_c (dg_no) <| dr_c (dg_aload_n (k := 0) rfl dX11_share_154) <| dr_c (dg_getf (T := TX11) (C := RX11) (N := 68) dX11_share_155 rfl (by decide) iw_X11 wd_982) <| dr_c (dg_no) <| dr_c (dg_no) <| dr_c (dg_if_le (by decide) dX11_share_158) <| dr_c (dg_no) <| dr_n
theorem tr_164_10 : dm_AllR (dm_Good dm_tb RX11 cX11_share 10 none false none) 160 [dm_no, dm_ald 162 0, dm_getf 165 8 33, dm_no, dm_no, dm_ald 166 0, dm_getf 169 8 34, dm_no, dm_no, dm_push 170 (.int 1), dm_ii 171 (fun x y => x - y), dm_lald 172, dm_lld 174 6, dm_no, dm_lc 175, dm_if_lt 178 211] := dr_c (dg_no) <| dr_c (dg_aload_n (k := 0) rfl dX11_share_161) <| dr_c (dg_getf (T := TX11) (C := RX11) (N := 68) dX11_share_162 rfl (by decide) iw_X11 wd_981) <| dr_c (dg_no) <| dr_c (dg_no) <| dr_c (dg_aload_n (k := 0) rfl dX11_share_165) <| dr_c (dg_getf (T := TX11) (C := RX11) (N := 68) dX11_share_166 rfl (by decide) iw_X11 wd_982) <| dr_c (dg_no) <| dr_c (dg_no) <| dr_c (dg_iconst (by decide) dX11_share_169) <| dr_c (dg_isub dX11_share_170) <| dr_c (dg_lald dX11_share_171) <| dr_c (dg_lload dX11_share_172) <| dr_c (dg_no) <| dr_c (dg_lcmp dX11_share_174) <| dr_c (dg_if_lt (by decide) dX11_share_175) <| dr_n
theorem tr_164_11 : dm_AllR (dm_Good dm_tb RX11 cX11_share 10 none false none) 176 [dm_no, dm_no, dm_lld 180 8, dm_no, dm_ald 181 0, dm_getf 184 8 33, dm_no, dm_no, dm_ald 185 0, dm_getf 188 8 34, dm_no, dm_no, dm_push 189 (.int 1), dm_ii 190 (fun x y => x - y), dm_lald 191, dm_lc 192] := dr_c (dg_no) <| dr_c (dg_no) <| dr_c (dg_lload dX11_share_178) <| dr_c (dg_no) <| dr_c (dg_aload_n (k := 0) rfl dX11_share_180) <| dr_c (dg_getf (T := TX11) (C := RX11) (N := 68) dX11_share_181 rfl (by decide) iw_X11 wd_981) <| dr_c (dg_no) <| dr_c (dg_no) <| dr_c (dg_aload_n (k := 0) rfl dX11_share_184) <| dr_c (dg_getf (T := TX11) (C := RX11) (N := 68) dX11_share_185 rfl (by decide) iw_X11 wd_982) <| dr_c (dg_no) <| dr_c (dg_no) <| dr_c (dg_iconst (by decide) dX11_share_188) <| dr_c (dg_isub dX11_share_189) <| dr_c (dg_lald dX11_share_190) <| dr_c (dg_lcmp dX11_share_191) <| dr_n
theorem tr_164_12 : dm_AllR (dm_Good dm_tb RX11 cX11_share 10 none false none) 192 [dm_if_le 195 243, dm_no, dm_no, dm_ald 196 0, dm_getf 199 8 33, dm_no, dm_no, dm_ald 200 0, dm_getf 203 8 34, dm_no, dm_no, dm_push 204 (.int 1), dm_ii 205 (fun x y => x - y), dm_lld 207 8, dm_no, dm_last 208] := dr_c (dg_if_le (by decide) dX11_share_192) <| dr_c (dg_no) <| dr_c (dg_no) <| dr_c (dg_aload_n (k := 0) rfl dX11_share_195) <| dr_c (dg_getf (T := TX11) (C := RX11) (N := 68) dX11_share_196 rfl (by decide) iw_X11 wd_981) <| dr_c (dg_no) <| dr_c (dg_no) <| dr_c (dg_aload_n (k := 0) rfl dX11_share_199) <| dr_c (dg_getf (T := TX11) (C := RX11) (N := 68) dX11_share_200 rfl (by decide) iw_X11 wd_982) <| dr_c (dg_no) <| dr_c (dg_no) <| dr_c (dg_iconst (by decide) dX11_share_203) <| dr_c (dg_isub dX11_share_204) <| dr_c (dg_lload dX11_share_205) <| dr_c (dg_no) <| dr_c (dg_last dX11_share_207) <| dr_n
theorem tr_164_13 : dm_AllR (dm_Good dm_tb RX11 cX11_share 10 none false none) 208 [dm_goto 243, dm_no, dm_no, dm_ald 212 0, dm_getf 215 8 32, dm_no, dm_no, dm_ald 216 0, dm_getf 219 8 34, dm_no, dm_no, dm_lld 221 6, dm_no, dm_last 222, dm_ald 223 0, dm_getf 226 8 33] := dr_c (dg_goto (by decide) dX11_share_208) <| dr_c (dg_no) <| dr_c (dg_no) <| dr_c (dg_aload_n (k := 0) rfl dX11_share_211) <| dr_c (dg_getf (T := TX11) (C := RX11) (N := 68) dX11_share_212 rfl (by decide) iw_X11 wd_980) <| dr_c (dg_no) <| dr_c (dg_no) <| dr_c (dg_aload_n (k := 0) rfl dX11_share_215) <| dr_c (dg_getf (T := TX11) (C := RX11) (N := 68) dX11_share_216 rfl (by decide) iw_X11 wd_982) <| dr_c (dg_no) <| dr_c (dg_no) <| dr_c (dg_lload dX11_share_219) <| dr_c (dg_no) <| dr_c (dg_last dX11_share_221) <| dr_c (dg_aload_n (k := 0) rfl dX11_share_222) <| dr_c (dg_getf (T := TX11) (C := RX11) (N := 68) dX11_share_223 rfl (by decide) iw_X11 wd_981) <| dr_n
theorem tr_164_14 : dm_AllR (dm_Good dm_tb RX11 cX11_share 10 none false none) 224 [dm_no, dm_no, dm_ald 227 0, dm_getf 230 8 34, dm_no, dm_no, dm_lld 232 8, dm_no, dm_last 233, dm_ald 234 0, dm_dup 235, dm_getf 238 8 34, dm_no, dm_no, dm_push 239 (.int 1), dm_ii 240 (fun x y => x + y)] := dr_c (dg_no) <| dr_c (dg_no) <| dr_c (dg_aload_n (k := 0) rfl dX11_share_226) <| dr_c (dg_getf (T := TX11) (C := RX11) (N := 68) dX11_share_227 rfl (by decide) iw_X11 wd_982) <| dr_c (dg_no) <| dr_c (dg_no) <| dr_c (dg_lload dX11_share_230) <| dr_c (dg_no) <| dr_c (dg_last dX11_share_232) <| dr_c (dg_aload_n (k := 0) rfl dX11_share_233) <| dr_c (dg_dup dX11_share_234) <| dr_c (dg_getf (T := TX11) (C := RX11) (N := 68) dX11_share_235 rfl (by decide) iw_X11 wd_982) <| dr_c (dg_no) <| dr_c (dg_no) <| dr_c (dg_iconst (by decide) dX11_share_238) <| dr_c (dg_iadd dX11_share_239) <| dr_n
theorem tr_164_15 : dm_AllR (dm_Good dm_tb RX11 cX11_share 10 none false none) 240 [dm_putf 243 8 34 .int, dm_no, dm_no, dm_goto 20, dm_no, dm_no, dm_vret] := dr_c (dg_putf (T := TX11) (C := RX11) (N := 68) dX11_share_240 rfl (by decide) iw_X11 tyX11_ok nmX11 wd_982 rfl rfl) <| dr_c (dg_no) <| dr_c (dg_no) <| dr_c (dg_goto (by decide) dX11_share_243) <| dr_c (dg_no) <| dr_c (dg_no) <| dr_c (dg_vret dX11_share_246) <| dr_n
theorem tk_164 : dm_AllC (dm_Good dm_tb RX11 cX11_share 10 none false none) 0 cd_164 := dc_c (by decide) tr_164_0 <| dc_c (by decide) tr_164_1 <| dc_c (by decide) tr_164_2 <| dc_c (by decide) tr_164_3 <| dc_c (by decide) tr_164_4 <| dc_c (by decide) tr_164_5 <| dc_c (by decide) tr_164_6 <| dc_c (by decide) tr_164_7 <| dc_c (by decide) tr_164_8 <| dc_c (by decide) tr_164_9 <| dc_c (by decide) tr_164_10 <| dc_c (by decide) tr_164_11 <| dc_c (by decide) tr_164_12 <| dc_c (by decide) tr_164_13 <| dc_c (by decide) tr_164_14 <| dc_c (by decide) tr_164_15 <| dc_n
theorem dX11_joined_0 : decode cX11_joined 0 = .ok (.aload_n 0, 1) := by decide +kernel
theorem dX11_joined_1 : decode cX11_joined 1 = .ok (.iload_n 1, 1) := by decide +kernel
theorem dX11_joined_2 : decode cX11_joined 2 = .ok (.iload_n 2, 1) := by decide +kernel
theorem dX11_joined_3 : decode cX11_joined 3 = .ok (.invokevirtual 286, 3) := by decide +kernel
theorem dX11_joined_6 : decode cX11_joined 6 = .ok (.aload_n 0, 1) := by decide +kernel
theorem dX11_joined_7 : decode cX11_joined 7 = .ok (.iload_n 1, 1) := by decide +kernel
theorem dX11_joined_8 : decode cX11_joined 8 = .ok (.iload_n 2, 1) := by decide +kernel
theorem dX11_joined_9 : decode cX11_joined 9 = .ok (.invokevirtual 289, 3) := by decide +kernel
theorem dX11_joined_12 : decode cX11_joined 12 = .ok (.aload_n 0, 1) := by decide +kernel
theorem dX11_joined_13 : decode cX11_joined 13 = .ok (.iconst 1, 1) := by decide +kernel
theorem dX11_joined_14 : decode cX11_joined 14 = .ok (.aload_n 0, 1) := by decide +kernel
theorem dX11_joined_15 : decode cX11_joined 15 = .ok (.lconst 0, 1) := by decide +kernel
theorem dX11_joined_16 : decode cX11_joined 16 = .ok (.ldc2_w 186, 3) := by decide +kernel
theorem dX11_joined_19 : decode cX11_joined 19 = .ok (.invokevirtual 196, 3) := by decide +kernel
theorem dX11_joined_22 : decode cX11_joined 22 = .ok (.aload_n 0, 1) := by decide +kernel
theorem dX11_joined_23 : decode cX11_joined 23 = .ok (.lconst 0, 1) := by decide +kernel
theorem dX11_joined_24 : decode cX11_joined 24 = .ok (.ldc2_w 186, 3) := by decide +kernel
theorem dX11_joined_27 : decode cX11_joined 27 = .ok (.invokevirtual 200, 3) := by decide +kernel
theorem dX11_joined_30 : decode cX11_joined 30 = .ok (.iadd, 1) := by decide +kernel
theorem dX11_joined_31 : decode cX11_joined 31 = .ok (.invokevirtual 242, 3) := by decide +kernel
theorem dX11_joined_34 : decode cX11_joined 34 = .ok (.ifCond .ne 5, 3) := by decide +kernel
theorem dX11_joined_37 : decode cX11_joined 37 = .ok (.iconst (-1), 1) := by decide +kernel
theorem dX11_joined_38 : decode cX11_joined 38 = .ok (.ireturn, 1) := by decide +kernel
theorem dX11_joined_39 : decode cX11_joined 39 = .ok (.aload_n 0, 1) := by decide +kernel
theorem dX11_joined_40 : decode cX11_joined 40 = .ok (.iload_n 1, 1) := by decide +kernel
theorem dX11_joined_41 : decode cX11_joined 41 = .ok (.iload_n 2, 1) := by decide +kernel
theorem dX11_joined_42 : decode cX11_joined 42 = .ok (.invokevirtual 246, 3) := by decide +kernel
theorem dX11_joined_45 : decode cX11_joined 45 = .ok (.aload_n 0, 1) := by decide +kernel
theorem dX11_joined_46 : decode cX11_joined 46 = .ok (.iload_n 3, 1) := by decide +kernel
theorem dX11_joined_47 : decode cX11_joined 47 = .ok (.iload_n 1, 1) := by decide +kernel
theorem dX11_joined_48 : decode cX11_joined 48 = .ok (.iload_n 2, 1) := by decide +kernel
theorem dX11_joined_49 : decode cX11_joined 49 = .ok (.invokevirtual 188, 3) := by decide +kernel
theorem dX11_joined_52 : decode cX11_joined 52 = .ok (.istore 4, 2) := by decide +kernel
theorem dX11_joined_54 : decode cX11_joined 54 = .ok (.aload_n 0, 1) := by decide +kernel
theorem dX11_joined_55 : decode cX11_joined 55 = .ok (.iload_n 1, 1) := by decide +kernel
theorem dX11_joined_56 : decode cX11_joined 56 = .ok (.invokevirtual 253, 3) := by decide +kernel
theorem dX11_joined_59 : decode cX11_joined 59 = .ok (.aload_n 0, 1) := by decide +kernel
theorem dX11_joined_60 : decode cX11_joined 60 = .ok (.iload_n 2, 1) := by decide +kernel
theorem dX11_joined_61 : decode cX11_joined 61 = .ok (.invokevirtual 253, 3) := by decide +kernel
theorem dX11_joined_64 : decode cX11_joined 64 = .ok (.iload 4, 2) := by decide +kernel
theorem dX11_joined_66 : decode cX11_joined 66 = .ok (.ireturn, 1) := by decide +kernel
def cd_165 : dm_Code := [[dm_ald 1 0, dm_ild 2 1, dm_ild 3 2, dm_inv 6 163 2 8, dm_no, dm_no, dm_ald 7 0, dm_ild 8 1, dm_ild 9 2, dm_inv 12 164 2 8, dm_no, dm_no, dm_ald 13 0, dm_push 14 (.int 1), dm_ald 15 0, dm_push 16 (.long 0)],
  [dm_push 19 (.long 1152921504606846976), dm_no, dm_no, dm_inv 22 153 2 8, dm_no, dm_no, dm_ald 23 0, dm_push 24 (.long 0), dm_push 27 (.long 1152921504606846976), dm_no, dm_no, dm_inv 30 151 2 8, dm_no, dm_no, dm_ii 31 (fun x y => x + y), dm_inv 34 139 2 8],
  [dm_no, dm_no, dm_if_ne 37 39, dm_no, dm_no, dm_push 38 (.int (-1)), dm_ret .int, dm_ald 40 0, dm_ild 41 1, dm_ild 42 2, dm_inv 45 155 2 8, dm_no, dm_no, dm_ald 46 0, dm_ild 47 3, dm_ild 48 1],
  [dm_ild 49 2, dm_inv 52 140 3 8, dm_no, dm_no, dm_ist 54 4, dm_no, dm_ald 55 0, dm_ild 56 1, dm_inv 59 156 1 8, dm_no, dm_no, dm_ald 60 0, dm_ild 61 2, dm_inv 64 156 1 8, dm_no, dm_no],
  [dm_ild 66 4, dm_no, dm_ret .int]]
theorem tr_165_0 : dm_AllR (dm_Good dm_tb RX11 cX11_joined 5 (some .int) false none) 0 [dm_ald 1 0, dm_ild 2 1, dm_ild 3 2, dm_inv 6 163 2 8, dm_no, dm_no, dm_ald 7 0, dm_ild 8 1, dm_ild 9 2, dm_inv 12 164 2 8, dm_no, dm_no, dm_ald 13 0, dm_push 14 (.int 1), dm_ald 15 0, dm_push 16 (.long 0)] := dr_c (dg_aload_n (k := 0) rfl dX11_joined_0) <| dr_c (dg_iload_n (k := 1) rfl dX11_joined_1) <| dr_c (dg_iload_n (k := 2) rfl dX11_joined_2) <| dr_c (dg_inv dX11_joined_3 mo_163 rfl rfl wd_1246 wd_1248 wd_42 pd_163) <| dr_c (dg_no) <| dr_c (dg_no) <| dr_c (dg_aload_n (k := 0) rfl dX11_joined_6) <| dr_c (dg_iload_n (k := 1) rfl dX11_joined_7) <| dr_c (dg_iload_n (k := 2) rfl dX11_joined_8) <| dr_c (dg_inv dX11_joined_9 mo_164 rfl rfl wd_1250 wd_1252 wd_43 pd_164) <| dr_c (dg_no) <| dr_c (dg_no) <| dr_c (dg_aload_n (k := 0) rfl dX11_joined_12) <| dr_c (dg_iconst (by decide) dX11_joined_13) <| dr_c (dg_aload_n (k := 0) rfl dX11_joined_14) <| dr_c (dg_lconst (by decide) dX11_joined_15) <| dr_n
theorem tr_165_1 : dm_AllR (dm_Good dm_tb RX11 cX11_joined 5 (some .int) false none) 16 [dm_push 19 (.long 1152921504606846976), dm_no, dm_no, dm_inv 22 153 2 8, dm_no, dm_no, dm_ald 23 0, dm_push 24 (.long 0), dm_push 27 (.long 1152921504606846976), dm_no, dm_no, dm_inv 30 151 2 8, dm_no, dm_no, dm_ii 31 (fun x y => x + y), dm_inv 34 139 2 8] := dr_c (dg_ldc2 wd_918 dX11_joined_16) <| dr_c (dg_no) <| dr_c (dg_no) <| dr_c (dg_inv dX11_joined_19 mo_153 rfl rfl wd_923 wd_925 wd_17 pd_153) <| dr_c (dg_no) <| dr_c (dg_no) <| dr_c (dg_aload_n (k := 0) rfl dX11_joined_22) <| dr_c (dg_lconst (by decide) dX11_joined_23) <| dr_c (dg_ldc2 wd_918 dX11_joined_24) <| dr_c (dg_no) <| dr_c (dg_no) <| dr_c (dg_inv dX11_joined_27 mo_151 rfl rfl wd_932 wd_934 wd_19 pd_151) <| dr_c (dg_no) <| dr_c (dg_no) <| dr_c (dg_iadd dX11_joined_30) <| dr_c (dg_inv dX11_joined_31 mo_139 rfl rfl wd_1181 wd_1183 wd_28 pd_139) <| dr_n
theorem tr_165_2 : dm_AllR (dm_Good dm_tb RX11 cX11_joined 5 (some .int) false none) 32 [dm_no, dm_no, dm_if_ne 37 39, dm_no, dm_no, dm_push 38 (.int (-1)), dm_ret .int, dm_ald 40 0, dm_ild 41 1, dm_ild 42 2, dm_inv 45 155 2 8, dm_no, dm_no, dm_ald 46 0, dm_ild 47 3, dm_ild 48 1] := dr_c (dg_no) <| dr_c (dg_no) <| dr_c (dg_if_ne (by decide) dX11_joined_34) <| dr_c (dg_no) <| dr_c (dg_no) <| dr_c (dg_iconst (by decide) dX11_joined_37) <| dr_c (dg_ret dX11_joined_38) <| dr_c (dg_aload_n (k := 0) rfl dX11_joined_39) <| dr_c (dg_iload_n (k := 1) rfl dX11_joined_40) <| dr_c (dg_iload_n (k := 2) rfl dX11_joined_41) <| dr_c (dg_inv dX11_joined_42 mo_155 rfl rfl wd_1185 wd_1187 wd_29 pd_155) <| dr_c (dg_no) <| dr_c (dg_no) <| dr_c (dg_aload_n (k := 0) rfl dX11_joined_45) <| dr_c (dg_iload_n (k := 3) rfl dX11_joined_46) <| dr_c (dg_iload_n (k := 1) rfl dX11_joined_47) <| dr_n
theorem tr_165_3 : dm_AllR (dm_Good dm_tb RX11 cX11_joined 5 (some .int) false none) 48 [dm_ild 49 2, dm_inv 52 140 3 8, dm_no, dm_no, dm_ist 54 4, dm_no, dm_ald 55 0, dm_ild 56 1, dm_inv 59 156 1 8, dm_no, dm_no, dm_ald 60 0, dm_ild 61 2, dm_inv 64 156 1 8, dm_no, dm_no] := dr_c (dg_iload_n (k := 2) rfl dX11_joined_48) <| dr_c (dg_inv dX11_joined_49 mo_140 rfl rfl wd_919 wd_921 wd_16 pd_140) <| dr_c (dg_no) <| dr_c (dg_no) <| dr_c (dg_istore (by decide) dX11_joined_52) <| dr_c (dg_no) <| dr_c (dg_aload_n (k := 0) rfl dX11_joined_54) <| dr_c (dg_iload_n (k := 1) rfl dX11_joined_55) <| dr_c (dg_inv dX11_joined_56 mo_156 rfl rfl wd_1193 wd_1195 wd_31 pd_156) <| dr_c (dg_no) <| dr_c (dg_no) <| dr_c (dg_aload_n (k := 0) rfl dX11_joined_59) <| dr_c (dg_iload_n (k := 2) rfl dX11_joined_60) <| dr_c (dg_inv dX11_joined_61 mo_156 rfl rfl wd_1193 wd_1195 wd_31 pd_156) <| dr_c (dg_no) <| dr_c (dg_no) <| dr_n
theorem tr_165_4 : dm_AllR (dm_Good dm_tb RX11 cX11_joined 5 (some .int) false none) 64 [dm_ild 66 4, dm_no, dm_ret .int] := dr_c (dg_iload dX11_joined_64) <| dr_c (dg_no) <| dr_c (dg_ret dX11_joined_66) <| dr_n
theorem tk_165 : dm_AllC (dm_Good dm_tb RX11 cX11_joined 5 (some .int) false none) 0 cd_165 := dc_c (by decide) tr_165_0 <| dc_c (by decide) tr_165_1 <| dc_c (by decide) tr_165_2 <| dc_c (by decide) tr_165_3 <| dc_c (by decide) tr_165_4 <| dc_n
theorem dX11_join_0 : decode cX11_join 0 = .ok (.aload_n 0, 1) := by decide +kernel
theorem dX11_join_1 : decode cX11_join 1 = .ok (.iconst 0, 1) := by decide +kernel
theorem dX11_join_2 : decode cX11_join 2 = .ok (.putfield 165, 3) := by decide +kernel
theorem dX11_join_5 : decode cX11_join 5 = .ok (.aload_n 0, 1) := by decide +kernel
theorem dX11_join_6 : decode cX11_join 6 = .ok (.iload_n 1, 1) := by decide +kernel
theorem dX11_join_7 : decode cX11_join 7 = .ok (.invokevirtual 232, 3) := by decide +kernel
theorem dX11_join_10 : decode cX11_join 10 = .ok (.ifCond .eq 16, 3) := by decide +kernel
theorem dX11_join_13 : decode cX11_join 13 = .ok (.aload_n 0, 1) := by decide +kernel
theorem dX11_join_14 : decode cX11_join 14 = .ok (.iload_n 2, 1) := by decide +kernel
theorem dX11_join_15 : decode cX11_join 15 = .ok (.invokevirtual 232, 3) := by decide +kernel
theorem dX11_join_18 : decode cX11_join 18 = .ok (.ifCond .eq 8, 3) := by decide +kernel
theorem dX11_join_21 : decode cX11_join 21 = .ok (.iload_n 1, 1) := by decide +kernel
theorem dX11_join_22 : decode cX11_join 22 = .ok (.iload_n 2, 1) := by decide +kernel
theorem dX11_join_23 : decode cX11_join 23 = .ok (.if_icmp .ne 5, 3) := by decide +kernel
theorem dX11_join_26 : decode cX11_join 26 = .ok (.iconst (-1), 1) := by decide +kernel
theorem dX11_join_27 : decode cX11_join 27 = .ok (.ireturn, 1) := by decide +kernel
theorem dX11_join_28 : decode cX11_join 28 = .ok (.aload_n 0, 1) := by decide +kernel
theorem dX11_join_29 : decode cX11_join 29 = .ok (.iload_n 1, 1) := by decide +kernel
theorem dX11_join_30 : decode cX11_join 30 = .ok (.iload_n 2, 1) := by decide +kernel
theorem dX11_join_31 : decode cX11_join 31 = .ok (.iconst 3, 1) := by decide +kernel
theorem dX11_join_32 : decode cX11_join 32 = .ok (.invokevirtual 292, 3) := by decide +kernel
theorem dX11_join_35 : decode cX11_join 35 = .ok (.ireturn, 1) := by decide +kernel
def cd_166 : dm_Code := [[dm_ald 1 0, dm_push 2 (.int 0), dm_putf 5 8 40 .int, dm_no, dm_no, dm_ald 6 0, dm_ild 7 1, dm_inv 10 137 1 8, dm_no, dm_no, dm_if_eq 13 26, dm_no, dm_no, dm_ald 14 0, dm_ild 15 2, dm_inv 18 137 1 8],
  [dm_no, dm_no, dm_if_eq 21 26, dm_no, dm_no, dm_ild 22 1, dm_ild 23 2, dm_ic_ne 26 28, dm_no, dm_no, dm_push 27 (.int (-1)), dm_ret .int, dm_ald 29 0, dm_ild 30 1, dm_ild 31 2, dm_push 32 (.int 3)],
  [dm_inv 35 165 3 8, dm_no, dm_no, dm_ret .int]]
theorem tr_166_0 : dm_AllR (dm_Good dm_tb RX11 cX11_join 3 (some .int) false none) 0 [dm_ald 1 0, dm_push 2 (.int 0), dm_putf 5 8 40 .int, dm_no, dm_no, dm_ald 6 0, dm_ild 7 1, dm_inv 10 137 1 8, dm_no, dm_no, dm_if_eq 13 26, dm_no, dm_no, dm_ald 14 0, dm_ild 15 2, dm_inv 18 137 1 8] := dr_c (dg_aload_n (k := 0) rfl dX11_join_0) <| dr_c (dg_iconst (by decide) dX11_join_1) <| dr_c (dg_putf (T := TX11) (C := RX11) (N := 68) dX11_join_2 rfl (by decide) iw_X11 tyX11_ok nmX11 wd_988 rfl rfl) <| dr_c (dg_no) <| dr_c (dg_no) <| dr_c (dg_aload_n (k := 0) rfl dX11_join_5) <| dr_c (dg_iload_n (k := 1) rfl dX11_join_6) <| dr_c (dg_inv dX11_join_7 mo_137 rfl rfl wd_1161 wd_1163 wd_23 pd_137) <| dr_c (dg_no) <| dr_c (dg_no) <| dr_c (dg_if_eq (by decide) dX11_join_10) <| dr_c (dg_no) <| dr_c (dg_no) <| dr_c (dg_aload_n (k := 0) rfl dX11_join_13) <| dr_c (dg_iload_n (k := 2) rfl dX11_join_14) <| dr_c (dg_inv dX11_join_15 mo_137 rfl rfl wd_1161 wd_1163 wd_23 pd_137) <| dr_n
theorem tr_166_1 : dm_AllR (dm_Good dm_tb RX11 cX11_join 3 (some .int) false none) 16 [dm_no, dm_no, dm_if_eq 21 26, dm_no, dm_no, dm_ild 22 1, dm_ild 23 2, dm_ic_ne 26 28, dm_no, dm_no, dm_push 27 (.int (-1)), dm_ret .int, dm_ald 29 0, dm_ild 30 1, dm_ild 31 2, dm_push 32 (.int 3)] := dr_c (dg_no) <| dr_c (dg_no) <| dr_c (dg_if_eq (by decide) dX11_join_18) <| dr_c (dg_no) <| dr_c (dg_no) <| dr_c (dg_iload_n (k := 1) rfl dX11_join_21) <| dr_c (dg_iload_n (k := 2) rfl dX11_join_22) <| dr_c (dg_ic_ne (by decide) dX11_join_23) <| dr_c (dg_no) <| dr_c (dg_no) <| dr_c (dg_iconst (by decide) dX11_join_26) <| dr_c (dg_ret dX11_join_27) <| dr_c (dg_aload_n (k := 0) rfl dX11_join_28) <| dr_c (dg_iload_n (k := 1) rfl dX11_join_29) <| dr_c (dg_iload_n (k := 2) rfl dX11_join_30) <| dr_c (dg_iconst (by decide) dX11_join_31) <| dr_n
theorem tr_166_2 : dm_AllR (dm_Good dm_tb RX11 cX11_join 3 (some .int) false none) 32 [dm_inv 35 165 3 8, dm_no, dm_no, dm_ret .int] := dr_c (dg_inv dX11_join_32 mo_165 rfl rfl wd_1242 wd_1244 wd_41 pd_165) <| dr_c (dg_no) <| dr_c (dg_no) <| dr_c (dg_ret dX11_join_35) <| dr_n
theorem tk_166 : dm_AllC (dm_Good dm_tb RX11 cX11_join 3 (some .int) false none) 0 cd_166 := dc_c (by decide) tr_166_0 <| dc_c (by decide) tr_166_1 <| dc_c (by decide) tr_166_2 <| dc_n
theorem dX11_peek_0 : decode cX11_peek 0 = .ok (.aload_n 0, 1) := by decide +kernel
theorem dX11_peek_1 : decode cX11_peek 1 = .ok (.iconst 0, 1) := by decide +kernel
theorem dX11_peek_2 : decode cX11_peek 2 = .ok (.putfield 165, 3) := by decide +kernel
theorem dX11_peek_5 : decode cX11_peek 5 = .ok (.aload_n 0, 1) := by decide +kernel
theorem dX11_peek_6 : decode cX11_peek 6 = .ok (.iload_n 1, 1) := by decide +kernel
theorem dX11_peek_7 : decode cX11_peek 7 = .ok (.invokevirtual 232, 3) := by decide +kernel
theorem dX11_peek_10 : decode cX11_peek 10 = .ok (.ifCond .eq 19, 3) := by decide +kernel
theorem dX11_peek_13 : decode cX11_peek 13 = .ok (.aload_n 0, 1) := by decide +kernel
theorem dX11_peek_14 : decode cX11_peek 14 = .ok (.iconst 1, 1) := by decide +kernel
theorem dX11_peek_15 : decode cX11_peek 15 = .ok (.iconst 1, 1) := by decide +kernel
theorem dX11_peek_16 : decode cX11_peek 16 = .ok (.aload_n 0, 1) := by decide +kernel
theorem dX11_peek_17 : decode cX11_peek 17 = .ok (.getfield 53, 3) := by decide +kernel
theorem dX11_peek_20 : decode cX11_peek 20 = .ok (.iload_n 1, 1) := by decide +kernel
theorem dX11_peek_21 : decode cX11_peek 21 = .ok (.iaload, 1) := by decide +kernel
theorem dX11_peek_22 : decode cX11_peek 22 = .ok (.iadd, 1) := by decide +kernel
theorem dX11_peek_23 : decode cX11_peek 23 = .ok (.invokevirtual 242, 3) := by decide +kernel
theorem dX11_peek_26 : decode cX11_peek 26 = .ok (.ifCond .ne 5, 3) := by decide +kernel
theorem dX11_peek_29 : decode cX11_peek 29 = .ok (.iconst (-1), 1) := by decide +kernel
theorem dX11_peek_30 : decode cX11_peek 30 = .ok (.ireturn, 1) := by decide +kernel
theorem dX11_peek_31 : decode cX11_peek 31 = .ok (.aload_n 0, 1) := by decide +kernel
theorem dX11_peek_32 : decode cX11_peek 32 = .ok (.iconst (-1), 1) := by decide +kernel
theorem dX11_peek_33 : decode cX11_peek 33 = .ok (.iconst (-1), 1) := by decide +kernel
theorem dX11_peek_34 : decode cX11_peek 34 = .ok (.invokevirtual 246, 3) := by decide +kernel
theorem dX11_peek_37 : decode cX11_peek 37 = .ok (.aload_n 0, 1) := by decide +kernel
theorem dX11_peek_38 : decode cX11_peek 38 = .ok (.iload_n 1, 1) := by decide +kernel
theorem dX11_peek_39 : decode cX11_peek 39 = .ok (.invokevirtual 250, 3) := by decide +kernel
theorem dX11_peek_42 : decode cX11_peek 42 = .ok (.aload_n 0, 1) := by decide +kernel
theorem dX11_peek_43 : decode cX11_peek 43 = .ok (.iconst 0, 1) := by decide +kernel
theorem dX11_peek_44 : decode cX11_peek 44 = .ok (.putfield 183, 3) := by decide +kernel
theorem dX11_peek_47 : decode cX11_peek 47 = .ok (.aload_n 0, 1) := by decide +kernel
theorem dX11_peek_48 : decode cX11_peek 48 = .ok (.iconst 4, 1) := by decide +kernel
theorem dX11_peek_49 : decode cX11_peek 49 = .ok (.iload_n 1, 1) := by decide +kernel
theorem dX11_peek_50 : decode cX11_peek 50 = .ok (.iconst (-1), 1) := by decide +kernel
theorem dX11_peek_51 : decode cX11_peek 51 = .ok (.invokevirtual 188, 3) := by decide +kernel
theorem dX11_peek_54 : decode cX11_peek 54 = .ok (.ireturn, 1) := by decide +kernel
def cd_167 : dm_Code := [[dm_ald 1 0, dm_push 2 (.int 0), dm_putf 5 8 40 .int, dm_no, dm_no, dm_ald 6 0, dm_ild 7 1, dm_inv 10 137 1 8, dm_no, dm_no, dm_if_eq 13 29, dm_no, dm_no, dm_ald 14 0, dm_push 15 (.int 1), dm_push 16 (.int 1)],
  [dm_ald 17 0, dm_getf 20 8 13, dm_no, dm_no, dm_ild 21 1, dm_iald 22, dm_ii 23 (fun x y => x + y), dm_inv 26 139 2 8, dm_no, dm_no, dm_if_ne 29 31, dm_no, dm_no, dm_push 30 (.int (-1)), dm_ret .int, dm_ald 32 0],
  [dm_push 33 (.int (-1)), dm_push 34 (.int (-1)), dm_inv 37 155 2 8, dm_no, dm_no, dm_ald 38 0, dm_ild 39 1, dm_inv 42 141 1 8, dm_no, dm_no, dm_ald 43 0, dm_push 44 (.int 0), dm_putf 47 8 34 .int, dm_no, dm_no, dm_ald 48 0],
  [dm_push 49 (.int 4), dm_ild 50 1, dm_push 51 (.int (-1)), dm_inv 54 140 3 8, dm_no, dm_no, dm_ret .int]]
theorem tr_167_0 : dm_AllR (dm_Good dm_tb RX11 cX11_peek 2 (some .int) false none) 0 [dm_ald 1 0, dm_push 2 (.int 0), dm_putf 5 8 40 .int, dm_no, dm_no, dm_ald 6 0, dm_ild 7 1, dm_inv 10 137 1 8, dm_no, dm_no, dm_if_eq 13 29, dm_no, dm_no, dm_ald 14 0, dm_push 15 (.int 1), dm_push 16 (.int 1)] := dr_c (dg_aload_n (k := 0) rfl dX11_peek_0) <| dr_c (dg_iconst (by decide) dX11_peek_1) <| dr_c (dg_putf (T := TX11) (C := RX11) (N := 68) dX11_peek_2 rfl (by decide) iw_X11 tyX11_ok nmX11 wd_988 rfl rfl) <| dr_c (dg_no) <| dr_c (dg_no) <| dr_c (dg_aload_n (k := 0) rfl dX11_peek_5) <| dr_c (dg_iload_n (k := 1) rfl dX11_peek_6) <| dr_c (dg_inv dX11_peek_7 mo_137 rfl rfl wd_1161 wd_1163 wd_23 pd_137) <| dr_c (dg_no) <| dr_c (dg_no) <| dr_c (dg_if_eq (by decide) dX11_peek_10) <| dr_c (dg_no) <| dr_c (dg_no) <| dr_c (dg_aload_n (k := 0) rfl dX11_peek_13) <| dr_c (dg_iconst (by decide) dX11_peek_14) <| dr_c (dg_iconst (by decide) dX11_peek_15) <| dr_n
theorem tr_167_1 : dm_AllR (dm_Good dm_tb RX11 cX11_peek 2 (some .int) false none) 16 [dm_ald 17 0, dm_getf 20 8 13, dm_no, dm_no, dm_ild 21 1, dm_iald 22, dm_ii 23 (fun x y => x + y), dm_inv 26 139 2 8, dm_no, dm_no, dm_if_ne 29 31, dm_no, dm_no, dm_push 30 (.int (-1)), dm_ret .int, dm_ald 32 0] := dr_c (dg_aload_n (k := 0) rfl dX11_peek_16) <| dr_c (dg_getf (T := TX11) (C := RX11) (N := 68) dX11_peek_17 rfl (by decide) iw_X11 wd_961) <| dr_c (dg_no) <| dr_c (dg_no) <| dr_c (dg_iload_n (k := 1) rfl dX11_peek_20) <| dr_c (dg_iald dX11_peek_21) <| dr_c (dg_iadd dX11_peek_22) <| dr_c (dg_inv dX11_peek_23 mo_139 rfl rfl wd_1181 wd_1183 wd_28 pd_139) <| dr_c (dg_no) <| dr_c (dg_no) <| dr_c (dg_if_ne (by decide) dX11_peek_26) <| dr_c (dg_no) <| dr_c (dg_no) <| dr_c (dg_iconst (by decide) dX11_peek_29) <| dr_c (dg_ret dX11_peek_30) <| dr_c (dg_aload_n (k := 0) rfl dX11_peek_31) <| dr_n
theorem tr_167_2 : dm_AllR (dm_Good dm_tb RX11 cX11_peek 2 (some .int) false none) 32 [dm_push 33 (.int (-1)), dm_push 34 (.int (-1)), dm_inv 37 155 2 8, dm_no, dm_no, dm_ald 38 0, dm_ild 39 1, dm_inv 42 141 1 8, dm_no, dm_no, dm_ald 43 0, dm_push 44 (.int 0), dm_putf 47 8 34 .int, dm_no, dm_no, dm_ald 48 0] := dr_c (dg_iconst (by decide) dX11_peek_32) <| dr_c (dg_iconst (by decide) dX11_peek_33) <| dr_c (dg_inv dX11_peek_34 mo_155 rfl rfl wd_1185 wd_1187 wd_29 pd_155) <| dr_c (dg_no) <| dr_c (dg_no) <| dr_c (dg_aload_n (k := 0) rfl dX11_peek_37) <| dr_c (dg_iload_n (k := 1) rfl dX11_peek_38) <| dr_c (dg_inv dX11_peek_39 mo_141 rfl rfl wd_1189 wd_1191 wd_30 pd_141) <| dr_c (dg_no) <| dr_c (dg_no) <| dr_c (dg_aload_n (k := 0) rfl dX11_peek_42) <| dr_c (dg_iconst (by decide) dX11_peek_43) <| dr_c (dg_putf (T := TX11) (C := RX11) (N := 68) dX11_peek_44 rfl (by decide) iw_X11 tyX11_ok nmX11 wd_982 rfl rfl) <| dr_c (dg_no) <| dr_c (dg_no) <| dr_c (dg_aload_n (k := 0) rfl dX11_peek_47) <| dr_n
theorem tr_167_3 : dm_AllR (dm_Good dm_tb RX11 cX11_peek 2 (some .int) false none) 48 [dm_push 49 (.int 4), dm_ild 50 1, dm_push 51 (.int (-1)), dm_inv 54 140 3 8, dm_no, dm_no, dm_ret .int] := dr_c (dg_iconst (by decide) dX11_peek_48) <| dr_c (dg_iload_n (k := 1) rfl dX11_peek_49) <| dr_c (dg_iconst (by decide) dX11_peek_50) <| dr_c (dg_inv dX11_peek_51 mo_140 rfl rfl wd_919 wd_921 wd_16 pd_140) <| dr_c (dg_no) <| dr_c (dg_no) <| dr_c (dg_ret dX11_peek_54) <| dr_n
theorem tk_167 : dm_AllC (dm_Good dm_tb RX11 cX11_peek 2 (some .int) false none) 0 cd_167 := dc_c (by decide) tr_167_0 <| dc_c (by decide) tr_167_1 <| dc_c (by decide) tr_167_2 <| dc_c (by decide) tr_167_3 <| dc_n
theorem dX11_send_0 : decode cX11_send 0 = .ok (.aload_n 0, 1) := by decide +kernel
theorem dX11_send_1 : decode cX11_send 1 = .ok (.iconst 0, 1) := by decide +kernel
theorem dX11_send_2 : decode cX11_send 2 = .ok (.putfield 165, 3) := by decide +kernel
theorem dX11_send_5 : decode cX11_send 5 = .ok (.aload_n 0, 1) := by decide +kernel
theorem dX11_send_6 : decode cX11_send 6 = .ok (.iload_n 1, 1) := by decide +kernel
theorem dX11_send_7 : decode cX11_send 7 = .ok (.invokevirtual 232, 3) := by decide +kernel
theorem dX11_send_10 : decode cX11_send 10 = .ok (.ifCond .eq 11, 3) := by decide +kernel
theorem dX11_send_13 : decode cX11_send 13 = .ok (.aload_n 0, 1) := by decide +kernel
theorem dX11_send_14 : decode cX11_send 14 = .ok (.iload_n 1, 1) := by decide +kernel
theorem dX11_send_15 : decode cX11_send 15 = .ok (.invokevirtual 229, 3) := by decide +kernel
theorem dX11_send_18 : decode cX11_send 18 = .ok (.ifCond .ne 5, 3) := by decide +kernel
theorem dX11_send_21 : decode cX11_send 21 = .ok (.iconst (-1), 1) := by decide +kernel
theorem dX11_send_22 : decode cX11_send 22 = .ok (.ireturn, 1) := by decide +kernel
theorem dX11_send_23 : decode cX11_send 23 = .ok (.aload_n 0, 1) := by decide +kernel
theorem dX11_send_24 : decode cX11_send 24 = .ok (.iload_n 1, 1) := by decide +kernel
theorem dX11_send_25 : decode cX11_send 25 = .ok (.invokevirtual 235, 3) := by decide +kernel
theorem dX11_send_28 : decode cX11_send 28 = .ok (.aload_n 0, 1) := by decide +kernel
theorem dX11_send_29 : decode cX11_send 29 = .ok (.iload_n 1, 1) := by decide +kernel
theorem dX11_send_30 : decode cX11_send 30 = .ok (.invokevirtual 250, 3) := by decide +kernel
theorem dX11_send_33 : decode cX11_send 33 = .ok (.aload_n 0, 1) := by decide +kernel
theorem dX11_send_34 : decode cX11_send 34 = .ok (.invokevirtual 280, 3) := by decide +kernel
theorem dX11_send_37 : decode cX11_send 37 = .ok (.aload_n 0, 1) := by decide +kernel
theorem dX11_send_38 : decode cX11_send 38 = .ok (.lconst 0, 1) := by decide +kernel
theorem dX11_send_39 : decode cX11_send 39 = .ok (.ldc2_w 186, 3) := by decide +kernel
theorem dX11_send_42 : decode cX11_send 42 = .ok (.invokevirtual 200, 3) := by decide +kernel
theorem dX11_send_45 : decode cX11_send 45 = .ok (.istore_n 2, 1) := by decide +kernel
theorem dX11_send_46 : decode cX11_send 46 = .ok (.aload_n 0, 1) := by decide +kernel
theorem dX11_send_47 : decode cX11_send 47 = .ok (.iconst 2, 1) := by decide +kernel
theorem dX11_send_48 : decode cX11_send 48 = .ok (.aload_n 0, 1) := by decide +kernel
theorem dX11_send_49 : decode cX11_send 49 = .ok (.getfield 50, 3) := by decide +kernel
theorem dX11_send_52 : decode cX11_send 52 = .ok (.iload_n 1, 1) := by decide +kernel
theorem dX11_send_53 : decode cX11_send 53 = .ok (.iaload, 1) := by decide +kernel
theorem dX11_send_54 : decode cX11_send 54 = .ok (.iconst 1, 1) := by decide +kernel
theorem dX11_send_55 : decode cX11_send 55 = .ok (.iadd, 1) := by decide +kernel
theorem dX11_send_56 : decode cX11_send 56 = .ok (.iconst 2, 1) := by decide +kernel
theorem dX11_send_57 : decode cX11_send 57 = .ok (.iload_n 2, 1) := by decide +kernel
theorem dX11_send_58 : decode cX11_send 58 = .ok (.imul, 1) := by decide +kernel
theorem dX11_send_59 : decode cX11_send 59 = .ok (.iadd, 1) := by decide +kernel
theorem dX11_send_60 : decode cX11_send 60 = .ok (.invokevirtual 242, 3) := by decide +kernel
theorem dX11_send_63 : decode cX11_send 63 = .ok (.ifCond .ne 5, 3) := by decide +kernel
theorem dX11_send_66 : decode cX11_send 66 = .ok (.iconst (-1), 1) := by decide +kernel
theorem dX11_send_67 : decode cX11_send 67 = .ok (.ireturn, 1) := by decide +kernel
theorem dX11_send_68 : decode cX11_send 68 = .ok (.aload_n 0, 1) := by decide +kernel
theorem dX11_send_69 : decode cX11_send 69 = .ok (.iload_n 1, 1) := by decide +kernel
theorem dX11_send_70 : decode cX11_send 70 = .ok (.iconst (-1), 1) := by decide +kernel
theorem dX11_send_71 : decode cX11_send 71 = .ok (.invokevirtual 246, 3) := by decide +kernel
theorem dX11_send_74 : decode cX11_send 74 = .ok (.aload_n 0, 1) := by decide +kernel
theorem dX11_send_75 : decode cX11_send 75 = .ok (.iconst 2, 1) := by decide +kernel
theorem dX11_send_76 : decode cX11_send 76 = .ok (.iload_n 1, 1) := by decide +kernel
theorem dX11_send_77 : decode cX11_send 77 = .ok (.iconst (-1), 1) := by decide +kernel
theorem dX11_send_78 : decode cX11_send 78 = .ok (.invokevirtual 188, 3) := by decide +kernel
theorem dX11_send_81 : decode cX11_send 81 = .ok (.istore_n 3, 1) := by decide +kernel
theorem dX11_send_82 : decode cX11_send 82 = .ok (.aload_n 0, 1) := by decide +kernel
theorem dX11_send_83 : decode cX11_send 83 = .ok (.iload_n 3, 1) := by decide +kernel
theorem dX11_send_84 : decode cX11_send 84 = .ok (.invokevirtual 283, 3) := by decide +kernel
theorem dX11_send_87 : decode cX11_send 87 = .ok (.aload_n 0, 1) := by decide +kernel
theorem dX11_send_88 : decode cX11_send 88 = .ok (.iload_n 3, 1) := by decide +kernel
theorem dX11_send_89 : decode cX11_send 89 = .ok (.invokevirtual 250, 3) := by decide +kernel
theorem dX11_send_92 : decode cX11_send 92 = .ok (.aload_n 0, 1) := by decide +kernel
theorem dX11_send_93 : decode cX11_send 93 = .ok (.iconst 0, 1) := by decide +kernel
theorem dX11_send_94 : decode cX11_send 94 = .ok (.putfield 183, 3) := by decide +kernel
theorem dX11_send_97 : decode cX11_send 97 = .ok (.aload_n 0, 1) := by decide +kernel
theorem dX11_send_98 : decode cX11_send 98 = .ok (.iconst 4, 1) := by decide +kernel
theorem dX11_send_99 : decode cX11_send 99 = .ok (.iload_n 3, 1) := by decide +kernel
theorem dX11_send_100 : decode cX11_send 100 = .ok (.iconst (-1), 1) := by decide +kernel
theorem dX11_send_101 : decode cX11_send 101 = .ok (.invokevirtual 188, 3) := by decide +kernel
theorem dX11_send_104 : decode cX11_send 104 = .ok (.pop, 1) := by decide +kernel
theorem dX11_send_105 : decode cX11_send 105 = .ok (.aload_n 0, 1) := by decide +kernel
theorem dX11_send_106 : decode cX11_send 106 = .ok (.iload_n 1, 1) := by decide +kernel
theorem dX11_send_107 : decode cX11_send 107 = .ok (.invokevirtual 253, 3) := by decide +kernel
theorem dX11_send_110 : decode cX11_send 110 = .ok (.iload_n 3, 1) := by decide +kernel
theorem dX11_send_111 : decode cX11_send 111 = .ok (.ireturn, 1) := by decide +kernel
def cd_168 : dm_Code := [[dm_ald 1 0, dm_push 2 (.int 0), dm_putf 5 8 40 .int, dm_no, dm_no, dm_ald 6 0, dm_ild 7 1, dm_inv 10 137 1 8, dm_no, dm_no, dm_if_eq 13 21, dm_no, dm_no, dm_ald 14 0, dm_ild 15 1, dm_inv 18 138 1 8],
  [dm_no, dm_no, dm_if_ne 21 23, dm_no, dm_no, dm_push 22 (.int (-1)), dm_ret .int, dm_ald 24 0, dm_ild 25 1, dm_inv 28 142 1 8, dm_no, dm_no, dm_ald 29 0, dm_ild 30 1, dm_inv 33 141 1 8, dm_no],
  [dm_no, dm_ald 34 0, dm_inv 37 160 0 8, dm_no, dm_no, dm_ald 38 0, dm_push 39 (.long 0), dm_push 42 (.long 1152921504606846976), dm_no, dm_no, dm_inv 45 151 2 8, dm_no, dm_no, dm_ist 46 2, dm_ald 47 0, dm_push 48 (.int 2)],
  [dm_ald 49 0, dm_getf 52 8 12, dm_no, dm_no, dm_ild 53 1, dm_iald 54, dm_push 55 (.int 1), dm_ii 56 (fun x y => x + y), dm_push 57 (.int 2), dm_ild 58 2, dm_ii 59 (fun x y => x * y), dm_ii 60 (fun x y => x + y), dm_inv 63 139 2 8, dm_no, dm_no, dm_if_ne 66 68],
  [dm_no, dm_no, dm_push 67 (.int (-1)), dm_ret .int, dm_ald 69 0, dm_ild 70 1, dm_push 71 (.int (-1)), dm_inv 74 155 2 8, dm_no, dm_no, dm_ald 75 0, dm_push 76 (.int 2), dm_ild 77 1, dm_push 78 (.int (-1)), dm_inv 81 140 3 8, dm_no],
  [dm_no, dm_ist 82 3, dm_ald 83 0, dm_ild 84 3, dm_inv 87 161 1 8, dm_no, dm_no, dm_ald 88 0, dm_ild 89 3, dm_inv 92 141 1 8, dm_no, dm_no, dm_ald 93 0, dm_push 94 (.int 0), dm_putf 97 8 34 .int, dm_no],
  [dm_no, dm_ald 98 0, dm_push 99 (.int 4), dm_ild 100 3, dm_push 101 (.int (-1)), dm_inv 104 140 3 8, dm_no, dm_no, dm_pop 105, dm_ald 106 0, dm_ild 107 1, dm_inv 110 156 1 8, dm_no, dm_no, dm_ild 111 3, dm_ret .int]]
theorem tr_168_0 : dm_AllR (dm_Good dm_tb RX11 cX11_send 4 (some .int) false none) 0 [dm_ald 1 0, dm_push 2 (.int 0), dm_putf 5 8 40 .int, dm_no, dm_no, dm_ald 6 0, dm_ild 7 1, dm_inv 10 137 1 8, dm_no, dm_no, dm_if_eq 13 21, dm_no, dm_no, dm_ald 14 0, dm_ild 15 1, dm_inv 18 138 1 8] := dr_c (dg_aload_n (k := 0) rfl dX11_send_0) <| dr_c (dg_iconst (by decide) dX11_send_1) <| dr_c (dg_putf (T := TX11) (C := RX11) (N := 68) dX11_send_2 rfl (by decide) iw_X11 tyX11_ok nmX11 wd_988 rfl rfl) <| dr_c (dg_no) <| dr_c (dg_no) <| dr_c (dg_aload_n (k := 0) rfl dX11_send_5) <| dr_c (dg_iload_n (k := 1) rfl dX11_send_6) <| dr_c (dg_inv dX11_send_7 mo_137 rfl rfl wd_1161 wd_1163 wd_23 pd_137) <| dr_c (dg_no) <| dr_c (dg_no) <| dr_c (dg_if_eq (by decide) dX11_send_10) <| dr_c (dg_no) <| dr_c (dg_no) <| dr_c (dg_aload_n (k := 0) rfl dX11_send_13) <| dr_c (dg_iload_n (k := 1) rfl dX11_send_14) <| dr_c (dg_inv dX11_send_15 mo_138 rfl rfl wd_1169 wd_1171 wd_25 pd_138) <| dr_n
theorem tr_168_1 : dm_AllR (dm_Good dm_tb RX11 cX11_send 4 (some .int) false none) 16 [dm_no, dm_no, dm_if_ne 21 23, dm_no, dm_no, dm_push 22 (.int (-1)), dm_ret .int, dm_ald 24 0, dm_ild 25 1, dm_inv 28 142 1 8, dm_no, dm_no, dm_ald 29 0, dm_ild 30 1, dm_inv 33 141 1 8, dm_no] := dr_c (dg_no) <| dr_c (dg_no) <| dr_c (dg_if_ne (by decide) dX11_send_18) <| dr_c (dg_no) <| dr_c (dg_no) <| dr_c (dg_iconst (by decide) dX11_send_21) <| dr_c (dg_ret dX11_send_22) <| dr_c (dg_aload_n (k := 0) rfl dX11_send_23) <| dr_c (dg_iload_n (k := 1) rfl dX11_send_24) <| dr_c (dg_inv dX11_send_25 mo_142 rfl rfl wd_1173 wd_1175 wd_26 pd_142) <| dr_c (dg_no) <| dr_c (dg_no) <| dr_c (dg_aload_n (k := 0) rfl dX11_send_28) <| dr_c (dg_iload_n (k := 1) rfl dX11_send_29) <| dr_c (dg_inv dX11_send_30 mo_141 rfl rfl wd_1189 wd_1191 wd_30 pd_141) <| dr_c (dg_no) <| dr_n
theorem tr_168_2 : dm_AllR (dm_Good dm_tb RX11 cX11_send 4 (some .int) false none) 32 [dm_no, dm_ald 34 0, dm_inv 37 160 0 8, dm_no, dm_no, dm_ald 38 0, dm_push 39 (.long 0), dm_push 42 (.long 1152921504606846976), dm_no, dm_no, dm_inv 45 151 2 8, dm_no, dm_no, dm_ist 46 2, dm_ald 47 0, dm_push 48 (.int 2)] := dr_c (dg_no) <| dr_c (dg_aload_n (k := 0) rfl dX11_send_33) <| dr_c (dg_inv dX11_send_34 mo_160 rfl rfl wd_1201 wd_1203 wd_32 pd_160) <| dr_c (dg_no) <| dr_c (dg_no) <| dr_c (dg_aload_n (k := 0) rfl dX11_send_37) <| dr_c (dg_lconst (by decide) dX11_send_38) <| dr_c (dg_ldc2 wd_918 dX11_send_39) <| dr_c (dg_no) <| dr_c (dg_no) <| dr_c (dg_inv dX11_send_42 mo_151 rfl rfl wd_932 wd_934 wd_19 pd_151) <| dr_c (dg_no) <| dr_c (dg_no) <| dr_c (dg_istore_n (k := 2) rfl (by decide) dX11_send_45) <| dr_c (dg_aload_n (k := 0) rfl dX11_send_46) <| dr_c (dg_iconst (by decide) dX11_send_47) <| dr_n
theorem tr_168_3 : dm_AllR (dm_Good dm_tb RX11 cX11_send 4 (some .int) false none) 48 [dm_ald 49 0, dm_getf 52 8 12, dm_no, dm_no, dm_ild 53 1, dm_iald 54, dm_push 55 (.int 1), dm_ii 56 (fun x y => x + y), dm_push 57 (.int 2), dm_ild 58 2, dm_ii 59 (fun x y => x * y), dm_ii 60 (fun x y => x + y), dm_inv 63 139 2 8, dm_no, dm_no, dm_if_ne 66 68] := dr_c (dg_aload_n (k := 0) rfl dX11_send_48) <| dr_c (dg_getf (T := TX11) (C := RX11) (N := 68) dX11_send_49 rfl (by decide) iw_X11 wd_960) <| dr_c (dg_no) <| dr_c (dg_no) <| dr_c (dg_iload_n (k := 1) rfl dX11_send_52) <| dr_c (dg_iald dX11_send_53) <| dr_c (dg_iconst (by decide) dX11_send_54) <| dr_c (dg_iadd dX11_send_55) <| dr_c (dg_iconst (by decide) dX11_send_56) <| dr_c (dg_iload_n (k := 2) rfl dX11_send_57) <| dr_c (dg_imul dX11_send_58) <| dr_c (dg_iadd dX11_send_59) <| dr_c (dg_inv dX11_send_60 mo_139 rfl rfl wd_1181 wd_1183 wd_28 pd_139) <| dr_c (dg_no) <| dr_c (dg_no) <| dr_c (dg_if_ne (by decide) dX11_send_63) <| dr_n
theorem tr_168_4 : dm_AllR (dm_Good dm_tb RX11 cX11_send 4 (some .int) false none) 64 [dm_no, dm_no, dm_push 67 (.int (-1)), dm_ret .int, dm_ald 69 0, dm_ild 70 1, dm_push 71 (.int (-1)), dm_inv 74 155 2 8, dm_no, dm_no, dm_ald 75 0, dm_push 76 (.int 2), dm_ild 77 1, dm_push 78 (.int (-1)), dm_inv 81 140 3 8, dm_no] := dr_c (dg_no) <| dr_c (dg_no) <| dr_c (dg_iconst (by decide) dX11_send_66) <| dr_c (dg_ret dX11_send_67) <| dr_c (dg_aload_n (k := 0) rfl dX11_send_68) <| dr_c (dg_iload_n (k := 1) rfl dX11_send_69) <| dr_c (dg_iconst (by decide) dX11_send_70) <| dr_c (dg_inv dX11_send_71 mo_155 rfl rfl wd_1185 wd_1187 wd_29 pd_155) <| dr_c (dg_no) <| dr_c (dg_no) <| dr_c (dg_aload_n (k := 0) rfl dX11_send_74) <| dr_c (dg_iconst (by decide) dX11_send_75) <| dr_c (dg_iload_n (k := 1) rfl dX11_send_76) <| dr_c (dg_iconst (by decide) dX11_send_77) <| dr_c (dg_inv dX11_send_78 mo_140 rfl rfl wd_919 wd_921 wd_16 pd_140) <| dr_c (dg_no) <| dr_n
theorem tr_168_5 : dm_AllR (dm_Good dm_tb RX11 cX11_send 4 (some .int) false none) 80 [dm_no, dm_ist 82 3, dm_ald 83 0, dm_ild 84 3, dm_inv 87 161 1 8, dm_no, dm_no, dm_ald 88 0, dm_ild 89 3, dm_inv 92 141 1 8, dm_no, dm_no, dm_ald 93 0, dm_push 94 (.int 0), dm_putf 97 8 34 .int, dm_no] := dr_c (dg_no) <| dr_c (dg_istore_n (k := 3) rfl (by decide) dX11_send_81) <| dr_c (dg_aload_n (k := 0) rfl dX11_send_82) <| dr_c (dg_iload_n (k := 3) rfl dX11_send_83) <| dr_c (dg_inv dX11_send_84 mo_161 rfl rfl wd_1234 wd_1236 wd_40 pd_161) <| dr_c (dg_no) <| dr_c (dg_no) <| dr_c (dg_aload_n (k := 0) rfl dX11_send_87) <| dr_c (dg_iload_n (k := 3) rfl dX11_send_88) <| dr_c (dg_inv dX11_send_89 mo_141 rfl rfl wd_1189 wd_1191 wd_30 pd_141) <| dr_c (dg_no) <| dr_c (dg_no) <| dr_c (dg_aload_n (k := 0) rfl dX11_send_92) <| dr_c (dg_iconst (by decide) dX11_send_93) <| dr_c (dg_putf (T := TX11) (C := RX11) (N := 68) dX11_send_94 rfl (by decide) iw_X11 tyX11_ok nmX11 wd_982 rfl rfl) <| dr_c (dg_no) <| dr_n
theorem tr_168_6 : dm_AllR (dm_Good dm_tb RX11 cX11_send 4 (some .int) false none) 96 [dm_no, dm_ald 98 0, dm_push 99 (.int 4), dm_ild 100 3, dm_push 101 (.int (-1)), dm_inv 104 140 3 8, dm_no, dm_no, dm_pop 105, dm_ald 106 0, dm_ild 107 1, dm_inv 110 156 1 8, dm_no, dm_no, dm_ild 111 3, dm_ret .int] := dr_c (dg_no) <| dr_c (dg_aload_n (k := 0) rfl dX11_send_97) <| dr_c (dg_iconst (by decide) dX11_send_98) <| dr_c (dg_iload_n (k := 3) rfl dX11_send_99) <| dr_c (dg_iconst (by decide) dX11_send_100) <| dr_c (dg_inv dX11_send_101 mo_140 rfl rfl wd_919 wd_921 wd_16 pd_140) <| dr_c (dg_no) <| dr_c (dg_no) <| dr_c (dg_pop dX11_send_104) <| dr_c (dg_aload_n (k := 0) rfl dX11_send_105) <| dr_c (dg_iload_n (k := 1) rfl dX11_send_106) <| dr_c (dg_inv dX11_send_107 mo_156 rfl rfl wd_1193 wd_1195 wd_31 pd_156) <| dr_c (dg_no) <| dr_c (dg_no) <| dr_c (dg_iload_n (k := 3) rfl dX11_send_110) <| dr_c (dg_ret dX11_send_111) <| dr_n
theorem tk_168 : dm_AllC (dm_Good dm_tb RX11 cX11_send 4 (some .int) false none) 0 cd_168 := dc_c (by decide) tr_168_0 <| dc_c (by decide) tr_168_1 <| dc_c (by decide) tr_168_2 <| dc_c (by decide) tr_168_3 <| dc_c (by decide) tr_168_4 <| dc_c (by decide) tr_168_5 <| dc_c (by decide) tr_168_6 <| dc_n
theorem dX11_take_0 : decode cX11_take 0 = .ok (.aload_n 0, 1) := by decide +kernel
theorem dX11_take_1 : decode cX11_take 1 = .ok (.iconst 0, 1) := by decide +kernel
theorem dX11_take_2 : decode cX11_take 2 = .ok (.putfield 165, 3) := by decide +kernel
theorem dX11_take_5 : decode cX11_take 5 = .ok (.aload_n 0, 1) := by decide +kernel
theorem dX11_take_6 : decode cX11_take 6 = .ok (.iload_n 1, 1) := by decide +kernel
theorem dX11_take_7 : decode cX11_take 7 = .ok (.invokevirtual 232, 3) := by decide +kernel
theorem dX11_take_10 : decode cX11_take 10 = .ok (.ifCond .eq 32, 3) := by decide +kernel
theorem dX11_take_13 : decode cX11_take 13 = .ok (.aload_n 0, 1) := by decide +kernel
theorem dX11_take_14 : decode cX11_take 14 = .ok (.iload_n 2, 1) := by decide +kernel
theorem dX11_take_15 : decode cX11_take 15 = .ok (.invokevirtual 232, 3) := by decide +kernel
theorem dX11_take_18 : decode cX11_take 18 = .ok (.ifCond .eq 24, 3) := by decide +kernel
theorem dX11_take_21 : decode cX11_take 21 = .ok (.iload_n 1, 1) := by decide +kernel
theorem dX11_take_22 : decode cX11_take 22 = .ok (.iload_n 2, 1) := by decide +kernel
theorem dX11_take_23 : decode cX11_take 23 = .ok (.if_icmp .eq 19, 3) := by decide +kernel
theorem dX11_take_26 : decode cX11_take 26 = .ok (.aload_n 0, 1) := by decide +kernel
theorem dX11_take_27 : decode cX11_take 27 = .ok (.iload_n 1, 1) := by decide +kernel
theorem dX11_take_28 : decode cX11_take 28 = .ok (.invokevirtual 229, 3) := by decide +kernel
theorem dX11_take_31 : decode cX11_take 31 = .ok (.ifCond .ne 13, 3) := by decide +kernel
theorem dX11_take_34 : decode cX11_take 34 = .ok (.aload_n 0, 1) := by decide +kernel
theorem dX11_take_35 : decode cX11_take 35 = .ok (.iload_n 2, 1) := by decide +kernel
theorem dX11_take_36 : decode cX11_take 36 = .ok (.invokevirtual 229, 3) := by decide +kernel
theorem dX11_take_39 : decode cX11_take 39 = .ok (.ifCond .ne 5, 3) := by decide +kernel
theorem dX11_take_42 : decode cX11_take 42 = .ok (.iconst (-1), 1) := by decide +kernel
theorem dX11_take_43 : decode cX11_take 43 = .ok (.ireturn, 1) := by decide +kernel
theorem dX11_take_44 : decode cX11_take 44 = .ok (.aload_n 0, 1) := by decide +kernel
theorem dX11_take_45 : decode cX11_take 45 = .ok (.iload_n 1, 1) := by decide +kernel
theorem dX11_take_46 : decode cX11_take 46 = .ok (.iload_n 2, 1) := by decide +kernel
theorem dX11_take_47 : decode cX11_take 47 = .ok (.invokevirtual 286, 3) := by decide +kernel
theorem dX11_take_50 : decode cX11_take 50 = .ok (.aload_n 0, 1) := by decide +kernel
theorem dX11_take_51 : decode cX11_take 51 = .ok (.iload_n 1, 1) := by decide +kernel
theorem dX11_take_52 : decode cX11_take 52 = .ok (.iload_n 2, 1) := by decide +kernel
theorem dX11_take_53 : decode cX11_take 53 = .ok (.invokevirtual 289, 3) := by decide +kernel
theorem dX11_take_56 : decode cX11_take 56 = .ok (.aload_n 0, 1) := by decide +kernel
theorem dX11_take_57 : decode cX11_take 57 = .ok (.lconst 0, 1) := by decide +kernel
theorem dX11_take_58 : decode cX11_take 58 = .ok (.ldc2_w 186, 3) := by decide +kernel
theorem dX11_take_61 : decode cX11_take 61 = .ok (.invokevirtual 196, 3) := by decide +kernel
theorem dX11_take_64 : decode cX11_take 64 = .ok (.istore_n 3, 1) := by decide +kernel
theorem dX11_take_65 : decode cX11_take 65 = .ok (.aload_n 0, 1) := by decide +kernel
theorem dX11_take_66 : decode cX11_take 66 = .ok (.lconst 0, 1) := by decide +kernel
theorem dX11_take_67 : decode cX11_take 67 = .ok (.ldc2_w 186, 3) := by decide +kernel
theorem dX11_take_70 : decode cX11_take 70 = .ok (.invokevirtual 200, 3) := by decide +kernel
theorem dX11_take_73 : decode cX11_take 73 = .ok (.istore 4, 2) := by decide +kernel
theorem dX11_take_75 : decode cX11_take 75 = .ok (.aload_n 0, 1) := by decide +kernel
theorem dX11_take_76 : decode cX11_take 76 = .ok (.invokevirtual 280, 3) := by decide +kernel
theorem dX11_take_79 : decode cX11_take 79 = .ok (.aload_n 0, 1) := by decide +kernel
theorem dX11_take_80 : decode cX11_take 80 = .ok (.iconst 2, 1) := by decide +kernel
theorem dX11_take_81 : decode cX11_take 81 = .ok (.iconst 2, 1) := by decide +kernel
theorem dX11_take_82 : decode cX11_take 82 = .ok (.iload_n 3, 1) := by decide +kernel
theorem dX11_take_83 : decode cX11_take 83 = .ok (.imul, 1) := by decide +kernel
theorem dX11_take_84 : decode cX11_take 84 = .ok (.iload 4, 2) := by decide +kernel
theorem dX11_take_86 : decode cX11_take 86 = .ok (.iadd, 1) := by decide +kernel
theorem dX11_take_87 : decode cX11_take 87 = .ok (.aload_n 0, 1) := by decide +kernel
theorem dX11_take_88 : decode cX11_take 88 = .ok (.lconst 0, 1) := by decide +kernel
theorem dX11_take_89 : decode cX11_take 89 = .ok (.ldc2_w 186, 3) := by decide +kernel
theorem dX11_take_92 : decode cX11_take 92 = .ok (.invokevirtual 200, 3) := by decide +kernel
theorem dX11_take_95 : decode cX11_take 95 = .ok (.iadd, 1) := by decide +kernel
theorem dX11_take_96 : decode cX11_take 96 = .ok (.invokevirtual 242, 3) := by decide +kernel
theorem dX11_take_99 : decode cX11_take 99 = .ok (.ifCond .ne 5, 3) := by decide +kernel
theorem dX11_take_102 : decode cX11_take 102 = .ok (.iconst (-1), 1) := by decide +kernel
theorem dX11_take_103 : decode cX11_take 103 = .ok (.ireturn, 1) := by decide +kernel
theorem dX11_take_104 : decode cX11_take 104 = .ok (.aload_n 0, 1) := by decide +kernel
theorem dX11_take_105 : decode cX11_take 105 = .ok (.iload_n 1, 1) := by decide +kernel
theorem dX11_take_106 : decode cX11_take 106 = .ok (.iload_n 2, 1) := by decide +kernel
theorem dX11_take_107 : decode cX11_take 107 = .ok (.invokevirtual 246, 3) := by decide +kernel
theorem dX11_take_110 : decode cX11_take 110 = .ok (.aload_n 0, 1) := by decide +kernel
theorem dX11_take_111 : decode cX11_take 111 = .ok (.iload_n 1, 1) := by decide +kernel
theorem dX11_take_112 : decode cX11_take 112 = .ok (.iload_n 2, 1) := by decide +kernel
theorem dX11_take_113 : decode cX11_take 113 = .ok (.invokevirtual 286, 3) := by decide +kernel
theorem dX11_take_116 : decode cX11_take 116 = .ok (.aload_n 0, 1) := by decide +kernel
theorem dX11_take_117 : decode cX11_take 117 = .ok (.iconst 3, 1) := by decide +kernel
theorem dX11_take_118 : decode cX11_take 118 = .ok (.iload_n 1, 1) := by decide +kernel
theorem dX11_take_119 : decode cX11_take 119 = .ok (.iload_n 2, 1) := by decide +kernel
theorem dX11_take_120 : decode cX11_take 120 = .ok (.invokevirtual 188, 3) := by decide +kernel
theorem dX11_take_123 : decode cX11_take 123 = .ok (.istore 5, 2) := by decide +kernel
theorem dX11_take_125 : decode cX11_take 125 = .ok (.aload_n 0, 1) := by decide +kernel
theorem dX11_take_126 : decode cX11_take 126 = .ok (.invokevirtual 280, 3) := by decide +kernel
theorem dX11_take_129 : decode cX11_take 129 = .ok (.aload_n 0, 1) := by decide +kernel
theorem dX11_take_130 : decode cX11_take 130 = .ok (.iconst 2, 1) := by decide +kernel
theorem dX11_take_131 : decode cX11_take 131 = .ok (.iload 5, 2) := by decide +kernel
theorem dX11_take_133 : decode cX11_take 133 = .ok (.iconst (-1), 1) := by decide +kernel
theorem dX11_take_134 : decode cX11_take 134 = .ok (.invokevirtual 188, 3) := by decide +kernel
theorem dX11_take_137 : decode cX11_take 137 = .ok (.istore 6, 2) := by decide +kernel
theorem dX11_take_139 : decode cX11_take 139 = .ok (.aload_n 0, 1) := by decide +kernel
theorem dX11_take_140 : decode cX11_take 140 = .ok (.iload 6, 2) := by decide +kernel
theorem dX11_take_142 : decode cX11_take 142 = .ok (.invokevirtual 283, 3) := by decide +kernel
theorem dX11_take_145 : decode cX11_take 145 = .ok (.aload_n 0, 1) := by decide +kernel
theorem dX11_take_146 : decode cX11_take 146 = .ok (.getfield 29, 3) := by decide +kernel
theorem dX11_take_149 : decode cX11_take 149 = .ok (.iload 5, 2) := by decide +kernel
theorem dX11_take_151 : decode cX11_take 151 = .ok (.iconst 0, 1) := by decide +kernel
theorem dX11_take_152 : decode cX11_take 152 = .ok (.bastore, 1) := by decide +kernel
theorem dX11_take_153 : decode cX11_take 153 = .ok (.aload_n 0, 1) := by decide +kernel
theorem dX11_take_154 : decode cX11_take 154 = .ok (.iload_n 1, 1) := by decide +kernel
theorem dX11_take_155 : decode cX11_take 155 = .ok (.invokevirtual 253, 3) := by decide +kernel
theorem dX11_take_158 : decode cX11_take 158 = .ok (.aload_n 0, 1) := by decide +kernel
theorem dX11_take_159 : decode cX11_take 159 = .ok (.iload_n 2, 1) := by decide +kernel
theorem dX11_take_160 : decode cX11_take 160 = .ok (.invokevirtual 253, 3) := by decide +kernel
theorem dX11_take_163 : decode cX11_take 163 = .ok (.iload 6, 2) := by decide +kernel
theorem dX11_take_165 : decode cX11_take 165 = .ok (.ireturn, 1) := by decide +kernel
def cd_169 : dm_Code := [[dm_ald 1 0, dm_push 2 (.int 0), dm_putf 5 8 40 .int, dm_no, dm_no, dm_ald 6 0, dm_ild 7 1, dm_inv 10 137 1 8, dm_no, dm_no, dm_if_eq 13 42, dm_no, dm_no, dm_ald 14 0, dm_ild 15 2, dm_inv 18 137 1 8],
  [dm_no, dm_no, dm_if_eq 21 42, dm_no, dm_no, dm_ild 22 1, dm_ild 23 2, dm_ic_eq 26 42, dm_no, dm_no, dm_ald 27 0, dm_ild 28 1, dm_inv 31 138 1 8, dm_no, dm_no, dm_if_ne 34 44],
  [dm_no, dm_no, dm_ald 35 0, dm_ild 36 2, dm_inv 39 138 1 8, dm_no, dm_no, dm_if_ne 42 44, dm_no, dm_no, dm_push 43 (.int (-1)), dm_ret .int, dm_ald 45 0, dm_ild 46 1, dm_ild 47 2, dm_inv 50 163 2 8],
  [dm_no, dm_no, dm_ald 51 0, dm_ild 52 1, dm_ild 53 2, dm_inv 56 164 2 8, dm_no, dm_no, dm_ald 57 0, dm_push 58 (.long 0), dm_push 61 (.long 1152921504606846976), dm_no, dm_no, dm_inv 64 153 2 8, dm_no, dm_no],
  [dm_ist 65 3, dm_ald 66 0, dm_push 67 (.long 0), dm_push 70 (.long 1152921504606846976), dm_no, dm_no, dm_inv 73 151 2 8, dm_no, dm_no, dm_ist 75 4, dm_no, dm_ald 76 0, dm_inv 79 160 0 8, dm_no, dm_no, dm_ald 80 0],
  [dm_push 81 (.int 2), dm_push 82 (.int 2), dm_ild 83 3, dm_ii 84 (fun x y => x * y), dm_ild 86 4, dm_no, dm_ii 87 (fun x y => x + y), dm_ald 88 0, dm_push 89 (.long 0), dm_push 92 (.long 1152921504606846976), dm_no, dm_no, dm_inv 95 151 2 8, dm_no, dm_no, dm_ii 96 (fun x y => x + y)],
  [dm_inv 99 139 2 8, dm_no, dm_no, dm_if_ne 102 104, dm_no, dm_no, dm_push 103 (.int (-1)), dm_ret .int, dm_ald 105 0, dm_ild 106 1, dm_ild 107 2, dm_inv 110 155 2 8, dm_no, dm_no, dm_ald 111 0, dm_ild 112 1],
  [dm_ild 113 2, dm_inv 116 163 2 8, dm_no, dm_no, dm_ald 117 0, dm_push 118 (.int 3), dm_ild 119 1, dm_ild 120 2, dm_inv 123 140 3 8, dm_no, dm_no, dm_ist 125 5, dm_no, dm_ald 126 0, dm_inv 129 160 0 8, dm_no],
  [dm_no, dm_ald 130 0, dm_push 131 (.int 2), dm_ild 133 5, dm_no, dm_push 134 (.int (-1)), dm_inv 137 140 3 8, dm_no, dm_no, dm_ist 139 6, dm_no, dm_ald 140 0, dm_ild 142 6, dm_no, dm_inv 145 161 1 8, dm_no],
  [dm_no, dm_ald 146 0, dm_getf 149 8 6, dm_no, dm_no, dm_ild 151 5, dm_no, dm_push 152 (.int 0), dm_bast 153, dm_ald 154 0, dm_ild 155 1, dm_inv 158 156 1 8, dm_no, dm_no, dm_ald 159 0, dm_ild 160 2],
  [dm_inv 163 156 1 8, dm_no, dm_no, dm_ild 165 6, dm_no, dm_ret .int]]
theorem tr_169_0 : dm_AllR (dm_Good dm_tb RX11 cX11_take 7 (some .int) false none) 0 [dm_ald 1 0, dm_push 2 (.int 0), dm_putf 5 8 40 .int, dm_no, dm_no, dm_ald 6 0, dm_ild 7 1, dm_inv 10 137 1 8, dm_no, dm_no, dm_if_eq 13 42, dm_no, dm_no, dm_ald 14 0, dm_ild 15 2, dm_inv 18 137 1 8] := dr_c (dg_aload_n (k := 0) rfl dX11_take_0) <| dr_c (dg_iconst (by decide) dX11_take_1) <| dr_c (dg_putf (T := TX11) (C := RX11) (N := 68) dX11_take_2 rfl (by decide) iw_X11 tyX11_ok nmX11 wd_988 rfl rfl) <| dr_c (dg_no) <| dr_c (dg_no) <| dr_c (dg_aload_n (k := 0) rfl dX11_take_5) <| dr_c (dg_iload_n (k := 1) rfl dX11_take_6) <| dr_c (dg_inv dX11_take_7 mo_137 rfl rfl wd_1161 wd_1163 wd_23 pd_137) <| dr_c (dg_no) <| dr_c (dg_no) <| dr_c (dg_if_eq (by decide) dX11_take_10) <| dr_c (dg_no) <| dr_c (dg_no) <| dr_c (dg_aload_n (k := 0) rfl dX11_take_13) <| dr_c (dg_iload_n (k := 2) rfl dX11_take_14) <| dr_c (dg_inv dX11_take_15 mo_137 rfl rfl wd_1161 wd_1163 wd_23 pd_137) <| dr_n
theorem tr_169_1 : dm_AllR (dm_Good dm_tb RX11 cX11_take 7 (some .int) false none) 16 [dm_no, dm_no, dm_if_eq 21 42, dm_no, dm_no, dm_ild 22 1, dm_ild 23 2, dm_ic_eq 26 42, dm_no, dm_no, dm_ald 27 0, dm_ild 28 1, dm_inv 31 138 1 8, dm_no, dm_no, dm_if_ne 34 44] := dr_c (dg_no) <| dr_c (dg_no) <| dr_c (dg_if_eq (by decide) dX11_take_18) <| dr_c (dg_no) <| dr_c (dg_no) <| dr_c (dg_iload_n (k := 1) rfl dX11_take_21) <| dr_c (dg_iload_n (k := 2) rfl dX11_take_22) <| dr_c (dg_ic_eq (by decide) dX11_take_23) <| dr_c (dg_no) <| dr_c (dg_no) <| dr_c (dg_aload_n (k := 0) rfl dX11_take_26) <| dr_c (dg_iload_n (k := 1) rfl dX11_take_27) <| dr_c (dg_inv dX11_take_28 mo_138 rfl rfl wd_1169 wd_1171 wd_25 pd_138) <| dr_c (dg_no) <| dr_c (dg_no) <| dr_c (dg_if_ne (by decide) dX11_take_31) <| dr_n
theorem tr_169_2 : dm_AllR (dm_Good dm_tb RX11 cX11_take 7 (some .int) false none) 32 [dm_no, dm_no, dm_ald 35 0, dm_ild 36 2, dm_inv 39 138 1 8, dm_no, dm_no, dm_if_ne 42 44, dm_no, dm_no, dm_push 43 (.int (-1)), dm_ret .int, dm_ald 45 0, dm_ild 46 1, dm_ild 47 2, dm_inv 50 163 2 8] := dr_c (dg_no) <| dr_c (dg_no) <| dr_c (dg_aload_n (k := 0) rfl dX11_take_34) <| dr_c (dg_iload_n (k := 2) rfl dX11_take_35) <| dr_c (dg_inv dX11_take_36 mo_138 rfl rfl wd_1169 wd_1171 wd_25 pd_138) <| dr_c (dg_no) <| dr_c (dg_no) <| dr_c (dg_if_ne (by decide) dX11_take_39) <| dr_c (dg_no) <| dr_c (dg_no) <| dr_c (dg_iconst (by decide) dX11_take_42) <| dr_c (dg_ret dX11_take_43) <| dr_c (dg_aload_n (k := 0) rfl dX11_take_44) <| dr_c (dg_iload_n (k := 1) rfl dX11_take_45) <| dr_c (dg_iload_n (k := 2) rfl dX11_take_46) <| dr_c (dg_inv dX11_take_47 mo_163 rfl rfl wd_1246 wd_1248 wd_42 pd_163) <| dr_n
theorem tr_169_3 : dm_AllR (dm_Good dm_tb RX11 cX11_take 7 (some .int) false none) 48 [dm_no, dm_no, dm_ald 51 0, dm_ild 52 1, dm_ild 53 2, dm_inv 56 164 2 8, dm_no, dm_no, dm_ald 57 0, dm_push 58 (.long 0), dm_push 61 (.long 1152921504606846976), dm_no, dm_no, dm_inv 64 153 2 8, dm_no, dm_no] := dr_c (dg_no) <| dr_c (dg_no) <| dr_c (dg_aload_n (k := 0) rfl dX11_take_50) <| dr_c (dg_iload_n (k := 1) rfl dX11_take_51) <| dr_c (dg_iload_n (k := 2) rfl dX11_take_52) <| dr_c (dg_inv dX11_take_53 mo_164 rfl rfl wd_1250 wd_1252 wd_43 pd_164) <| dr_c (dg_no) <| dr_c (dg_no) <| dr_c (dg_aload_n (k := 0) rfl dX11_take_56) <| dr_c (dg_lconst (by decide) dX11_take_57) <| dr_c (dg_ldc2 wd_918 dX11_take_58) <| dr_c (dg_no) <| dr_c (dg_no) <| dr_c (dg_inv dX11_take_61 mo_153 rfl rfl wd_923 wd_925 wd_17 pd_153) <| dr_c (dg_no) <| dr_c (dg_no) <| dr_n
theorem tr_169_4 : dm_AllR (dm_Good dm_tb RX11 cX11_take 7 (some .int) false none) 64 [dm_ist 65 3, dm_ald 66 0, dm_push 67 (.long 0), dm_push 70 (.long 1152921504606846976), dm_no, dm_no, dm_inv 73 151 2 8, dm_no, dm_no, dm_ist 75 4, dm_no, dm_ald 76 0, dm_inv 79 160 0 8, dm_no, dm_no, dm_ald 80 0] := dr_c (dg_istore_n (k := 3) rfl (by decide) dX11_take_64) <| dr_c (dg_aload_n (k := 0) rfl dX11_take_65) <| dr_c (dg_lconst (by decide) dX11_take_66) <| dr_c (dg_ldc2 wd_918 dX11_take_67) <| dr_c (dg_no) <| dr_c (dg_no) <| dr_c (dg_inv dX11_take_70 mo_151 rfl rfl wd_932 wd_934 wd_19 pd_151) <| dr_c (dg_no) <| dr_c (dg_no) <| dr_c (dg_istore (by decide) dX11_take_73) <| dr_c (dg_no) <| dr_c (dg_aload_n (k := 0) rfl dX11_take_75) <| dr_c (dg_inv dX11_take_76 mo_160 rfl rfl wd_1201 wd_1203 wd_32 pd_160) <| dr_c (dg_no) <| dr_c (dg_no) <| dr_c (dg_aload_n (k := 0) rfl dX11_take_79) <| dr_n
theorem tr_169_5 : dm_AllR (dm_Good dm_tb RX11 cX11_take 7 (some .int) false none) 80 [dm_push 81 (.int 2), dm_push 82 (.int 2), dm_ild 83 3, dm_ii 84 (fun x y => x * y), dm_ild 86 4, dm_no, dm_ii 87 (fun x y => x + y), dm_ald 88 0, dm_push 89 (.long 0), dm_push 92 (.long 1152921504606846976), dm_no, dm_no, dm_inv 95 151 2 8, dm_no, dm_no, dm_ii 96 (fun x y => x + y)] := dr_c (dg_iconst (by decide) dX11_take_80) <| dr_c (dg_iconst (by decide) dX11_take_81) <| dr_c (dg_iload_n (k := 3) rfl dX11_take_82) <| dr_c (dg_imul dX11_take_83) <| dr_c (dg_iload dX11_take_84) <| dr_c (dg_no) <| dr_c (dg_iadd dX11_take_86) <| dr_c (dg_aload_n (k := 0) rfl dX11_take_87) <| dr_c (dg_lconst (by decide) dX11_take_88) <| dr_c (dg_ldc2 wd_918 dX11_take_89) <| dr_c (dg_no) <| dr_c (dg_no) <| dr_c (dg_inv dX11_take_92 mo_151 rfl rfl wd_932 wd_934 wd_19 pd_151) <| dr_c (dg_no) <| dr_c (dg_no) <| dr_c (dg_iadd dX11_take_95) <| dr_n
theorem tr_169_6 : dm_AllR (dm_Good dm_tb RX11 cX11_take 7 (some .int) false none) 96 [dm_inv 99 139 2 8, dm_no, dm_no, dm_if_ne 102 104, dm_no, dm_no, dm_push 103 (.int (-1)), dm_ret .int, dm_ald 105 0, dm_ild 106 1, dm_ild 107 2, dm_inv 110 155 2 8, dm_no, dm_no, dm_ald 111 0, dm_ild 112 1] := dr_c (dg_inv dX11_take_96 mo_139 rfl rfl wd_1181 wd_1183 wd_28 pd_139) <| dr_c (dg_no) <| dr_c (dg_no) <| dr_c (dg_if_ne (by decide) dX11_take_99) <| dr_c (dg_no) <| dr_c (dg_no) <| dr_c (dg_iconst (by decide) dX11_take_102) <| dr_c (dg_ret dX11_take_103) <| dr_c (dg_aload_n (k := 0) rfl dX11_take_104) <| dr_c (dg_iload_n (k := 1) rfl dX11_take_105) <| dr_c (dg_iload_n (k := 2) rfl dX11_take_106) <| dr_c (dg_inv dX11_take_107 mo_155 rfl rfl wd_1185 wd_1187 wd_29 pd_155) <| dr_c (dg_no) <| dr_c (dg_no) <| dr_c (dg_aload_n (k := 0) rfl dX11_take_110) <| dr_c (dg_iload_n (k := 1) rfl dX11_take_111) <| dr_n
theorem tr_169_7 : dm_AllR (dm_Good dm_tb RX11 cX11_take 7 (some .int) false none) 112 [dm_ild 113 2, dm_inv 116 163 2 8, dm_no, dm_no, dm_ald 117 0, dm_push 118 (.int 3), dm_ild 119 1, dm_ild 120 2, dm_inv 123 140 3 8, dm_no, dm_no, dm_ist 125 5, dm_no, dm_ald 126 0, dm_inv 129 160 0 8, dm_no] := dr_c (dg_iload_n (k := 2) rfl dX11_take_112) <| dr_c (dg_inv dX11_take_113 mo_163 rfl rfl wd_1246 wd_1248 wd_42 pd_163) <| dr_c (dg_no) <| dr_c (dg_no) <| dr_c (dg_aload_n (k := 0) rfl dX11_take_116) <| dr_c (dg_iconst (by decide) dX11_take_117) <| dr_c (dg_iload_n (k := 1) rfl dX11_take_118) <| dr_c (dg_iload_n (k := 2) rfl dX11_take_119) <| dr_c (dg_inv dX11_take_120 mo_140 rfl rfl wd_919 wd_921 wd_16 pd_140) <| dr_c (dg_no) <| dr_c (dg_no) <| dr_c (dg_istore (by decide) dX11_take_123) <| dr_c (dg_no) <| dr_c (dg_aload_n (k := 0) rfl dX11_take_125) <| dr_c (dg_inv dX11_take_126 mo_160 rfl rfl wd_1201 wd_1203 wd_32 pd_160) <| dr_c (dg_no) <| dr_n
theorem tr_169_8 : dm_AllR (dm_Good dm_tb RX11 cX11_take 7 (some .int) false none) 128 [dm_no, dm_ald 130 0, dm_push 131 (.int 2), dm_ild 133 5, dm_no, dm_push 134 (.int (-1)), dm_inv 137 140 3 8, dm_no, dm_no, dm_ist 139 6, dm_no, dm_ald 140 0, dm_ild 142 6, dm_no, dm_inv 145 161 1 8, dm_no] := dr_c (dg_no) <| dr_c (dg_aload_n (k := 0) rfl dX11_take_129) <| dr_c (dg_iconst (by decide) dX11_take_130) <| dr_c (dg_iload dX11_take_131) <| dr_c (dg_no) <| dr_c (dg_iconst (by decide) dX11_take_133) <| dr_c (dg_inv dX11_take_134 mo_140 rfl rfl wd_919 wd_921 wd_16 pd_140) <| dr_c (dg_no) <| dr_c (dg_no) <| dr_c (dg_istore (by decide) dX11_take_137) <| dr_c (dg_no) <| dr_c (dg_aload_n (k := 0) rfl dX11_take_139) <| dr_c (dg_iload dX11_take_140) <| dr_c (dg_no) <| dr_c (dg_inv dX11_take_142 mo_161 rfl rfl wd_1234 wd_1236 wd_40 pd_161) <| dr_c (dg_no) <| dr_n
theorem tr_169_9 : dm_AllR (dm_Good dm_tb RX11 cX11_take 7 (some .int) false none) 144 [dm_no, dm_ald 146 0, dm_getf 149 8 6, dm_no, dm_no, dm_ild 151 5, dm_no, dm_push 152 (.int 0), dm_bast 153, dm_ald 154 0, dm_ild 155 1, dm_inv 158 156 1 8, dm_no, dm_no, dm_ald 159 0, dm_ild 160 2] := dr_c (dg_no) <| dr_c (dg_aload_n (k := 0) rfl dX11_take_145) <| dr_c (dg_getf (T := TX11) (C := RX11) (N := 68) dX11_take_146 rfl (by decide) iw_X11 wd_954) <| dr_c (dg_no) <| dr_c (dg_no) <| dr_c (dg_iload dX11_take_149) <| dr_c (dg_no) <| dr_c (dg_iconst (by decide) dX11_take_151) <| dr_c (dg_bast dX11_take_152) <| dr_c (dg_aload_n (k := 0) rfl dX11_take_153) <| dr_c (dg_iload_n (k := 1) rfl dX11_take_154) <| dr_c (dg_inv dX11_take_155 mo_156 rfl rfl wd_1193 wd_1195 wd_31 pd_156) <| dr_c (dg_no) <| dr_c (dg_no) <| dr_c (dg_aload_n (k := 0) rfl dX11_take_158) <| dr_c (dg_iload_n (k := 2) rfl dX11_take_159) <| dr_n
theorem tr_169_10 : dm_AllR (dm_Good dm_tb RX11 cX11_take 7 (some .int) false none) 160 [dm_inv 163 156 1 8, dm_no, dm_no, dm_ild 165 6, dm_no, dm_ret .int] := dr_c (dg_inv dX11_take_160 mo_156 rfl rfl wd_1193 wd_1195 wd_31 pd_156) <| dr_c (dg_no) <| dr_c (dg_no) <| dr_c (dg_iload dX11_take_163) <| dr_c (dg_no) <| dr_c (dg_ret dX11_take_165) <| dr_n
theorem tk_169 : dm_AllC (dm_Good dm_tb RX11 cX11_take 7 (some .int) false none) 0 cd_169 := dc_c (by decide) tr_169_0 <| dc_c (by decide) tr_169_1 <| dc_c (by decide) tr_169_2 <| dc_c (by decide) tr_169_3 <| dc_c (by decide) tr_169_4 <| dc_c (by decide) tr_169_5 <| dc_c (by decide) tr_169_6 <| dc_c (by decide) tr_169_7 <| dc_c (by decide) tr_169_8 <| dc_c (by decide) tr_169_9 <| dc_c (by decide) tr_169_10 <| dc_n
theorem dX11_lose_0 : decode cX11_lose 0 = .ok (.aload_n 0, 1) := by decide +kernel
theorem dX11_lose_1 : decode cX11_lose 1 = .ok (.iconst 0, 1) := by decide +kernel
theorem dX11_lose_2 : decode cX11_lose 2 = .ok (.putfield 165, 3) := by decide +kernel
theorem dX11_lose_5 : decode cX11_lose 5 = .ok (.aload_n 0, 1) := by decide +kernel
theorem dX11_lose_6 : decode cX11_lose 6 = .ok (.iload_n 1, 1) := by decide +kernel
theorem dX11_lose_7 : decode cX11_lose 7 = .ok (.invokevirtual 232, 3) := by decide +kernel
theorem dX11_lose_10 : decode cX11_lose 10 = .ok (.ifCond .eq 11, 3) := by decide +kernel
theorem dX11_lose_13 : decode cX11_lose 13 = .ok (.aload_n 0, 1) := by decide +kernel
theorem dX11_lose_14 : decode cX11_lose 14 = .ok (.iload_n 1, 1) := by decide +kernel
theorem dX11_lose_15 : decode cX11_lose 15 = .ok (.invokevirtual 229, 3) := by decide +kernel
theorem dX11_lose_18 : decode cX11_lose 18 = .ok (.ifCond .ne 5, 3) := by decide +kernel
theorem dX11_lose_21 : decode cX11_lose 21 = .ok (.iconst 0, 1) := by decide +kernel
theorem dX11_lose_22 : decode cX11_lose 22 = .ok (.ireturn, 1) := by decide +kernel
theorem dX11_lose_23 : decode cX11_lose 23 = .ok (.aload_n 0, 1) := by decide +kernel
theorem dX11_lose_24 : decode cX11_lose 24 = .ok (.iload_n 1, 1) := by decide +kernel
theorem dX11_lose_25 : decode cX11_lose 25 = .ok (.iconst (-1), 1) := by decide +kernel
theorem dX11_lose_26 : decode cX11_lose 26 = .ok (.invokevirtual 246, 3) := by decide +kernel
theorem dX11_lose_29 : decode cX11_lose 29 = .ok (.aload_n 0, 1) := by decide +kernel
theorem dX11_lose_30 : decode cX11_lose 30 = .ok (.getfield 77, 3) := by decide +kernel
theorem dX11_lose_33 : decode cX11_lose 33 = .ok (.aload_n 0, 1) := by decide +kernel
theorem dX11_lose_34 : decode cX11_lose 34 = .ok (.getfield 177, 3) := by decide +kernel
theorem dX11_lose_37 : decode cX11_lose 37 = .ok (.iconst 1, 1) := by decide +kernel
theorem dX11_lose_38 : decode cX11_lose 38 = .ok (.isub, 1) := by decide +kernel
theorem dX11_lose_39 : decode cX11_lose 39 = .ok (.iload_n 1, 1) := by decide +kernel
theorem dX11_lose_40 : decode cX11_lose 40 = .ok (.i2s, 1) := by decide +kernel
theorem dX11_lose_41 : decode cX11_lose 41 = .ok (.sastore, 1) := by decide +kernel
theorem dX11_lose_42 : decode cX11_lose 42 = .ok (.aload_n 0, 1) := by decide +kernel
theorem dX11_lose_43 : decode cX11_lose 43 = .ok (.getfield 29, 3) := by decide +kernel
theorem dX11_lose_46 : decode cX11_lose 46 = .ok (.iload_n 1, 1) := by decide +kernel
theorem dX11_lose_47 : decode cX11_lose 47 = .ok (.iconst 0, 1) := by decide +kernel
theorem dX11_lose_48 : decode cX11_lose 48 = .ok (.bastore, 1) := by decide +kernel
theorem dX11_lose_49 : decode cX11_lose 49 = .ok (.aload_n 0, 1) := by decide +kernel
theorem dX11_lose_50 : decode cX11_lose 50 = .ok (.getfield 33, 3) := by decide +kernel
theorem dX11_lose_53 : decode cX11_lose 53 = .ok (.iload_n 1, 1) := by decide +kernel
theorem dX11_lose_54 : decode cX11_lose 54 = .ok (.iconst 1, 1) := by decide +kernel
theorem dX11_lose_55 : decode cX11_lose 55 = .ok (.bastore, 1) := by decide +kernel
theorem dX11_lose_56 : decode cX11_lose 56 = .ok (.iconst 1, 1) := by decide +kernel
theorem dX11_lose_57 : decode cX11_lose 57 = .ok (.ireturn, 1) := by decide +kernel
def cd_170 : dm_Code := [[dm_ald 1 0, dm_push 2 (.int 0), dm_putf 5 8 40 .int, dm_no, dm_no, dm_ald 6 0, dm_ild 7 1, dm_inv 10 137 1 8, dm_no, dm_no, dm_if_eq 13 21, dm_no, dm_no, dm_ald 14 0, dm_ild 15 1, dm_inv 18 138 1 8],
  [dm_no, dm_no, dm_if_ne 21 23, dm_no, dm_no, dm_push 22 (.int 0), dm_ret .boolean, dm_ald 24 0, dm_ild 25 1, dm_push 26 (.int (-1)), dm_inv 29 155 2 8, dm_no, dm_no, dm_ald 30 0, dm_getf 33 8 24, dm_no],
  [dm_no, dm_ald 34 0, dm_getf 37 8 26, dm_no, dm_no, dm_push 38 (.int 1), dm_ii 39 (fun x y => x - y), dm_ild 40 1, dm_i1 41 (fun x => .int x.toInt16.toInt32), dm_sast 42, dm_ald 43 0, dm_getf 46 8 6, dm_no, dm_no, dm_ild 47 1, dm_push 48 (.int 0)],
  [dm_bast 49, dm_ald 50 0, dm_getf 53 8 7, dm_no, dm_no, dm_ild 54 1, dm_push 55 (.int 1), dm_bast 56, dm_push 57 (.int 1), dm_ret .boolean]]
theorem tr_170_0 : dm_AllR (dm_Good dm_tb RX11 cX11_lose 2 (some .boolean) false none) 0 [dm_ald 1 0, dm_push 2 (.int 0), dm_putf 5 8 40 .int, dm_no, dm_no, dm_ald 6 0, dm_ild 7 1, dm_inv 10 137 1 8, dm_no, dm_no, dm_if_eq 13 21, dm_no, dm_no, dm_ald 14 0, dm_ild 15 1, dm_inv 18 138 1 8] := dr_c (dg_aload_n (k := 0) rfl dX11_lose_0) <| dr_c (dg_iconst (by decide) dX11_lose_1) <| dr_c (dg_putf (T := TX11) (C := RX11) (N := 68) dX11_lose_2 rfl (by decide) iw_X11 tyX11_ok nmX11 wd_988 rfl rfl) <| dr_c (dg_no) <| dr_c (dg_no) <| dr_c (dg_aload_n (k := 0) rfl dX11_lose_5) <| dr_c (dg_iload_n (k := 1) rfl dX11_lose_6) <| dr_c (dg_inv dX11_lose_7 mo_137 rfl rfl wd_1161 wd_1163 wd_23 pd_137) <| dr_c (dg_no) <| dr_c (dg_no) <| dr_c (dg_if_eq (by decide) dX11_lose_10) <| dr_c (dg_no) <| dr_c (dg_no) <| dr_c (dg_aload_n (k := 0) rfl dX11_lose_13) <| dr_c (dg_iload_n (k := 1) rfl dX11_lose_14) <| dr_c (dg_inv dX11_lose_15 mo_138 rfl rfl wd_1169 wd_1171 wd_25 pd_138) <| dr_n
theorem tr_170_1 : dm_AllR (dm_Good dm_tb RX11 cX11_lose 2 (some .boolean) false none) 16 [dm_no, dm_no, dm_if_ne 21 23, dm_no, dm_no, dm_push 22 (.int 0), dm_ret .boolean, dm_ald 24 0, dm_ild 25 1, dm_push 26 (.int (-1)), dm_inv 29 155 2 8, dm_no, dm_no, dm_ald 30 0, dm_getf 33 8 24, dm_no] := dr_c (dg_no) <| dr_c (dg_no) <| dr_c (dg_if_ne (by decide) dX11_lose_18) <| dr_c (dg_no) <| dr_c (dg_no) <| dr_c (dg_iconst (by decide) dX11_lose_21) <| dr_c (dg_ret dX11_lose_22) <| dr_c (dg_aload_n (k := 0) rfl dX11_lose_23) <| dr_c (dg_iload_n (k := 1) rfl dX11_lose_24) <| dr_c (dg_iconst (by decide) dX11_lose_25) <| dr_c (dg_inv dX11_lose_26 mo_155 rfl rfl wd_1185 wd_1187 wd_29 pd_155) <| dr_c (dg_no) <| dr_c (dg_no) <| dr_c (dg_aload_n (k := 0) rfl dX11_lose_29) <| dr_c (dg_getf (T := TX11) (C := RX11) (N := 68) dX11_lose_30 rfl (by decide) iw_X11 wd_972) <| dr_c (dg_no) <| dr_n
theorem tr_170_2 : dm_AllR (dm_Good dm_tb RX11 cX11_lose 2 (some .boolean) false none) 32 [dm_no, dm_ald 34 0, dm_getf 37 8 26, dm_no, dm_no, dm_push 38 (.int 1), dm_ii 39 (fun x y => x - y), dm_ild 40 1, dm_i1 41 (fun x => .int x.toInt16.toInt32), dm_sast 42, dm_ald 43 0, dm_getf 46 8 6, dm_no, dm_no, dm_ild 47 1, dm_push 48 (.int 0)] := dr_c (dg_no) <| dr_c (dg_aload_n (k := 0) rfl dX11_lose_33) <| dr_c (dg_getf (T := TX11) (C := RX11) (N := 68) dX11_lose_34 rfl (by decide) iw_X11 wd_974) <| dr_c (dg_no) <| dr_c (dg_no) <| dr_c (dg_iconst (by decide) dX11_lose_37) <| dr_c (dg_isub dX11_lose_38) <| dr_c (dg_iload_n (k := 1) rfl dX11_lose_39) <| dr_c (dg_i2s dX11_lose_40) <| dr_c (dg_sast dX11_lose_41) <| dr_c (dg_aload_n (k := 0) rfl dX11_lose_42) <| dr_c (dg_getf (T := TX11) (C := RX11) (N := 68) dX11_lose_43 rfl (by decide) iw_X11 wd_954) <| dr_c (dg_no) <| dr_c (dg_no) <| dr_c (dg_iload_n (k := 1) rfl dX11_lose_46) <| dr_c (dg_iconst (by decide) dX11_lose_47) <| dr_n
theorem tr_170_3 : dm_AllR (dm_Good dm_tb RX11 cX11_lose 2 (some .boolean) false none) 48 [dm_bast 49, dm_ald 50 0, dm_getf 53 8 7, dm_no, dm_no, dm_ild 54 1, dm_push 55 (.int 1), dm_bast 56, dm_push 57 (.int 1), dm_ret .boolean] := dr_c (dg_bast dX11_lose_48) <| dr_c (dg_aload_n (k := 0) rfl dX11_lose_49) <| dr_c (dg_getf (T := TX11) (C := RX11) (N := 68) dX11_lose_50 rfl (by decide) iw_X11 wd_955) <| dr_c (dg_no) <| dr_c (dg_no) <| dr_c (dg_iload_n (k := 1) rfl dX11_lose_53) <| dr_c (dg_iconst (by decide) dX11_lose_54) <| dr_c (dg_bast dX11_lose_55) <| dr_c (dg_iconst (by decide) dX11_lose_56) <| dr_c (dg_ret dX11_lose_57) <| dr_n
theorem tk_170 : dm_AllC (dm_Good dm_tb RX11 cX11_lose 2 (some .boolean) false none) 0 cd_170 := dc_c (by decide) tr_170_0 <| dc_c (by decide) tr_170_1 <| dc_c (by decide) tr_170_2 <| dc_c (by decide) tr_170_3 <| dc_n
theorem dX11_home_0 : decode cX11_home 0 = .ok (.aload_n 0, 1) := by decide +kernel
theorem dX11_home_1 : decode cX11_home 1 = .ok (.iconst 0, 1) := by decide +kernel
theorem dX11_home_2 : decode cX11_home 2 = .ok (.putfield 165, 3) := by decide +kernel
theorem dX11_home_5 : decode cX11_home 5 = .ok (.aload_n 0, 1) := by decide +kernel
theorem dX11_home_6 : decode cX11_home 6 = .ok (.iload_n 1, 1) := by decide +kernel
theorem dX11_home_7 : decode cX11_home 7 = .ok (.invokevirtual 232, 3) := by decide +kernel
theorem dX11_home_10 : decode cX11_home 10 = .ok (.ifCond .eq 29, 3) := by decide +kernel
theorem dX11_home_13 : decode cX11_home 13 = .ok (.aload_n 0, 1) := by decide +kernel
theorem dX11_home_14 : decode cX11_home 14 = .ok (.iload_n 2, 1) := by decide +kernel
theorem dX11_home_15 : decode cX11_home 15 = .ok (.invokevirtual 192, 3) := by decide +kernel
theorem dX11_home_18 : decode cX11_home 18 = .ok (.ifCond .eq 21, 3) := by decide +kernel
theorem dX11_home_21 : decode cX11_home 21 = .ok (.aload_n 0, 1) := by decide +kernel
theorem dX11_home_22 : decode cX11_home 22 = .ok (.getfield 33, 3) := by decide +kernel
theorem dX11_home_25 : decode cX11_home 25 = .ok (.iload_n 2, 1) := by decide +kernel
theorem dX11_home_26 : decode cX11_home 26 = .ok (.baload, 1) := by decide +kernel
theorem dX11_home_27 : decode cX11_home 27 = .ok (.ifCond .eq 12, 3) := by decide +kernel
theorem dX11_home_30 : decode cX11_home 30 = .ok (.aload_n 0, 1) := by decide +kernel
theorem dX11_home_31 : decode cX11_home 31 = .ok (.iload_n 2, 1) := by decide +kernel
theorem dX11_home_32 : decode cX11_home 32 = .ok (.iload_n 1, 1) := by decide +kernel
theorem dX11_home_33 : decode cX11_home 33 = .ok (.invokevirtual 295, 3) := by decide +kernel
theorem dX11_home_36 : decode cX11_home 36 = .ok (.ifCond .ne 5, 3) := by decide +kernel
theorem dX11_home_39 : decode cX11_home 39 = .ok (.iconst (-1), 1) := by decide +kernel
theorem dX11_home_40 : decode cX11_home 40 = .ok (.ireturn, 1) := by decide +kernel
theorem dX11_home_41 : decode cX11_home 41 = .ok (.aload_n 0, 1) := by decide +kernel
theorem dX11_home_42 : decode cX11_home 42 = .ok (.iload_n 1, 1) := by decide +kernel
theorem dX11_home_43 : decode cX11_home 43 = .ok (.iload_n 2, 1) := by decide +kernel
theorem dX11_home_44 : decode cX11_home 44 = .ok (.iconst 5, 1) := by decide +kernel
theorem dX11_home_45 : decode cX11_home 45 = .ok (.invokevirtual 292, 3) := by decide +kernel
theorem dX11_home_48 : decode cX11_home 48 = .ok (.istore_n 3, 1) := by decide +kernel
theorem dX11_home_49 : decode cX11_home 49 = .ok (.iload_n 3, 1) := by decide +kernel
theorem dX11_home_50 : decode cX11_home 50 = .ok (.iconst (-1), 1) := by decide +kernel
theorem dX11_home_51 : decode cX11_home 51 = .ok (.if_icmp .ne 5, 3) := by decide +kernel
theorem dX11_home_54 : decode cX11_home 54 = .ok (.iconst (-1), 1) := by decide +kernel
theorem dX11_home_55 : decode cX11_home 55 = .ok (.ireturn, 1) := by decide +kernel
theorem dX11_home_56 : decode cX11_home 56 = .ok (.aload_n 0, 1) := by decide +kernel
theorem dX11_home_57 : decode cX11_home 57 = .ok (.getfield 33, 3) := by decide +kernel
theorem dX11_home_60 : decode cX11_home 60 = .ok (.iload_n 2, 1) := by decide +kernel
theorem dX11_home_61 : decode cX11_home 61 = .ok (.iconst 0, 1) := by decide +kernel
theorem dX11_home_62 : decode cX11_home 62 = .ok (.bastore, 1) := by decide +kernel
theorem dX11_home_63 : decode cX11_home 63 = .ok (.aload_n 0, 1) := by decide +kernel
theorem dX11_home_64 : decode cX11_home 64 = .ok (.getfield 80, 3) := by decide +kernel
theorem dX11_home_67 : decode cX11_home 67 = .ok (.aload_n 0, 1) := by decide +kernel
theorem dX11_home_68 : decode cX11_home 68 = .ok (.getfield 177, 3) := by decide +kernel
theorem dX11_home_71 : decode cX11_home 71 = .ok (.iconst 1, 1) := by decide +kernel
theorem dX11_home_72 : decode cX11_home 72 = .ok (.isub, 1) := by decide +kernel
theorem dX11_home_73 : decode cX11_home 73 = .ok (.iload_n 2, 1) := by decide +kernel
theorem dX11_home_74 : decode cX11_home 74 = .ok (.i2s, 1) := by decide +kernel
theorem dX11_home_75 : decode cX11_home 75 = .ok (.sastore, 1) := by decide +kernel
theorem dX11_home_76 : decode cX11_home 76 = .ok (.iload_n 3, 1) := by decide +kernel
theorem dX11_home_77 : decode cX11_home 77 = .ok (.ireturn, 1) := by decide +kernel
def cd_171 : dm_Code := [[dm_ald 1 0, dm_push 2 (.int 0), dm_putf 5 8 40 .int, dm_no, dm_no, dm_ald 6 0, dm_ild 7 1, dm_inv 10 137 1 8, dm_no, dm_no, dm_if_eq 13 39, dm_no, dm_no, dm_ald 14 0, dm_ild 15 2, dm_inv 18 136 1 8],
  [dm_no, dm_no, dm_if_eq 21 39, dm_no, dm_no, dm_ald 22 0, dm_getf 25 8 7, dm_no, dm_no, dm_ild 26 2, dm_bald 27, dm_if_eq 30 39, dm_no, dm_no, dm_ald 31 0, dm_ild 32 2],
  [dm_ild 33 1, dm_inv 36 173 2 8, dm_no, dm_no, dm_if_ne 39 41, dm_no, dm_no, dm_push 40 (.int (-1)), dm_ret .int, dm_ald 42 0, dm_ild 43 1, dm_ild 44 2, dm_push 45 (.int 5), dm_inv 48 165 3 8, dm_no, dm_no],
  [dm_ist 49 3, dm_ild 50 3, dm_push 51 (.int (-1)), dm_ic_ne 54 56, dm_no, dm_no, dm_push 55 (.int (-1)), dm_ret .int, dm_ald 57 0, dm_getf 60 8 7, dm_no, dm_no, dm_ild 61 2, dm_push 62 (.int 0), dm_bast 63, dm_ald 64 0],
  [dm_getf 67 8 25, dm_no, dm_no, dm_ald 68 0, dm_getf 71 8 26, dm_no, dm_no, dm_push 72 (.int 1), dm_ii 73 (fun x y => x - y), dm_ild 74 2, dm_i1 75 (fun x => .int x.toInt16.toInt32), dm_sast 76, dm_ild 77 3, dm_ret .int]]
theorem tr_171_0 : dm_AllR (dm_Good dm_tb RX11 cX11_home 4 (some .int) false none) 0 [dm_ald 1 0, dm_push 2 (.int 0), dm_putf 5 8 40 .int, dm_no, dm_no, dm_ald 6 0, dm_ild 7 1, dm_inv 10 137 1 8, dm_no, dm_no, dm_if_eq 13 39, dm_no, dm_no, dm_ald 14 0, dm_ild 15 2, dm_inv 18 136 1 8] := dr_c (dg_aload_n (k := 0) rfl dX11_home_0) <| dr_c (dg_iconst (by decide) dX11_home_1) <| dr_c (dg_putf (T := TX11) (C := RX11) (N := 68) dX11_home_2 rfl (by decide) iw_X11 tyX11_ok nmX11 wd_988 rfl rfl) <| dr_c (dg_no) <| dr_c (dg_no) <| dr_c (dg_aload_n (k := 0) rfl dX11_home_5) <| dr_c (dg_iload_n (k := 1) rfl dX11_home_6) <| dr_c (dg_inv dX11_home_7 mo_137 rfl rfl wd_1161 wd_1163 wd_23 pd_137) <| dr_c (dg_no) <| dr_c (dg_no) <| dr_c (dg_if_eq (by decide) dX11_home_10) <| dr_c (dg_no) <| dr_c (dg_no) <| dr_c (dg_aload_n (k := 0) rfl dX11_home_13) <| dr_c (dg_iload_n (k := 2) rfl dX11_home_14) <| dr_c (dg_inv dX11_home_15 mo_136 rfl rfl wd_1165 wd_1167 wd_24 pd_136) <| dr_n
theorem tr_171_1 : dm_AllR (dm_Good dm_tb RX11 cX11_home 4 (some .int) false none) 16 [dm_no, dm_no, dm_if_eq 21 39, dm_no, dm_no, dm_ald 22 0, dm_getf 25 8 7, dm_no, dm_no, dm_ild 26 2, dm_bald 27, dm_if_eq 30 39, dm_no, dm_no, dm_ald 31 0, dm_ild 32 2] := dr_c (dg_no) <| dr_c (dg_no) <| dr_c (dg_if_eq (by decide) dX11_home_18) <| dr_c (dg_no) <| dr_c (dg_no) <| dr_c (dg_aload_n (k := 0) rfl dX11_home_21) <| dr_c (dg_getf (T := TX11) (C := RX11) (N := 68) dX11_home_22 rfl (by decide) iw_X11 wd_955) <| dr_c (dg_no) <| dr_c (dg_no) <| dr_c (dg_iload_n (k := 2) rfl dX11_home_25) <| dr_c (dg_bald dX11_home_26) <| dr_c (dg_if_eq (by decide) dX11_home_27) <| dr_c (dg_no) <| dr_c (dg_no) <| dr_c (dg_aload_n (k := 0) rfl dX11_home_30) <| dr_c (dg_iload_n (k := 2) rfl dX11_home_31) <| dr_n
theorem tr_171_2 : dm_AllR (dm_Good dm_tb RX11 cX11_home 4 (some .int) false none) 32 [dm_ild 33 1, dm_inv 36 173 2 8, dm_no, dm_no, dm_if_ne 39 41, dm_no, dm_no, dm_push 40 (.int (-1)), dm_ret .int, dm_ald 42 0, dm_ild 43 1, dm_ild 44 2, dm_push 45 (.int 5), dm_inv 48 165 3 8, dm_no, dm_no] := dr_c (dg_iload_n (k := 1) rfl dX11_home_32) <| dr_c (dg_inv dX11_home_33 mo_173 rfl rfl wd_1274 wd_1276 wd_44 pd_173) <| dr_c (dg_no) <| dr_c (dg_no) <| dr_c (dg_if_ne (by decide) dX11_home_36) <| dr_c (dg_no) <| dr_c (dg_no) <| dr_c (dg_iconst (by decide) dX11_home_39) <| dr_c (dg_ret dX11_home_40) <| dr_c (dg_aload_n (k := 0) rfl dX11_home_41) <| dr_c (dg_iload_n (k := 1) rfl dX11_home_42) <| dr_c (dg_iload_n (k := 2) rfl dX11_home_43) <| dr_c (dg_iconst (by decide) dX11_home_44) <| dr_c (dg_inv dX11_home_45 mo_165 rfl rfl wd_1242 wd_1244 wd_41 pd_165) <| dr_c (dg_no) <| dr_c (dg_no) <| dr_n
theorem tr_171_3 : dm_AllR (dm_Good dm_tb RX11 cX11_home 4 (some .int) false none) 48 [dm_ist 49 3, dm_ild 50 3, dm_push 51 (.int (-1)), dm_ic_ne 54 56, dm_no, dm_no, dm_push 55 (.int (-1)), dm_ret .int, dm_ald 57 0, dm_getf 60 8 7, dm_no, dm_no, dm_ild 61 2, dm_push 62 (.int 0), dm_bast 63, dm_ald 64 0] := dr_c (dg_istore_n (k := 3) rfl (by decide) dX11_home_48) <| dr_c (dg_iload_n (k := 3) rfl dX11_home_49) <| dr_c (dg_iconst (by decide) dX11_home_50) <| dr_c (dg_ic_ne (by decide) dX11_home_51) <| dr_c (dg_no) <| dr_c (dg_no) <| dr_c (dg_iconst (by decide) dX11_home_54) <| dr_c (dg_ret dX11_home_55) <| dr_c (dg_aload_n (k := 0) rfl dX11_home_56) <| dr_c (dg_getf (T := TX11) (C := RX11) (N := 68) dX11_home_57 rfl (by decide) iw_X11 wd_955) <| dr_c (dg_no) <| dr_c (dg_no) <| dr_c (dg_iload_n (k := 2) rfl dX11_home_60) <| dr_c (dg_iconst (by decide) dX11_home_61) <| dr_c (dg_bast dX11_home_62) <| dr_c (dg_aload_n (k := 0) rfl dX11_home_63) <| dr_n
theorem tr_171_4 : dm_AllR (dm_Good dm_tb RX11 cX11_home 4 (some .int) false none) 64 [dm_getf 67 8 25, dm_no, dm_no, dm_ald 68 0, dm_getf 71 8 26, dm_no, dm_no, dm_push 72 (.int 1), dm_ii 73 (fun x y => x - y), dm_ild 74 2, dm_i1 75 (fun x => .int x.toInt16.toInt32), dm_sast 76, dm_ild 77 3, dm_ret .int] := dr_c (dg_getf (T := TX11) (C := RX11) (N := 68) dX11_home_64 rfl (by decide) iw_X11 wd_973) <| dr_c (dg_no) <| dr_c (dg_no) <| dr_c (dg_aload_n (k := 0) rfl dX11_home_67) <| dr_c (dg_getf (T := TX11) (C := RX11) (N := 68) dX11_home_68 rfl (by decide) iw_X11 wd_974) <| dr_c (dg_no) <| dr_c (dg_no) <| dr_c (dg_iconst (by decide) dX11_home_71) <| dr_c (dg_isub dX11_home_72) <| dr_c (dg_iload_n (k := 2) rfl dX11_home_73) <| dr_c (dg_i2s dX11_home_74) <| dr_c (dg_sast dX11_home_75) <| dr_c (dg_iload_n (k := 3) rfl dX11_home_76) <| dr_c (dg_ret dX11_home_77) <| dr_n
theorem tk_171 : dm_AllC (dm_Good dm_tb RX11 cX11_home 4 (some .int) false none) 0 cd_171 := dc_c (by decide) tr_171_0 <| dc_c (by decide) tr_171_1 <| dc_c (by decide) tr_171_2 <| dc_c (by decide) tr_171_3 <| dc_c (by decide) tr_171_4 <| dc_n
theorem dX11_undo_0 : decode cX11_undo 0 = .ok (.aload_n 0, 1) := by decide +kernel
theorem dX11_undo_1 : decode cX11_undo 1 = .ok (.iconst 0, 1) := by decide +kernel
theorem dX11_undo_2 : decode cX11_undo 2 = .ok (.putfield 165, 3) := by decide +kernel
theorem dX11_undo_5 : decode cX11_undo 5 = .ok (.aload_n 0, 1) := by decide +kernel
theorem dX11_undo_6 : decode cX11_undo 6 = .ok (.getfield 177, 3) := by decide +kernel
theorem dX11_undo_9 : decode cX11_undo 9 = .ok (.ifCond .ne 5, 3) := by decide +kernel
theorem dX11_undo_12 : decode cX11_undo 12 = .ok (.iconst 0, 1) := by decide +kernel
theorem dX11_undo_13 : decode cX11_undo 13 = .ok (.ireturn, 1) := by decide +kernel
theorem dX11_undo_14 : decode cX11_undo 14 = .ok (.aload_n 0, 1) := by decide +kernel
theorem dX11_undo_15 : decode cX11_undo 15 = .ok (.dup, 1) := by decide +kernel
theorem dX11_undo_16 : decode cX11_undo 16 = .ok (.getfield 177, 3) := by decide +kernel
theorem dX11_undo_19 : decode cX11_undo 19 = .ok (.iconst 1, 1) := by decide +kernel
theorem dX11_undo_20 : decode cX11_undo 20 = .ok (.isub, 1) := by decide +kernel
theorem dX11_undo_21 : decode cX11_undo 21 = .ok (.putfield 177, 3) := by decide +kernel
theorem dX11_undo_24 : decode cX11_undo 24 = .ok (.aload_n 0, 1) := by decide +kernel
theorem dX11_undo_25 : decode cX11_undo 25 = .ok (.getfield 168, 3) := by decide +kernel
theorem dX11_undo_28 : decode cX11_undo 28 = .ok (.aload_n 0, 1) := by decide +kernel
theorem dX11_undo_29 : decode cX11_undo 29 = .ok (.getfield 59, 3) := by decide +kernel
theorem dX11_undo_32 : decode cX11_undo 32 = .ok (.aload_n 0, 1) := by decide +kernel
theorem dX11_undo_33 : decode cX11_undo 33 = .ok (.getfield 177, 3) := by decide +kernel
theorem dX11_undo_36 : decode cX11_undo 36 = .ok (.saload, 1) := by decide +kernel
theorem dX11_undo_37 : decode cX11_undo 37 = .ok (.if_icmp .le 44, 3) := by decide +kernel
theorem dX11_undo_40 : decode cX11_undo 40 = .ok (.aload_n 0, 1) := by decide +kernel
theorem dX11_undo_41 : decode cX11_undo 41 = .ok (.dup, 1) := by decide +kernel
theorem dX11_undo_42 : decode cX11_undo 42 = .ok (.getfield 168, 3) := by decide +kernel
theorem dX11_undo_45 : decode cX11_undo 45 = .ok (.iconst 1, 1) := by decide +kernel
theorem dX11_undo_46 : decode cX11_undo 46 = .ok (.isub, 1) := by decide +kernel
theorem dX11_undo_47 : decode cX11_undo 47 = .ok (.putfield 168, 3) := by decide +kernel
theorem dX11_undo_50 : decode cX11_undo 50 = .ok (.aload_n 0, 1) := by decide +kernel
theorem dX11_undo_51 : decode cX11_undo 51 = .ok (.dup, 1) := by decide +kernel
theorem dX11_undo_52 : decode cX11_undo 52 = .ok (.getfield 174, 3) := by decide +kernel
theorem dX11_undo_55 : decode cX11_undo 55 = .ok (.aload_n 0, 1) := by decide +kernel
theorem dX11_undo_56 : decode cX11_undo 56 = .ok (.getfield 50, 3) := by decide +kernel
theorem dX11_undo_59 : decode cX11_undo 59 = .ok (.aload_n 0, 1) := by decide +kernel
theorem dX11_undo_60 : decode cX11_undo 60 = .ok (.getfield 168, 3) := by decide +kernel
theorem dX11_undo_63 : decode cX11_undo 63 = .ok (.iaload, 1) := by decide +kernel
theorem dX11_undo_64 : decode cX11_undo 64 = .ok (.aload_n 0, 1) := by decide +kernel
theorem dX11_undo_65 : decode cX11_undo 65 = .ok (.getfield 53, 3) := by decide +kernel
theorem dX11_undo_68 : decode cX11_undo 68 = .ok (.aload_n 0, 1) := by decide +kernel
theorem dX11_undo_69 : decode cX11_undo 69 = .ok (.getfield 168, 3) := by decide +kernel
theorem dX11_undo_72 : decode cX11_undo 72 = .ok (.iaload, 1) := by decide +kernel
theorem dX11_undo_73 : decode cX11_undo 73 = .ok (.iadd, 1) := by decide +kernel
theorem dX11_undo_74 : decode cX11_undo 74 = .ok (.isub, 1) := by decide +kernel
theorem dX11_undo_75 : decode cX11_undo 75 = .ok (.putfield 174, 3) := by decide +kernel
theorem dX11_undo_78 : decode cX11_undo 78 = .ok (.goto (-54), 3) := by decide +kernel
theorem dX11_undo_81 : decode cX11_undo 81 = .ok (.aload_n 0, 1) := by decide +kernel
theorem dX11_undo_82 : decode cX11_undo 82 = .ok (.aload_n 0, 1) := by decide +kernel
theorem dX11_undo_83 : decode cX11_undo 83 = .ok (.getfield 62, 3) := by decide +kernel
theorem dX11_undo_86 : decode cX11_undo 86 = .ok (.aload_n 0, 1) := by decide +kernel
theorem dX11_undo_87 : decode cX11_undo 87 = .ok (.getfield 177, 3) := by decide +kernel
theorem dX11_undo_90 : decode cX11_undo 90 = .ok (.saload, 1) := by decide +kernel
theorem dX11_undo_91 : decode cX11_undo 91 = .ok (.putfield 171, 3) := by decide +kernel
theorem dX11_undo_94 : decode cX11_undo 94 = .ok (.aload_n 0, 1) := by decide +kernel
theorem dX11_undo_95 : decode cX11_undo 95 = .ok (.getfield 65, 3) := by decide +kernel
theorem dX11_undo_98 : decode cX11_undo 98 = .ok (.aload_n 0, 1) := by decide +kernel
theorem dX11_undo_99 : decode cX11_undo 99 = .ok (.getfield 177, 3) := by decide +kernel
theorem dX11_undo_102 : decode cX11_undo 102 = .ok (.saload, 1) := by decide +kernel
theorem dX11_undo_103 : decode cX11_undo 103 = .ok (.iconst (-1), 1) := by decide +kernel
theorem dX11_undo_104 : decode cX11_undo 104 = .ok (.if_icmp .eq 26, 3) := by decide +kernel
theorem dX11_undo_107 : decode cX11_undo 107 = .ok (.aload_n 0, 1) := by decide +kernel
theorem dX11_undo_108 : decode cX11_undo 108 = .ok (.getfield 29, 3) := by decide +kernel
theorem dX11_undo_111 : decode cX11_undo 111 = .ok (.aload_n 0, 1) := by decide +kernel
theorem dX11_undo_112 : decode cX11_undo 112 = .ok (.getfield 65, 3) := by decide +kernel
theorem dX11_undo_115 : decode cX11_undo 115 = .ok (.aload_n 0, 1) := by decide +kernel
theorem dX11_undo_116 : decode cX11_undo 116 = .ok (.getfield 177, 3) := by decide +kernel
theorem dX11_undo_119 : decode cX11_undo 119 = .ok (.saload, 1) := by decide +kernel
theorem dX11_undo_120 : decode cX11_undo 120 = .ok (.aload_n 0, 1) := by decide +kernel
theorem dX11_undo_121 : decode cX11_undo 121 = .ok (.getfield 71, 3) := by decide +kernel
theorem dX11_undo_124 : decode cX11_undo 124 = .ok (.aload_n 0, 1) := by decide +kernel
theorem dX11_undo_125 : decode cX11_undo 125 = .ok (.getfield 177, 3) := by decide +kernel
theorem dX11_undo_128 : decode cX11_undo 128 = .ok (.baload, 1) := by decide +kernel
theorem dX11_undo_129 : decode cX11_undo 129 = .ok (.bastore, 1) := by decide +kernel
theorem dX11_undo_130 : decode cX11_undo 130 = .ok (.aload_n 0, 1) := by decide +kernel
theorem dX11_undo_131 : decode cX11_undo 131 = .ok (.getfield 68, 3) := by decide +kernel
theorem dX11_undo_134 : decode cX11_undo 134 = .ok (.aload_n 0, 1) := by decide +kernel
theorem dX11_undo_135 : decode cX11_undo 135 = .ok (.getfield 177, 3) := by decide +kernel
theorem dX11_undo_138 : decode cX11_undo 138 = .ok (.saload, 1) := by decide +kernel
theorem dX11_undo_139 : decode cX11_undo 139 = .ok (.iconst (-1), 1) := by decide +kernel
theorem dX11_undo_140 : decode cX11_undo 140 = .ok (.if_icmp .eq 26, 3) := by decide +kernel
theorem dX11_undo_143 : decode cX11_undo 143 = .ok (.aload_n 0, 1) := by decide +kernel
theorem dX11_undo_144 : decode cX11_undo 144 = .ok (.getfield 29, 3) := by decide +kernel
theorem dX11_undo_147 : decode cX11_undo 147 = .ok (.aload_n 0, 1) := by decide +kernel
theorem dX11_undo_148 : decode cX11_undo 148 = .ok (.getfield 68, 3) := by decide +kernel
theorem dX11_undo_151 : decode cX11_undo 151 = .ok (.aload_n 0, 1) := by decide +kernel
theorem dX11_undo_152 : decode cX11_undo 152 = .ok (.getfield 177, 3) := by decide +kernel
theorem dX11_undo_155 : decode cX11_undo 155 = .ok (.saload, 1) := by decide +kernel
theorem dX11_undo_156 : decode cX11_undo 156 = .ok (.aload_n 0, 1) := by decide +kernel
theorem dX11_undo_157 : decode cX11_undo 157 = .ok (.getfield 74, 3) := by decide +kernel
theorem dX11_undo_160 : decode cX11_undo 160 = .ok (.aload_n 0, 1) := by decide +kernel
theorem dX11_undo_161 : decode cX11_undo 161 = .ok (.getfield 177, 3) := by decide +kernel
theorem dX11_undo_164 : decode cX11_undo 164 = .ok (.baload, 1) := by decide +kernel
theorem dX11_undo_165 : decode cX11_undo 165 = .ok (.bastore, 1) := by decide +kernel
theorem dX11_undo_166 : decode cX11_undo 166 = .ok (.aload_n 0, 1) := by decide +kernel
theorem dX11_undo_167 : decode cX11_undo 167 = .ok (.getfield 77, 3) := by decide +kernel
theorem dX11_undo_170 : decode cX11_undo 170 = .ok (.aload_n 0, 1) := by decide +kernel
theorem dX11_undo_171 : decode cX11_undo 171 = .ok (.getfield 177, 3) := by decide +kernel
theorem dX11_undo_174 : decode cX11_undo 174 = .ok (.saload, 1) := by decide +kernel
theorem dX11_undo_175 : decode cX11_undo 175 = .ok (.iconst (-1), 1) := by decide +kernel
theorem dX11_undo_176 : decode cX11_undo 176 = .ok (.if_icmp .eq 18, 3) := by decide +kernel
theorem dX11_undo_179 : decode cX11_undo 179 = .ok (.aload_n 0, 1) := by decide +kernel
theorem dX11_undo_180 : decode cX11_undo 180 = .ok (.getfield 33, 3) := by decide +kernel
theorem dX11_undo_183 : decode cX11_undo 183 = .ok (.aload_n 0, 1) := by decide +kernel
theorem dX11_undo_184 : decode cX11_undo 184 = .ok (.getfield 77, 3) := by decide +kernel
theorem dX11_undo_187 : decode cX11_undo 187 = .ok (.aload_n 0, 1) := by decide +kernel
theorem dX11_undo_188 : decode cX11_undo 188 = .ok (.getfield 177, 3) := by decide +kernel
theorem dX11_undo_191 : decode cX11_undo 191 = .ok (.saload, 1) := by decide +kernel
theorem dX11_undo_192 : decode cX11_undo 192 = .ok (.iconst 0, 1) := by decide +kernel
theorem dX11_undo_193 : decode cX11_undo 193 = .ok (.bastore, 1) := by decide +kernel
theorem dX11_undo_194 : decode cX11_undo 194 = .ok (.aload_n 0, 1) := by decide +kernel
theorem dX11_undo_195 : decode cX11_undo 195 = .ok (.getfield 80, 3) := by decide +kernel
theorem dX11_undo_198 : decode cX11_undo 198 = .ok (.aload_n 0, 1) := by decide +kernel
theorem dX11_undo_199 : decode cX11_undo 199 = .ok (.getfield 177, 3) := by decide +kernel
theorem dX11_undo_202 : decode cX11_undo 202 = .ok (.saload, 1) := by decide +kernel
theorem dX11_undo_203 : decode cX11_undo 203 = .ok (.iconst (-1), 1) := by decide +kernel
theorem dX11_undo_204 : decode cX11_undo 204 = .ok (.if_icmp .eq 18, 3) := by decide +kernel
theorem dX11_undo_207 : decode cX11_undo 207 = .ok (.aload_n 0, 1) := by decide +kernel
theorem dX11_undo_208 : decode cX11_undo 208 = .ok (.getfield 33, 3) := by decide +kernel
theorem dX11_undo_211 : decode cX11_undo 211 = .ok (.aload_n 0, 1) := by decide +kernel
theorem dX11_undo_212 : decode cX11_undo 212 = .ok (.getfield 80, 3) := by decide +kernel
theorem dX11_undo_215 : decode cX11_undo 215 = .ok (.aload_n 0, 1) := by decide +kernel
theorem dX11_undo_216 : decode cX11_undo 216 = .ok (.getfield 177, 3) := by decide +kernel
theorem dX11_undo_219 : decode cX11_undo 219 = .ok (.saload, 1) := by decide +kernel
theorem dX11_undo_220 : decode cX11_undo 220 = .ok (.iconst 1, 1) := by decide +kernel
theorem dX11_undo_221 : decode cX11_undo 221 = .ok (.bastore, 1) := by decide +kernel
theorem dX11_undo_222 : decode cX11_undo 222 = .ok (.iconst 1, 1) := by decide +kernel
theorem dX11_undo_223 : decode cX11_undo 223 = .ok (.ireturn, 1) := by decide +kernel
def cd_172 : dm_Code := [[dm_ald 1 0, dm_push 2 (.int 0), dm_putf 5 8 40 .int, dm_no, dm_no, dm_ald 6 0, dm_getf 9 8 26, dm_no, dm_no, dm_if_ne 12 14, dm_no, dm_no, dm_push 13 (.int 0), dm_ret .boolean, dm_ald 15 0, dm_dup 16],
  [dm_getf 19 8 26, dm_no, dm_no, dm_push 20 (.int 1), dm_ii 21 (fun x y => x - y), dm_putf 24 8 26 .int, dm_no, dm_no, dm_ald 25 0, dm_getf 28 8 15, dm_no, dm_no, dm_ald 29 0, dm_getf 32 8 18, dm_no, dm_no],
  [dm_ald 33 0, dm_getf 36 8 26, dm_no, dm_no, dm_sald 37, dm_ic_le 40 81, dm_no, dm_no, dm_ald 41 0, dm_dup 42, dm_getf 45 8 15, dm_no, dm_no, dm_push 46 (.int 1), dm_ii 47 (fun x y => x - y), dm_putf 50 8 15 .int],
  [dm_no, dm_no, dm_ald 51 0, dm_dup 52, dm_getf 55 8 17, dm_no, dm_no, dm_ald 56 0, dm_getf 59 8 12, dm_no, dm_no, dm_ald 60 0, dm_getf 63 8 15, dm_no, dm_no, dm_iald 64],
  [dm_ald 65 0, dm_getf 68 8 13, dm_no, dm_no, dm_ald 69 0, dm_getf 72 8 15, dm_no, dm_no, dm_iald 73, dm_ii 74 (fun x y => x + y), dm_ii 75 (fun x y => x - y), dm_putf 78 8 17 .int, dm_no, dm_no, dm_goto 24, dm_no],
  [dm_no, dm_ald 82 0, dm_ald 83 0, dm_getf 86 8 19, dm_no, dm_no, dm_ald 87 0, dm_getf 90 8 26, dm_no, dm_no, dm_sald 91, dm_putf 94 8 16 .int, dm_no, dm_no, dm_ald 95 0, dm_getf 98 8 20],
  [dm_no, dm_no, dm_ald 99 0, dm_getf 102 8 26, dm_no, dm_no, dm_sald 103, dm_push 104 (.int (-1)), dm_ic_eq 107 130, dm_no, dm_no, dm_ald 108 0, dm_getf 111 8 6, dm_no, dm_no, dm_ald 112 0],
  [dm_getf 115 8 20, dm_no, dm_no, dm_ald 116 0, dm_getf 119 8 26, dm_no, dm_no, dm_sald 120, dm_ald 121 0, dm_getf 124 8 22, dm_no, dm_no, dm_ald 125 0, dm_getf 128 8 26, dm_no, dm_no],
  [dm_bald 129, dm_bast 130, dm_ald 131 0, dm_getf 134 8 21, dm_no, dm_no, dm_ald 135 0, dm_getf 138 8 26, dm_no, dm_no, dm_sald 139, dm_push 140 (.int (-1)), dm_ic_eq 143 166, dm_no, dm_no, dm_ald 144 0],
  [dm_getf 147 8 6, dm_no, dm_no, dm_ald 148 0, dm_getf 151 8 21, dm_no, dm_no, dm_ald 152 0, dm_getf 155 8 26, dm_no, dm_no, dm_sald 156, dm_ald 157 0, dm_getf 160 8 23, dm_no, dm_no],
  [dm_ald 161 0, dm_getf 164 8 26, dm_no, dm_no, dm_bald 165, dm_bast 166, dm_ald 167 0, dm_getf 170 8 24, dm_no, dm_no, dm_ald 171 0, dm_getf 174 8 26, dm_no, dm_no, dm_sald 175, dm_push 176 (.int (-1))],
  [dm_ic_eq 179 194, dm_no, dm_no, dm_ald 180 0, dm_getf 183 8 7, dm_no, dm_no, dm_ald 184 0, dm_getf 187 8 24, dm_no, dm_no, dm_ald 188 0, dm_getf 191 8 26, dm_no, dm_no, dm_sald 192],
  [dm_push 193 (.int 0), dm_bast 194, dm_ald 195 0, dm_getf 198 8 25, dm_no, dm_no, dm_ald 199 0, dm_getf 202 8 26, dm_no, dm_no, dm_sald 203, dm_push 204 (.int (-1)), dm_ic_eq 207 222, dm_no, dm_no, dm_ald 208 0],
  [dm_getf 211 8 7, dm_no, dm_no, dm_ald 212 0, dm_getf 215 8 25, dm_no, dm_no, dm_ald 216 0, dm_getf 219 8 26, dm_no, dm_no, dm_sald 220, dm_push 221 (.int 1), dm_bast 222, dm_push 223 (.int 1), dm_ret .boolean]]
theorem tr_172_0 : dm_AllR (dm_Good dm_tb RX11 cX11_undo 1 (some .boolean) false none) 0 [dm_ald 1 0, dm_push 2 (.int 0), dm_putf 5 8 40 .int, dm_no, dm_no, dm_ald 6 0, dm_getf 9 8 26, dm_no, dm_no, dm_if_ne 12 14, dm_no, dm_no, dm_push 13 (.int 0), dm_ret .boolean, dm_ald 15 0, dm_dup 16] := dr_c (dg_aload_n (k := 0) rfl dX11_undo_0) <| dr_c (dg_iconst (by decide) dX11_undo_1) <| dr_c (dg_putf (T := TX11) (C := RX11) (N := 68) dX11_undo_2 rfl (by decide) iw_X11 tyX11_ok nmX11 wd_988 rfl rfl) <| dr_c (dg_no) <| dr_c (dg_no) <| dr_c (dg_aload_n (k := 0) rfl dX11_undo_5) <| dr_c (dg_getf (T := TX11) (C := RX11) (N := 68) dX11_undo_6 rfl (by decide) iw_X11 wd_974) <| dr_c (dg_no) <| dr_c (dg_no) <| dr_c (dg_if_ne (by decide) dX11_undo_9) <| dr_c (dg_no) <| dr_c (dg_no) <| dr_c (dg_iconst (by decide) dX11_undo_12) <| dr_c (dg_ret dX11_undo_13) <| dr_c (dg_aload_n (k := 0) rfl dX11_undo_14) <| dr_c (dg_dup dX11_undo_15) <| dr_n
theorem tr_172_1 : dm_AllR (dm_Good dm_tb RX11 cX11_undo 1 (some .boolean) false none) 16 [dm_getf 19 8 26, dm_no, dm_no, dm_push 20 (.int 1), dm_ii 21 (fun x y => x - y), dm_putf 24 8 26 .int, dm_no, dm_no, dm_ald 25 0, dm_getf 28 8 15, dm_no, dm_no, dm_ald 29 0, dm_getf 32 8 18, dm_no, dm_no] := dr_c (dg_getf (T := TX11) (C := RX11) (N := 68) dX11_undo_16 rfl (by decide) iw_X11 wd_974) <| dr_c (dg_no) <| dr_c (dg_no) <| dr_c (dg_iconst (by decide) dX11_undo_19) <| dr_c (dg_isub dX11_undo_20) <| dr_c (dg_putf (T := TX11) (C := RX11) (N := 68) dX11_undo_21 rfl (by decide) iw_X11 tyX11_ok nmX11 wd_974 rfl rfl) <| dr_c (dg_no) <| dr_c (dg_no) <| dr_c (dg_aload_n (k := 0) rfl dX11_undo_24) <| dr_c (dg_getf (T := TX11) (C := RX11) (N := 68) dX11_undo_25 rfl (by decide) iw_X11 wd_963) <| dr_c (dg_no) <| dr_c (dg_no) <| dr_c (dg_aload_n (k := 0) rfl dX11_undo_28) <| dr_c (dg_getf (T := TX11) (C := RX11) (N := 68) dX11_undo_29 rfl (by decide) iw_X11 wd_966) <| dr_c (dg_no) <| dr_c (dg_no) <| dr_n
theorem tr_172_2 : dm_AllR (dm_Good dm_tb RX11 cX11_undo 1 (some .boolean) false none) 32 [dm_ald 33 0, dm_getf 36 8 26, dm_no, dm_no, dm_sald 37, dm_ic_le 40 81, dm_no, dm_no, dm_ald 41 0, dm_dup 42, dm_getf 45 8 15, dm_no, dm_no, dm_push 46 (.int 1), dm_ii 47 (fun x y => x - y), dm_putf 50 8 15 .int] := dr_c (dg_aload_n (k := 0) rfl dX11_undo_32) <| dr_c (dg_getf (T := TX11) (C := RX11) (N := 68) dX11_undo_33 rfl (by decide) iw_X11 wd_974) <| dr_c (dg_no) <| dr_c (dg_no) <| dr_c (dg_sald dX11_undo_36) <| dr_c (dg_ic_le (by decide) dX11_undo_37) <| dr_c (dg_no) <| dr_c (dg_no) <| dr_c (dg_aload_n (k := 0) rfl dX11_undo_40) <| dr_c (dg_dup dX11_undo_41) <| dr_c (dg_getf (T := TX11) (C := RX11) (N := 68) dX11_undo_42 rfl (by decide) iw_X11 wd_963) <| dr_c (dg_no) <| dr_c (dg_no) <| dr_c (dg_iconst (by decide) dX11_undo_45) <| dr_c (dg_isub dX11_undo_46) <| dr_c (dg_putf (T := TX11) (C := RX11) (N := 68) dX11_undo_47 rfl (by decide) iw_X11 tyX11_ok nmX11 wd_963 rfl rfl) <| dr_n
theorem tr_172_3 : dm_AllR (dm_Good dm_tb RX11 cX11_undo 1 (some .boolean) false none) 48 [dm_no, dm_no, dm_ald 51 0, dm_dup 52, dm_getf 55 8 17, dm_no, dm_no, dm_ald 56 0, dm_getf 59 8 12, dm_no, dm_no, dm_ald 60 0, dm_getf 63 8 15, dm_no, dm_no, dm_iald 64] := dr_c (dg_no) <| dr_c (dg_no) <| dr_c (dg_aload_n (k := 0) rfl dX11_undo_50) <| dr_c (dg_dup dX11_undo_51) <| dr_c (dg_getf (T := TX11) (C := RX11) (N := 68) dX11_undo_52 rfl (by decide) iw_X11 wd_965) <| dr_c (dg_no) <| dr_c (dg_no) <| dr_c (dg_aload_n (k := 0) rfl dX11_undo_55) <| dr_c (dg_getf (T := TX11) (C := RX11) (N := 68) dX11_undo_56 rfl (by decide) iw_X11 wd_960) <| dr_c (dg_no) <| dr_c (dg_no) <| dr_c (dg_aload_n (k := 0) rfl dX11_undo_59) <| dr_c (dg_getf (T := TX11) (C := RX11) (N := 68) dX11_undo_60 rfl (by decide) iw_X11 wd_963) <| dr_c (dg_no) <| dr_c (dg_no) <| dr_c (dg_iald dX11_undo_63) <| dr_n
theorem tr_172_4 : dm_AllR (dm_Good dm_tb RX11 cX11_undo 1 (some .boolean) false none) 64 [dm_ald 65 0, dm_getf 68 8 13, dm_no, dm_no, dm_ald 69 0, dm_getf 72 8 15, dm_no, dm_no, dm_iald 73, dm_ii 74 (fun x y => x + y), dm_ii 75 (fun x y => x - y), dm_putf 78 8 17 .int, dm_no, dm_no, dm_goto 24, dm_no] := dr_c (dg_aload_n (k := 0) rfl dX11_undo_64) <| dr_c (dg_getf (T := TX11) (C := RX11) (N := 68) dX11_undo_65 rfl (by decide) iw_X11 wd_961) <| dr_c (dg_no) <| dr_c (dg_no) <| dr_c (dg_aload_n (k := 0) rfl dX11_undo_68) <| dr_c (dg_getf (T := TX11) (C := RX11) (N := 68) dX11_undo_69 rfl (by decide) iw_X11 wd_963) <| dr_c (dg_no) <| dr_c (dg_no) <| dr_c (dg_iald dX11_undo_72) <| dr_c (dg_iadd dX11_undo_73) <| dr_c (dg_isub dX11_undo_74) <| dr_c (dg_putf (T := TX11) (C := RX11) (N := 68) dX11_undo_75 rfl (by decide) iw_X11 tyX11_ok nmX11 wd_965 rfl rfl) <| dr_c (dg_no) <| dr_c (dg_no) <| dr_c (dg_goto (by decide) dX11_undo_78) <| dr_c (dg_no) <| dr_n
theorem tr_172_5 : dm_AllR (dm_Good dm_tb RX11 cX11_undo 1 (some .boolean) false none) 80 [dm_no, dm_ald 82 0, dm_ald 83 0, dm_getf 86 8 19, dm_no, dm_no, dm_ald 87 0, dm_getf 90 8 26, dm_no, dm_no, dm_sald 91, dm_putf 94 8 16 .int, dm_no, dm_no, dm_ald 95 0, dm_getf 98 8 20] := dr_c (dg_no) <| dr_c (dg_aload_n (k := 0) rfl dX11_undo_81) <| dr_c (dg_aload_n (k := 0) rfl dX11_undo_82) <| dr_c (dg_getf (T := TX11) (C := RX11) (N := 68) dX11_undo_83 rfl (by decide) iw_X11 wd_967) <| dr_c (dg_no) <| dr_c (dg_no) <| dr_c (dg_aload_n (k := 0) rfl dX11_undo_86) <| dr_c (dg_getf (T := TX11) (C := RX11) (N := 68) dX11_undo_87 rfl (by decide) iw_X11 wd_974) <| dr_c (dg_no) <| dr_c (dg_no) <| dr_c (dg_sald dX11_undo_90) <| dr_c (dg_putf (T := TX11) (C := RX11) (N := 68) dX11_undo_91 rfl (by decide) iw_X11 tyX11_ok nmX11 wd_964 rfl rfl) <| dr_c (dg_no) <| dr_c (dg_no) <| dr_c (dg_aload_n (k := 0) rfl dX11_undo_94) <| dr_c (dg_getf (T := TX11) (C := RX11) (N := 68) dX11_undo_95 rfl (by decide) iw_X11 wd_968) <| dr_n
theorem tr_172_6 : dm_AllR (dm_Good dm_tb RX11 cX11_undo 1 (some .boolean) false none) 96 [dm_no, dm_no, dm_ald 99 0, dm_getf 102 8 26, dm_no, dm_no, dm_sald 103, dm_push 104 (.int (-1)), dm_ic_eq 107 130, dm_no, dm_no, dm_ald 108 0, dm_getf 111 8 6, dm_no, dm_no, dm_ald 112 0] := dr_c (dg_no) <| dr_c (dg_no) <| dr_c (dg_aload_n (k := 0) rfl dX11_undo_98) <| dr_c (dg_getf (T := TX11) (C := RX11) (N := 68) dX11_undo_99 rfl (by decide) iw_X11 wd_974) <| dr_c (dg_no) <| dr_c (dg_no) <| dr_c (dg_sald dX11_undo_102) <| dr_c (dg_iconst (by decide) dX11_undo_103) <| dr_c (dg_ic_eq (by decide) dX11_undo_104) <| dr_c (dg_no) <| dr_c (dg_no) <| dr_c (dg_aload_n (k := 0) rfl dX11_undo_107) <| dr_c (dg_getf (T := TX11) (C := RX11) (N := 68) dX11_undo_108 rfl (by decide) iw_X11 wd_954) <| dr_c (dg_no) <| dr_c (dg_no) <| dr_c (dg_aload_n (k := 0) rfl dX11_undo_111) <| dr_n
theorem tr_172_7 : dm_AllR (dm_Good dm_tb RX11 cX11_undo 1 (some .boolean) false none) 112 [dm_getf 115 8 20, dm_no, dm_no, dm_ald 116 0, dm_getf 119 8 26, dm_no, dm_no, dm_sald 120, dm_ald 121 0, dm_getf 124 8 22, dm_no, dm_no, dm_ald 125 0, dm_getf 128 8 26, dm_no, dm_no] := dr_c (dg_getf (T := TX11) (C := RX11) (N := 68) dX11_undo_112 rfl (by decide) iw_X11 wd_968) <| dr_c (dg_no) <| dr_c (dg_no) <| dr_c (dg_aload_n (k := 0) rfl dX11_undo_115) <| dr_c (dg_getf (T := TX11) (C := RX11) (N := 68) dX11_undo_116 rfl (by decide) iw_X11 wd_974) <| dr_c (dg_no) <| dr_c (dg_no) <| dr_c (dg_sald dX11_undo_119) <| dr_c (dg_aload_n (k := 0) rfl dX11_undo_120) <| dr_c (dg_getf (T := TX11) (C := RX11) (N := 68) dX11_undo_121 rfl (by decide) iw_X11 wd_970) <| dr_c (dg_no) <| dr_c (dg_no) <| dr_c (dg_aload_n (k := 0) rfl dX11_undo_124) <| dr_c (dg_getf (T := TX11) (C := RX11) (N := 68) dX11_undo_125 rfl (by decide) iw_X11 wd_974) <| dr_c (dg_no) <| dr_c (dg_no) <| dr_n
theorem tr_172_8 : dm_AllR (dm_Good dm_tb RX11 cX11_undo 1 (some .boolean) false none) 128 [dm_bald 129, dm_bast 130, dm_ald 131 0, dm_getf 134 8 21, dm_no, dm_no, dm_ald 135 0, dm_getf 138 8 26, dm_no, dm_no, dm_sald 139, dm_push 140 (.int (-1)), dm_ic_eq 143 166, dm_no, dm_no, dm_ald 144 0] := dr_c (dg_bald dX11_undo_128) <| dr_c (dg_bast dX11_undo_129) <| dr_c (dg_aload_n (k := 0) rfl dX11_undo_130) <| dr_c (dg_getf (T := TX11) (C := RX11) (N := 68) dX11_undo_131 rfl (by decide) iw_X11 wd_969) <| dr_c (dg_no) <| dr_c (dg_no) <| dr_c (dg_aload_n (k := 0) rfl dX11_undo_134) <| dr_c (dg_getf (T := TX11) (C := RX11) (N := 68) dX11_undo_135 rfl (by decide) iw_X11 wd_974) <| dr_c (dg_no) <| dr_c (dg_no) <| dr_c (dg_sald dX11_undo_138) <| dr_c (dg_iconst (by decide) dX11_undo_139) <| dr_c (dg_ic_eq (by decide) dX11_undo_140) <| dr_c (dg_no) <| dr_c (dg_no) <| dr_c (dg_aload_n (k := 0) rfl dX11_undo_143) <| dr_n
theorem tr_172_9 : dm_AllR (dm_Good dm_tb RX11 cX11_undo 1 (some .boolean) false none) 144 [dm_getf 147 8 6, dm_no, dm_no, dm_ald 148 0, dm_getf 151 8 21, dm_no, dm_no, dm_ald 152 0, dm_getf 155 8 26, dm_no, dm_no, dm_sald 156, dm_ald 157 0, dm_getf 160 8 23, dm_no, dm_no] := dr_c (dg_getf (T := TX11) (C := RX11) (N := 68) dX11_undo_144 rfl (by decide) iw_X11 wd_954) <| dr_c (dg_no) <| dr_c (dg_no) <| dr_c (dg_aload_n (k := 0) rfl dX11_undo_147) <| dr_c (dg_getf (T := TX11) (C := RX11) (N := 68) dX11_undo_148 rfl (by decide) iw_X11 wd_969) <| dr_c (dg_no) <| dr_c (dg_no) <| dr_c (dg_aload_n (k := 0) rfl dX11_undo_151) <| dr_c (dg_getf (T := TX11) (C := RX11) (N := 68) dX11_undo_152 rfl (by decide) iw_X11 wd_974) <| dr_c (dg_no) <| dr_c (dg_no) <| dr_c (dg_sald dX11_undo_155) <| dr_c (dg_aload_n (k := 0) rfl dX11_undo_156) <| dr_c (dg_getf (T := TX11) (C := RX11) (N := 68) dX11_undo_157 rfl (by decide) iw_X11 wd_971) <| dr_c (dg_no) <| dr_c (dg_no) <| dr_n
theorem tr_172_10 : dm_AllR (dm_Good dm_tb RX11 cX11_undo 1 (some .boolean) false none) 160 [dm_ald 161 0, dm_getf 164 8 26, dm_no, dm_no, dm_bald 165, dm_bast 166, dm_ald 167 0, dm_getf 170 8 24, dm_no, dm_no, dm_ald 171 0, dm_getf 174 8 26, dm_no, dm_no, dm_sald 175, dm_push 176 (.int (-1))] := dr_c (dg_aload_n (k := 0) rfl dX11_undo_160) <| dr_c (dg_getf (T := TX11) (C := RX11) (N := 68) dX11_undo_161 rfl (by decide) iw_X11 wd_974) <| dr_c (dg_no) <| dr_c (dg_no) <| dr_c (dg_bald dX11_undo_164) <| dr_c (dg_bast dX11_undo_165) <| dr_c (dg_aload_n (k := 0) rfl dX11_undo_166) <| dr_c (dg_getf (T := TX11) (C := RX11) (N := 68) dX11_undo_167 rfl (by decide) iw_X11 wd_972) <| dr_c (dg_no) <| dr_c (dg_no) <| dr_c (dg_aload_n (k := 0) rfl dX11_undo_170) <| dr_c (dg_getf (T := TX11) (C := RX11) (N := 68) dX11_undo_171 rfl (by decide) iw_X11 wd_974) <| dr_c (dg_no) <| dr_c (dg_no) <| dr_c (dg_sald dX11_undo_174) <| dr_c (dg_iconst (by decide) dX11_undo_175) <| dr_n
theorem tr_172_11 : dm_AllR (dm_Good dm_tb RX11 cX11_undo 1 (some .boolean) false none) 176 [dm_ic_eq 179 194, dm_no, dm_no, dm_ald 180 0, dm_getf 183 8 7, dm_no, dm_no, dm_ald 184 0, dm_getf 187 8 24, dm_no, dm_no, dm_ald 188 0, dm_getf 191 8 26, dm_no, dm_no, dm_sald 192] := dr_c (dg_ic_eq (by decide) dX11_undo_176) <| dr_c (dg_no) <| dr_c (dg_no) <| dr_c (dg_aload_n (k := 0) rfl dX11_undo_179) <| dr_c (dg_getf (T := TX11) (C := RX11) (N := 68) dX11_undo_180 rfl (by decide) iw_X11 wd_955) <| dr_c (dg_no) <| dr_c (dg_no) <| dr_c (dg_aload_n (k := 0) rfl dX11_undo_183) <| dr_c (dg_getf (T := TX11) (C := RX11) (N := 68) dX11_undo_184 rfl (by decide) iw_X11 wd_972) <| dr_c (dg_no) <| dr_c (dg_no) <| dr_c (dg_aload_n (k := 0) rfl dX11_undo_187) <| dr_c (dg_getf (T := TX11) (C := RX11) (N := 68) dX11_undo_188 rfl (by decide) iw_X11 wd_974) <| dr_c (dg_no) <| dr_c (dg_no) <| dr_c (dg_sald dX11_undo_191) <| dr_n
theorem tr_172_12 : dm_AllR (dm_Good dm_tb RX11 cX11_undo 1 (some .boolean) false none) 192 [dm_push 193 (.int 0), dm_bast 194, dm_ald 195 0, dm_getf 198 8 25, dm_no, dm_no, dm_ald 199 0, dm_getf 202 8 26, dm_no, dm_no, dm_sald 203, dm_push 204 (.int (-1)), dm_ic_eq 207 222, dm_no, dm_no, dm_ald 208 0] := dr_c (dg_iconst (by decide) dX11_undo_192) <| dr_c (dg_bast dX11_undo_193) <| dr_c (dg_aload_n (k := 0) rfl dX11_undo_194) <| dr_c (dg_getf (T := TX11) (C := RX11) (N := 68) dX11_undo_195 rfl (by decide) iw_X11 wd_973) <| dr_c (dg_no) <| dr_c (dg_no) <| dr_c (dg_aload_n (k := 0) rfl dX11_undo_198) <| dr_c (dg_getf (T := TX11) (C := RX11) (N := 68) dX11_undo_199 rfl (by decide) iw_X11 wd_974) <| dr_c (dg_no) <| dr_c (dg_no) <| dr_c (dg_sald dX11_undo_202) <| dr_c (dg_iconst (by decide) dX11_undo_203) <| dr_c (dg_ic_eq (by decide) dX11_undo_204) <| dr_c (dg_no) <| dr_c (dg_no) <| dr_c (dg_aload_n (k := 0) rfl dX11_undo_207) <| dr_n
theorem tr_172_13 : dm_AllR (dm_Good dm_tb RX11 cX11_undo 1 (some .boolean) false none) 208 [dm_getf 211 8 7, dm_no, dm_no, dm_ald 212 0, dm_getf 215 8 25, dm_no, dm_no, dm_ald 216 0, dm_getf 219 8 26, dm_no, dm_no, dm_sald 220, dm_push 221 (.int 1), dm_bast 222, dm_push 223 (.int 1), dm_ret .boolean] := dr_c (dg_getf (T := TX11) (C := RX11) (N := 68) dX11_undo_208 rfl (by decide) iw_X11 wd_955) <| dr_c (dg_no) <| dr_c (dg_no) <| dr_c (dg_aload_n (k := 0) rfl dX11_undo_211) <| dr_c (dg_getf (T := TX11) (C := RX11) (N := 68) dX11_undo_212 rfl (by decide) iw_X11 wd_973) <| dr_c (dg_no) <| dr_c (dg_no) <| dr_c (dg_aload_n (k := 0) rfl dX11_undo_215) <| dr_c (dg_getf (T := TX11) (C := RX11) (N := 68) dX11_undo_216 rfl (by decide) iw_X11 wd_974) <| dr_c (dg_no) <| dr_c (dg_no) <| dr_c (dg_sald dX11_undo_219) <| dr_c (dg_iconst (by decide) dX11_undo_220) <| dr_c (dg_bast dX11_undo_221) <| dr_c (dg_iconst (by decide) dX11_undo_222) <| dr_c (dg_ret dX11_undo_223) <| dr_n
theorem tk_172 : dm_AllC (dm_Good dm_tb RX11 cX11_undo 1 (some .boolean) false none) 0 cd_172 := dc_c (by decide) tr_172_0 <| dc_c (by decide) tr_172_1 <| dc_c (by decide) tr_172_2 <| dc_c (by decide) tr_172_3 <| dc_c (by decide) tr_172_4 <| dc_c (by decide) tr_172_5 <| dc_c (by decide) tr_172_6 <| dc_c (by decide) tr_172_7 <| dc_c (by decide) tr_172_8 <| dc_c (by decide) tr_172_9 <| dc_c (by decide) tr_172_10 <| dc_c (by decide) tr_172_11 <| dc_c (by decide) tr_172_12 <| dc_c (by decide) tr_172_13 <| dc_n
