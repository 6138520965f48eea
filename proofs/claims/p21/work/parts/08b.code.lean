theorem dX5_missing_0 : decode cX5_missing 0 = .ok (.aload_n 1, 1) := by decide +kernel
theorem dX5_missing_1 : decode cX5_missing 1 = .ok (.iload_n 2, 1) := by decide +kernel
theorem dX5_missing_2 : decode cX5_missing 2 = .ok (.aload_n 0, 1) := by decide +kernel
theorem dX5_missing_3 : decode cX5_missing 3 = .ok (.getfield 14, 3) := by decide +kernel
theorem dX5_missing_6 : decode cX5_missing 6 = .ok (.invokestatic 23, 3) := by decide +kernel
theorem dX5_missing_9 : decode cX5_missing 9 = .ok (.ifCond .eq 15, 3) := by decide +kernel
theorem dX5_missing_12 : decode cX5_missing 12 = .ok (.aload_n 1, 1) := by decide +kernel
theorem dX5_missing_13 : decode cX5_missing 13 = .ok (.iload_n 3, 1) := by decide +kernel
theorem dX5_missing_14 : decode cX5_missing 14 = .ok (.aload_n 0, 1) := by decide +kernel
theorem dX5_missing_15 : decode cX5_missing 15 = .ok (.getfield 20, 3) := by decide +kernel
theorem dX5_missing_18 : decode cX5_missing 18 = .ok (.invokestatic 23, 3) := by decide +kernel
theorem dX5_missing_21 : decode cX5_missing 21 = .ok (.ifCond .ne 5, 3) := by decide +kernel
theorem dX5_missing_24 : decode cX5_missing 24 = .ok (.iconst (-1), 1) := by decide +kernel
theorem dX5_missing_25 : decode cX5_missing 25 = .ok (.ireturn, 1) := by decide +kernel
theorem dX5_missing_26 : decode cX5_missing 26 = .ok (.iconst 0, 1) := by decide +kernel
theorem dX5_missing_27 : decode cX5_missing 27 = .ok (.istore 4, 2) := by decide +kernel
theorem dX5_missing_29 : decode cX5_missing 29 = .ok (.iload 4, 2) := by decide +kernel
theorem dX5_missing_31 : decode cX5_missing 31 = .ok (.aload_n 1, 1) := by decide +kernel
theorem dX5_missing_32 : decode cX5_missing 32 = .ok (.invokevirtual 31, 3) := by decide +kernel
theorem dX5_missing_35 : decode cX5_missing 35 = .ok (.if_icmp .ge 32, 3) := by decide +kernel
theorem dX5_missing_38 : decode cX5_missing 38 = .ok (.aload_n 0, 1) := by decide +kernel
theorem dX5_missing_39 : decode cX5_missing 39 = .ok (.getfield 20, 3) := by decide +kernel
theorem dX5_missing_42 : decode cX5_missing 42 = .ok (.iload 4, 2) := by decide +kernel
theorem dX5_missing_44 : decode cX5_missing 44 = .ok (.invokevirtual 37, 3) := by decide +kernel
theorem dX5_missing_47 : decode cX5_missing 47 = .ok (.iconst 1, 1) := by decide +kernel
theorem dX5_missing_48 : decode cX5_missing 48 = .ok (.if_icmp .ne 13, 3) := by decide +kernel
theorem dX5_missing_51 : decode cX5_missing 51 = .ok (.aload_n 0, 1) := by decide +kernel
theorem dX5_missing_52 : decode cX5_missing 52 = .ok (.getfield 14, 3) := by decide +kernel
theorem dX5_missing_55 : decode cX5_missing 55 = .ok (.iload 4, 2) := by decide +kernel
theorem dX5_missing_57 : decode cX5_missing 57 = .ok (.iconst 0, 1) := by decide +kernel
theorem dX5_missing_58 : decode cX5_missing 58 = .ok (.invokevirtual 41, 3) := by decide +kernel
theorem dX5_missing_61 : decode cX5_missing 61 = .ok (.iinc 4 1, 3) := by decide +kernel
theorem dX5_missing_64 : decode cX5_missing 64 = .ok (.goto (-35), 3) := by decide +kernel
theorem dX5_missing_67 : decode cX5_missing 67 = .ok (.aload_n 1, 1) := by decide +kernel
theorem dX5_missing_68 : decode cX5_missing 68 = .ok (.aload_n 0, 1) := by decide +kernel
theorem dX5_missing_69 : decode cX5_missing 69 = .ok (.getfield 14, 3) := by decide +kernel
theorem dX5_missing_72 : decode cX5_missing 72 = .ok (.invokestatic 27, 3) := by decide +kernel
theorem dX5_missing_75 : decode cX5_missing 75 = .ok (.ireturn, 1) := by decide +kernel
def cd_51 : dm_Code := [[dm_ald 1 1, dm_ild 2 2, dm_ald 3 0, dm_getf 6 4 0, dm_no, dm_no, dm_ins 9 53 3, dm_no, dm_no, dm_if_eq 12 24, dm_no, dm_no, dm_ald 13 1, dm_ild 14 3, dm_ald 15 0, dm_getf 18 4 1],
  [dm_no, dm_no, dm_ins 21 53 3, dm_no, dm_no, dm_if_ne 24 26, dm_no, dm_no, dm_push 25 (.int (-1)), dm_ret .int, dm_push 27 (.int 0), dm_ist 29 4, dm_no, dm_ild 31 4, dm_no, dm_ald 32 1],
  [dm_inv 35 13 0 2, dm_no, dm_no, dm_ic_ge 38 67, dm_no, dm_no, dm_ald 39 0, dm_getf 42 4 1, dm_no, dm_no, dm_ild 44 4, dm_no, dm_inv 47 45 1 3, dm_no, dm_no, dm_push 48 (.int 1)],
  [dm_ic_ne 51 61, dm_no, dm_no, dm_ald 52 0, dm_getf 55 4 0, dm_no, dm_no, dm_ild 57 4, dm_no, dm_push 58 (.int 0), dm_inv 61 46 2 3, dm_no, dm_no, dm_iinc 64 4 1, dm_no, dm_no],
  [dm_goto 29, dm_no, dm_no, dm_ald 68 1, dm_ald 69 0, dm_getf 72 4 0, dm_no, dm_no, dm_ins 75 52 2, dm_no, dm_no, dm_ret .int]]
theorem tr_51_0 : dm_AllR (dm_Good dm_tb RX5 cX5_missing 5 (some .int) false none) 0 [dm_ald 1 1, dm_ild 2 2, dm_ald 3 0, dm_getf 6 4 0, dm_no, dm_no, dm_ins 9 53 3, dm_no, dm_no, dm_if_eq 12 24, dm_no, dm_no, dm_ald 13 1, dm_ild 14 3, dm_ald 15 0, dm_getf 18 4 1] := dr_c (dg_aload_n (k := 1) rfl dX5_missing_0) <| dr_c (dg_iload_n (k := 2) rfl dX5_missing_1) <| dr_c (dg_aload_n (k := 0) rfl dX5_missing_2) <| dr_c (dg_getf (T := TX5) (C := RX5) (N := 2) dX5_missing_3 rfl (by decide) iw_X5 wd_197) <| dr_c (dg_no) <| dr_c (dg_no) <| dr_c (dg_ins dX5_missing_6 mo_53 wd_588 wd_589 pd_53) <| dr_c (dg_no) <| dr_c (dg_no) <| dr_c (dg_if_eq (by decide) dX5_missing_9) <| dr_c (dg_no) <| dr_c (dg_no) <| dr_c (dg_aload_n (k := 1) rfl dX5_missing_12) <| dr_c (dg_iload_n (k := 3) rfl dX5_missing_13) <| dr_c (dg_aload_n (k := 0) rfl dX5_missing_14) <| dr_c (dg_getf (T := TX5) (C := RX5) (N := 2) dX5_missing_15 rfl (by decide) iw_X5 wd_198) <| dr_n
theorem tr_51_1 : dm_AllR (dm_Good dm_tb RX5 cX5_missing 5 (some .int) false none) 16 [dm_no, dm_no, dm_ins 21 53 3, dm_no, dm_no, dm_if_ne 24 26, dm_no, dm_no, dm_push 25 (.int (-1)), dm_ret .int, dm_push 27 (.int 0), dm_ist 29 4, dm_no, dm_ild 31 4, dm_no, dm_ald 32 1] := dr_c (dg_no) <| dr_c (dg_no) <| dr_c (dg_ins dX5_missing_18 mo_53 wd_588 wd_589 pd_53) <| dr_c (dg_no) <| dr_c (dg_no) <| dr_c (dg_if_ne (by decide) dX5_missing_21) <| dr_c (dg_no) <| dr_c (dg_no) <| dr_c (dg_iconst (by decide) dX5_missing_24) <| dr_c (dg_ret dX5_missing_25) <| dr_c (dg_iconst (by decide) dX5_missing_26) <| dr_c (dg_istore (by decide) dX5_missing_27) <| dr_c (dg_no) <| dr_c (dg_iload dX5_missing_29) <| dr_c (dg_no) <| dr_c (dg_aload_n (k := 1) rfl dX5_missing_31) <| dr_n
theorem tr_51_2 : dm_AllR (dm_Good dm_tb RX5 cX5_missing 5 (some .int) false none) 32 [dm_inv 35 13 0 2, dm_no, dm_no, dm_ic_ge 38 67, dm_no, dm_no, dm_ald 39 0, dm_getf 42 4 1, dm_no, dm_no, dm_ild 44 4, dm_no, dm_inv 47 45 1 3, dm_no, dm_no, dm_push 48 (.int 1)] := dr_c (dg_inv dX5_missing_32 mo_13 rfl rfl wd_591 wd_402 wd_403 pd_13) <| dr_c (dg_no) <| dr_c (dg_no) <| dr_c (dg_ic_ge (by decide) dX5_missing_35) <| dr_c (dg_no) <| dr_c (dg_no) <| dr_c (dg_aload_n (k := 0) rfl dX5_missing_38) <| dr_c (dg_getf (T := TX5) (C := RX5) (N := 2) dX5_missing_39 rfl (by decide) iw_X5 wd_198) <| dr_c (dg_no) <| dr_c (dg_no) <| dr_c (dg_iload dX5_missing_42) <| dr_c (dg_no) <| dr_c (dg_inv dX5_missing_44 mo_45 rfl rfl wd_593 wd_285 wd_286 pd_45) <| dr_c (dg_no) <| dr_c (dg_no) <| dr_c (dg_iconst (by decide) dX5_missing_47) <| dr_n
theorem tr_51_3 : dm_AllR (dm_Good dm_tb RX5 cX5_missing 5 (some .int) false none) 48 [dm_ic_ne 51 61, dm_no, dm_no, dm_ald 52 0, dm_getf 55 4 0, dm_no, dm_no, dm_ild 57 4, dm_no, dm_push 58 (.int 0), dm_inv 61 46 2 3, dm_no, dm_no, dm_iinc 64 4 1, dm_no, dm_no] := dr_c (dg_ic_ne (by decide) dX5_missing_48) <| dr_c (dg_no) <| dr_c (dg_no) <| dr_c (dg_aload_n (k := 0) rfl dX5_missing_51) <| dr_c (dg_getf (T := TX5) (C := RX5) (N := 2) dX5_missing_52 rfl (by decide) iw_X5 wd_197) <| dr_c (dg_no) <| dr_c (dg_no) <| dr_c (dg_iload dX5_missing_55) <| dr_c (dg_no) <| dr_c (dg_iconst (by decide) dX5_missing_57) <| dr_c (dg_inv dX5_missing_58 mo_46 rfl rfl wd_592 wd_252 wd_253 pd_46) <| dr_c (dg_no) <| dr_c (dg_no) <| dr_c (dg_iinc (by decide) (by decide) dX5_missing_61) <| dr_c (dg_no) <| dr_c (dg_no) <| dr_n
theorem tr_51_4 : dm_AllR (dm_Good dm_tb RX5 cX5_missing 5 (some .int) false none) 64 [dm_goto 29, dm_no, dm_no, dm_ald 68 1, dm_ald 69 0, dm_getf 72 4 0, dm_no, dm_no, dm_ins 75 52 2, dm_no, dm_no, dm_ret .int] := dr_c (dg_goto (by decide) dX5_missing_64) <| dr_c (dg_no) <| dr_c (dg_no) <| dr_c (dg_aload_n (k := 1) rfl dX5_missing_67) <| dr_c (dg_aload_n (k := 0) rfl dX5_missing_68) <| dr_c (dg_getf (T := TX5) (C := RX5) (N := 2) dX5_missing_69 rfl (by decide) iw_X5 wd_197) <| dr_c (dg_no) <| dr_c (dg_no) <| dr_c (dg_ins dX5_missing_72 mo_52 wd_606 wd_607 pd_52) <| dr_c (dg_no) <| dr_c (dg_no) <| dr_c (dg_ret dX5_missing_75) <| dr_n
theorem tk_51 : dm_AllC (dm_Good dm_tb RX5 cX5_missing 5 (some .int) false none) 0 cd_51 := dc_c (by decide) tr_51_0 <| dc_c (by decide) tr_51_1 <| dc_c (by decide) tr_51_2 <| dc_c (by decide) tr_51_3 <| dc_c (by decide) tr_51_4 <| dc_n
theorem dX5_eventsIn_0 : decode cX5_eventsIn 0 = .ok (.iconst 0, 1) := by decide +kernel
theorem dX5_eventsIn_1 : decode cX5_eventsIn 1 = .ok (.istore_n 2, 1) := by decide +kernel
theorem dX5_eventsIn_2 : decode cX5_eventsIn 2 = .ok (.iconst 0, 1) := by decide +kernel
theorem dX5_eventsIn_3 : decode cX5_eventsIn 3 = .ok (.istore_n 3, 1) := by decide +kernel
theorem dX5_eventsIn_4 : decode cX5_eventsIn 4 = .ok (.iload_n 3, 1) := by decide +kernel
theorem dX5_eventsIn_5 : decode cX5_eventsIn 5 = .ok (.aload_n 0, 1) := by decide +kernel
theorem dX5_eventsIn_6 : decode cX5_eventsIn 6 = .ok (.invokevirtual 31, 3) := by decide +kernel
theorem dX5_eventsIn_9 : decode cX5_eventsIn 9 = .ok (.if_icmp .ge 35, 3) := by decide +kernel
theorem dX5_eventsIn_12 : decode cX5_eventsIn 12 = .ok (.iload_n 2, 1) := by decide +kernel
theorem dX5_eventsIn_13 : decode cX5_eventsIn 13 = .ok (.aload_n 1, 1) := by decide +kernel
theorem dX5_eventsIn_14 : decode cX5_eventsIn 14 = .ok (.iload_n 3, 1) := by decide +kernel
theorem dX5_eventsIn_15 : decode cX5_eventsIn 15 = .ok (.invokevirtual 37, 3) := by decide +kernel
theorem dX5_eventsIn_18 : decode cX5_eventsIn 18 = .ok (.iconst 1, 1) := by decide +kernel
theorem dX5_eventsIn_19 : decode cX5_eventsIn 19 = .ok (.if_icmp .ne 16, 3) := by decide +kernel
theorem dX5_eventsIn_22 : decode cX5_eventsIn 22 = .ok (.aload_n 0, 1) := by decide +kernel
theorem dX5_eventsIn_23 : decode cX5_eventsIn 23 = .ok (.iload_n 3, 1) := by decide +kernel
theorem dX5_eventsIn_24 : decode cX5_eventsIn 24 = .ok (.invokevirtual 45, 3) := by decide +kernel
theorem dX5_eventsIn_27 : decode cX5_eventsIn 27 = .ok (.iconst 2, 1) := by decide +kernel
theorem dX5_eventsIn_28 : decode cX5_eventsIn 28 = .ok (.if_icmp .ne 7, 3) := by decide +kernel
theorem dX5_eventsIn_31 : decode cX5_eventsIn 31 = .ok (.iconst 1, 1) := by decide +kernel
theorem dX5_eventsIn_32 : decode cX5_eventsIn 32 = .ok (.goto 4, 3) := by decide +kernel
theorem dX5_eventsIn_35 : decode cX5_eventsIn 35 = .ok (.iconst 0, 1) := by decide +kernel
theorem dX5_eventsIn_36 : decode cX5_eventsIn 36 = .ok (.iadd, 1) := by decide +kernel
theorem dX5_eventsIn_37 : decode cX5_eventsIn 37 = .ok (.istore_n 2, 1) := by decide +kernel
theorem dX5_eventsIn_38 : decode cX5_eventsIn 38 = .ok (.iinc 3 1, 3) := by decide +kernel
theorem dX5_eventsIn_41 : decode cX5_eventsIn 41 = .ok (.goto (-37), 3) := by decide +kernel
theorem dX5_eventsIn_44 : decode cX5_eventsIn 44 = .ok (.iload_n 2, 1) := by decide +kernel
theorem dX5_eventsIn_45 : decode cX5_eventsIn 45 = .ok (.ireturn, 1) := by decide +kernel
def cd_52 : dm_Code := [[dm_push 1 (.int 0), dm_ist 2 2, dm_push 3 (.int 0), dm_ist 4 3, dm_ild 5 3, dm_ald 6 0, dm_inv 9 13 0 2, dm_no, dm_no, dm_ic_ge 12 44, dm_no, dm_no, dm_ild 13 2, dm_ald 14 1, dm_ild 15 3, dm_inv 18 45 1 3],
  [dm_no, dm_no, dm_push 19 (.int 1), dm_ic_ne 22 35, dm_no, dm_no, dm_ald 23 0, dm_ild 24 3, dm_inv 27 20 1 2, dm_no, dm_no, dm_push 28 (.int 2), dm_ic_ne 31 35, dm_no, dm_no, dm_push 32 (.int 1)],
  [dm_goto 36, dm_no, dm_no, dm_push 36 (.int 0), dm_ii 37 (fun x y => x + y), dm_ist 38 2, dm_iinc 41 3 1, dm_no, dm_no, dm_goto 4, dm_no, dm_no, dm_ild 45 2, dm_ret .int]]
theorem tr_52_0 : dm_AllR (dm_Good dm_tb RX5 cX5_eventsIn 4 (some .int) false none) 0 [dm_push 1 (.int 0), dm_ist 2 2, dm_push 3 (.int 0), dm_ist 4 3, dm_ild 5 3, dm_ald 6 0, dm_inv 9 13 0 2, dm_no, dm_no, dm_ic_ge 12 44, dm_no, dm_no, dm_ild 13 2, dm_ald 14 1, dm_ild 15 3, dm_inv 18 45 1 3] := dr_c (dg_iconst (by decide) dX5_eventsIn_0) <| dr_c (dg_istore_n (k := 2) rfl (by decide) dX5_eventsIn_1) <| dr_c (dg_iconst (by decide) dX5_eventsIn_2) <| dr_c (dg_istore_n (k := 3) rfl (by decide) dX5_eventsIn_3) <| dr_c (dg_iload_n (k := 3) rfl dX5_eventsIn_4) <| dr_c (dg_aload_n (k := 0) rfl dX5_eventsIn_5) <| dr_c (dg_inv dX5_eventsIn_6 mo_13 rfl rfl wd_591 wd_402 wd_403 pd_13) <| dr_c (dg_no) <| dr_c (dg_no) <| dr_c (dg_ic_ge (by decide) dX5_eventsIn_9) <| dr_c (dg_no) <| dr_c (dg_no) <| dr_c (dg_iload_n (k := 2) rfl dX5_eventsIn_12) <| dr_c (dg_aload_n (k := 1) rfl dX5_eventsIn_13) <| dr_c (dg_iload_n (k := 3) rfl dX5_eventsIn_14) <| dr_c (dg_inv dX5_eventsIn_15 mo_45 rfl rfl wd_593 wd_285 wd_286 pd_45) <| dr_n
theorem tr_52_1 : dm_AllR (dm_Good dm_tb RX5 cX5_eventsIn 4 (some .int) false none) 16 [dm_no, dm_no, dm_push 19 (.int 1), dm_ic_ne 22 35, dm_no, dm_no, dm_ald 23 0, dm_ild 24 3, dm_inv 27 20 1 2, dm_no, dm_no, dm_push 28 (.int 2), dm_ic_ne 31 35, dm_no, dm_no, dm_push 32 (.int 1)] := dr_c (dg_no) <| dr_c (dg_no) <| dr_c (dg_iconst (by decide) dX5_eventsIn_18) <| dr_c (dg_ic_ne (by decide) dX5_eventsIn_19) <| dr_c (dg_no) <| dr_c (dg_no) <| dr_c (dg_aload_n (k := 0) rfl dX5_eventsIn_22) <| dr_c (dg_iload_n (k := 3) rfl dX5_eventsIn_23) <| dr_c (dg_inv dX5_eventsIn_24 mo_20 rfl rfl wd_602 wd_603 wd_604 pd_20) <| dr_c (dg_no) <| dr_c (dg_no) <| dr_c (dg_iconst (by decide) dX5_eventsIn_27) <| dr_c (dg_ic_ne (by decide) dX5_eventsIn_28) <| dr_c (dg_no) <| dr_c (dg_no) <| dr_c (dg_iconst (by decide) dX5_eventsIn_31) <| dr_n
theorem tr_52_2 : dm_AllR (dm_Good dm_tb RX5 cX5_eventsIn 4 (some .int) false none) 32 [dm_goto 36, dm_no, dm_no, dm_push 36 (.int 0), dm_ii 37 (fun x y => x + y), dm_ist 38 2, dm_iinc 41 3 1, dm_no, dm_no, dm_goto 4, dm_no, dm_no, dm_ild 45 2, dm_ret .int] := dr_c (dg_goto (by decide) dX5_eventsIn_32) <| dr_c (dg_no) <| dr_c (dg_no) <| dr_c (dg_iconst (by decide) dX5_eventsIn_35) <| dr_c (dg_iadd dX5_eventsIn_36) <| dr_c (dg_istore_n (k := 2) rfl (by decide) dX5_eventsIn_37) <| dr_c (dg_iinc (by decide) (by decide) dX5_eventsIn_38) <| dr_c (dg_no) <| dr_c (dg_no) <| dr_c (dg_goto (by decide) dX5_eventsIn_41) <| dr_c (dg_no) <| dr_c (dg_no) <| dr_c (dg_iload_n (k := 2) rfl dX5_eventsIn_44) <| dr_c (dg_ret dX5_eventsIn_45) <| dr_n
theorem tk_52 : dm_AllC (dm_Good dm_tb RX5 cX5_eventsIn 4 (some .int) false none) 0 cd_52 := dc_c (by decide) tr_52_0 <| dc_c (by decide) tr_52_1 <| dc_c (by decide) tr_52_2 <| dc_n
theorem dX5_trace_0 : decode cX5_trace 0 = .ok (.iconst 0, 1) := by decide +kernel
theorem dX5_trace_1 : decode cX5_trace 1 = .ok (.istore_n 3, 1) := by decide +kernel
theorem dX5_trace_2 : decode cX5_trace 2 = .ok (.iload_n 3, 1) := by decide +kernel
theorem dX5_trace_3 : decode cX5_trace 3 = .ok (.aload_n 0, 1) := by decide +kernel
theorem dX5_trace_4 : decode cX5_trace 4 = .ok (.invokevirtual 31, 3) := by decide +kernel
theorem dX5_trace_7 : decode cX5_trace 7 = .ok (.if_icmp .ge 15, 3) := by decide +kernel
theorem dX5_trace_10 : decode cX5_trace 10 = .ok (.aload_n 2, 1) := by decide +kernel
theorem dX5_trace_11 : decode cX5_trace 11 = .ok (.iload_n 3, 1) := by decide +kernel
theorem dX5_trace_12 : decode cX5_trace 12 = .ok (.iconst 0, 1) := by decide +kernel
theorem dX5_trace_13 : decode cX5_trace 13 = .ok (.invokevirtual 41, 3) := by decide +kernel
theorem dX5_trace_16 : decode cX5_trace 16 = .ok (.iinc 3 1, 3) := by decide +kernel
theorem dX5_trace_19 : decode cX5_trace 19 = .ok (.goto (-17), 3) := by decide +kernel
theorem dX5_trace_22 : decode cX5_trace 22 = .ok (.aload_n 2, 1) := by decide +kernel
theorem dX5_trace_23 : decode cX5_trace 23 = .ok (.iload_n 1, 1) := by decide +kernel
theorem dX5_trace_24 : decode cX5_trace 24 = .ok (.iconst 1, 1) := by decide +kernel
theorem dX5_trace_25 : decode cX5_trace 25 = .ok (.invokevirtual 41, 3) := by decide +kernel
theorem dX5_trace_28 : decode cX5_trace 28 = .ok (.iconst 1, 1) := by decide +kernel
theorem dX5_trace_29 : decode cX5_trace 29 = .ok (.istore_n 3, 1) := by decide +kernel
theorem dX5_trace_30 : decode cX5_trace 30 = .ok (.iload_n 1, 1) := by decide +kernel
theorem dX5_trace_31 : decode cX5_trace 31 = .ok (.istore 4, 2) := by decide +kernel
theorem dX5_trace_33 : decode cX5_trace 33 = .ok (.iload 4, 2) := by decide +kernel
theorem dX5_trace_35 : decode cX5_trace 35 = .ok (.ifCond .lt 62, 3) := by decide +kernel
theorem dX5_trace_38 : decode cX5_trace 38 = .ok (.aload_n 2, 1) := by decide +kernel
theorem dX5_trace_39 : decode cX5_trace 39 = .ok (.iload 4, 2) := by decide +kernel
theorem dX5_trace_41 : decode cX5_trace 41 = .ok (.invokevirtual 37, 3) := by decide +kernel
theorem dX5_trace_44 : decode cX5_trace 44 = .ok (.iconst 1, 1) := by decide +kernel
theorem dX5_trace_45 : decode cX5_trace 45 = .ok (.if_icmp .ne 46, 3) := by decide +kernel
theorem dX5_trace_48 : decode cX5_trace 48 = .ok (.aload_n 2, 1) := by decide +kernel
theorem dX5_trace_49 : decode cX5_trace 49 = .ok (.aload_n 0, 1) := by decide +kernel
theorem dX5_trace_50 : decode cX5_trace 50 = .ok (.iload 4, 2) := by decide +kernel
theorem dX5_trace_52 : decode cX5_trace 52 = .ok (.invokevirtual 48, 3) := by decide +kernel
theorem dX5_trace_55 : decode cX5_trace 55 = .ok (.iconst 1, 1) := by decide +kernel
theorem dX5_trace_56 : decode cX5_trace 56 = .ok (.invokevirtual 41, 3) := by decide +kernel
theorem dX5_trace_59 : decode cX5_trace 59 = .ok (.aload_n 2, 1) := by decide +kernel
theorem dX5_trace_60 : decode cX5_trace 60 = .ok (.aload_n 0, 1) := by decide +kernel
theorem dX5_trace_61 : decode cX5_trace 61 = .ok (.iload 4, 2) := by decide +kernel
theorem dX5_trace_63 : decode cX5_trace 63 = .ok (.invokevirtual 51, 3) := by decide +kernel
theorem dX5_trace_66 : decode cX5_trace 66 = .ok (.iconst 1, 1) := by decide +kernel
theorem dX5_trace_67 : decode cX5_trace 67 = .ok (.invokevirtual 41, 3) := by decide +kernel
theorem dX5_trace_70 : decode cX5_trace 70 = .ok (.iload_n 3, 1) := by decide +kernel
theorem dX5_trace_71 : decode cX5_trace 71 = .ok (.ifCond .eq 18, 3) := by decide +kernel
theorem dX5_trace_74 : decode cX5_trace 74 = .ok (.aload_n 0, 1) := by decide +kernel
theorem dX5_trace_75 : decode cX5_trace 75 = .ok (.iload 4, 2) := by decide +kernel
theorem dX5_trace_77 : decode cX5_trace 77 = .ok (.invokevirtual 45, 3) := by decide +kernel
theorem dX5_trace_80 : decode cX5_trace 80 = .ok (.bipush 6, 2) := by decide +kernel
theorem dX5_trace_82 : decode cX5_trace 82 = .ok (.if_icmp .eq 7, 3) := by decide +kernel
theorem dX5_trace_85 : decode cX5_trace 85 = .ok (.iconst 1, 1) := by decide +kernel
theorem dX5_trace_86 : decode cX5_trace 86 = .ok (.goto 4, 3) := by decide +kernel
theorem dX5_trace_89 : decode cX5_trace 89 = .ok (.iconst 0, 1) := by decide +kernel
theorem dX5_trace_90 : decode cX5_trace 90 = .ok (.istore_n 3, 1) := by decide +kernel
theorem dX5_trace_91 : decode cX5_trace 91 = .ok (.iinc 4 (-1), 3) := by decide +kernel
theorem dX5_trace_94 : decode cX5_trace 94 = .ok (.goto (-61), 3) := by decide +kernel
theorem dX5_trace_97 : decode cX5_trace 97 = .ok (.iload_n 3, 1) := by decide +kernel
theorem dX5_trace_98 : decode cX5_trace 98 = .ok (.ireturn, 1) := by decide +kernel
def cd_53 : dm_Code := [[dm_push 1 (.int 0), dm_ist 2 3, dm_ild 3 3, dm_ald 4 0, dm_inv 7 13 0 2, dm_no, dm_no, dm_ic_ge 10 22, dm_no, dm_no, dm_ald 11 2, dm_ild 12 3, dm_push 13 (.int 0), dm_inv 16 46 2 3, dm_no, dm_no],
  [dm_iinc 19 3 1, dm_no, dm_no, dm_goto 2, dm_no, dm_no, dm_ald 23 2, dm_ild 24 1, dm_push 25 (.int 1), dm_inv 28 46 2 3, dm_no, dm_no, dm_push 29 (.int 1), dm_ist 30 3, dm_ild 31 1, dm_ist 33 4],
  [dm_no, dm_ild 35 4, dm_no, dm_if_lt 38 97, dm_no, dm_no, dm_ald 39 2, dm_ild 41 4, dm_no, dm_inv 44 45 1 3, dm_no, dm_no, dm_push 45 (.int 1), dm_ic_ne 48 91, dm_no, dm_no],
  [dm_ald 49 2, dm_ald 50 0, dm_ild 52 4, dm_no, dm_inv 55 21 1 2, dm_no, dm_no, dm_push 56 (.int 1), dm_inv 59 46 2 3, dm_no, dm_no, dm_ald 60 2, dm_ald 61 0, dm_ild 63 4, dm_no, dm_inv 66 22 1 2],
  [dm_no, dm_no, dm_push 67 (.int 1), dm_inv 70 46 2 3, dm_no, dm_no, dm_ild 71 3, dm_if_eq 74 89, dm_no, dm_no, dm_ald 75 0, dm_ild 77 4, dm_no, dm_inv 80 20 1 2, dm_no, dm_no],
  [dm_push 82 (.int 6), dm_no, dm_ic_eq 85 89, dm_no, dm_no, dm_push 86 (.int 1), dm_goto 90, dm_no, dm_no, dm_push 90 (.int 0), dm_ist 91 3, dm_iinc 94 4 (-1), dm_no, dm_no, dm_goto 33, dm_no],
  [dm_no, dm_ild 98 3, dm_ret .boolean]]
theorem tr_53_0 : dm_AllR (dm_Good dm_tb RX5 cX5_trace 5 (some .boolean) false none) 0 [dm_push 1 (.int 0), dm_ist 2 3, dm_ild 3 3, dm_ald 4 0, dm_inv 7 13 0 2, dm_no, dm_no, dm_ic_ge 10 22, dm_no, dm_no, dm_ald 11 2, dm_ild 12 3, dm_push 13 (.int 0), dm_inv 16 46 2 3, dm_no, dm_no] := dr_c (dg_iconst (by decide) dX5_trace_0) <| dr_c (dg_istore_n (k := 3) rfl (by decide) dX5_trace_1) <| dr_c (dg_iload_n (k := 3) rfl dX5_trace_2) <| dr_c (dg_aload_n (k := 0) rfl dX5_trace_3) <| dr_c (dg_inv dX5_trace_4 mo_13 rfl rfl wd_591 wd_402 wd_403 pd_13) <| dr_c (dg_no) <| dr_c (dg_no) <| dr_c (dg_ic_ge (by decide) dX5_trace_7) <| dr_c (dg_no) <| dr_c (dg_no) <| dr_c (dg_aload_n (k := 2) rfl dX5_trace_10) <| dr_c (dg_iload_n (k := 3) rfl dX5_trace_11) <| dr_c (dg_iconst (by decide) dX5_trace_12) <| dr_c (dg_inv dX5_trace_13 mo_46 rfl rfl wd_592 wd_252 wd_253 pd_46) <| dr_c (dg_no) <| dr_c (dg_no) <| dr_n
theorem tr_53_1 : dm_AllR (dm_Good dm_tb RX5 cX5_trace 5 (some .boolean) false none) 16 [dm_iinc 19 3 1, dm_no, dm_no, dm_goto 2, dm_no, dm_no, dm_ald 23 2, dm_ild 24 1, dm_push 25 (.int 1), dm_inv 28 46 2 3, dm_no, dm_no, dm_push 29 (.int 1), dm_ist 30 3, dm_ild 31 1, dm_ist 33 4] := dr_c (dg_iinc (by decide) (by decide) dX5_trace_16) <| dr_c (dg_no) <| dr_c (dg_no) <| dr_c (dg_goto (by decide) dX5_trace_19) <| dr_c (dg_no) <| dr_c (dg_no) <| dr_c (dg_aload_n (k := 2) rfl dX5_trace_22) <| dr_c (dg_iload_n (k := 1) rfl dX5_trace_23) <| dr_c (dg_iconst (by decide) dX5_trace_24) <| dr_c (dg_inv dX5_trace_25 mo_46 rfl rfl wd_592 wd_252 wd_253 pd_46) <| dr_c (dg_no) <| dr_c (dg_no) <| dr_c (dg_iconst (by decide) dX5_trace_28) <| dr_c (dg_istore_n (k := 3) rfl (by decide) dX5_trace_29) <| dr_c (dg_iload_n (k := 1) rfl dX5_trace_30) <| dr_c (dg_istore (by decide) dX5_trace_31) <| dr_n
theorem tr_53_2 : dm_AllR (dm_Good dm_tb RX5 cX5_trace 5 (some .boolean) false none) 32 [dm_no, dm_ild 35 4, dm_no, dm_if_lt 38 97, dm_no, dm_no, dm_ald 39 2, dm_ild 41 4, dm_no, dm_inv 44 45 1 3, dm_no, dm_no, dm_push 45 (.int 1), dm_ic_ne 48 91, dm_no, dm_no] := dr_c (dg_no) <| dr_c (dg_iload dX5_trace_33) <| dr_c (dg_no) <| dr_c (dg_if_lt (by decide) dX5_trace_35) <| dr_c (dg_no) <| dr_c (dg_no) <| dr_c (dg_aload_n (k := 2) rfl dX5_trace_38) <| dr_c (dg_iload dX5_trace_39) <| dr_c (dg_no) <| dr_c (dg_inv dX5_trace_41 mo_45 rfl rfl wd_593 wd_285 wd_286 pd_45) <| dr_c (dg_no) <| dr_c (dg_no) <| dr_c (dg_iconst (by decide) dX5_trace_44) <| dr_c (dg_ic_ne (by decide) dX5_trace_45) <| dr_c (dg_no) <| dr_c (dg_no) <| dr_n
theorem tr_53_3 : dm_AllR (dm_Good dm_tb RX5 cX5_trace 5 (some .boolean) false none) 48 [dm_ald 49 2, dm_ald 50 0, dm_ild 52 4, dm_no, dm_inv 55 21 1 2, dm_no, dm_no, dm_push 56 (.int 1), dm_inv 59 46 2 3, dm_no, dm_no, dm_ald 60 2, dm_ald 61 0, dm_ild 63 4, dm_no, dm_inv 66 22 1 2] := dr_c (dg_aload_n (k := 2) rfl dX5_trace_48) <| dr_c (dg_aload_n (k := 0) rfl dX5_trace_49) <| dr_c (dg_iload dX5_trace_50) <| dr_c (dg_no) <| dr_c (dg_inv dX5_trace_52 mo_21 rfl rfl wd_594 wd_595 wd_596 pd_21) <| dr_c (dg_no) <| dr_c (dg_no) <| dr_c (dg_iconst (by decide) dX5_trace_55) <| dr_c (dg_inv dX5_trace_56 mo_46 rfl rfl wd_592 wd_252 wd_253 pd_46) <| dr_c (dg_no) <| dr_c (dg_no) <| dr_c (dg_aload_n (k := 2) rfl dX5_trace_59) <| dr_c (dg_aload_n (k := 0) rfl dX5_trace_60) <| dr_c (dg_iload dX5_trace_61) <| dr_c (dg_no) <| dr_c (dg_inv dX5_trace_63 mo_22 rfl rfl wd_598 wd_599 wd_600 pd_22) <| dr_n
theorem tr_53_4 : dm_AllR (dm_Good dm_tb RX5 cX5_trace 5 (some .boolean) false none) 64 [dm_no, dm_no, dm_push 67 (.int 1), dm_inv 70 46 2 3, dm_no, dm_no, dm_ild 71 3, dm_if_eq 74 89, dm_no, dm_no, dm_ald 75 0, dm_ild 77 4, dm_no, dm_inv 80 20 1 2, dm_no, dm_no] := dr_c (dg_no) <| dr_c (dg_no) <| dr_c (dg_iconst (by decide) dX5_trace_66) <| dr_c (dg_inv dX5_trace_67 mo_46 rfl rfl wd_592 wd_252 wd_253 pd_46) <| dr_c (dg_no) <| dr_c (dg_no) <| dr_c (dg_iload_n (k := 3) rfl dX5_trace_70) <| dr_c (dg_if_eq (by decide) dX5_trace_71) <| dr_c (dg_no) <| dr_c (dg_no) <| dr_c (dg_aload_n (k := 0) rfl dX5_trace_74) <| dr_c (dg_iload dX5_trace_75) <| dr_c (dg_no) <| dr_c (dg_inv dX5_trace_77 mo_20 rfl rfl wd_602 wd_603 wd_604 pd_20) <| dr_c (dg_no) <| dr_c (dg_no) <| dr_n
theorem tr_53_5 : dm_AllR (dm_Good dm_tb RX5 cX5_trace 5 (some .boolean) false none) 80 [dm_push 82 (.int 6), dm_no, dm_ic_eq 85 89, dm_no, dm_no, dm_push 86 (.int 1), dm_goto 90, dm_no, dm_no, dm_push 90 (.int 0), dm_ist 91 3, dm_iinc 94 4 (-1), dm_no, dm_no, dm_goto 33, dm_no] := dr_c (dg_bipush (by decide) dX5_trace_80) <| dr_c (dg_no) <| dr_c (dg_ic_eq (by decide) dX5_trace_82) <| dr_c (dg_no) <| dr_c (dg_no) <| dr_c (dg_iconst (by decide) dX5_trace_85) <| dr_c (dg_goto (by decide) dX5_trace_86) <| dr_c (dg_no) <| dr_c (dg_no) <| dr_c (dg_iconst (by decide) dX5_trace_89) <| dr_c (dg_istore_n (k := 3) rfl (by decide) dX5_trace_90) <| dr_c (dg_iinc (by decide) (by decide) dX5_trace_91) <| dr_c (dg_no) <| dr_c (dg_no) <| dr_c (dg_goto (by decide) dX5_trace_94) <| dr_c (dg_no) <| dr_n
theorem tr_53_6 : dm_AllR (dm_Good dm_tb RX5 cX5_trace 5 (some .boolean) false none) 96 [dm_no, dm_ild 98 3, dm_ret .boolean] := dr_c (dg_no) <| dr_c (dg_iload_n (k := 3) rfl dX5_trace_97) <| dr_c (dg_ret dX5_trace_98) <| dr_n
theorem tk_53 : dm_AllC (dm_Good dm_tb RX5 cX5_trace 5 (some .boolean) false none) 0 cd_53 := dc_c (by decide) tr_53_0 <| dc_c (by decide) tr_53_1 <| dc_c (by decide) tr_53_2 <| dc_c (by decide) tr_53_3 <| dc_c (by decide) tr_53_4 <| dc_c (by decide) tr_53_5 <| dc_c (by decide) tr_53_6 <| dc_n
theorem dX6_init_0 : decode cX6_init 0 = .ok (.aload_n 0, 1) := by decide +kernel
theorem dX6_init_1 : decode cX6_init 1 = .ok (.invokespecial 3, 3) := by decide +kernel
theorem dX6_init_4 : decode cX6_init 4 = .ok (.aload_n 0, 1) := by decide +kernel
theorem dX6_init_5 : decode cX6_init 5 = .ok (.aload_n 1, 1) := by decide +kernel
theorem dX6_init_6 : decode cX6_init 6 = .ok (.putfield 9, 3) := by decide +kernel
theorem dX6_init_9 : decode cX6_init 9 = .ok (.aload_n 0, 1) := by decide +kernel
theorem dX6_init_10 : decode cX6_init 10 = .ok (.iconst 0, 1) := by decide +kernel
theorem dX6_init_11 : decode cX6_init 11 = .ok (.putfield 15, 3) := by decide +kernel
theorem dX6_init_14 : decode cX6_init 14 = .ok (.aload_n 0, 1) := by decide +kernel
theorem dX6_init_15 : decode cX6_init 15 = .ok (.iconst (-1), 1) := by decide +kernel
theorem dX6_init_16 : decode cX6_init 16 = .ok (.putfield 19, 3) := by decide +kernel
theorem dX6_init_19 : decode cX6_init 19 = .ok (.return_, 1) := by decide +kernel
def cd_54 : dm_Code := [[dm_ald 1 0, dm_oin 4, dm_no, dm_no, dm_ald 5 0, dm_ald 6 1, dm_putf 9 5 0 (.object "SplitClocks$Bits"), dm_no, dm_no, dm_ald 10 0, dm_push 11 (.int 0), dm_putf 14 5 1 .int, dm_no, dm_no, dm_ald 15 0, dm_push 16 (.int (-1))],
  [dm_putf 19 5 2 .int, dm_no, dm_no, dm_vret]]
theorem tr_54_0 : dm_AllR (dm_Good dm_tb RX6 cX6_init 2 none true none) 0 [dm_ald 1 0, dm_oin 4, dm_no, dm_no, dm_ald 5 0, dm_ald 6 1, dm_putf 9 5 0 (.object "SplitClocks$Bits"), dm_no, dm_no, dm_ald 10 0, dm_push 11 (.int 0), dm_putf 14 5 1 .int, dm_no, dm_no, dm_ald 15 0, dm_push 16 (.int (-1))] := dr_c (dg_aload_n (k := 0) rfl dX6_init_0) <| dr_c (dg_oin dX6_init_1 wd_224 wd_86 wd_87) <| dr_c (dg_no) <| dr_c (dg_no) <| dr_c (dg_aload_n (k := 0) rfl dX6_init_4) <| dr_c (dg_aload_n (k := 1) rfl dX6_init_5) <| dr_c (dg_putF (T := TX6) (C := RX6) (N := 3) dX6_init_6 rfl (by decide) iw_X6 tyX6_ok nmX6 wd_225 rfl rfl rfl) <| dr_c (dg_no) <| dr_c (dg_no) <| dr_c (dg_aload_n (k := 0) rfl dX6_init_9) <| dr_c (dg_iconst (by decide) dX6_init_10) <| dr_c (dg_putf (T := TX6) (C := RX6) (N := 3) dX6_init_11 rfl (by decide) iw_X6 tyX6_ok nmX6 wd_226 rfl rfl) <| dr_c (dg_no) <| dr_c (dg_no) <| dr_c (dg_aload_n (k := 0) rfl dX6_init_14) <| dr_c (dg_iconst (by decide) dX6_init_15) <| dr_n
theorem tr_54_1 : dm_AllR (dm_Good dm_tb RX6 cX6_init 2 none true none) 16 [dm_putf 19 5 2 .int, dm_no, dm_no, dm_vret] := dr_c (dg_putf (T := TX6) (C := RX6) (N := 3) dX6_init_16 rfl (by decide) iw_X6 tyX6_ok nmX6 wd_227 rfl rfl) <| dr_c (dg_no) <| dr_c (dg_no) <| dr_c (dg_vret dX6_init_19) <| dr_n
theorem tk_54 : dm_AllC (dm_Good dm_tb RX6 cX6_init 2 none true none) 0 cd_54 := dc_c (by decide) tr_54_0 <| dc_c (by decide) tr_54_1 <| dc_n
theorem dX6_firstFault_0 : decode cX6_firstFault 0 = .ok (.aload_n 0, 1) := by decide +kernel
theorem dX6_firstFault_1 : decode cX6_firstFault 1 = .ok (.getfield 19, 3) := by decide +kernel
theorem dX6_firstFault_4 : decode cX6_firstFault 4 = .ok (.ireturn, 1) := by decide +kernel
def cd_55 : dm_Code := [[dm_ald 1 0, dm_getf 4 5 2, dm_no, dm_no, dm_ret .int]]
theorem tr_55_0 : dm_AllR (dm_Good dm_tb RX6 cX6_firstFault 1 (some .int) false none) 0 [dm_ald 1 0, dm_getf 4 5 2, dm_no, dm_no, dm_ret .int] := dr_c (dg_aload_n (k := 0) rfl dX6_firstFault_0) <| dr_c (dg_getf (T := TX6) (C := RX6) (N := 3) dX6_firstFault_1 rfl (by decide) iw_X6 wd_227) <| dr_c (dg_no) <| dr_c (dg_no) <| dr_c (dg_ret dX6_firstFault_4) <| dr_n
theorem tk_55 : dm_AllC (dm_Good dm_tb RX6 cX6_firstFault 1 (some .int) false none) 0 cd_55 := dc_c (by decide) tr_55_0 <| dc_n
theorem dX6_scan_0 : decode cX6_scan 0 = .ok (.aload_n 0, 1) := by decide +kernel
theorem dX6_scan_1 : decode cX6_scan 1 = .ok (.iconst 0, 1) := by decide +kernel
theorem dX6_scan_2 : decode cX6_scan 2 = .ok (.putfield 15, 3) := by decide +kernel
theorem dX6_scan_5 : decode cX6_scan 5 = .ok (.aload_n 0, 1) := by decide +kernel
theorem dX6_scan_6 : decode cX6_scan 6 = .ok (.iconst (-1), 1) := by decide +kernel
theorem dX6_scan_7 : decode cX6_scan 7 = .ok (.putfield 19, 3) := by decide +kernel
theorem dX6_scan_10 : decode cX6_scan 10 = .ok (.aload_n 1, 1) := by decide +kernel
theorem dX6_scan_11 : decode cX6_scan 11 = .ok (.invokevirtual 22, 3) := by decide +kernel
theorem dX6_scan_14 : decode cX6_scan 14 = .ok (.istore_n 2, 1) := by decide +kernel
theorem dX6_scan_15 : decode cX6_scan 15 = .ok (.aload_n 0, 1) := by decide +kernel
theorem dX6_scan_16 : decode cX6_scan 16 = .ok (.iconst 0, 1) := by decide +kernel
theorem dX6_scan_17 : decode cX6_scan 17 = .ok (.invokestatic 28, 3) := by decide +kernel
theorem dX6_scan_20 : decode cX6_scan 20 = .ok (.pop, 1) := by decide +kernel
theorem dX6_scan_21 : decode cX6_scan 21 = .ok (.aload_n 0, 1) := by decide +kernel
theorem dX6_scan_22 : decode cX6_scan 22 = .ok (.aload_n 1, 1) := by decide +kernel
theorem dX6_scan_23 : decode cX6_scan 23 = .ok (.iconst 0, 1) := by decide +kernel
theorem dX6_scan_24 : decode cX6_scan 24 = .ok (.invokestatic 32, 3) := by decide +kernel
theorem dX6_scan_27 : decode cX6_scan 27 = .ok (.aload_n 0, 1) := by decide +kernel
theorem dX6_scan_28 : decode cX6_scan 28 = .ok (.getfield 15, 3) := by decide +kernel
theorem dX6_scan_31 : decode cX6_scan 31 = .ok (.aload_n 0, 1) := by decide +kernel
theorem dX6_scan_32 : decode cX6_scan 32 = .ok (.getfield 9, 3) := by decide +kernel
theorem dX6_scan_35 : decode cX6_scan 35 = .ok (.invokevirtual 36, 3) := by decide +kernel
theorem dX6_scan_38 : decode cX6_scan 38 = .ok (.if_icmp .ge 11, 3) := by decide +kernel
theorem dX6_scan_41 : decode cX6_scan 41 = .ok (.aload_n 0, 1) := by decide +kernel
theorem dX6_scan_42 : decode cX6_scan 42 = .ok (.aload_n 0, 1) := by decide +kernel
theorem dX6_scan_43 : decode cX6_scan 43 = .ok (.getfield 15, 3) := by decide +kernel
theorem dX6_scan_46 : decode cX6_scan 46 = .ok (.invokevirtual 41, 3) := by decide +kernel
theorem dX6_scan_49 : decode cX6_scan 49 = .ok (.iload_n 2, 1) := by decide +kernel
theorem dX6_scan_50 : decode cX6_scan 50 = .ok (.ireturn, 1) := by decide +kernel
def cd_56 : dm_Code := [[dm_ald 1 0, dm_push 2 (.int 0), dm_putf 5 5 1 .int, dm_no, dm_no, dm_ald 6 0, dm_push 7 (.int (-1)), dm_putf 10 5 2 .int, dm_no, dm_no, dm_ald 11 1, dm_inv 14 73 0 6, dm_no, dm_no, dm_ist 15 2, dm_ald 16 0],
  [dm_push 17 (.int 0), dm_ins 20 62 2, dm_no, dm_no, dm_pop 21, dm_ald 22 0, dm_ald 23 1, dm_push 24 (.int 0), dm_ins 27 63 3, dm_no, dm_no, dm_ald 28 0, dm_getf 31 5 1, dm_no, dm_no, dm_ald 32 0],
  [dm_getf 35 5 0, dm_no, dm_no, dm_inv 38 6 0 1, dm_no, dm_no, dm_ic_ge 41 49, dm_no, dm_no, dm_ald 42 0, dm_ald 43 0, dm_getf 46 5 1, dm_no, dm_no, dm_inv 49 58 1 5, dm_no],
  [dm_no, dm_ild 50 2, dm_ret .int]]
theorem tr_56_0 : dm_AllR (dm_Good dm_tb RX6 cX6_scan 3 (some .int) false none) 0 [dm_ald 1 0, dm_push 2 (.int 0), dm_putf 5 5 1 .int, dm_no, dm_no, dm_ald 6 0, dm_push 7 (.int (-1)), dm_putf 10 5 2 .int, dm_no, dm_no, dm_ald 11 1, dm_inv 14 73 0 6, dm_no, dm_no, dm_ist 15 2, dm_ald 16 0] := dr_c (dg_aload_n (k := 0) rfl dX6_scan_0) <| dr_c (dg_iconst (by decide) dX6_scan_1) <| dr_c (dg_putf (T := TX6) (C := RX6) (N := 3) dX6_scan_2 rfl (by decide) iw_X6 tyX6_ok nmX6 wd_226 rfl rfl) <| dr_c (dg_no) <| dr_c (dg_no) <| dr_c (dg_aload_n (k := 0) rfl dX6_scan_5) <| dr_c (dg_iconst (by decide) dX6_scan_6) <| dr_c (dg_putf (T := TX6) (C := RX6) (N := 3) dX6_scan_7 rfl (by decide) iw_X6 tyX6_ok nmX6 wd_227 rfl rfl) <| dr_c (dg_no) <| dr_c (dg_no) <| dr_c (dg_aload_n (k := 1) rfl dX6_scan_10) <| dr_c (dg_inv dX6_scan_11 mo_73 rfl rfl wd_738 wd_299 wd_300 pd_73) <| dr_c (dg_no) <| dr_c (dg_no) <| dr_c (dg_istore_n (k := 2) rfl (by decide) dX6_scan_14) <| dr_c (dg_aload_n (k := 0) rfl dX6_scan_15) <| dr_n
theorem tr_56_1 : dm_AllR (dm_Good dm_tb RX6 cX6_scan 3 (some .int) false none) 16 [dm_push 17 (.int 0), dm_ins 20 62 2, dm_no, dm_no, dm_pop 21, dm_ald 22 0, dm_ald 23 1, dm_push 24 (.int 0), dm_ins 27 63 3, dm_no, dm_no, dm_ald 28 0, dm_getf 31 5 1, dm_no, dm_no, dm_ald 32 0] := dr_c (dg_iconst (by decide) dX6_scan_16) <| dr_c (dg_ins dX6_scan_17 mo_62 wd_739 wd_740 pd_62) <| dr_c (dg_no) <| dr_c (dg_no) <| dr_c (dg_pop dX6_scan_20) <| dr_c (dg_aload_n (k := 0) rfl dX6_scan_21) <| dr_c (dg_aload_n (k := 1) rfl dX6_scan_22) <| dr_c (dg_iconst (by decide) dX6_scan_23) <| dr_c (dg_ins dX6_scan_24 mo_63 wd_760 wd_761 pd_63) <| dr_c (dg_no) <| dr_c (dg_no) <| dr_c (dg_aload_n (k := 0) rfl dX6_scan_27) <| dr_c (dg_getf (T := TX6) (C := RX6) (N := 3) dX6_scan_28 rfl (by decide) iw_X6 wd_226) <| dr_c (dg_no) <| dr_c (dg_no) <| dr_c (dg_aload_n (k := 0) rfl dX6_scan_31) <| dr_n
theorem tr_56_2 : dm_AllR (dm_Good dm_tb RX6 cX6_scan 3 (some .int) false none) 32 [dm_getf 35 5 0, dm_no, dm_no, dm_inv 38 6 0 1, dm_no, dm_no, dm_ic_ge 41 49, dm_no, dm_no, dm_ald 42 0, dm_ald 43 0, dm_getf 46 5 1, dm_no, dm_no, dm_inv 49 58 1 5, dm_no] := dr_c (dg_getf (T := TX6) (C := RX6) (N := 3) dX6_scan_32 rfl (by decide) iw_X6 wd_225) <| dr_c (dg_no) <| dr_c (dg_no) <| dr_c (dg_inv dX6_scan_35 mo_6 rfl rfl wd_758 wd_654 wd_655 pd_6) <| dr_c (dg_no) <| dr_c (dg_no) <| dr_c (dg_ic_ge (by decide) dX6_scan_38) <| dr_c (dg_no) <| dr_c (dg_no) <| dr_c (dg_aload_n (k := 0) rfl dX6_scan_41) <| dr_c (dg_aload_n (k := 0) rfl dX6_scan_42) <| dr_c (dg_getf (T := TX6) (C := RX6) (N := 3) dX6_scan_43 rfl (by decide) iw_X6 wd_226) <| dr_c (dg_no) <| dr_c (dg_no) <| dr_c (dg_inv dX6_scan_46 mo_58 rfl rfl wd_742 wd_744 wd_10 pd_58) <| dr_c (dg_no) <| dr_n
theorem tr_56_3 : dm_AllR (dm_Good dm_tb RX6 cX6_scan 3 (some .int) false none) 48 [dm_no, dm_ild 50 2, dm_ret .int] := dr_c (dg_no) <| dr_c (dg_iload_n (k := 2) rfl dX6_scan_49) <| dr_c (dg_ret dX6_scan_50) <| dr_n
theorem tk_56 : dm_AllC (dm_Good dm_tb RX6 cX6_scan 3 (some .int) false none) 0 cd_56 := dc_c (by decide) tr_56_0 <| dc_c (by decide) tr_56_1 <| dc_c (by decide) tr_56_2 <| dc_c (by decide) tr_56_3 <| dc_n
theorem dX6_isFaulty_0 : decode cX6_isFaulty 0 = .ok (.aload_n 0, 1) := by decide +kernel
theorem dX6_isFaulty_1 : decode cX6_isFaulty 1 = .ok (.getfield 19, 3) := by decide +kernel
theorem dX6_isFaulty_4 : decode cX6_isFaulty 4 = .ok (.iconst (-1), 1) := by decide +kernel
theorem dX6_isFaulty_5 : decode cX6_isFaulty 5 = .ok (.if_icmp .eq 7, 3) := by decide +kernel
theorem dX6_isFaulty_8 : decode cX6_isFaulty 8 = .ok (.iconst 1, 1) := by decide +kernel
theorem dX6_isFaulty_9 : decode cX6_isFaulty 9 = .ok (.goto 4, 3) := by decide +kernel
theorem dX6_isFaulty_12 : decode cX6_isFaulty 12 = .ok (.iconst 0, 1) := by decide +kernel
theorem dX6_isFaulty_13 : decode cX6_isFaulty 13 = .ok (.ireturn, 1) := by decide +kernel
def cd_57 : dm_Code := [[dm_ald 1 0, dm_getf 4 5 2, dm_no, dm_no, dm_push 5 (.int (-1)), dm_ic_eq 8 12, dm_no, dm_no, dm_push 9 (.int 1), dm_goto 13, dm_no, dm_no, dm_push 13 (.int 0), dm_ret .boolean]]
theorem tr_57_0 : dm_AllR (dm_Good dm_tb RX6 cX6_isFaulty 1 (some .boolean) false none) 0 [dm_ald 1 0, dm_getf 4 5 2, dm_no, dm_no, dm_push 5 (.int (-1)), dm_ic_eq 8 12, dm_no, dm_no, dm_push 9 (.int 1), dm_goto 13, dm_no, dm_no, dm_push 13 (.int 0), dm_ret .boolean] := dr_c (dg_aload_n (k := 0) rfl dX6_isFaulty_0) <| dr_c (dg_getf (T := TX6) (C := RX6) (N := 3) dX6_isFaulty_1 rfl (by decide) iw_X6 wd_227) <| dr_c (dg_no) <| dr_c (dg_no) <| dr_c (dg_iconst (by decide) dX6_isFaulty_4) <| dr_c (dg_ic_eq (by decide) dX6_isFaulty_5) <| dr_c (dg_no) <| dr_c (dg_no) <| dr_c (dg_iconst (by decide) dX6_isFaulty_8) <| dr_c (dg_goto (by decide) dX6_isFaulty_9) <| dr_c (dg_no) <| dr_c (dg_no) <| dr_c (dg_iconst (by decide) dX6_isFaulty_12) <| dr_c (dg_ret dX6_isFaulty_13) <| dr_n
theorem tk_57 : dm_AllC (dm_Good dm_tb RX6 cX6_isFaulty 1 (some .boolean) false none) 0 cd_57 := dc_c (by decide) tr_57_0 <| dc_n
theorem dX6_blame_0 : decode cX6_blame 0 = .ok (.aload_n 0, 1) := by decide +kernel
theorem dX6_blame_1 : decode cX6_blame 1 = .ok (.invokevirtual 45, 3) := by decide +kernel
theorem dX6_blame_4 : decode cX6_blame 4 = .ok (.ifCond .ne 8, 3) := by decide +kernel
theorem dX6_blame_7 : decode cX6_blame 7 = .ok (.aload_n 0, 1) := by decide +kernel
theorem dX6_blame_8 : decode cX6_blame 8 = .ok (.iload_n 1, 1) := by decide +kernel
theorem dX6_blame_9 : decode cX6_blame 9 = .ok (.putfield 19, 3) := by decide +kernel
theorem dX6_blame_12 : decode cX6_blame 12 = .ok (.return_, 1) := by decide +kernel
def cd_58 : dm_Code := [[dm_ald 1 0, dm_inv 4 57 0 5, dm_no, dm_no, dm_if_ne 7 12, dm_no, dm_no, dm_ald 8 0, dm_ild 9 1, dm_putf 12 5 2 .int, dm_no, dm_no, dm_vret]]
theorem tr_58_0 : dm_AllR (dm_Good dm_tb RX6 cX6_blame 2 none false none) 0 [dm_ald 1 0, dm_inv 4 57 0 5, dm_no, dm_no, dm_if_ne 7 12, dm_no, dm_no, dm_ald 8 0, dm_ild 9 1, dm_putf 12 5 2 .int, dm_no, dm_no, dm_vret] := dr_c (dg_aload_n (k := 0) rfl dX6_blame_0) <| dr_c (dg_inv dX6_blame_1 mo_57 rfl rfl wd_746 wd_748 wd_11 pd_57) <| dr_c (dg_no) <| dr_c (dg_no) <| dr_c (dg_if_ne (by decide) dX6_blame_4) <| dr_c (dg_no) <| dr_c (dg_no) <| dr_c (dg_aload_n (k := 0) rfl dX6_blame_7) <| dr_c (dg_iload_n (k := 1) rfl dX6_blame_8) <| dr_c (dg_putf (T := TX6) (C := RX6) (N := 3) dX6_blame_9 rfl (by decide) iw_X6 tyX6_ok nmX6 wd_227 rfl rfl) <| dr_c (dg_no) <| dr_c (dg_no) <| dr_c (dg_vret dX6_blame_12) <| dr_n
theorem tk_58 : dm_AllC (dm_Good dm_tb RX6 cX6_blame 2 none false none) 0 cd_58 := dc_c (by decide) tr_58_0 <| dc_n
theorem dX6_oneBit_0 : decode cX6_oneBit 0 = .ok (.aload_n 0, 1) := by decide +kernel
theorem dX6_oneBit_1 : decode cX6_oneBit 1 = .ok (.getfield 15, 3) := by decide +kernel
theorem dX6_oneBit_4 : decode cX6_oneBit 4 = .ok (.aload_n 0, 1) := by decide +kernel
theorem dX6_oneBit_5 : decode cX6_oneBit 5 = .ok (.getfield 9, 3) := by decide +kernel
theorem dX6_oneBit_8 : decode cX6_oneBit 8 = .ok (.invokevirtual 36, 3) := by decide +kernel
theorem dX6_oneBit_11 : decode cX6_oneBit 11 = .ok (.if_icmp .lt 14, 3) := by decide +kernel
theorem dX6_oneBit_14 : decode cX6_oneBit 14 = .ok (.aload_n 0, 1) := by decide +kernel
theorem dX6_oneBit_15 : decode cX6_oneBit 15 = .ok (.aload_n 0, 1) := by decide +kernel
theorem dX6_oneBit_16 : decode cX6_oneBit 16 = .ok (.getfield 9, 3) := by decide +kernel
theorem dX6_oneBit_19 : decode cX6_oneBit 19 = .ok (.invokevirtual 36, 3) := by decide +kernel
theorem dX6_oneBit_22 : decode cX6_oneBit 22 = .ok (.invokevirtual 41, 3) := by decide +kernel
theorem dX6_oneBit_25 : decode cX6_oneBit 25 = .ok (.aload_n 0, 1) := by decide +kernel
theorem dX6_oneBit_26 : decode cX6_oneBit 26 = .ok (.invokevirtual 45, 3) := by decide +kernel
theorem dX6_oneBit_29 : decode cX6_oneBit 29 = .ok (.ifCond .eq 5, 3) := by decide +kernel
theorem dX6_oneBit_32 : decode cX6_oneBit 32 = .ok (.iconst (-1), 1) := by decide +kernel
theorem dX6_oneBit_33 : decode cX6_oneBit 33 = .ok (.ireturn, 1) := by decide +kernel
theorem dX6_oneBit_34 : decode cX6_oneBit 34 = .ok (.aload_n 0, 1) := by decide +kernel
theorem dX6_oneBit_35 : decode cX6_oneBit 35 = .ok (.dup, 1) := by decide +kernel
theorem dX6_oneBit_36 : decode cX6_oneBit 36 = .ok (.getfield 15, 3) := by decide +kernel
theorem dX6_oneBit_39 : decode cX6_oneBit 39 = .ok (.iconst 1, 1) := by decide +kernel
theorem dX6_oneBit_40 : decode cX6_oneBit 40 = .ok (.iadd, 1) := by decide +kernel
theorem dX6_oneBit_41 : decode cX6_oneBit 41 = .ok (.putfield 15, 3) := by decide +kernel
theorem dX6_oneBit_44 : decode cX6_oneBit 44 = .ok (.aload_n 0, 1) := by decide +kernel
theorem dX6_oneBit_45 : decode cX6_oneBit 45 = .ok (.getfield 9, 3) := by decide +kernel
theorem dX6_oneBit_48 : decode cX6_oneBit 48 = .ok (.aload_n 0, 1) := by decide +kernel
theorem dX6_oneBit_49 : decode cX6_oneBit 49 = .ok (.getfield 15, 3) := by decide +kernel
theorem dX6_oneBit_52 : decode cX6_oneBit 52 = .ok (.iconst 1, 1) := by decide +kernel
theorem dX6_oneBit_53 : decode cX6_oneBit 53 = .ok (.isub, 1) := by decide +kernel
theorem dX6_oneBit_54 : decode cX6_oneBit 54 = .ok (.invokevirtual 49, 3) := by decide +kernel
theorem dX6_oneBit_57 : decode cX6_oneBit 57 = .ok (.ireturn, 1) := by decide +kernel
def cd_59 : dm_Code := [[dm_ald 1 0, dm_getf 4 5 1, dm_no, dm_no, dm_ald 5 0, dm_getf 8 5 0, dm_no, dm_no, dm_inv 11 6 0 1, dm_no, dm_no, dm_ic_lt 14 25, dm_no, dm_no, dm_ald 15 0, dm_ald 16 0],
  [dm_getf 19 5 0, dm_no, dm_no, dm_inv 22 6 0 1, dm_no, dm_no, dm_inv 25 58 1 5, dm_no, dm_no, dm_ald 26 0, dm_inv 29 57 0 5, dm_no, dm_no, dm_if_eq 32 34, dm_no, dm_no],
  [dm_push 33 (.int (-1)), dm_ret .int, dm_ald 35 0, dm_dup 36, dm_getf 39 5 1, dm_no, dm_no, dm_push 40 (.int 1), dm_ii 41 (fun x y => x + y), dm_putf 44 5 1 .int, dm_no, dm_no, dm_ald 45 0, dm_getf 48 5 0, dm_no, dm_no],
  [dm_ald 49 0, dm_getf 52 5 1, dm_no, dm_no, dm_push 53 (.int 1), dm_ii 54 (fun x y => x - y), dm_inv 57 7 1 1, dm_no, dm_no, dm_ret .int]]
theorem tr_59_0 : dm_AllR (dm_Good dm_tb RX6 cX6_oneBit 1 (some .int) false none) 0 [dm_ald 1 0, dm_getf 4 5 1, dm_no, dm_no, dm_ald 5 0, dm_getf 8 5 0, dm_no, dm_no, dm_inv 11 6 0 1, dm_no, dm_no, dm_ic_lt 14 25, dm_no, dm_no, dm_ald 15 0, dm_ald 16 0] := dr_c (dg_aload_n (k := 0) rfl dX6_oneBit_0) <| dr_c (dg_getf (T := TX6) (C := RX6) (N := 3) dX6_oneBit_1 rfl (by decide) iw_X6 wd_226) <| dr_c (dg_no) <| dr_c (dg_no) <| dr_c (dg_aload_n (k := 0) rfl dX6_oneBit_4) <| dr_c (dg_getf (T := TX6) (C := RX6) (N := 3) dX6_oneBit_5 rfl (by decide) iw_X6 wd_225) <| dr_c (dg_no) <| dr_c (dg_no) <| dr_c (dg_inv dX6_oneBit_8 mo_6 rfl rfl wd_758 wd_654 wd_655 pd_6) <| dr_c (dg_no) <| dr_c (dg_no) <| dr_c (dg_ic_lt (by decide) dX6_oneBit_11) <| dr_c (dg_no) <| dr_c (dg_no) <| dr_c (dg_aload_n (k := 0) rfl dX6_oneBit_14) <| dr_c (dg_aload_n (k := 0) rfl dX6_oneBit_15) <| dr_n
theorem tr_59_1 : dm_AllR (dm_Good dm_tb RX6 cX6_oneBit 1 (some .int) false none) 16 [dm_getf 19 5 0, dm_no, dm_no, dm_inv 22 6 0 1, dm_no, dm_no, dm_inv 25 58 1 5, dm_no, dm_no, dm_ald 26 0, dm_inv 29 57 0 5, dm_no, dm_no, dm_if_eq 32 34, dm_no, dm_no] := dr_c (dg_getf (T := TX6) (C := RX6) (N := 3) dX6_oneBit_16 rfl (by decide) iw_X6 wd_225) <| dr_c (dg_no) <| dr_c (dg_no) <| dr_c (dg_inv dX6_oneBit_19 mo_6 rfl rfl wd_758 wd_654 wd_655 pd_6) <| dr_c (dg_no) <| dr_c (dg_no) <| dr_c (dg_inv dX6_oneBit_22 mo_58 rfl rfl wd_742 wd_744 wd_10 pd_58) <| dr_c (dg_no) <| dr_c (dg_no) <| dr_c (dg_aload_n (k := 0) rfl dX6_oneBit_25) <| dr_c (dg_inv dX6_oneBit_26 mo_57 rfl rfl wd_746 wd_748 wd_11 pd_57) <| dr_c (dg_no) <| dr_c (dg_no) <| dr_c (dg_if_eq (by decide) dX6_oneBit_29) <| dr_c (dg_no) <| dr_c (dg_no) <| dr_n
theorem tr_59_2 : dm_AllR (dm_Good dm_tb RX6 cX6_oneBit 1 (some .int) false none) 32 [dm_push 33 (.int (-1)), dm_ret .int, dm_ald 35 0, dm_dup 36, dm_getf 39 5 1, dm_no, dm_no, dm_push 40 (.int 1), dm_ii 41 (fun x y => x + y), dm_putf 44 5 1 .int, dm_no, dm_no, dm_ald 45 0, dm_getf 48 5 0, dm_no, dm_no] := dr_c (dg_iconst (by decide) dX6_oneBit_32) <| dr_c (dg_ret dX6_oneBit_33) <| dr_c (dg_aload_n (k := 0) rfl dX6_oneBit_34) <| dr_c (dg_dup dX6_oneBit_35) <| dr_c (dg_getf (T := TX6) (C := RX6) (N := 3) dX6_oneBit_36 rfl (by decide) iw_X6 wd_226) <| dr_c (dg_no) <| dr_c (dg_no) <| dr_c (dg_iconst (by decide) dX6_oneBit_39) <| dr_c (dg_iadd dX6_oneBit_40) <| dr_c (dg_putf (T := TX6) (C := RX6) (N := 3) dX6_oneBit_41 rfl (by decide) iw_X6 tyX6_ok nmX6 wd_226 rfl rfl) <| dr_c (dg_no) <| dr_c (dg_no) <| dr_c (dg_aload_n (k := 0) rfl dX6_oneBit_44) <| dr_c (dg_getf (T := TX6) (C := RX6) (N := 3) dX6_oneBit_45 rfl (by decide) iw_X6 wd_225) <| dr_c (dg_no) <| dr_c (dg_no) <| dr_n
theorem tr_59_3 : dm_AllR (dm_Good dm_tb RX6 cX6_oneBit 1 (some .int) false none) 48 [dm_ald 49 0, dm_getf 52 5 1, dm_no, dm_no, dm_push 53 (.int 1), dm_ii 54 (fun x y => x - y), dm_inv 57 7 1 1, dm_no, dm_no, dm_ret .int] := dr_c (dg_aload_n (k := 0) rfl dX6_oneBit_48) <| dr_c (dg_getf (T := TX6) (C := RX6) (N := 3) dX6_oneBit_49 rfl (by decide) iw_X6 wd_226) <| dr_c (dg_no) <| dr_c (dg_no) <| dr_c (dg_iconst (by decide) dX6_oneBit_52) <| dr_c (dg_isub dX6_oneBit_53) <| dr_c (dg_inv dX6_oneBit_54 mo_7 rfl rfl wd_759 wd_717 wd_718 pd_7) <| dr_c (dg_no) <| dr_c (dg_no) <| dr_c (dg_ret dX6_oneBit_57) <| dr_n
theorem tk_59 : dm_AllC (dm_Good dm_tb RX6 cX6_oneBit 1 (some .int) false none) 0 cd_59 := dc_c (by decide) tr_59_0 <| dc_c (by decide) tr_59_1 <| dc_c (by decide) tr_59_2 <| dc_c (by decide) tr_59_3 <| dc_n
theorem dX6_twoBits_0 : decode cX6_twoBits 0 = .ok (.aload_n 0, 1) := by decide +kernel
theorem dX6_twoBits_1 : decode cX6_twoBits 1 = .ok (.invokevirtual 53, 3) := by decide +kernel
theorem dX6_twoBits_4 : decode cX6_twoBits 4 = .ok (.istore_n 1, 1) := by decide +kernel
theorem dX6_twoBits_5 : decode cX6_twoBits 5 = .ok (.aload_n 0, 1) := by decide +kernel
theorem dX6_twoBits_6 : decode cX6_twoBits 6 = .ok (.invokevirtual 53, 3) := by decide +kernel
theorem dX6_twoBits_9 : decode cX6_twoBits 9 = .ok (.istore_n 2, 1) := by decide +kernel
theorem dX6_twoBits_10 : decode cX6_twoBits 10 = .ok (.aload_n 0, 1) := by decide +kernel
theorem dX6_twoBits_11 : decode cX6_twoBits 11 = .ok (.invokevirtual 45, 3) := by decide +kernel
theorem dX6_twoBits_14 : decode cX6_twoBits 14 = .ok (.ifCond .eq 7, 3) := by decide +kernel
theorem dX6_twoBits_17 : decode cX6_twoBits 17 = .ok (.iconst (-1), 1) := by decide +kernel
theorem dX6_twoBits_18 : decode cX6_twoBits 18 = .ok (.goto 8, 3) := by decide +kernel
theorem dX6_twoBits_21 : decode cX6_twoBits 21 = .ok (.iconst 2, 1) := by decide +kernel
theorem dX6_twoBits_22 : decode cX6_twoBits 22 = .ok (.iload_n 1, 1) := by decide +kernel
theorem dX6_twoBits_23 : decode cX6_twoBits 23 = .ok (.imul, 1) := by decide +kernel
theorem dX6_twoBits_24 : decode cX6_twoBits 24 = .ok (.iload_n 2, 1) := by decide +kernel
theorem dX6_twoBits_25 : decode cX6_twoBits 25 = .ok (.iadd, 1) := by decide +kernel
theorem dX6_twoBits_26 : decode cX6_twoBits 26 = .ok (.ireturn, 1) := by decide +kernel
def cd_60 : dm_Code := [[dm_ald 1 0, dm_inv 4 59 0 5, dm_no, dm_no, dm_ist 5 1, dm_ald 6 0, dm_inv 9 59 0 5, dm_no, dm_no, dm_ist 10 2, dm_ald 11 0, dm_inv 14 57 0 5, dm_no, dm_no, dm_if_eq 17 21, dm_no],
  [dm_no, dm_push 18 (.int (-1)), dm_goto 26, dm_no, dm_no, dm_push 22 (.int 2), dm_ild 23 1, dm_ii 24 (fun x y => x * y), dm_ild 25 2, dm_ii 26 (fun x y => x + y), dm_ret .int]]
theorem tr_60_0 : dm_AllR (dm_Good dm_tb RX6 cX6_twoBits 3 (some .int) false none) 0 [dm_ald 1 0, dm_inv 4 59 0 5, dm_no, dm_no, dm_ist 5 1, dm_ald 6 0, dm_inv 9 59 0 5, dm_no, dm_no, dm_ist 10 2, dm_ald 11 0, dm_inv 14 57 0 5, dm_no, dm_no, dm_if_eq 17 21, dm_no] := dr_c (dg_aload_n (k := 0) rfl dX6_twoBits_0) <| dr_c (dg_inv dX6_twoBits_1 mo_59 rfl rfl wd_754 wd_756 wd_13 pd_59) <| dr_c (dg_no) <| dr_c (dg_no) <| dr_c (dg_istore_n (k := 1) rfl (by decide) dX6_twoBits_4) <| dr_c (dg_aload_n (k := 0) rfl dX6_twoBits_5) <| dr_c (dg_inv dX6_twoBits_6 mo_59 rfl rfl wd_754 wd_756 wd_13 pd_59) <| dr_c (dg_no) <| dr_c (dg_no) <| dr_c (dg_istore_n (k := 2) rfl (by decide) dX6_twoBits_9) <| dr_c (dg_aload_n (k := 0) rfl dX6_twoBits_10) <| dr_c (dg_inv dX6_twoBits_11 mo_57 rfl rfl wd_746 wd_748 wd_11 pd_57) <| dr_c (dg_no) <| dr_c (dg_no) <| dr_c (dg_if_eq (by decide) dX6_twoBits_14) <| dr_c (dg_no) <| dr_n
theorem tr_60_1 : dm_AllR (dm_Good dm_tb RX6 cX6_twoBits 3 (some .int) false none) 16 [dm_no, dm_push 18 (.int (-1)), dm_goto 26, dm_no, dm_no, dm_push 22 (.int 2), dm_ild 23 1, dm_ii 24 (fun x y => x * y), dm_ild 25 2, dm_ii 26 (fun x y => x + y), dm_ret .int] := dr_c (dg_no) <| dr_c (dg_iconst (by decide) dX6_twoBits_17) <| dr_c (dg_goto (by decide) dX6_twoBits_18) <| dr_c (dg_no) <| dr_c (dg_no) <| dr_c (dg_iconst (by decide) dX6_twoBits_21) <| dr_c (dg_iload_n (k := 1) rfl dX6_twoBits_22) <| dr_c (dg_imul dX6_twoBits_23) <| dr_c (dg_iload_n (k := 2) rfl dX6_twoBits_24) <| dr_c (dg_iadd dX6_twoBits_25) <| dr_c (dg_ret dX6_twoBits_26) <| dr_n
theorem tk_60 : dm_AllC (dm_Good dm_tb RX6 cX6_twoBits 3 (some .int) false none) 0 cd_60 := dc_c (by decide) tr_60_0 <| dc_c (by decide) tr_60_1 <| dc_n
theorem dX6_numberHere_0 : decode cX6_numberHere 0 = .ok (.iconst 0, 1) := by decide +kernel
theorem dX6_numberHere_1 : decode cX6_numberHere 1 = .ok (.istore_n 1, 1) := by decide +kernel
theorem dX6_numberHere_2 : decode cX6_numberHere 2 = .ok (.iconst 2, 1) := by decide +kernel
theorem dX6_numberHere_3 : decode cX6_numberHere 3 = .ok (.istore_n 2, 1) := by decide +kernel
theorem dX6_numberHere_4 : decode cX6_numberHere 4 = .ok (.aload_n 0, 1) := by decide +kernel
theorem dX6_numberHere_5 : decode cX6_numberHere 5 = .ok (.invokevirtual 53, 3) := by decide +kernel
theorem dX6_numberHere_8 : decode cX6_numberHere 8 = .ok (.istore_n 3, 1) := by decide +kernel
theorem dX6_numberHere_9 : decode cX6_numberHere 9 = .ok (.iload_n 3, 1) := by decide +kernel
theorem dX6_numberHere_10 : decode cX6_numberHere 10 = .ok (.iconst 1, 1) := by decide +kernel
theorem dX6_numberHere_11 : decode cX6_numberHere 11 = .ok (.if_icmp .ne 26, 3) := by decide +kernel
theorem dX6_numberHere_14 : decode cX6_numberHere 14 = .ok (.iload_n 2, 1) := by decide +kernel
theorem dX6_numberHere_15 : decode cX6_numberHere 15 = .ok (.bipush 20, 2) := by decide +kernel
theorem dX6_numberHere_17 : decode cX6_numberHere 17 = .ok (.if_icmp .ge 20, 3) := by decide +kernel
theorem dX6_numberHere_20 : decode cX6_numberHere 20 = .ok (.iload_n 1, 1) := by decide +kernel
theorem dX6_numberHere_21 : decode cX6_numberHere 21 = .ok (.iconst 1, 1) := by decide +kernel
theorem dX6_numberHere_22 : decode cX6_numberHere 22 = .ok (.iload_n 2, 1) := by decide +kernel
theorem dX6_numberHere_23 : decode cX6_numberHere 23 = .ok (.ishl, 1) := by decide +kernel
theorem dX6_numberHere_24 : decode cX6_numberHere 24 = .ok (.iadd, 1) := by decide +kernel
theorem dX6_numberHere_25 : decode cX6_numberHere 25 = .ok (.istore_n 1, 1) := by decide +kernel
theorem dX6_numberHere_26 : decode cX6_numberHere 26 = .ok (.iinc 2 1, 3) := by decide +kernel
theorem dX6_numberHere_29 : decode cX6_numberHere 29 = .ok (.aload_n 0, 1) := by decide +kernel
theorem dX6_numberHere_30 : decode cX6_numberHere 30 = .ok (.invokevirtual 53, 3) := by decide +kernel
theorem dX6_numberHere_33 : decode cX6_numberHere 33 = .ok (.istore_n 3, 1) := by decide +kernel
theorem dX6_numberHere_34 : decode cX6_numberHere 34 = .ok (.goto (-25), 3) := by decide +kernel
theorem dX6_numberHere_37 : decode cX6_numberHere 37 = .ok (.iload_n 3, 1) := by decide +kernel
theorem dX6_numberHere_38 : decode cX6_numberHere 38 = .ok (.iconst 1, 1) := by decide +kernel
theorem dX6_numberHere_39 : decode cX6_numberHere 39 = .ok (.if_icmp .ne 13, 3) := by decide +kernel
theorem dX6_numberHere_42 : decode cX6_numberHere 42 = .ok (.aload_n 0, 1) := by decide +kernel
theorem dX6_numberHere_43 : decode cX6_numberHere 43 = .ok (.aload_n 0, 1) := by decide +kernel
theorem dX6_numberHere_44 : decode cX6_numberHere 44 = .ok (.getfield 15, 3) := by decide +kernel
theorem dX6_numberHere_47 : decode cX6_numberHere 47 = .ok (.iconst 1, 1) := by decide +kernel
theorem dX6_numberHere_48 : decode cX6_numberHere 48 = .ok (.isub, 1) := by decide +kernel
theorem dX6_numberHere_49 : decode cX6_numberHere 49 = .ok (.invokevirtual 41, 3) := by decide +kernel
theorem dX6_numberHere_52 : decode cX6_numberHere 52 = .ok (.iconst 0, 1) := by decide +kernel
theorem dX6_numberHere_53 : decode cX6_numberHere 53 = .ok (.istore 4, 2) := by decide +kernel
theorem dX6_numberHere_55 : decode cX6_numberHere 55 = .ok (.iconst 0, 1) := by decide +kernel
theorem dX6_numberHere_56 : decode cX6_numberHere 56 = .ok (.istore 5, 2) := by decide +kernel
theorem dX6_numberHere_58 : decode cX6_numberHere 58 = .ok (.iload 5, 2) := by decide +kernel
theorem dX6_numberHere_60 : decode cX6_numberHere 60 = .ok (.iload_n 2, 1) := by decide +kernel
theorem dX6_numberHere_61 : decode cX6_numberHere 61 = .ok (.if_icmp .ge 20, 3) := by decide +kernel
theorem dX6_numberHere_64 : decode cX6_numberHere 64 = .ok (.iconst 2, 1) := by decide +kernel
theorem dX6_numberHere_65 : decode cX6_numberHere 65 = .ok (.iload 4, 2) := by decide +kernel
theorem dX6_numberHere_67 : decode cX6_numberHere 67 = .ok (.imul, 1) := by decide +kernel
theorem dX6_numberHere_68 : decode cX6_numberHere 68 = .ok (.aload_n 0, 1) := by decide +kernel
theorem dX6_numberHere_69 : decode cX6_numberHere 69 = .ok (.invokevirtual 53, 3) := by decide +kernel
theorem dX6_numberHere_72 : decode cX6_numberHere 72 = .ok (.iadd, 1) := by decide +kernel
theorem dX6_numberHere_73 : decode cX6_numberHere 73 = .ok (.istore 4, 2) := by decide +kernel
theorem dX6_numberHere_75 : decode cX6_numberHere 75 = .ok (.iinc 5 1, 3) := by decide +kernel
theorem dX6_numberHere_78 : decode cX6_numberHere 78 = .ok (.goto (-20), 3) := by decide +kernel
theorem dX6_numberHere_81 : decode cX6_numberHere 81 = .ok (.aload_n 0, 1) := by decide +kernel
theorem dX6_numberHere_82 : decode cX6_numberHere 82 = .ok (.invokevirtual 45, 3) := by decide +kernel
theorem dX6_numberHere_85 : decode cX6_numberHere 85 = .ok (.ifCond .eq 7, 3) := by decide +kernel
theorem dX6_numberHere_88 : decode cX6_numberHere 88 = .ok (.iconst (-1), 1) := by decide +kernel
theorem dX6_numberHere_89 : decode cX6_numberHere 89 = .ok (.goto 7, 3) := by decide +kernel
theorem dX6_numberHere_92 : decode cX6_numberHere 92 = .ok (.iload_n 1, 1) := by decide +kernel
theorem dX6_numberHere_93 : decode cX6_numberHere 93 = .ok (.iload 4, 2) := by decide +kernel
theorem dX6_numberHere_95 : decode cX6_numberHere 95 = .ok (.iadd, 1) := by decide +kernel
theorem dX6_numberHere_96 : decode cX6_numberHere 96 = .ok (.ireturn, 1) := by decide +kernel
def cd_61 : dm_Code := [[dm_push 1 (.int 0), dm_ist 2 1, dm_push 3 (.int 2), dm_ist 4 2, dm_ald 5 0, dm_inv 8 59 0 5, dm_no, dm_no, dm_ist 9 3, dm_ild 10 3, dm_push 11 (.int 1), dm_ic_ne 14 37, dm_no, dm_no, dm_ild 15 2, dm_push 17 (.int 20)],
  [dm_no, dm_ic_ge 20 37, dm_no, dm_no, dm_ild 21 1, dm_push 22 (.int 1), dm_ild 23 2, dm_ii 24 (fun x y => x <<< (y &&& 31)), dm_ii 25 (fun x y => x + y), dm_ist 26 1, dm_iinc 29 2 1, dm_no, dm_no, dm_ald 30 0, dm_inv 33 59 0 5, dm_no],
  [dm_no, dm_ist 34 3, dm_goto 9, dm_no, dm_no, dm_ild 38 3, dm_push 39 (.int 1), dm_ic_ne 42 52, dm_no, dm_no, dm_ald 43 0, dm_ald 44 0, dm_getf 47 5 1, dm_no, dm_no, dm_push 48 (.int 1)],
  [dm_ii 49 (fun x y => x - y), dm_inv 52 58 1 5, dm_no, dm_no, dm_push 53 (.int 0), dm_ist 55 4, dm_no, dm_push 56 (.int 0), dm_ist 58 5, dm_no, dm_ild 60 5, dm_no, dm_ild 61 2, dm_ic_ge 64 81, dm_no, dm_no],
  [dm_push 65 (.int 2), dm_ild 67 4, dm_no, dm_ii 68 (fun x y => x * y), dm_ald 69 0, dm_inv 72 59 0 5, dm_no, dm_no, dm_ii 73 (fun x y => x + y), dm_ist 75 4, dm_no, dm_iinc 78 5 1, dm_no, dm_no, dm_goto 58, dm_no],
  [dm_no, dm_ald 82 0, dm_inv 85 57 0 5, dm_no, dm_no, dm_if_eq 88 92, dm_no, dm_no, dm_push 89 (.int (-1)), dm_goto 96, dm_no, dm_no, dm_ild 93 1, dm_ild 95 4, dm_no, dm_ii 96 (fun x y => x + y)],
  [dm_ret .int]]
theorem tr_61_0 : dm_AllR (dm_Good dm_tb RX6 cX6_numberHere 6 (some .int) false none) 0 [dm_push 1 (.int 0), dm_ist 2 1, dm_push 3 (.int 2), dm_ist 4 2, dm_ald 5 0, dm_inv 8 59 0 5, dm_no, dm_no, dm_ist 9 3, dm_ild 10 3, dm_push 11 (.int 1), dm_ic_ne 14 37, dm_no, dm_no, dm_ild 15 2, dm_push 17 (.int 20)] := dr_c (dg_iconst (by decide) dX6_numberHere_0) <| dr_c (dg_istore_n (k := 1) rfl (by decide) dX6_numberHere_1) <| dr_c (dg_iconst (by decide) dX6_numberHere_2) <| dr_c (dg_istore_n (k := 2) rfl (by decide) dX6_numberHere_3) <| dr_c (dg_aload_n (k := 0) rfl dX6_numberHere_4) <| dr_c (dg_inv dX6_numberHere_5 mo_59 rfl rfl wd_754 wd_756 wd_13 pd_59) <| dr_c (dg_no) <| dr_c (dg_no) <| dr_c (dg_istore_n (k := 3) rfl (by decide) dX6_numberHere_8) <| dr_c (dg_iload_n (k := 3) rfl dX6_numberHere_9) <| dr_c (dg_iconst (by decide) dX6_numberHere_10) <| dr_c (dg_ic_ne (by decide) dX6_numberHere_11) <| dr_c (dg_no) <| dr_c (dg_no) <| dr_c (dg_iload_n (k := 2) rfl dX6_numberHere_14) <| dr_c (dg_bipush (by decide) dX6_numberHere_15) <| dr_n
theorem tr_61_1 : dm_AllR (dm_Good dm_tb RX6 cX6_numberHere 6 (some .int) false none) 16 [dm_no, dm_ic_ge 20 37, dm_no, dm_no, dm_ild 21 1, dm_push 22 (.int 1), dm_ild 23 2, dm_ii 24 (fun x y => x <<< (y &&& 31)), dm_ii 25 (fun x y => x + y), dm_ist 26 1, dm_iinc 29 2 1, dm_no, dm_no, dm_ald 30 0, dm_inv 33 59 0 5, dm_no] := dr_c (dg_no) <| dr_c (dg_ic_ge (by decide) dX6_numberHere_17) <| dr_c (dg_no) <| dr_c (dg_no) <| dr_c (dg_iload_n (k := 1) rfl dX6_numberHere_20) <| dr_c (dg_iconst (by decide) dX6_numberHere_21) <| dr_c (dg_iload_n (k := 2) rfl dX6_numberHere_22) <| dr_c (dg_ishl dX6_numberHere_23) <| dr_c (dg_iadd dX6_numberHere_24) <| dr_c (dg_istore_n (k := 1) rfl (by decide) dX6_numberHere_25) <| dr_c (dg_iinc (by decide) (by decide) dX6_numberHere_26) <| dr_c (dg_no) <| dr_c (dg_no) <| dr_c (dg_aload_n (k := 0) rfl dX6_numberHere_29) <| dr_c (dg_inv dX6_numberHere_30 mo_59 rfl rfl wd_754 wd_756 wd_13 pd_59) <| dr_c (dg_no) <| dr_n
theorem tr_61_2 : dm_AllR (dm_Good dm_tb RX6 cX6_numberHere 6 (some .int) false none) 32 [dm_no, dm_ist 34 3, dm_goto 9, dm_no, dm_no, dm_ild 38 3, dm_push 39 (.int 1), dm_ic_ne 42 52, dm_no, dm_no, dm_ald 43 0, dm_ald 44 0, dm_getf 47 5 1, dm_no, dm_no, dm_push 48 (.int 1)] := dr_c (dg_no) <| dr_c (dg_istore_n (k := 3) rfl (by decide) dX6_numberHere_33) <| dr_c (dg_goto (by decide) dX6_numberHere_34) <| dr_c (dg_no) <| dr_c (dg_no) <| dr_c (dg_iload_n (k := 3) rfl dX6_numberHere_37) <| dr_c (dg_iconst (by decide) dX6_numberHere_38) <| dr_c (dg_ic_ne (by decide) dX6_numberHere_39) <| dr_c (dg_no) <| dr_c (dg_no) <| dr_c (dg_aload_n (k := 0) rfl dX6_numberHere_42) <| dr_c (dg_aload_n (k := 0) rfl dX6_numberHere_43) <| dr_c (dg_getf (T := TX6) (C := RX6) (N := 3) dX6_numberHere_44 rfl (by decide) iw_X6 wd_226) <| dr_c (dg_no) <| dr_c (dg_no) <| dr_c (dg_iconst (by decide) dX6_numberHere_47) <| dr_n
theorem tr_61_3 : dm_AllR (dm_Good dm_tb RX6 cX6_numberHere 6 (some .int) false none) 48 [dm_ii 49 (fun x y => x - y), dm_inv 52 58 1 5, dm_no, dm_no, dm_push 53 (.int 0), dm_ist 55 4, dm_no, dm_push 56 (.int 0), dm_ist 58 5, dm_no, dm_ild 60 5, dm_no, dm_ild 61 2, dm_ic_ge 64 81, dm_no, dm_no] := dr_c (dg_isub dX6_numberHere_48) <| dr_c (dg_inv dX6_numberHere_49 mo_58 rfl rfl wd_742 wd_744 wd_10 pd_58) <| dr_c (dg_no) <| dr_c (dg_no) <| dr_c (dg_iconst (by decide) dX6_numberHere_52) <| dr_c (dg_istore (by decide) dX6_numberHere_53) <| dr_c (dg_no) <| dr_c (dg_iconst (by decide) dX6_numberHere_55) <| dr_c (dg_istore (by decide) dX6_numberHere_56) <| dr_c (dg_no) <| dr_c (dg_iload dX6_numberHere_58) <| dr_c (dg_no) <| dr_c (dg_iload_n (k := 2) rfl dX6_numberHere_60) <| dr_c (dg_ic_ge (by decide) dX6_numberHere_61) <| dr_c (dg_no) <| dr_c (dg_no) <| dr_n
theorem tr_61_4 : dm_AllR (dm_Good dm_tb RX6 cX6_numberHere 6 (some .int) false none) 64 [dm_push 65 (.int 2), dm_ild 67 4, dm_no, dm_ii 68 (fun x y => x * y), dm_ald 69 0, dm_inv 72 59 0 5, dm_no, dm_no, dm_ii 73 (fun x y => x + y), dm_ist 75 4, dm_no, dm_iinc 78 5 1, dm_no, dm_no, dm_goto 58, dm_no] := dr_c (dg_iconst (by decide) dX6_numberHere_64) <| dr_c (dg_iload dX6_numberHere_65) <| dr_c (dg_no) <| dr_c (dg_imul dX6_numberHere_67) <| dr_c (dg_aload_n (k := 0) rfl dX6_numberHere_68) <| dr_c (dg_inv dX6_numberHere_69 mo_59 rfl rfl wd_754 wd_756 wd_13 pd_59) <| dr_c (dg_no) <| dr_c (dg_no) <| dr_c (dg_iadd dX6_numberHere_72) <| dr_c (dg_istore (by decide) dX6_numberHere_73) <| dr_c (dg_no) <| dr_c (dg_iinc (by decide) (by decide) dX6_numberHere_75) <| dr_c (dg_no) <| dr_c (dg_no) <| dr_c (dg_goto (by decide) dX6_numberHere_78) <| dr_c (dg_no) <| dr_n
theorem tr_61_5 : dm_AllR (dm_Good dm_tb RX6 cX6_numberHere 6 (some .int) false none) 80 [dm_no, dm_ald 82 0, dm_inv 85 57 0 5, dm_no, dm_no, dm_if_eq 88 92, dm_no, dm_no, dm_push 89 (.int (-1)), dm_goto 96, dm_no, dm_no, dm_ild 93 1, dm_ild 95 4, dm_no, dm_ii 96 (fun x y => x + y)] := dr_c (dg_no) <| dr_c (dg_aload_n (k := 0) rfl dX6_numberHere_81) <| dr_c (dg_inv dX6_numberHere_82 mo_57 rfl rfl wd_746 wd_748 wd_11 pd_57) <| dr_c (dg_no) <| dr_c (dg_no) <| dr_c (dg_if_eq (by decide) dX6_numberHere_85) <| dr_c (dg_no) <| dr_c (dg_no) <| dr_c (dg_iconst (by decide) dX6_numberHere_88) <| dr_c (dg_goto (by decide) dX6_numberHere_89) <| dr_c (dg_no) <| dr_c (dg_no) <| dr_c (dg_iload_n (k := 1) rfl dX6_numberHere_92) <| dr_c (dg_iload dX6_numberHere_93) <| dr_c (dg_no) <| dr_c (dg_iadd dX6_numberHere_95) <| dr_n
theorem tr_61_6 : dm_AllR (dm_Good dm_tb RX6 cX6_numberHere 6 (some .int) false none) 96 [dm_ret .int] := dr_c (dg_ret dX6_numberHere_96) <| dr_n
theorem tk_61 : dm_AllC (dm_Good dm_tb RX6 cX6_numberHere 6 (some .int) false none) 0 cd_61 := dc_c (by decide) tr_61_0 <| dc_c (by decide) tr_61_1 <| dc_c (by decide) tr_61_2 <| dc_c (by decide) tr_61_3 <| dc_c (by decide) tr_61_4 <| dc_c (by decide) tr_61_5 <| dc_c (by decide) tr_61_6 <| dc_n
theorem dX6_shareFrom_0 : decode cX6_shareFrom 0 = .ok (.aload_n 0, 1) := by decide +kernel
theorem dX6_shareFrom_1 : decode cX6_shareFrom 1 = .ok (.getfield 15, 3) := by decide +kernel
theorem dX6_shareFrom_4 : decode cX6_shareFrom 4 = .ok (.istore_n 2, 1) := by decide +kernel
theorem dX6_shareFrom_5 : decode cX6_shareFrom 5 = .ok (.iload_n 1, 1) := by decide +kernel
theorem dX6_shareFrom_6 : decode cX6_shareFrom 6 = .ok (.bipush 60, 2) := by decide +kernel
theorem dX6_shareFrom_8 : decode cX6_shareFrom 8 = .ok (.if_icmp .le 8, 3) := by decide +kernel
theorem dX6_shareFrom_11 : decode cX6_shareFrom 11 = .ok (.aload_n 0, 1) := by decide +kernel
theorem dX6_shareFrom_12 : decode cX6_shareFrom 12 = .ok (.iload_n 2, 1) := by decide +kernel
theorem dX6_shareFrom_13 : decode cX6_shareFrom 13 = .ok (.invokevirtual 41, 3) := by decide +kernel
theorem dX6_shareFrom_16 : decode cX6_shareFrom 16 = .ok (.aload_n 0, 1) := by decide +kernel
theorem dX6_shareFrom_17 : decode cX6_shareFrom 17 = .ok (.invokevirtual 56, 3) := by decide +kernel
theorem dX6_shareFrom_20 : decode cX6_shareFrom 20 = .ok (.istore_n 3, 1) := by decide +kernel
theorem dX6_shareFrom_21 : decode cX6_shareFrom 21 = .ok (.iload_n 3, 1) := by decide +kernel
theorem dX6_shareFrom_22 : decode cX6_shareFrom 22 = .ok (.ifCond .gt 16, 3) := by decide +kernel
theorem dX6_shareFrom_25 : decode cX6_shareFrom 25 = .ok (.iload_n 3, 1) := by decide +kernel
theorem dX6_shareFrom_26 : decode cX6_shareFrom 26 = .ok (.ifCond .ne 10, 3) := by decide +kernel
theorem dX6_shareFrom_29 : decode cX6_shareFrom 29 = .ok (.aload_n 0, 1) := by decide +kernel
theorem dX6_shareFrom_30 : decode cX6_shareFrom 30 = .ok (.invokevirtual 53, 3) := by decide +kernel
theorem dX6_shareFrom_33 : decode cX6_shareFrom 33 = .ok (.goto 4, 3) := by decide +kernel
theorem dX6_shareFrom_36 : decode cX6_shareFrom 36 = .ok (.iconst (-1), 1) := by decide +kernel
theorem dX6_shareFrom_37 : decode cX6_shareFrom 37 = .ok (.ireturn, 1) := by decide +kernel
theorem dX6_shareFrom_38 : decode cX6_shareFrom 38 = .ok (.iload_n 3, 1) := by decide +kernel
theorem dX6_shareFrom_39 : decode cX6_shareFrom 39 = .ok (.iconst 1, 1) := by decide +kernel
theorem dX6_shareFrom_40 : decode cX6_shareFrom 40 = .ok (.if_icmp .ne 7, 3) := by decide +kernel
theorem dX6_shareFrom_43 : decode cX6_shareFrom 43 = .ok (.iconst 0, 1) := by decide +kernel
theorem dX6_shareFrom_44 : decode cX6_shareFrom 44 = .ok (.goto 10, 3) := by decide +kernel
theorem dX6_shareFrom_47 : decode cX6_shareFrom 47 = .ok (.aload_n 0, 1) := by decide +kernel
theorem dX6_shareFrom_48 : decode cX6_shareFrom 48 = .ok (.iload_n 1, 1) := by decide +kernel
theorem dX6_shareFrom_49 : decode cX6_shareFrom 49 = .ok (.iconst 1, 1) := by decide +kernel
theorem dX6_shareFrom_50 : decode cX6_shareFrom 50 = .ok (.iadd, 1) := by decide +kernel
theorem dX6_shareFrom_51 : decode cX6_shareFrom 51 = .ok (.invokestatic 28, 3) := by decide +kernel
theorem dX6_shareFrom_54 : decode cX6_shareFrom 54 = .ok (.istore 4, 2) := by decide +kernel
theorem dX6_shareFrom_56 : decode cX6_shareFrom 56 = .ok (.iload_n 3, 1) := by decide +kernel
theorem dX6_shareFrom_57 : decode cX6_shareFrom 57 = .ok (.iconst 2, 1) := by decide +kernel
theorem dX6_shareFrom_58 : decode cX6_shareFrom 58 = .ok (.if_icmp .ne 7, 3) := by decide +kernel
theorem dX6_shareFrom_61 : decode cX6_shareFrom 61 = .ok (.iconst 0, 1) := by decide +kernel
theorem dX6_shareFrom_62 : decode cX6_shareFrom 62 = .ok (.goto 10, 3) := by decide +kernel
theorem dX6_shareFrom_65 : decode cX6_shareFrom 65 = .ok (.aload_n 0, 1) := by decide +kernel
theorem dX6_shareFrom_66 : decode cX6_shareFrom 66 = .ok (.iload_n 1, 1) := by decide +kernel
theorem dX6_shareFrom_67 : decode cX6_shareFrom 67 = .ok (.iconst 1, 1) := by decide +kernel
theorem dX6_shareFrom_68 : decode cX6_shareFrom 68 = .ok (.iadd, 1) := by decide +kernel
theorem dX6_shareFrom_69 : decode cX6_shareFrom 69 = .ok (.invokestatic 28, 3) := by decide +kernel
theorem dX6_shareFrom_72 : decode cX6_shareFrom 72 = .ok (.istore 5, 2) := by decide +kernel
theorem dX6_shareFrom_74 : decode cX6_shareFrom 74 = .ok (.iload_n 3, 1) := by decide +kernel
theorem dX6_shareFrom_75 : decode cX6_shareFrom 75 = .ok (.iconst 1, 1) := by decide +kernel
theorem dX6_shareFrom_76 : decode cX6_shareFrom 76 = .ok (.if_icmp .eq 8, 3) := by decide +kernel
theorem dX6_shareFrom_79 : decode cX6_shareFrom 79 = .ok (.iload 4, 2) := by decide +kernel
theorem dX6_shareFrom_81 : decode cX6_shareFrom 81 = .ok (.ifCond .eq 7, 3) := by decide +kernel
theorem dX6_shareFrom_84 : decode cX6_shareFrom 84 = .ok (.iconst 1, 1) := by decide +kernel
theorem dX6_shareFrom_85 : decode cX6_shareFrom 85 = .ok (.goto 4, 3) := by decide +kernel
theorem dX6_shareFrom_88 : decode cX6_shareFrom 88 = .ok (.iconst 0, 1) := by decide +kernel
theorem dX6_shareFrom_89 : decode cX6_shareFrom 89 = .ok (.istore 6, 2) := by decide +kernel
theorem dX6_shareFrom_91 : decode cX6_shareFrom 91 = .ok (.iload_n 3, 1) := by decide +kernel
theorem dX6_shareFrom_92 : decode cX6_shareFrom 92 = .ok (.iconst 2, 1) := by decide +kernel
theorem dX6_shareFrom_93 : decode cX6_shareFrom 93 = .ok (.if_icmp .eq 8, 3) := by decide +kernel
theorem dX6_shareFrom_96 : decode cX6_shareFrom 96 = .ok (.iload 5, 2) := by decide +kernel
theorem dX6_shareFrom_98 : decode cX6_shareFrom 98 = .ok (.ifCond .eq 7, 3) := by decide +kernel
theorem dX6_shareFrom_101 : decode cX6_shareFrom 101 = .ok (.iconst 1, 1) := by decide +kernel
theorem dX6_shareFrom_102 : decode cX6_shareFrom 102 = .ok (.goto 4, 3) := by decide +kernel
theorem dX6_shareFrom_105 : decode cX6_shareFrom 105 = .ok (.iconst 0, 1) := by decide +kernel
theorem dX6_shareFrom_106 : decode cX6_shareFrom 106 = .ok (.istore 7, 2) := by decide +kernel
theorem dX6_shareFrom_108 : decode cX6_shareFrom 108 = .ok (.iload 6, 2) := by decide +kernel
theorem dX6_shareFrom_110 : decode cX6_shareFrom 110 = .ok (.ifCond .eq 20, 3) := by decide +kernel
theorem dX6_shareFrom_113 : decode cX6_shareFrom 113 = .ok (.iload 7, 2) := by decide +kernel
theorem dX6_shareFrom_115 : decode cX6_shareFrom 115 = .ok (.ifCond .eq 15, 3) := by decide +kernel
theorem dX6_shareFrom_118 : decode cX6_shareFrom 118 = .ok (.iload 4, 2) := by decide +kernel
theorem dX6_shareFrom_120 : decode cX6_shareFrom 120 = .ok (.iconst 1, 1) := by decide +kernel
theorem dX6_shareFrom_121 : decode cX6_shareFrom 121 = .ok (.if_icmp .ne 14, 3) := by decide +kernel
theorem dX6_shareFrom_124 : decode cX6_shareFrom 124 = .ok (.iload 5, 2) := by decide +kernel
theorem dX6_shareFrom_126 : decode cX6_shareFrom 126 = .ok (.iconst 1, 1) := by decide +kernel
theorem dX6_shareFrom_127 : decode cX6_shareFrom 127 = .ok (.if_icmp .ne 8, 3) := by decide +kernel
theorem dX6_shareFrom_130 : decode cX6_shareFrom 130 = .ok (.aload_n 0, 1) := by decide +kernel
theorem dX6_shareFrom_131 : decode cX6_shareFrom 131 = .ok (.iload_n 2, 1) := by decide +kernel
theorem dX6_shareFrom_132 : decode cX6_shareFrom 132 = .ok (.invokevirtual 41, 3) := by decide +kernel
theorem dX6_shareFrom_135 : decode cX6_shareFrom 135 = .ok (.aload_n 0, 1) := by decide +kernel
theorem dX6_shareFrom_136 : decode cX6_shareFrom 136 = .ok (.invokevirtual 45, 3) := by decide +kernel
theorem dX6_shareFrom_139 : decode cX6_shareFrom 139 = .ok (.ifCond .eq 7, 3) := by decide +kernel
theorem dX6_shareFrom_142 : decode cX6_shareFrom 142 = .ok (.iconst (-1), 1) := by decide +kernel
theorem dX6_shareFrom_143 : decode cX6_shareFrom 143 = .ok (.goto 4, 3) := by decide +kernel
theorem dX6_shareFrom_146 : decode cX6_shareFrom 146 = .ok (.iconst 2, 1) := by decide +kernel
theorem dX6_shareFrom_147 : decode cX6_shareFrom 147 = .ok (.ireturn, 1) := by decide +kernel
def cd_62 : dm_Code := [[dm_ald 1 0, dm_getf 4 5 1, dm_no, dm_no, dm_ist 5 2, dm_ild 6 1, dm_push 8 (.int 60), dm_no, dm_ic_le 11 16, dm_no, dm_no, dm_ald 12 0, dm_ild 13 2, dm_inv 16 58 1 5, dm_no, dm_no],
  [dm_ald 17 0, dm_inv 20 60 0 5, dm_no, dm_no, dm_ist 21 3, dm_ild 22 3, dm_if_gt 25 38, dm_no, dm_no, dm_ild 26 3, dm_if_ne 29 36, dm_no, dm_no, dm_ald 30 0, dm_inv 33 59 0 5, dm_no],
  [dm_no, dm_goto 37, dm_no, dm_no, dm_push 37 (.int (-1)), dm_ret .int, dm_ild 39 3, dm_push 40 (.int 1), dm_ic_ne 43 47, dm_no, dm_no, dm_push 44 (.int 0), dm_goto 54, dm_no, dm_no, dm_ald 48 0],
  [dm_ild 49 1, dm_push 50 (.int 1), dm_ii 51 (fun x y => x + y), dm_ins 54 62 2, dm_no, dm_no, dm_ist 56 4, dm_no, dm_ild 57 3, dm_push 58 (.int 2), dm_ic_ne 61 65, dm_no, dm_no, dm_push 62 (.int 0), dm_goto 72, dm_no],
  [dm_no, dm_ald 66 0, dm_ild 67 1, dm_push 68 (.int 1), dm_ii 69 (fun x y => x + y), dm_ins 72 62 2, dm_no, dm_no, dm_ist 74 5, dm_no, dm_ild 75 3, dm_push 76 (.int 1), dm_ic_eq 79 84, dm_no, dm_no, dm_ild 81 4],
  [dm_no, dm_if_eq 84 88, dm_no, dm_no, dm_push 85 (.int 1), dm_goto 89, dm_no, dm_no, dm_push 89 (.int 0), dm_ist 91 6, dm_no, dm_ild 92 3, dm_push 93 (.int 2), dm_ic_eq 96 101, dm_no, dm_no],
  [dm_ild 98 5, dm_no, dm_if_eq 101 105, dm_no, dm_no, dm_push 102 (.int 1), dm_goto 106, dm_no, dm_no, dm_push 106 (.int 0), dm_ist 108 7, dm_no, dm_ild 110 6, dm_no, dm_if_eq 113 130, dm_no],
  [dm_no, dm_ild 115 7, dm_no, dm_if_eq 118 130, dm_no, dm_no, dm_ild 120 4, dm_no, dm_push 121 (.int 1), dm_ic_ne 124 135, dm_no, dm_no, dm_ild 126 5, dm_no, dm_push 127 (.int 1), dm_ic_ne 130 135],
  [dm_no, dm_no, dm_ald 131 0, dm_ild 132 2, dm_inv 135 58 1 5, dm_no, dm_no, dm_ald 136 0, dm_inv 139 57 0 5, dm_no, dm_no, dm_if_eq 142 146, dm_no, dm_no, dm_push 143 (.int (-1)), dm_goto 147],
  [dm_no, dm_no, dm_push 147 (.int 2), dm_ret .int]]
theorem tr_62_0 : dm_AllR (dm_Good dm_tb RX6 cX6_shareFrom 8 (some .int) false none) 0 [dm_ald 1 0, dm_getf 4 5 1, dm_no, dm_no, dm_ist 5 2, dm_ild 6 1, dm_push 8 (.int 60), dm_no, dm_ic_le 11 16, dm_no, dm_no, dm_ald 12 0, dm_ild 13 2, dm_inv 16 58 1 5, dm_no, dm_no] := dr_c (dg_aload_n (k := 0) rfl dX6_shareFrom_0) <| dr_c (dg_getf (T := TX6) (C := RX6) (N := 3) dX6_shareFrom_1 rfl (by decide) iw_X6 wd_226) <| dr_c (dg_no) <| dr_c (dg_no) <| dr_c (dg_istore_n (k := 2) rfl (by decide) dX6_shareFrom_4) <| dr_c (dg_iload_n (k := 1) rfl dX6_shareFrom_5) <| dr_c (dg_bipush (by decide) dX6_shareFrom_6) <| dr_c (dg_no) <| dr_c (dg_ic_le (by decide) dX6_shareFrom_8) <| dr_c (dg_no) <| dr_c (dg_no) <| dr_c (dg_aload_n (k := 0) rfl dX6_shareFrom_11) <| dr_c (dg_iload_n (k := 2) rfl dX6_shareFrom_12) <| dr_c (dg_inv dX6_shareFrom_13 mo_58 rfl rfl wd_742 wd_744 wd_10 pd_58) <| dr_c (dg_no) <| dr_c (dg_no) <| dr_n
theorem tr_62_1 : dm_AllR (dm_Good dm_tb RX6 cX6_shareFrom 8 (some .int) false none) 16 [dm_ald 17 0, dm_inv 20 60 0 5, dm_no, dm_no, dm_ist 21 3, dm_ild 22 3, dm_if_gt 25 38, dm_no, dm_no, dm_ild 26 3, dm_if_ne 29 36, dm_no, dm_no, dm_ald 30 0, dm_inv 33 59 0 5, dm_no] := dr_c (dg_aload_n (k := 0) rfl dX6_shareFrom_16) <| dr_c (dg_inv dX6_shareFrom_17 mo_60 rfl rfl wd_750 wd_752 wd_12 pd_60) <| dr_c (dg_no) <| dr_c (dg_no) <| dr_c (dg_istore_n (k := 3) rfl (by decide) dX6_shareFrom_20) <| dr_c (dg_iload_n (k := 3) rfl dX6_shareFrom_21) <| dr_c (dg_if_gt (by decide) dX6_shareFrom_22) <| dr_c (dg_no) <| dr_c (dg_no) <| dr_c (dg_iload_n (k := 3) rfl dX6_shareFrom_25) <| dr_c (dg_if_ne (by decide) dX6_shareFrom_26) <| dr_c (dg_no) <| dr_c (dg_no) <| dr_c (dg_aload_n (k := 0) rfl dX6_shareFrom_29) <| dr_c (dg_inv dX6_shareFrom_30 mo_59 rfl rfl wd_754 wd_756 wd_13 pd_59) <| dr_c (dg_no) <| dr_n
theorem tr_62_2 : dm_AllR (dm_Good dm_tb RX6 cX6_shareFrom 8 (some .int) false none) 32 [dm_no, dm_goto 37, dm_no, dm_no, dm_push 37 (.int (-1)), dm_ret .int, dm_ild 39 3, dm_push 40 (.int 1), dm_ic_ne 43 47, dm_no, dm_no, dm_push 44 (.int 0), dm_goto 54, dm_no, dm_no, dm_ald 48 0] := dr_c (dg_no) <| dr_c (dg_goto (by decide) dX6_shareFrom_33) <| dr_c (dg_no) <| dr_c (dg_no) <| dr_c (dg_iconst (by decide) dX6_shareFrom_36) <| dr_c (dg_ret dX6_shareFrom_37) <| dr_c (dg_iload_n (k := 3) rfl dX6_shareFrom_38) <| dr_c (dg_iconst (by decide) dX6_shareFrom_39) <| dr_c (dg_ic_ne (by decide) dX6_shareFrom_40) <| dr_c (dg_no) <| dr_c (dg_no) <| dr_c (dg_iconst (by decide) dX6_shareFrom_43) <| dr_c (dg_goto (by decide) dX6_shareFrom_44) <| dr_c (dg_no) <| dr_c (dg_no) <| dr_c (dg_aload_n (k := 0) rfl dX6_shareFrom_47) <| dr_n
theorem tr_62_3 : dm_AllR (dm_Good dm_tb RX6 cX6_shareFrom 8 (some .int) false none) 48 [dm_ild 49 1, dm_push 50 (.int 1), dm_ii 51 (fun x y => x + y), dm_ins 54 62 2, dm_no, dm_no, dm_ist 56 4, dm_no, dm_ild 57 3, dm_push 58 (.int 2), dm_ic_ne 61 65, dm_no, dm_no, dm_push 62 (.int 0), dm_goto 72, dm_no] := dr_c (dg_iload_n (k := 1) rfl dX6_shareFrom_48) <| dr_c (dg_iconst (by decide) dX6_shareFrom_49) <| dr_c (dg_iadd dX6_shareFrom_50) <| dr_c (dg_ins dX6_shareFrom_51 mo_62 wd_739 wd_740 pd_62) <| dr_c (dg_no) <| dr_c (dg_no) <| dr_c (dg_istore (by decide) dX6_shareFrom_54) <| dr_c (dg_no) <| dr_c (dg_iload_n (k := 3) rfl dX6_shareFrom_56) <| dr_c (dg_iconst (by decide) dX6_shareFrom_57) <| dr_c (dg_ic_ne (by decide) dX6_shareFrom_58) <| dr_c (dg_no) <| dr_c (dg_no) <| dr_c (dg_iconst (by decide) dX6_shareFrom_61) <| dr_c (dg_goto (by decide) dX6_shareFrom_62) <| dr_c (dg_no) <| dr_n
theorem tr_62_4 : dm_AllR (dm_Good dm_tb RX6 cX6_shareFrom 8 (some .int) false none) 64 [dm_no, dm_ald 66 0, dm_ild 67 1, dm_push 68 (.int 1), dm_ii 69 (fun x y => x + y), dm_ins 72 62 2, dm_no, dm_no, dm_ist 74 5, dm_no, dm_ild 75 3, dm_push 76 (.int 1), dm_ic_eq 79 84, dm_no, dm_no, dm_ild 81 4] := dr_c (dg_no) <| dr_c (dg_aload_n (k := 0) rfl dX6_shareFrom_65) <| dr_c (dg_iload_n (k := 1) rfl dX6_shareFrom_66) <| dr_c (dg_iconst (by decide) dX6_shareFrom_67) <| dr_c (dg_iadd dX6_shareFrom_68) <| dr_c (dg_ins dX6_shareFrom_69 mo_62 wd_739 wd_740 pd_62) <| dr_c (dg_no) <| dr_c (dg_no) <| dr_c (dg_istore (by decide) dX6_shareFrom_72) <| dr_c (dg_no) <| dr_c (dg_iload_n (k := 3) rfl dX6_shareFrom_74) <| dr_c (dg_iconst (by decide) dX6_shareFrom_75) <| dr_c (dg_ic_eq (by decide) dX6_shareFrom_76) <| dr_c (dg_no) <| dr_c (dg_no) <| dr_c (dg_iload dX6_shareFrom_79) <| dr_n
theorem tr_62_5 : dm_AllR (dm_Good dm_tb RX6 cX6_shareFrom 8 (some .int) false none) 80 [dm_no, dm_if_eq 84 88, dm_no, dm_no, dm_push 85 (.int 1), dm_goto 89, dm_no, dm_no, dm_push 89 (.int 0), dm_ist 91 6, dm_no, dm_ild 92 3, dm_push 93 (.int 2), dm_ic_eq 96 101, dm_no, dm_no] := dr_c (dg_no) <| dr_c (dg_if_eq (by decide) dX6_shareFrom_81) <| dr_c (dg_no) <| dr_c (dg_no) <| dr_c (dg_iconst (by decide) dX6_shareFrom_84) <| dr_c (dg_goto (by decide) dX6_shareFrom_85) <| dr_c (dg_no) <| dr_c (dg_no) <| dr_c (dg_iconst (by decide) dX6_shareFrom_88) <| dr_c (dg_istore (by decide) dX6_shareFrom_89) <| dr_c (dg_no) <| dr_c (dg_iload_n (k := 3) rfl dX6_shareFrom_91) <| dr_c (dg_iconst (by decide) dX6_shareFrom_92) <| dr_c (dg_ic_eq (by decide) dX6_shareFrom_93) <| dr_c (dg_no) <| dr_c (dg_no) <| dr_n
theorem tr_62_6 : dm_AllR (dm_Good dm_tb RX6 cX6_shareFrom 8 (some .int) false none) 96 [dm_ild 98 5, dm_no, dm_if_eq 101 105, dm_no, dm_no, dm_push 102 (.int 1), dm_goto 106, dm_no, dm_no, dm_push 106 (.int 0), dm_ist 108 7, dm_no, dm_ild 110 6, dm_no, dm_if_eq 113 130, dm_no] := dr_c (dg_iload dX6_shareFrom_96) <| dr_c (dg_no) <| dr_c (dg_if_eq (by decide) dX6_shareFrom_98) <| dr_c (dg_no) <| dr_c (dg_no) <| dr_c (dg_iconst (by decide) dX6_shareFrom_101) <| dr_c (dg_goto (by decide) dX6_shareFrom_102) <| dr_c (dg_no) <| dr_c (dg_no) <| dr_c (dg_iconst (by decide) dX6_shareFrom_105) <| dr_c (dg_istore (by decide) dX6_shareFrom_106) <| dr_c (dg_no) <| dr_c (dg_iload dX6_shareFrom_108) <| dr_c (dg_no) <| dr_c (dg_if_eq (by decide) dX6_shareFrom_110) <| dr_c (dg_no) <| dr_n
theorem tr_62_7 : dm_AllR (dm_Good dm_tb RX6 cX6_shareFrom 8 (some .int) false none) 112 [dm_no, dm_ild 115 7, dm_no, dm_if_eq 118 130, dm_no, dm_no, dm_ild 120 4, dm_no, dm_push 121 (.int 1), dm_ic_ne 124 135, dm_no, dm_no, dm_ild 126 5, dm_no, dm_push 127 (.int 1), dm_ic_ne 130 135] := dr_c (dg_no) <| dr_c (dg_iload dX6_shareFrom_113) <| dr_c (dg_no) <| dr_c (dg_if_eq (by decide) dX6_shareFrom_115) <| dr_c (dg_no) <| dr_c (dg_no) <| dr_c (dg_iload dX6_shareFrom_118) <| dr_c (dg_no) <| dr_c (dg_iconst (by decide) dX6_shareFrom_120) <| dr_c (dg_ic_ne (by decide) dX6_shareFrom_121) <| dr_c (dg_no) <| dr_c (dg_no) <| dr_c (dg_iload dX6_shareFrom_124) <| dr_c (dg_no) <| dr_c (dg_iconst (by decide) dX6_shareFrom_126) <| dr_c (dg_ic_ne (by decide) dX6_shareFrom_127) <| dr_n
theorem tr_62_8 : dm_AllR (dm_Good dm_tb RX6 cX6_shareFrom 8 (some .int) false none) 128 [dm_no, dm_no, dm_ald 131 0, dm_ild 132 2, dm_inv 135 58 1 5, dm_no, dm_no, dm_ald 136 0, dm_inv 139 57 0 5, dm_no, dm_no, dm_if_eq 142 146, dm_no, dm_no, dm_push 143 (.int (-1)), dm_goto 147] := dr_c (dg_no) <| dr_c (dg_no) <| dr_c (dg_aload_n (k := 0) rfl dX6_shareFrom_130) <| dr_c (dg_iload_n (k := 2) rfl dX6_shareFrom_131) <| dr_c (dg_inv dX6_shareFrom_132 mo_58 rfl rfl wd_742 wd_744 wd_10 pd_58) <| dr_c (dg_no) <| dr_c (dg_no) <| dr_c (dg_aload_n (k := 0) rfl dX6_shareFrom_135) <| dr_c (dg_inv dX6_shareFrom_136 mo_57 rfl rfl wd_746 wd_748 wd_11 pd_57) <| dr_c (dg_no) <| dr_c (dg_no) <| dr_c (dg_if_eq (by decide) dX6_shareFrom_139) <| dr_c (dg_no) <| dr_c (dg_no) <| dr_c (dg_iconst (by decide) dX6_shareFrom_142) <| dr_c (dg_goto (by decide) dX6_shareFrom_143) <| dr_n
theorem tr_62_9 : dm_AllR (dm_Good dm_tb RX6 cX6_shareFrom 8 (some .int) false none) 144 [dm_no, dm_no, dm_push 147 (.int 2), dm_ret .int] := dr_c (dg_no) <| dr_c (dg_no) <| dr_c (dg_iconst (by decide) dX6_shareFrom_146) <| dr_c (dg_ret dX6_shareFrom_147) <| dr_n
theorem tk_62 : dm_AllC (dm_Good dm_tb RX6 cX6_shareFrom 8 (some .int) false none) 0 cd_62 := dc_c (by decide) tr_62_0 <| dc_c (by decide) tr_62_1 <| dc_c (by decide) tr_62_2 <| dc_c (by decide) tr_62_3 <| dc_c (by decide) tr_62_4 <| dc_c (by decide) tr_62_5 <| dc_c (by decide) tr_62_6 <| dc_c (by decide) tr_62_7 <| dc_c (by decide) tr_62_8 <| dc_c (by decide) tr_62_9 <| dc_n
theorem dX6_heightFrom_0 : decode cX6_heightFrom 0 = .ok (.aload_n 0, 1) := by decide +kernel
theorem dX6_heightFrom_1 : decode cX6_heightFrom 1 = .ok (.getfield 15, 3) := by decide +kernel
theorem dX6_heightFrom_4 : decode cX6_heightFrom 4 = .ok (.istore_n 3, 1) := by decide +kernel
theorem dX6_heightFrom_5 : decode cX6_heightFrom 5 = .ok (.iload_n 2, 1) := by decide +kernel
theorem dX6_heightFrom_6 : decode cX6_heightFrom 6 = .ok (.bipush 60, 2) := by decide +kernel
theorem dX6_heightFrom_8 : decode cX6_heightFrom 8 = .ok (.if_icmp .le 8, 3) := by decide +kernel
theorem dX6_heightFrom_11 : decode cX6_heightFrom 11 = .ok (.aload_n 0, 1) := by decide +kernel
theorem dX6_heightFrom_12 : decode cX6_heightFrom 12 = .ok (.iload_n 3, 1) := by decide +kernel
theorem dX6_heightFrom_13 : decode cX6_heightFrom 13 = .ok (.invokevirtual 41, 3) := by decide +kernel
theorem dX6_heightFrom_16 : decode cX6_heightFrom 16 = .ok (.aload_n 0, 1) := by decide +kernel
theorem dX6_heightFrom_17 : decode cX6_heightFrom 17 = .ok (.invokevirtual 53, 3) := by decide +kernel
theorem dX6_heightFrom_20 : decode cX6_heightFrom 20 = .ok (.istore 4, 2) := by decide +kernel
theorem dX6_heightFrom_22 : decode cX6_heightFrom 22 = .ok (.iload 4, 2) := by decide +kernel
theorem dX6_heightFrom_24 : decode cX6_heightFrom 24 = .ok (.ifCond .eq 13, 3) := by decide +kernel
theorem dX6_heightFrom_27 : decode cX6_heightFrom 27 = .ok (.aload_n 1, 1) := by decide +kernel
theorem dX6_heightFrom_28 : decode cX6_heightFrom 28 = .ok (.aload_n 0, 1) := by decide +kernel
theorem dX6_heightFrom_29 : decode cX6_heightFrom 29 = .ok (.invokevirtual 59, 3) := by decide +kernel
theorem dX6_heightFrom_32 : decode cX6_heightFrom 32 = .ok (.invokevirtual 62, 3) := by decide +kernel
theorem dX6_heightFrom_35 : decode cX6_heightFrom 35 = .ok (.pop, 1) := by decide +kernel
theorem dX6_heightFrom_36 : decode cX6_heightFrom 36 = .ok (.return_, 1) := by decide +kernel
theorem dX6_heightFrom_37 : decode cX6_heightFrom 37 = .ok (.aload_n 0, 1) := by decide +kernel
theorem dX6_heightFrom_38 : decode cX6_heightFrom 38 = .ok (.invokevirtual 53, 3) := by decide +kernel
theorem dX6_heightFrom_41 : decode cX6_heightFrom 41 = .ok (.iconst 1, 1) := by decide +kernel
theorem dX6_heightFrom_42 : decode cX6_heightFrom 42 = .ok (.if_icmp .ne 7, 3) := by decide +kernel
theorem dX6_heightFrom_45 : decode cX6_heightFrom 45 = .ok (.iconst 1, 1) := by decide +kernel
theorem dX6_heightFrom_46 : decode cX6_heightFrom 46 = .ok (.goto 4, 3) := by decide +kernel
theorem dX6_heightFrom_49 : decode cX6_heightFrom 49 = .ok (.iconst 0, 1) := by decide +kernel
theorem dX6_heightFrom_50 : decode cX6_heightFrom 50 = .ok (.istore 5, 2) := by decide +kernel
theorem dX6_heightFrom_52 : decode cX6_heightFrom 52 = .ok (.iload 5, 2) := by decide +kernel
theorem dX6_heightFrom_54 : decode cX6_heightFrom 54 = .ok (.ifCond .eq 10, 3) := by decide +kernel
theorem dX6_heightFrom_57 : decode cX6_heightFrom 57 = .ok (.aload_n 0, 1) := by decide +kernel
theorem dX6_heightFrom_58 : decode cX6_heightFrom 58 = .ok (.invokevirtual 59, 3) := by decide +kernel
theorem dX6_heightFrom_61 : decode cX6_heightFrom 61 = .ok (.goto 4, 3) := by decide +kernel
theorem dX6_heightFrom_64 : decode cX6_heightFrom 64 = .ok (.iconst 0, 1) := by decide +kernel
theorem dX6_heightFrom_65 : decode cX6_heightFrom 65 = .ok (.istore 6, 2) := by decide +kernel
theorem dX6_heightFrom_67 : decode cX6_heightFrom 67 = .ok (.aload_n 0, 1) := by decide +kernel
theorem dX6_heightFrom_68 : decode cX6_heightFrom 68 = .ok (.invokevirtual 56, 3) := by decide +kernel
theorem dX6_heightFrom_71 : decode cX6_heightFrom 71 = .ok (.istore 7, 2) := by decide +kernel
theorem dX6_heightFrom_73 : decode cX6_heightFrom 73 = .ok (.iload 7, 2) := by decide +kernel
theorem dX6_heightFrom_75 : decode cX6_heightFrom 75 = .ok (.iconst 3, 1) := by decide +kernel
theorem dX6_heightFrom_76 : decode cX6_heightFrom 76 = .ok (.if_icmp .ne 13, 3) := by decide +kernel
theorem dX6_heightFrom_79 : decode cX6_heightFrom 79 = .ok (.aload_n 0, 1) := by decide +kernel
theorem dX6_heightFrom_80 : decode cX6_heightFrom 80 = .ok (.aload_n 0, 1) := by decide +kernel
theorem dX6_heightFrom_81 : decode cX6_heightFrom 81 = .ok (.getfield 15, 3) := by decide +kernel
theorem dX6_heightFrom_84 : decode cX6_heightFrom 84 = .ok (.iconst 1, 1) := by decide +kernel
theorem dX6_heightFrom_85 : decode cX6_heightFrom 85 = .ok (.isub, 1) := by decide +kernel
theorem dX6_heightFrom_86 : decode cX6_heightFrom 86 = .ok (.invokevirtual 41, 3) := by decide +kernel
theorem dX6_heightFrom_89 : decode cX6_heightFrom 89 = .ok (.aload_n 0, 1) := by decide +kernel
theorem dX6_heightFrom_90 : decode cX6_heightFrom 90 = .ok (.invokevirtual 45, 3) := by decide +kernel
theorem dX6_heightFrom_93 : decode cX6_heightFrom 93 = .ok (.ifCond .eq 4, 3) := by decide +kernel
theorem dX6_heightFrom_96 : decode cX6_heightFrom 96 = .ok (.return_, 1) := by decide +kernel
theorem dX6_heightFrom_97 : decode cX6_heightFrom 97 = .ok (.aload_n 1, 1) := by decide +kernel
theorem dX6_heightFrom_98 : decode cX6_heightFrom 98 = .ok (.iload 6, 2) := by decide +kernel
theorem dX6_heightFrom_100 : decode cX6_heightFrom 100 = .ok (.invokevirtual 62, 3) := by decide +kernel
theorem dX6_heightFrom_103 : decode cX6_heightFrom 103 = .ok (.istore 8, 2) := by decide +kernel
theorem dX6_heightFrom_105 : decode cX6_heightFrom 105 = .ok (.iload 7, 2) := by decide +kernel
theorem dX6_heightFrom_107 : decode cX6_heightFrom 107 = .ok (.iconst 1, 1) := by decide +kernel
theorem dX6_heightFrom_108 : decode cX6_heightFrom 108 = .ok (.if_icmp .ne 12, 3) := by decide +kernel
theorem dX6_heightFrom_111 : decode cX6_heightFrom 111 = .ok (.aload_n 1, 1) := by decide +kernel
theorem dX6_heightFrom_112 : decode cX6_heightFrom 112 = .ok (.iconst 0, 1) := by decide +kernel
theorem dX6_heightFrom_113 : decode cX6_heightFrom 113 = .ok (.invokevirtual 62, 3) := by decide +kernel
theorem dX6_heightFrom_116 : decode cX6_heightFrom 116 = .ok (.pop, 1) := by decide +kernel
theorem dX6_heightFrom_117 : decode cX6_heightFrom 117 = .ok (.goto 11, 3) := by decide +kernel
theorem dX6_heightFrom_120 : decode cX6_heightFrom 120 = .ok (.aload_n 0, 1) := by decide +kernel
theorem dX6_heightFrom_121 : decode cX6_heightFrom 121 = .ok (.aload_n 1, 1) := by decide +kernel
theorem dX6_heightFrom_122 : decode cX6_heightFrom 122 = .ok (.iload_n 2, 1) := by decide +kernel
theorem dX6_heightFrom_123 : decode cX6_heightFrom 123 = .ok (.iconst 1, 1) := by decide +kernel
theorem dX6_heightFrom_124 : decode cX6_heightFrom 124 = .ok (.iadd, 1) := by decide +kernel
theorem dX6_heightFrom_125 : decode cX6_heightFrom 125 = .ok (.invokestatic 32, 3) := by decide +kernel
theorem dX6_heightFrom_128 : decode cX6_heightFrom 128 = .ok (.aload_n 1, 1) := by decide +kernel
theorem dX6_heightFrom_129 : decode cX6_heightFrom 129 = .ok (.iload 8, 2) := by decide +kernel
theorem dX6_heightFrom_131 : decode cX6_heightFrom 131 = .ok (.invokevirtual 65, 3) := by decide +kernel
theorem dX6_heightFrom_134 : decode cX6_heightFrom 134 = .ok (.iload 7, 2) := by decide +kernel
theorem dX6_heightFrom_136 : decode cX6_heightFrom 136 = .ok (.iconst 2, 1) := by decide +kernel
theorem dX6_heightFrom_137 : decode cX6_heightFrom 137 = .ok (.if_icmp .ne 12, 3) := by decide +kernel
theorem dX6_heightFrom_140 : decode cX6_heightFrom 140 = .ok (.aload_n 1, 1) := by decide +kernel
theorem dX6_heightFrom_141 : decode cX6_heightFrom 141 = .ok (.iconst 0, 1) := by decide +kernel
theorem dX6_heightFrom_142 : decode cX6_heightFrom 142 = .ok (.invokevirtual 62, 3) := by decide +kernel
theorem dX6_heightFrom_145 : decode cX6_heightFrom 145 = .ok (.pop, 1) := by decide +kernel
theorem dX6_heightFrom_146 : decode cX6_heightFrom 146 = .ok (.goto 11, 3) := by decide +kernel
theorem dX6_heightFrom_149 : decode cX6_heightFrom 149 = .ok (.aload_n 0, 1) := by decide +kernel
theorem dX6_heightFrom_150 : decode cX6_heightFrom 150 = .ok (.aload_n 1, 1) := by decide +kernel
theorem dX6_heightFrom_151 : decode cX6_heightFrom 151 = .ok (.iload_n 2, 1) := by decide +kernel
theorem dX6_heightFrom_152 : decode cX6_heightFrom 152 = .ok (.iconst 1, 1) := by decide +kernel
theorem dX6_heightFrom_153 : decode cX6_heightFrom 153 = .ok (.iadd, 1) := by decide +kernel
theorem dX6_heightFrom_154 : decode cX6_heightFrom 154 = .ok (.invokestatic 32, 3) := by decide +kernel
theorem dX6_heightFrom_157 : decode cX6_heightFrom 157 = .ok (.iload 5, 2) := by decide +kernel
theorem dX6_heightFrom_159 : decode cX6_heightFrom 159 = .ok (.ifCond .eq 8, 3) := by decide +kernel
theorem dX6_heightFrom_162 : decode cX6_heightFrom 162 = .ok (.iload 6, 2) := by decide +kernel
theorem dX6_heightFrom_164 : decode cX6_heightFrom 164 = .ok (.ifCond .eq 14, 3) := by decide +kernel
theorem dX6_heightFrom_167 : decode cX6_heightFrom 167 = .ok (.aload_n 1, 1) := by decide +kernel
theorem dX6_heightFrom_168 : decode cX6_heightFrom 168 = .ok (.iload 8, 2) := by decide +kernel
theorem dX6_heightFrom_170 : decode cX6_heightFrom 170 = .ok (.iload 7, 2) := by decide +kernel
theorem dX6_heightFrom_172 : decode cX6_heightFrom 172 = .ok (.invokestatic 68, 3) := by decide +kernel
theorem dX6_heightFrom_175 : decode cX6_heightFrom 175 = .ok (.ifCond .ne 8, 3) := by decide +kernel
theorem dX6_heightFrom_178 : decode cX6_heightFrom 178 = .ok (.aload_n 0, 1) := by decide +kernel
theorem dX6_heightFrom_179 : decode cX6_heightFrom 179 = .ok (.iload_n 3, 1) := by decide +kernel
theorem dX6_heightFrom_180 : decode cX6_heightFrom 180 = .ok (.invokevirtual 41, 3) := by decide +kernel
theorem dX6_heightFrom_183 : decode cX6_heightFrom 183 = .ok (.return_, 1) := by decide +kernel
def cd_63 : dm_Code := [[dm_ald 1 0, dm_getf 4 5 1, dm_no, dm_no, dm_ist 5 3, dm_ild 6 2, dm_push 8 (.int 60), dm_no, dm_ic_le 11 16, dm_no, dm_no, dm_ald 12 0, dm_ild 13 3, dm_inv 16 58 1 5, dm_no, dm_no],
  [dm_ald 17 0, dm_inv 20 59 0 5, dm_no, dm_no, dm_ist 22 4, dm_no, dm_ild 24 4, dm_no, dm_if_eq 27 37, dm_no, dm_no, dm_ald 28 1, dm_ald 29 0, dm_inv 32 61 0 5, dm_no, dm_no],
  [dm_inv 35 81 1 6, dm_no, dm_no, dm_pop 36, dm_vret, dm_ald 38 0, dm_inv 41 59 0 5, dm_no, dm_no, dm_push 42 (.int 1), dm_ic_ne 45 49, dm_no, dm_no, dm_push 46 (.int 1), dm_goto 50, dm_no],
  [dm_no, dm_push 50 (.int 0), dm_ist 52 5, dm_no, dm_ild 54 5, dm_no, dm_if_eq 57 64, dm_no, dm_no, dm_ald 58 0, dm_inv 61 61 0 5, dm_no, dm_no, dm_goto 65, dm_no, dm_no],
  [dm_push 65 (.int 0), dm_ist 67 6, dm_no, dm_ald 68 0, dm_inv 71 60 0 5, dm_no, dm_no, dm_ist 73 7, dm_no, dm_ild 75 7, dm_no, dm_push 76 (.int 3), dm_ic_ne 79 89, dm_no, dm_no, dm_ald 80 0],
  [dm_ald 81 0, dm_getf 84 5 1, dm_no, dm_no, dm_push 85 (.int 1), dm_ii 86 (fun x y => x - y), dm_inv 89 58 1 5, dm_no, dm_no, dm_ald 90 0, dm_inv 93 57 0 5, dm_no, dm_no, dm_if_eq 96 97, dm_no, dm_no],
  [dm_vret, dm_ald 98 1, dm_ild 100 6, dm_no, dm_inv 103 81 1 6, dm_no, dm_no, dm_ist 105 8, dm_no, dm_ild 107 7, dm_no, dm_push 108 (.int 1), dm_ic_ne 111 120, dm_no, dm_no, dm_ald 112 1],
  [dm_push 113 (.int 0), dm_inv 116 81 1 6, dm_no, dm_no, dm_pop 117, dm_goto 128, dm_no, dm_no, dm_ald 121 0, dm_ald 122 1, dm_ild 123 2, dm_push 124 (.int 1), dm_ii 125 (fun x y => x + y), dm_ins 128 63 3, dm_no, dm_no],
  [dm_ald 129 1, dm_ild 131 8, dm_no, dm_inv 134 82 1 6, dm_no, dm_no, dm_ild 136 7, dm_no, dm_push 137 (.int 2), dm_ic_ne 140 149, dm_no, dm_no, dm_ald 141 1, dm_push 142 (.int 0), dm_inv 145 81 1 6, dm_no],
  [dm_no, dm_pop 146, dm_goto 157, dm_no, dm_no, dm_ald 150 0, dm_ald 151 1, dm_ild 152 2, dm_push 153 (.int 1), dm_ii 154 (fun x y => x + y), dm_ins 157 63 3, dm_no, dm_no, dm_ild 159 5, dm_no, dm_if_eq 162 167],
  [dm_no, dm_no, dm_ild 164 6, dm_no, dm_if_eq 167 178, dm_no, dm_no, dm_ald 168 1, dm_ild 170 8, dm_no, dm_ild 172 7, dm_no, dm_ins 175 64 3, dm_no, dm_no, dm_if_ne 178 183],
  [dm_no, dm_no, dm_ald 179 0, dm_ild 180 3, dm_inv 183 58 1 5, dm_no, dm_no, dm_vret]]
theorem tr_63_0 : dm_AllR (dm_Good dm_tb RX6 cX6_heightFrom 9 none false none) 0 [dm_ald 1 0, dm_getf 4 5 1, dm_no, dm_no, dm_ist 5 3, dm_ild 6 2, dm_push 8 (.int 60), dm_no, dm_ic_le 11 16, dm_no, dm_no, dm_ald 12 0, dm_ild 13 3, dm_inv 16 58 1 5, dm_no, dm_no] := dr_c (dg_aload_n (k := 0) rfl dX6_heightFrom_0) <| dr_c (dg_getf (T := TX6) (C := RX6) (N := 3) dX6_heightFrom_1 rfl (by decide) iw_X6 wd_226) <| dr_c (dg_no) <| dr_c (dg_no) <| dr_c (dg_istore_n (k := 3) rfl (by decide) dX6_heightFrom_4) <| dr_c (dg_iload_n (k := 2) rfl dX6_heightFrom_5) <| dr_c (dg_bipush (by decide) dX6_heightFrom_6) <| dr_c (dg_no) <| dr_c (dg_ic_le (by decide) dX6_heightFrom_8) <| dr_c (dg_no) <| dr_c (dg_no) <| dr_c (dg_aload_n (k := 0) rfl dX6_heightFrom_11) <| dr_c (dg_iload_n (k := 3) rfl dX6_heightFrom_12) <| dr_c (dg_inv dX6_heightFrom_13 mo_58 rfl rfl wd_742 wd_744 wd_10 pd_58) <| dr_c (dg_no) <| dr_c (dg_no) <| dr_n
theorem tr_63_1 : dm_AllR (dm_Good dm_tb RX6 cX6_heightFrom 9 none false none) 16 [dm_ald 17 0, dm_inv 20 59 0 5, dm_no, dm_no, dm_ist 22 4, dm_no, dm_ild 24 4, dm_no, dm_if_eq 27 37, dm_no, dm_no, dm_ald 28 1, dm_ald 29 0, dm_inv 32 61 0 5, dm_no, dm_no] := dr_c (dg_aload_n (k := 0) rfl dX6_heightFrom_16) <| dr_c (dg_inv dX6_heightFrom_17 mo_59 rfl rfl wd_754 wd_756 wd_13 pd_59) <| dr_c (dg_no) <| dr_c (dg_no) <| dr_c (dg_istore (by decide) dX6_heightFrom_20) <| dr_c (dg_no) <| dr_c (dg_iload dX6_heightFrom_22) <| dr_c (dg_no) <| dr_c (dg_if_eq (by decide) dX6_heightFrom_24) <| dr_c (dg_no) <| dr_c (dg_no) <| dr_c (dg_aload_n (k := 1) rfl dX6_heightFrom_27) <| dr_c (dg_aload_n (k := 0) rfl dX6_heightFrom_28) <| dr_c (dg_inv dX6_heightFrom_29 mo_61 rfl rfl wd_763 wd_765 wd_14 pd_61) <| dr_c (dg_no) <| dr_c (dg_no) <| dr_n
theorem tr_63_2 : dm_AllR (dm_Good dm_tb RX6 cX6_heightFrom 9 none false none) 32 [dm_inv 35 81 1 6, dm_no, dm_no, dm_pop 36, dm_vret, dm_ald 38 0, dm_inv 41 59 0 5, dm_no, dm_no, dm_push 42 (.int 1), dm_ic_ne 45 49, dm_no, dm_no, dm_push 46 (.int 1), dm_goto 50, dm_no] := dr_c (dg_inv dX6_heightFrom_32 mo_81 rfl rfl wd_767 wd_248 wd_249 pd_81) <| dr_c (dg_no) <| dr_c (dg_no) <| dr_c (dg_pop dX6_heightFrom_35) <| dr_c (dg_vret dX6_heightFrom_36) <| dr_c (dg_aload_n (k := 0) rfl dX6_heightFrom_37) <| dr_c (dg_inv dX6_heightFrom_38 mo_59 rfl rfl wd_754 wd_756 wd_13 pd_59) <| dr_c (dg_no) <| dr_c (dg_no) <| dr_c (dg_iconst (by decide) dX6_heightFrom_41) <| dr_c (dg_ic_ne (by decide) dX6_heightFrom_42) <| dr_c (dg_no) <| dr_c (dg_no) <| dr_c (dg_iconst (by decide) dX6_heightFrom_45) <| dr_c (dg_goto (by decide) dX6_heightFrom_46) <| dr_c (dg_no) <| dr_n
theorem tr_63_3 : dm_AllR (dm_Good dm_tb RX6 cX6_heightFrom 9 none false none) 48 [dm_no, dm_push 50 (.int 0), dm_ist 52 5, dm_no, dm_ild 54 5, dm_no, dm_if_eq 57 64, dm_no, dm_no, dm_ald 58 0, dm_inv 61 61 0 5, dm_no, dm_no, dm_goto 65, dm_no, dm_no] := dr_c (dg_no) <| dr_c (dg_iconst (by decide) dX6_heightFrom_49) <| dr_c (dg_istore (by decide) dX6_heightFrom_50) <| dr_c (dg_no) <| dr_c (dg_iload dX6_heightFrom_52) <| dr_c (dg_no) <| dr_c (dg_if_eq (by decide) dX6_heightFrom_54) <| dr_c (dg_no) <| dr_c (dg_no) <| dr_c (dg_aload_n (k := 0) rfl dX6_heightFrom_57) <| dr_c (dg_inv dX6_heightFrom_58 mo_61 rfl rfl wd_763 wd_765 wd_14 pd_61) <| dr_c (dg_no) <| dr_c (dg_no) <| dr_c (dg_goto (by decide) dX6_heightFrom_61) <| dr_c (dg_no) <| dr_c (dg_no) <| dr_n
theorem tr_63_4 : dm_AllR (dm_Good dm_tb RX6 cX6_heightFrom 9 none false none) 64 [dm_push 65 (.int 0), dm_ist 67 6, dm_no, dm_ald 68 0, dm_inv 71 60 0 5, dm_no, dm_no, dm_ist 73 7, dm_no, dm_ild 75 7, dm_no, dm_push 76 (.int 3), dm_ic_ne 79 89, dm_no, dm_no, dm_ald 80 0] := dr_c (dg_iconst (by decide) dX6_heightFrom_64) <| dr_c (dg_istore (by decide) dX6_heightFrom_65) <| dr_c (dg_no) <| dr_c (dg_aload_n (k := 0) rfl dX6_heightFrom_67) <| dr_c (dg_inv dX6_heightFrom_68 mo_60 rfl rfl wd_750 wd_752 wd_12 pd_60) <| dr_c (dg_no) <| dr_c (dg_no) <| dr_c (dg_istore (by decide) dX6_heightFrom_71) <| dr_c (dg_no) <| dr_c (dg_iload dX6_heightFrom_73) <| dr_c (dg_no) <| dr_c (dg_iconst (by decide) dX6_heightFrom_75) <| dr_c (dg_ic_ne (by decide) dX6_heightFrom_76) <| dr_c (dg_no) <| dr_c (dg_no) <| dr_c (dg_aload_n (k := 0) rfl dX6_heightFrom_79) <| dr_n
theorem tr_63_5 : dm_AllR (dm_Good dm_tb RX6 cX6_heightFrom 9 none false none) 80 [dm_ald 81 0, dm_getf 84 5 1, dm_no, dm_no, dm_push 85 (.int 1), dm_ii 86 (fun x y => x - y), dm_inv 89 58 1 5, dm_no, dm_no, dm_ald 90 0, dm_inv 93 57 0 5, dm_no, dm_no, dm_if_eq 96 97, dm_no, dm_no] := dr_c (dg_aload_n (k := 0) rfl dX6_heightFrom_80) <| dr_c (dg_getf (T := TX6) (C := RX6) (N := 3) dX6_heightFrom_81 rfl (by decide) iw_X6 wd_226) <| dr_c (dg_no) <| dr_c (dg_no) <| dr_c (dg_iconst (by decide) dX6_heightFrom_84) <| dr_c (dg_isub dX6_heightFrom_85) <| dr_c (dg_inv dX6_heightFrom_86 mo_58 rfl rfl wd_742 wd_744 wd_10 pd_58) <| dr_c (dg_no) <| dr_c (dg_no) <| dr_c (dg_aload_n (k := 0) rfl dX6_heightFrom_89) <| dr_c (dg_inv dX6_heightFrom_90 mo_57 rfl rfl wd_746 wd_748 wd_11 pd_57) <| dr_c (dg_no) <| dr_c (dg_no) <| dr_c (dg_if_eq (by decide) dX6_heightFrom_93) <| dr_c (dg_no) <| dr_c (dg_no) <| dr_n
theorem tr_63_6 : dm_AllR (dm_Good dm_tb RX6 cX6_heightFrom 9 none false none) 96 [dm_vret, dm_ald 98 1, dm_ild 100 6, dm_no, dm_inv 103 81 1 6, dm_no, dm_no, dm_ist 105 8, dm_no, dm_ild 107 7, dm_no, dm_push 108 (.int 1), dm_ic_ne 111 120, dm_no, dm_no, dm_ald 112 1] := dr_c (dg_vret dX6_heightFrom_96) <| dr_c (dg_aload_n (k := 1) rfl dX6_heightFrom_97) <| dr_c (dg_iload dX6_heightFrom_98) <| dr_c (dg_no) <| dr_c (dg_inv dX6_heightFrom_100 mo_81 rfl rfl wd_767 wd_248 wd_249 pd_81) <| dr_c (dg_no) <| dr_c (dg_no) <| dr_c (dg_istore (by decide) dX6_heightFrom_103) <| dr_c (dg_no) <| dr_c (dg_iload dX6_heightFrom_105) <| dr_c (dg_no) <| dr_c (dg_iconst (by decide) dX6_heightFrom_107) <| dr_c (dg_ic_ne (by decide) dX6_heightFrom_108) <| dr_c (dg_no) <| dr_c (dg_no) <| dr_c (dg_aload_n (k := 1) rfl dX6_heightFrom_111) <| dr_n
theorem tr_63_7 : dm_AllR (dm_Good dm_tb RX6 cX6_heightFrom 9 none false none) 112 [dm_push 113 (.int 0), dm_inv 116 81 1 6, dm_no, dm_no, dm_pop 117, dm_goto 128, dm_no, dm_no, dm_ald 121 0, dm_ald 122 1, dm_ild 123 2, dm_push 124 (.int 1), dm_ii 125 (fun x y => x + y), dm_ins 128 63 3, dm_no, dm_no] := dr_c (dg_iconst (by decide) dX6_heightFrom_112) <| dr_c (dg_inv dX6_heightFrom_113 mo_81 rfl rfl wd_767 wd_248 wd_249 pd_81) <| dr_c (dg_no) <| dr_c (dg_no) <| dr_c (dg_pop dX6_heightFrom_116) <| dr_c (dg_goto (by decide) dX6_heightFrom_117) <| dr_c (dg_no) <| dr_c (dg_no) <| dr_c (dg_aload_n (k := 0) rfl dX6_heightFrom_120) <| dr_c (dg_aload_n (k := 1) rfl dX6_heightFrom_121) <| dr_c (dg_iload_n (k := 2) rfl dX6_heightFrom_122) <| dr_c (dg_iconst (by decide) dX6_heightFrom_123) <| dr_c (dg_iadd dX6_heightFrom_124) <| dr_c (dg_ins dX6_heightFrom_125 mo_63 wd_760 wd_761 pd_63) <| dr_c (dg_no) <| dr_c (dg_no) <| dr_n
theorem tr_63_8 : dm_AllR (dm_Good dm_tb RX6 cX6_heightFrom 9 none false none) 128 [dm_ald 129 1, dm_ild 131 8, dm_no, dm_inv 134 82 1 6, dm_no, dm_no, dm_ild 136 7, dm_no, dm_push 137 (.int 2), dm_ic_ne 140 149, dm_no, dm_no, dm_ald 141 1, dm_push 142 (.int 0), dm_inv 145 81 1 6, dm_no] := dr_c (dg_aload_n (k := 1) rfl dX6_heightFrom_128) <| dr_c (dg_iload dX6_heightFrom_129) <| dr_c (dg_no) <| dr_c (dg_inv dX6_heightFrom_131 mo_82 rfl rfl wd_768 wd_418 wd_419 pd_82) <| dr_c (dg_no) <| dr_c (dg_no) <| dr_c (dg_iload dX6_heightFrom_134) <| dr_c (dg_no) <| dr_c (dg_iconst (by decide) dX6_heightFrom_136) <| dr_c (dg_ic_ne (by decide) dX6_heightFrom_137) <| dr_c (dg_no) <| dr_c (dg_no) <| dr_c (dg_aload_n (k := 1) rfl dX6_heightFrom_140) <| dr_c (dg_iconst (by decide) dX6_heightFrom_141) <| dr_c (dg_inv dX6_heightFrom_142 mo_81 rfl rfl wd_767 wd_248 wd_249 pd_81) <| dr_c (dg_no) <| dr_n
theorem tr_63_9 : dm_AllR (dm_Good dm_tb RX6 cX6_heightFrom 9 none false none) 144 [dm_no, dm_pop 146, dm_goto 157, dm_no, dm_no, dm_ald 150 0, dm_ald 151 1, dm_ild 152 2, dm_push 153 (.int 1), dm_ii 154 (fun x y => x + y), dm_ins 157 63 3, dm_no, dm_no, dm_ild 159 5, dm_no, dm_if_eq 162 167] := dr_c (dg_no) <| dr_c (dg_pop dX6_heightFrom_145) <| dr_c (dg_goto (by decide) dX6_heightFrom_146) <| dr_c (dg_no) <| dr_c (dg_no) <| dr_c (dg_aload_n (k := 0) rfl dX6_heightFrom_149) <| dr_c (dg_aload_n (k := 1) rfl dX6_heightFrom_150) <| dr_c (dg_iload_n (k := 2) rfl dX6_heightFrom_151) <| dr_c (dg_iconst (by decide) dX6_heightFrom_152) <| dr_c (dg_iadd dX6_heightFrom_153) <| dr_c (dg_ins dX6_heightFrom_154 mo_63 wd_760 wd_761 pd_63) <| dr_c (dg_no) <| dr_c (dg_no) <| dr_c (dg_iload dX6_heightFrom_157) <| dr_c (dg_no) <| dr_c (dg_if_eq (by decide) dX6_heightFrom_159) <| dr_n
theorem tr_63_10 : dm_AllR (dm_Good dm_tb RX6 cX6_heightFrom 9 none false none) 160 [dm_no, dm_no, dm_ild 164 6, dm_no, dm_if_eq 167 178, dm_no, dm_no, dm_ald 168 1, dm_ild 170 8, dm_no, dm_ild 172 7, dm_no, dm_ins 175 64 3, dm_no, dm_no, dm_if_ne 178 183] := dr_c (dg_no) <| dr_c (dg_no) <| dr_c (dg_iload dX6_heightFrom_162) <| dr_c (dg_no) <| dr_c (dg_if_eq (by decide) dX6_heightFrom_164) <| dr_c (dg_no) <| dr_c (dg_no) <| dr_c (dg_aload_n (k := 1) rfl dX6_heightFrom_167) <| dr_c (dg_iload dX6_heightFrom_168) <| dr_c (dg_no) <| dr_c (dg_iload dX6_heightFrom_170) <| dr_c (dg_no) <| dr_c (dg_ins dX6_heightFrom_172 mo_64 wd_769 wd_770 pd_64) <| dr_c (dg_no) <| dr_c (dg_no) <| dr_c (dg_if_ne (by decide) dX6_heightFrom_175) <| dr_n
theorem tr_63_11 : dm_AllR (dm_Good dm_tb RX6 cX6_heightFrom 9 none false none) 176 [dm_no, dm_no, dm_ald 179 0, dm_ild 180 3, dm_inv 183 58 1 5, dm_no, dm_no, dm_vret] := dr_c (dg_no) <| dr_c (dg_no) <| dr_c (dg_aload_n (k := 0) rfl dX6_heightFrom_178) <| dr_c (dg_iload_n (k := 3) rfl dX6_heightFrom_179) <| dr_c (dg_inv dX6_heightFrom_180 mo_58 rfl rfl wd_742 wd_744 wd_10 pd_58) <| dr_c (dg_no) <| dr_c (dg_no) <| dr_c (dg_vret dX6_heightFrom_183) <| dr_n
theorem tk_63 : dm_AllC (dm_Good dm_tb RX6 cX6_heightFrom 9 none false none) 0 cd_63 := dc_c (by decide) tr_63_0 <| dc_c (by decide) tr_63_1 <| dc_c (by decide) tr_63_2 <| dc_c (by decide) tr_63_3 <| dc_c (by decide) tr_63_4 <| dc_c (by decide) tr_63_5 <| dc_c (by decide) tr_63_6 <| dc_c (by decide) tr_63_7 <| dc_c (by decide) tr_63_8 <| dc_c (by decide) tr_63_9 <| dc_c (by decide) tr_63_10 <| dc_c (by decide) tr_63_11 <| dc_n
theorem dX6_isWellTold_0 : decode cX6_isWellTold 0 = .ok (.aload_n 0, 1) := by decide +kernel
theorem dX6_isWellTold_1 : decode cX6_isWellTold 1 = .ok (.iload_n 1, 1) := by decide +kernel
theorem dX6_isWellTold_2 : decode cX6_isWellTold 2 = .ok (.invokevirtual 72, 3) := by decide +kernel
theorem dX6_isWellTold_5 : decode cX6_isWellTold 5 = .ok (.istore_n 3, 1) := by decide +kernel
theorem dX6_isWellTold_6 : decode cX6_isWellTold 6 = .ok (.aload_n 0, 1) := by decide +kernel
theorem dX6_isWellTold_7 : decode cX6_isWellTold 7 = .ok (.iload_n 1, 1) := by decide +kernel
theorem dX6_isWellTold_8 : decode cX6_isWellTold 8 = .ok (.invokevirtual 75, 3) := by decide +kernel
theorem dX6_isWellTold_11 : decode cX6_isWellTold 11 = .ok (.istore 4, 2) := by decide +kernel
theorem dX6_isWellTold_13 : decode cX6_isWellTold 13 = .ok (.iload_n 2, 1) := by decide +kernel
theorem dX6_isWellTold_14 : decode cX6_isWellTold 14 = .ok (.iconst 1, 1) := by decide +kernel
theorem dX6_isWellTold_15 : decode cX6_isWellTold 15 = .ok (.if_icmp .eq 12, 3) := by decide +kernel
theorem dX6_isWellTold_18 : decode cX6_isWellTold 18 = .ok (.aload_n 0, 1) := by decide +kernel
theorem dX6_isWellTold_19 : decode cX6_isWellTold 19 = .ok (.iload_n 3, 1) := by decide +kernel
theorem dX6_isWellTold_20 : decode cX6_isWellTold 20 = .ok (.iconst 0, 1) := by decide +kernel
theorem dX6_isWellTold_21 : decode cX6_isWellTold 21 = .ok (.invokevirtual 78, 3) := by decide +kernel
theorem dX6_isWellTold_24 : decode cX6_isWellTold 24 = .ok (.ifCond .ne 7, 3) := by decide +kernel
theorem dX6_isWellTold_27 : decode cX6_isWellTold 27 = .ok (.iconst 1, 1) := by decide +kernel
theorem dX6_isWellTold_28 : decode cX6_isWellTold 28 = .ok (.goto 4, 3) := by decide +kernel
theorem dX6_isWellTold_31 : decode cX6_isWellTold 31 = .ok (.iconst 0, 1) := by decide +kernel
theorem dX6_isWellTold_32 : decode cX6_isWellTold 32 = .ok (.istore 5, 2) := by decide +kernel
theorem dX6_isWellTold_34 : decode cX6_isWellTold 34 = .ok (.iload_n 2, 1) := by decide +kernel
theorem dX6_isWellTold_35 : decode cX6_isWellTold 35 = .ok (.iconst 2, 1) := by decide +kernel
theorem dX6_isWellTold_36 : decode cX6_isWellTold 36 = .ok (.if_icmp .eq 13, 3) := by decide +kernel
theorem dX6_isWellTold_39 : decode cX6_isWellTold 39 = .ok (.aload_n 0, 1) := by decide +kernel
theorem dX6_isWellTold_40 : decode cX6_isWellTold 40 = .ok (.iload 4, 2) := by decide +kernel
theorem dX6_isWellTold_42 : decode cX6_isWellTold 42 = .ok (.iconst 0, 1) := by decide +kernel
theorem dX6_isWellTold_43 : decode cX6_isWellTold 43 = .ok (.invokevirtual 78, 3) := by decide +kernel
theorem dX6_isWellTold_46 : decode cX6_isWellTold 46 = .ok (.ifCond .ne 7, 3) := by decide +kernel
theorem dX6_isWellTold_49 : decode cX6_isWellTold 49 = .ok (.iconst 1, 1) := by decide +kernel
theorem dX6_isWellTold_50 : decode cX6_isWellTold 50 = .ok (.goto 4, 3) := by decide +kernel
theorem dX6_isWellTold_53 : decode cX6_isWellTold 53 = .ok (.iconst 0, 1) := by decide +kernel
theorem dX6_isWellTold_54 : decode cX6_isWellTold 54 = .ok (.istore 6, 2) := by decide +kernel
theorem dX6_isWellTold_56 : decode cX6_isWellTold 56 = .ok (.aload_n 0, 1) := by decide +kernel
theorem dX6_isWellTold_57 : decode cX6_isWellTold 57 = .ok (.iload_n 3, 1) := by decide +kernel
theorem dX6_isWellTold_58 : decode cX6_isWellTold 58 = .ok (.invokevirtual 82, 3) := by decide +kernel
theorem dX6_isWellTold_61 : decode cX6_isWellTold 61 = .ok (.ifCond .eq 12, 3) := by decide +kernel
theorem dX6_isWellTold_64 : decode cX6_isWellTold 64 = .ok (.aload_n 0, 1) := by decide +kernel
theorem dX6_isWellTold_65 : decode cX6_isWellTold 65 = .ok (.iload 4, 2) := by decide +kernel
theorem dX6_isWellTold_67 : decode cX6_isWellTold 67 = .ok (.invokevirtual 82, 3) := by decide +kernel
theorem dX6_isWellTold_70 : decode cX6_isWellTold 70 = .ok (.ifCond .ne 7, 3) := by decide +kernel
theorem dX6_isWellTold_73 : decode cX6_isWellTold 73 = .ok (.iconst 1, 1) := by decide +kernel
theorem dX6_isWellTold_74 : decode cX6_isWellTold 74 = .ok (.goto 4, 3) := by decide +kernel
theorem dX6_isWellTold_77 : decode cX6_isWellTold 77 = .ok (.iconst 0, 1) := by decide +kernel
theorem dX6_isWellTold_78 : decode cX6_isWellTold 78 = .ok (.istore 7, 2) := by decide +kernel
theorem dX6_isWellTold_80 : decode cX6_isWellTold 80 = .ok (.aload_n 0, 1) := by decide +kernel
theorem dX6_isWellTold_81 : decode cX6_isWellTold 81 = .ok (.iload_n 3, 1) := by decide +kernel
theorem dX6_isWellTold_82 : decode cX6_isWellTold 82 = .ok (.invokevirtual 85, 3) := by decide +kernel
theorem dX6_isWellTold_85 : decode cX6_isWellTold 85 = .ok (.ifCond .eq 30, 3) := by decide +kernel
theorem dX6_isWellTold_88 : decode cX6_isWellTold 88 = .ok (.aload_n 0, 1) := by decide +kernel
theorem dX6_isWellTold_89 : decode cX6_isWellTold 89 = .ok (.iload 4, 2) := by decide +kernel
theorem dX6_isWellTold_91 : decode cX6_isWellTold 91 = .ok (.invokevirtual 85, 3) := by decide +kernel
theorem dX6_isWellTold_94 : decode cX6_isWellTold 94 = .ok (.ifCond .eq 21, 3) := by decide +kernel
theorem dX6_isWellTold_97 : decode cX6_isWellTold 97 = .ok (.aload_n 0, 1) := by decide +kernel
theorem dX6_isWellTold_98 : decode cX6_isWellTold 98 = .ok (.iload_n 3, 1) := by decide +kernel
theorem dX6_isWellTold_99 : decode cX6_isWellTold 99 = .ok (.invokevirtual 82, 3) := by decide +kernel
theorem dX6_isWellTold_102 : decode cX6_isWellTold 102 = .ok (.aload_n 0, 1) := by decide +kernel
theorem dX6_isWellTold_103 : decode cX6_isWellTold 103 = .ok (.iload 4, 2) := by decide +kernel
theorem dX6_isWellTold_105 : decode cX6_isWellTold 105 = .ok (.invokevirtual 82, 3) := by decide +kernel
theorem dX6_isWellTold_108 : decode cX6_isWellTold 108 = .ok (.if_icmp .ne 7, 3) := by decide +kernel
theorem dX6_isWellTold_111 : decode cX6_isWellTold 111 = .ok (.iconst 1, 1) := by decide +kernel
theorem dX6_isWellTold_112 : decode cX6_isWellTold 112 = .ok (.goto 4, 3) := by decide +kernel
theorem dX6_isWellTold_115 : decode cX6_isWellTold 115 = .ok (.iconst 0, 1) := by decide +kernel
theorem dX6_isWellTold_116 : decode cX6_isWellTold 116 = .ok (.istore 8, 2) := by decide +kernel
theorem dX6_isWellTold_118 : decode cX6_isWellTold 118 = .ok (.iload 5, 2) := by decide +kernel
theorem dX6_isWellTold_120 : decode cX6_isWellTold 120 = .ok (.ifCond .eq 22, 3) := by decide +kernel
theorem dX6_isWellTold_123 : decode cX6_isWellTold 123 = .ok (.iload 6, 2) := by decide +kernel
theorem dX6_isWellTold_125 : decode cX6_isWellTold 125 = .ok (.ifCond .eq 17, 3) := by decide +kernel
theorem dX6_isWellTold_128 : decode cX6_isWellTold 128 = .ok (.iload 7, 2) := by decide +kernel
theorem dX6_isWellTold_130 : decode cX6_isWellTold 130 = .ok (.ifCond .eq 12, 3) := by decide +kernel
theorem dX6_isWellTold_133 : decode cX6_isWellTold 133 = .ok (.iload 8, 2) := by decide +kernel
theorem dX6_isWellTold_135 : decode cX6_isWellTold 135 = .ok (.ifCond .ne 7, 3) := by decide +kernel
theorem dX6_isWellTold_138 : decode cX6_isWellTold 138 = .ok (.iconst 1, 1) := by decide +kernel
theorem dX6_isWellTold_139 : decode cX6_isWellTold 139 = .ok (.goto 4, 3) := by decide +kernel
theorem dX6_isWellTold_142 : decode cX6_isWellTold 142 = .ok (.iconst 0, 1) := by decide +kernel
theorem dX6_isWellTold_143 : decode cX6_isWellTold 143 = .ok (.ireturn, 1) := by decide +kernel
def cd_64 : dm_Code := [[dm_ald 1 0, dm_ild 2 1, dm_inv 5 79 1 6, dm_no, dm_no, dm_ist 6 3, dm_ald 7 0, dm_ild 8 1, dm_inv 11 80 1 6, dm_no, dm_no, dm_ist 13 4, dm_no, dm_ild 14 2, dm_push 15 (.int 1), dm_ic_eq 18 27],
  [dm_no, dm_no, dm_ald 19 0, dm_ild 20 3, dm_push 21 (.int 0), dm_inv 24 78 2 6, dm_no, dm_no, dm_if_ne 27 31, dm_no, dm_no, dm_push 28 (.int 1), dm_goto 32, dm_no, dm_no, dm_push 32 (.int 0)],
  [dm_ist 34 5, dm_no, dm_ild 35 2, dm_push 36 (.int 2), dm_ic_eq 39 49, dm_no, dm_no, dm_ald 40 0, dm_ild 42 4, dm_no, dm_push 43 (.int 0), dm_inv 46 78 2 6, dm_no, dm_no, dm_if_ne 49 53, dm_no],
  [dm_no, dm_push 50 (.int 1), dm_goto 54, dm_no, dm_no, dm_push 54 (.int 0), dm_ist 56 6, dm_no, dm_ald 57 0, dm_ild 58 3, dm_inv 61 75 1 6, dm_no, dm_no, dm_if_eq 64 73, dm_no, dm_no],
  [dm_ald 65 0, dm_ild 67 4, dm_no, dm_inv 70 75 1 6, dm_no, dm_no, dm_if_ne 73 77, dm_no, dm_no, dm_push 74 (.int 1), dm_goto 78, dm_no, dm_no, dm_push 78 (.int 0), dm_ist 80 7, dm_no],
  [dm_ald 81 0, dm_ild 82 3, dm_inv 85 77 1 6, dm_no, dm_no, dm_if_eq 88 115, dm_no, dm_no, dm_ald 89 0, dm_ild 91 4, dm_no, dm_inv 94 77 1 6, dm_no, dm_no, dm_if_eq 97 115, dm_no],
  [dm_no, dm_ald 98 0, dm_ild 99 3, dm_inv 102 75 1 6, dm_no, dm_no, dm_ald 103 0, dm_ild 105 4, dm_no, dm_inv 108 75 1 6, dm_no, dm_no, dm_ic_ne 111 115, dm_no, dm_no, dm_push 112 (.int 1)],
  [dm_goto 116, dm_no, dm_no, dm_push 116 (.int 0), dm_ist 118 8, dm_no, dm_ild 120 5, dm_no, dm_if_eq 123 142, dm_no, dm_no, dm_ild 125 6, dm_no, dm_if_eq 128 142, dm_no, dm_no],
  [dm_ild 130 7, dm_no, dm_if_eq 133 142, dm_no, dm_no, dm_ild 135 8, dm_no, dm_if_ne 138 142, dm_no, dm_no, dm_push 139 (.int 1), dm_goto 143, dm_no, dm_no, dm_push 143 (.int 0), dm_ret .boolean]]
theorem tr_64_0 : dm_AllR (dm_Good dm_tb RX6 cX6_isWellTold 9 (some .boolean) false none) 0 [dm_ald 1 0, dm_ild 2 1, dm_inv 5 79 1 6, dm_no, dm_no, dm_ist 6 3, dm_ald 7 0, dm_ild 8 1, dm_inv 11 80 1 6, dm_no, dm_no, dm_ist 13 4, dm_no, dm_ild 14 2, dm_push 15 (.int 1), dm_ic_eq 18 27] := dr_c (dg_aload_n (k := 0) rfl dX6_isWellTold_0) <| dr_c (dg_iload_n (k := 1) rfl dX6_isWellTold_1) <| dr_c (dg_inv dX6_isWellTold_2 mo_79 rfl rfl wd_772 wd_393 wd_394 pd_79) <| dr_c (dg_no) <| dr_c (dg_no) <| dr_c (dg_istore_n (k := 3) rfl (by decide) dX6_isWellTold_5) <| dr_c (dg_aload_n (k := 0) rfl dX6_isWellTold_6) <| dr_c (dg_iload_n (k := 1) rfl dX6_isWellTold_7) <| dr_c (dg_inv dX6_isWellTold_8 mo_80 rfl rfl wd_773 wd_398 wd_399 pd_80) <| dr_c (dg_no) <| dr_c (dg_no) <| dr_c (dg_istore (by decide) dX6_isWellTold_11) <| dr_c (dg_no) <| dr_c (dg_iload_n (k := 2) rfl dX6_isWellTold_13) <| dr_c (dg_iconst (by decide) dX6_isWellTold_14) <| dr_c (dg_ic_eq (by decide) dX6_isWellTold_15) <| dr_n
theorem tr_64_1 : dm_AllR (dm_Good dm_tb RX6 cX6_isWellTold 9 (some .boolean) false none) 16 [dm_no, dm_no, dm_ald 19 0, dm_ild 20 3, dm_push 21 (.int 0), dm_inv 24 78 2 6, dm_no, dm_no, dm_if_ne 27 31, dm_no, dm_no, dm_push 28 (.int 1), dm_goto 32, dm_no, dm_no, dm_push 32 (.int 0)] := dr_c (dg_no) <| dr_c (dg_no) <| dr_c (dg_aload_n (k := 0) rfl dX6_isWellTold_18) <| dr_c (dg_iload_n (k := 3) rfl dX6_isWellTold_19) <| dr_c (dg_iconst (by decide) dX6_isWellTold_20) <| dr_c (dg_inv dX6_isWellTold_21 mo_78 rfl rfl wd_774 wd_377 wd_378 pd_78) <| dr_c (dg_no) <| dr_c (dg_no) <| dr_c (dg_if_ne (by decide) dX6_isWellTold_24) <| dr_c (dg_no) <| dr_c (dg_no) <| dr_c (dg_iconst (by decide) dX6_isWellTold_27) <| dr_c (dg_goto (by decide) dX6_isWellTold_28) <| dr_c (dg_no) <| dr_c (dg_no) <| dr_c (dg_iconst (by decide) dX6_isWellTold_31) <| dr_n
theorem tr_64_2 : dm_AllR (dm_Good dm_tb RX6 cX6_isWellTold 9 (some .boolean) false none) 32 [dm_ist 34 5, dm_no, dm_ild 35 2, dm_push 36 (.int 2), dm_ic_eq 39 49, dm_no, dm_no, dm_ald 40 0, dm_ild 42 4, dm_no, dm_push 43 (.int 0), dm_inv 46 78 2 6, dm_no, dm_no, dm_if_ne 49 53, dm_no] := dr_c (dg_istore (by decide) dX6_isWellTold_32) <| dr_c (dg_no) <| dr_c (dg_iload_n (k := 2) rfl dX6_isWellTold_34) <| dr_c (dg_iconst (by decide) dX6_isWellTold_35) <| dr_c (dg_ic_eq (by decide) dX6_isWellTold_36) <| dr_c (dg_no) <| dr_c (dg_no) <| dr_c (dg_aload_n (k := 0) rfl dX6_isWellTold_39) <| dr_c (dg_iload dX6_isWellTold_40) <| dr_c (dg_no) <| dr_c (dg_iconst (by decide) dX6_isWellTold_42) <| dr_c (dg_inv dX6_isWellTold_43 mo_78 rfl rfl wd_774 wd_377 wd_378 pd_78) <| dr_c (dg_no) <| dr_c (dg_no) <| dr_c (dg_if_ne (by decide) dX6_isWellTold_46) <| dr_c (dg_no) <| dr_n
theorem tr_64_3 : dm_AllR (dm_Good dm_tb RX6 cX6_isWellTold 9 (some .boolean) false none) 48 [dm_no, dm_push 50 (.int 1), dm_goto 54, dm_no, dm_no, dm_push 54 (.int 0), dm_ist 56 6, dm_no, dm_ald 57 0, dm_ild 58 3, dm_inv 61 75 1 6, dm_no, dm_no, dm_if_eq 64 73, dm_no, dm_no] := dr_c (dg_no) <| dr_c (dg_iconst (by decide) dX6_isWellTold_49) <| dr_c (dg_goto (by decide) dX6_isWellTold_50) <| dr_c (dg_no) <| dr_c (dg_no) <| dr_c (dg_iconst (by decide) dX6_isWellTold_53) <| dr_c (dg_istore (by decide) dX6_isWellTold_54) <| dr_c (dg_no) <| dr_c (dg_aload_n (k := 0) rfl dX6_isWellTold_56) <| dr_c (dg_iload_n (k := 3) rfl dX6_isWellTold_57) <| dr_c (dg_inv dX6_isWellTold_58 mo_75 rfl rfl wd_775 wd_381 wd_382 pd_75) <| dr_c (dg_no) <| dr_c (dg_no) <| dr_c (dg_if_eq (by decide) dX6_isWellTold_61) <| dr_c (dg_no) <| dr_c (dg_no) <| dr_n
theorem tr_64_4 : dm_AllR (dm_Good dm_tb RX6 cX6_isWellTold 9 (some .boolean) false none) 64 [dm_ald 65 0, dm_ild 67 4, dm_no, dm_inv 70 75 1 6, dm_no, dm_no, dm_if_ne 73 77, dm_no, dm_no, dm_push 74 (.int 1), dm_goto 78, dm_no, dm_no, dm_push 78 (.int 0), dm_ist 80 7, dm_no] := dr_c (dg_aload_n (k := 0) rfl dX6_isWellTold_64) <| dr_c (dg_iload dX6_isWellTold_65) <| dr_c (dg_no) <| dr_c (dg_inv dX6_isWellTold_67 mo_75 rfl rfl wd_775 wd_381 wd_382 pd_75) <| dr_c (dg_no) <| dr_c (dg_no) <| dr_c (dg_if_ne (by decide) dX6_isWellTold_70) <| dr_c (dg_no) <| dr_c (dg_no) <| dr_c (dg_iconst (by decide) dX6_isWellTold_73) <| dr_c (dg_goto (by decide) dX6_isWellTold_74) <| dr_c (dg_no) <| dr_c (dg_no) <| dr_c (dg_iconst (by decide) dX6_isWellTold_77) <| dr_c (dg_istore (by decide) dX6_isWellTold_78) <| dr_c (dg_no) <| dr_n
theorem tr_64_5 : dm_AllR (dm_Good dm_tb RX6 cX6_isWellTold 9 (some .boolean) false none) 80 [dm_ald 81 0, dm_ild 82 3, dm_inv 85 77 1 6, dm_no, dm_no, dm_if_eq 88 115, dm_no, dm_no, dm_ald 89 0, dm_ild 91 4, dm_no, dm_inv 94 77 1 6, dm_no, dm_no, dm_if_eq 97 115, dm_no] := dr_c (dg_aload_n (k := 0) rfl dX6_isWellTold_80) <| dr_c (dg_iload_n (k := 3) rfl dX6_isWellTold_81) <| dr_c (dg_inv dX6_isWellTold_82 mo_77 rfl rfl wd_776 wd_293 wd_294 pd_77) <| dr_c (dg_no) <| dr_c (dg_no) <| dr_c (dg_if_eq (by decide) dX6_isWellTold_85) <| dr_c (dg_no) <| dr_c (dg_no) <| dr_c (dg_aload_n (k := 0) rfl dX6_isWellTold_88) <| dr_c (dg_iload dX6_isWellTold_89) <| dr_c (dg_no) <| dr_c (dg_inv dX6_isWellTold_91 mo_77 rfl rfl wd_776 wd_293 wd_294 pd_77) <| dr_c (dg_no) <| dr_c (dg_no) <| dr_c (dg_if_eq (by decide) dX6_isWellTold_94) <| dr_c (dg_no) <| dr_n
theorem tr_64_6 : dm_AllR (dm_Good dm_tb RX6 cX6_isWellTold 9 (some .boolean) false none) 96 [dm_no, dm_ald 98 0, dm_ild 99 3, dm_inv 102 75 1 6, dm_no, dm_no, dm_ald 103 0, dm_ild 105 4, dm_no, dm_inv 108 75 1 6, dm_no, dm_no, dm_ic_ne 111 115, dm_no, dm_no, dm_push 112 (.int 1)] := dr_c (dg_no) <| dr_c (dg_aload_n (k := 0) rfl dX6_isWellTold_97) <| dr_c (dg_iload_n (k := 3) rfl dX6_isWellTold_98) <| dr_c (dg_inv dX6_isWellTold_99 mo_75 rfl rfl wd_775 wd_381 wd_382 pd_75) <| dr_c (dg_no) <| dr_c (dg_no) <| dr_c (dg_aload_n (k := 0) rfl dX6_isWellTold_102) <| dr_c (dg_iload dX6_isWellTold_103) <| dr_c (dg_no) <| dr_c (dg_inv dX6_isWellTold_105 mo_75 rfl rfl wd_775 wd_381 wd_382 pd_75) <| dr_c (dg_no) <| dr_c (dg_no) <| dr_c (dg_ic_ne (by decide) dX6_isWellTold_108) <| dr_c (dg_no) <| dr_c (dg_no) <| dr_c (dg_iconst (by decide) dX6_isWellTold_111) <| dr_n
theorem tr_64_7 : dm_AllR (dm_Good dm_tb RX6 cX6_isWellTold 9 (some .boolean) false none) 112 [dm_goto 116, dm_no, dm_no, dm_push 116 (.int 0), dm_ist 118 8, dm_no, dm_ild 120 5, dm_no, dm_if_eq 123 142, dm_no, dm_no, dm_ild 125 6, dm_no, dm_if_eq 128 142, dm_no, dm_no] := dr_c (dg_goto (by decide) dX6_isWellTold_112) <| dr_c (dg_no) <| dr_c (dg_no) <| dr_c (dg_iconst (by decide) dX6_isWellTold_115) <| dr_c (dg_istore (by decide) dX6_isWellTold_116) <| dr_c (dg_no) <| dr_c (dg_iload dX6_isWellTold_118) <| dr_c (dg_no) <| dr_c (dg_if_eq (by decide) dX6_isWellTold_120) <| dr_c (dg_no) <| dr_c (dg_no) <| dr_c (dg_iload dX6_isWellTold_123) <| dr_c (dg_no) <| dr_c (dg_if_eq (by decide) dX6_isWellTold_125) <| dr_c (dg_no) <| dr_c (dg_no) <| dr_n
theorem tr_64_8 : dm_AllR (dm_Good dm_tb RX6 cX6_isWellTold 9 (some .boolean) false none) 128 [dm_ild 130 7, dm_no, dm_if_eq 133 142, dm_no, dm_no, dm_ild 135 8, dm_no, dm_if_ne 138 142, dm_no, dm_no, dm_push 139 (.int 1), dm_goto 143, dm_no, dm_no, dm_push 143 (.int 0), dm_ret .boolean] := dr_c (dg_iload dX6_isWellTold_128) <| dr_c (dg_no) <| dr_c (dg_if_eq (by decide) dX6_isWellTold_130) <| dr_c (dg_no) <| dr_c (dg_no) <| dr_c (dg_iload dX6_isWellTold_133) <| dr_c (dg_no) <| dr_c (dg_if_ne (by decide) dX6_isWellTold_135) <| dr_c (dg_no) <| dr_c (dg_no) <| dr_c (dg_iconst (by decide) dX6_isWellTold_138) <| dr_c (dg_goto (by decide) dX6_isWellTold_139) <| dr_c (dg_no) <| dr_c (dg_no) <| dr_c (dg_iconst (by decide) dX6_isWellTold_142) <| dr_c (dg_ret dX6_isWellTold_143) <| dr_n
theorem tk_64 : dm_AllC (dm_Good dm_tb RX6 cX6_isWellTold 9 (some .boolean) false none) 0 cd_64 := dc_c (by decide) tr_64_0 <| dc_c (by decide) tr_64_1 <| dc_c (by decide) tr_64_2 <| dc_c (by decide) tr_64_3 <| dc_c (by decide) tr_64_4 <| dc_c (by decide) tr_64_5 <| dc_c (by decide) tr_64_6 <| dc_c (by decide) tr_64_7 <| dc_c (by decide) tr_64_8 <| dc_n
theorem dX7_above_0 : decode cX7_above 0 = .ok (.aload_n 0, 1) := by decide +kernel
theorem dX7_above_1 : decode cX7_above 1 = .ok (.iload_n 1, 1) := by decide +kernel
theorem dX7_above_2 : decode cX7_above 2 = .ok (.iload_n 2, 1) := by decide +kernel
theorem dX7_above_3 : decode cX7_above 3 = .ok (.iconst 0, 1) := by decide +kernel
theorem dX7_above_4 : decode cX7_above 4 = .ok (.iconst 0, 1) := by decide +kernel
theorem dX7_above_5 : decode cX7_above 5 = .ok (.invokestatic 9, 3) := by decide +kernel
theorem dX7_above_8 : decode cX7_above 8 = .ok (.ireturn, 1) := by decide +kernel
def cd_65 : dm_Code := [[dm_ald 1 0, dm_ild 2 1, dm_ild 3 2, dm_push 4 (.int 0), dm_push 5 (.int 0), dm_ins 8 66 5, dm_no, dm_no, dm_ret .boolean]]
theorem tr_65_0 : dm_AllR (dm_Good dm_tb RX7 cX7_above 3 (some .boolean) false none) 0 [dm_ald 1 0, dm_ild 2 1, dm_ild 3 2, dm_push 4 (.int 0), dm_push 5 (.int 0), dm_ins 8 66 5, dm_no, dm_no, dm_ret .boolean] := dr_c (dg_aload_n (k := 0) rfl dX7_above_0) <| dr_c (dg_iload_n (k := 1) rfl dX7_above_1) <| dr_c (dg_iload_n (k := 2) rfl dX7_above_2) <| dr_c (dg_iconst (by decide) dX7_above_3) <| dr_c (dg_iconst (by decide) dX7_above_4) <| dr_c (dg_ins dX7_above_5 mo_66 wd_557 wd_558 pd_66) <| dr_c (dg_no) <| dr_c (dg_no) <| dr_c (dg_ret dX7_above_8) <| dr_n
theorem tk_65 : dm_AllC (dm_Good dm_tb RX7 cX7_above 3 (some .boolean) false none) 0 cd_65 := dc_c (by decide) tr_65_0 <| dc_n
theorem dX7_aboveFrom_0 : decode cX7_aboveFrom 0 = .ok (.iload_n 3, 1) := by decide +kernel
theorem dX7_aboveFrom_1 : decode cX7_aboveFrom 1 = .ok (.aload_n 0, 1) := by decide +kernel
theorem dX7_aboveFrom_2 : decode cX7_aboveFrom 2 = .ok (.iload_n 1, 1) := by decide +kernel
theorem dX7_aboveFrom_3 : decode cX7_aboveFrom 3 = .ok (.invokevirtual 15, 3) := by decide +kernel
theorem dX7_aboveFrom_6 : decode cX7_aboveFrom 6 = .ok (.iadd, 1) := by decide +kernel
theorem dX7_aboveFrom_7 : decode cX7_aboveFrom 7 = .ok (.aload_n 0, 1) := by decide +kernel
theorem dX7_aboveFrom_8 : decode cX7_aboveFrom 8 = .ok (.iload_n 2, 1) := by decide +kernel
theorem dX7_aboveFrom_9 : decode cX7_aboveFrom 9 = .ok (.invokevirtual 15, 3) := by decide +kernel
theorem dX7_aboveFrom_12 : decode cX7_aboveFrom 12 = .ok (.isub, 1) := by decide +kernel
theorem dX7_aboveFrom_13 : decode cX7_aboveFrom 13 = .ok (.istore 5, 2) := by decide +kernel
theorem dX7_aboveFrom_15 : decode cX7_aboveFrom 15 = .ok (.aload_n 0, 1) := by decide +kernel
theorem dX7_aboveFrom_16 : decode cX7_aboveFrom 16 = .ok (.iload_n 1, 1) := by decide +kernel
theorem dX7_aboveFrom_17 : decode cX7_aboveFrom 17 = .ok (.invokevirtual 21, 3) := by decide +kernel
theorem dX7_aboveFrom_20 : decode cX7_aboveFrom 20 = .ok (.ifCond .eq 11, 3) := by decide +kernel
theorem dX7_aboveFrom_23 : decode cX7_aboveFrom 23 = .ok (.aload_n 0, 1) := by decide +kernel
theorem dX7_aboveFrom_24 : decode cX7_aboveFrom 24 = .ok (.iload_n 2, 1) := by decide +kernel
theorem dX7_aboveFrom_25 : decode cX7_aboveFrom 25 = .ok (.invokevirtual 21, 3) := by decide +kernel
theorem dX7_aboveFrom_28 : decode cX7_aboveFrom 28 = .ok (.ifCond .ne 10, 3) := by decide +kernel
theorem dX7_aboveFrom_31 : decode cX7_aboveFrom 31 = .ok (.iload 4, 2) := by decide +kernel
theorem dX7_aboveFrom_33 : decode cX7_aboveFrom 33 = .ok (.bipush 60, 2) := by decide +kernel
theorem dX7_aboveFrom_35 : decode cX7_aboveFrom 35 = .ok (.if_icmp .lt 14, 3) := by decide +kernel
theorem dX7_aboveFrom_38 : decode cX7_aboveFrom 38 = .ok (.iload 5, 2) := by decide +kernel
theorem dX7_aboveFrom_40 : decode cX7_aboveFrom 40 = .ok (.ifCond .le 7, 3) := by decide +kernel
theorem dX7_aboveFrom_43 : decode cX7_aboveFrom 43 = .ok (.iconst 1, 1) := by decide +kernel
theorem dX7_aboveFrom_44 : decode cX7_aboveFrom 44 = .ok (.goto 4, 3) := by decide +kernel
theorem dX7_aboveFrom_47 : decode cX7_aboveFrom 47 = .ok (.iconst 0, 1) := by decide +kernel
theorem dX7_aboveFrom_48 : decode cX7_aboveFrom 48 = .ok (.ireturn, 1) := by decide +kernel
theorem dX7_aboveFrom_49 : decode cX7_aboveFrom 49 = .ok (.aload_n 0, 1) := by decide +kernel
theorem dX7_aboveFrom_50 : decode cX7_aboveFrom 50 = .ok (.aload_n 0, 1) := by decide +kernel
theorem dX7_aboveFrom_51 : decode cX7_aboveFrom 51 = .ok (.iload_n 1, 1) := by decide +kernel
theorem dX7_aboveFrom_52 : decode cX7_aboveFrom 52 = .ok (.invokevirtual 25, 3) := by decide +kernel
theorem dX7_aboveFrom_55 : decode cX7_aboveFrom 55 = .ok (.aload_n 0, 1) := by decide +kernel
theorem dX7_aboveFrom_56 : decode cX7_aboveFrom 56 = .ok (.iload_n 2, 1) := by decide +kernel
theorem dX7_aboveFrom_57 : decode cX7_aboveFrom 57 = .ok (.invokevirtual 25, 3) := by decide +kernel
theorem dX7_aboveFrom_60 : decode cX7_aboveFrom 60 = .ok (.iload 5, 2) := by decide +kernel
theorem dX7_aboveFrom_62 : decode cX7_aboveFrom 62 = .ok (.iload 4, 2) := by decide +kernel
theorem dX7_aboveFrom_64 : decode cX7_aboveFrom 64 = .ok (.iconst 1, 1) := by decide +kernel
theorem dX7_aboveFrom_65 : decode cX7_aboveFrom 65 = .ok (.iadd, 1) := by decide +kernel
theorem dX7_aboveFrom_66 : decode cX7_aboveFrom 66 = .ok (.invokestatic 9, 3) := by decide +kernel
theorem dX7_aboveFrom_69 : decode cX7_aboveFrom 69 = .ok (.ifCond .ne 26, 3) := by decide +kernel
theorem dX7_aboveFrom_72 : decode cX7_aboveFrom 72 = .ok (.aload_n 0, 1) := by decide +kernel
theorem dX7_aboveFrom_73 : decode cX7_aboveFrom 73 = .ok (.aload_n 0, 1) := by decide +kernel
theorem dX7_aboveFrom_74 : decode cX7_aboveFrom 74 = .ok (.iload_n 1, 1) := by decide +kernel
theorem dX7_aboveFrom_75 : decode cX7_aboveFrom 75 = .ok (.invokevirtual 28, 3) := by decide +kernel
theorem dX7_aboveFrom_78 : decode cX7_aboveFrom 78 = .ok (.aload_n 0, 1) := by decide +kernel
theorem dX7_aboveFrom_79 : decode cX7_aboveFrom 79 = .ok (.iload_n 2, 1) := by decide +kernel
theorem dX7_aboveFrom_80 : decode cX7_aboveFrom 80 = .ok (.invokevirtual 28, 3) := by decide +kernel
theorem dX7_aboveFrom_83 : decode cX7_aboveFrom 83 = .ok (.iload 5, 2) := by decide +kernel
theorem dX7_aboveFrom_85 : decode cX7_aboveFrom 85 = .ok (.iload 4, 2) := by decide +kernel
theorem dX7_aboveFrom_87 : decode cX7_aboveFrom 87 = .ok (.iconst 1, 1) := by decide +kernel
theorem dX7_aboveFrom_88 : decode cX7_aboveFrom 88 = .ok (.iadd, 1) := by decide +kernel
theorem dX7_aboveFrom_89 : decode cX7_aboveFrom 89 = .ok (.invokestatic 9, 3) := by decide +kernel
theorem dX7_aboveFrom_92 : decode cX7_aboveFrom 92 = .ok (.ifCond .eq 7, 3) := by decide +kernel
theorem dX7_aboveFrom_95 : decode cX7_aboveFrom 95 = .ok (.iconst 1, 1) := by decide +kernel
theorem dX7_aboveFrom_96 : decode cX7_aboveFrom 96 = .ok (.goto 4, 3) := by decide +kernel
theorem dX7_aboveFrom_99 : decode cX7_aboveFrom 99 = .ok (.iconst 0, 1) := by decide +kernel
theorem dX7_aboveFrom_100 : decode cX7_aboveFrom 100 = .ok (.ireturn, 1) := by decide +kernel
def cd_66 : dm_Code := [[dm_ild 1 3, dm_ald 2 0, dm_ild 3 1, dm_inv 6 75 1 6, dm_no, dm_no, dm_ii 7 (fun x y => x + y), dm_ald 8 0, dm_ild 9 2, dm_inv 12 75 1 6, dm_no, dm_no, dm_ii 13 (fun x y => x - y), dm_ist 15 5, dm_no, dm_ald 16 0],
  [dm_ild 17 1, dm_inv 20 77 1 6, dm_no, dm_no, dm_if_eq 23 31, dm_no, dm_no, dm_ald 24 0, dm_ild 25 2, dm_inv 28 77 1 6, dm_no, dm_no, dm_if_ne 31 38, dm_no, dm_no, dm_ild 33 4],
  [dm_no, dm_push 35 (.int 60), dm_no, dm_ic_lt 38 49, dm_no, dm_no, dm_ild 40 5, dm_no, dm_if_le 43 47, dm_no, dm_no, dm_push 44 (.int 1), dm_goto 48, dm_no, dm_no, dm_push 48 (.int 0)],
  [dm_ret .boolean, dm_ald 50 0, dm_ald 51 0, dm_ild 52 1, dm_inv 55 79 1 6, dm_no, dm_no, dm_ald 56 0, dm_ild 57 2, dm_inv 60 79 1 6, dm_no, dm_no, dm_ild 62 5, dm_no, dm_ild 64 4, dm_no],
  [dm_push 65 (.int 1), dm_ii 66 (fun x y => x + y), dm_ins 69 66 5, dm_no, dm_no, dm_if_ne 72 95, dm_no, dm_no, dm_ald 73 0, dm_ald 74 0, dm_ild 75 1, dm_inv 78 80 1 6, dm_no, dm_no, dm_ald 79 0, dm_ild 80 2],
  [dm_inv 83 80 1 6, dm_no, dm_no, dm_ild 85 5, dm_no, dm_ild 87 4, dm_no, dm_push 88 (.int 1), dm_ii 89 (fun x y => x + y), dm_ins 92 66 5, dm_no, dm_no, dm_if_eq 95 99, dm_no, dm_no, dm_push 96 (.int 1)],
  [dm_goto 100, dm_no, dm_no, dm_push 100 (.int 0), dm_ret .boolean]]
theorem tr_66_0 : dm_AllR (dm_Good dm_tb RX7 cX7_aboveFrom 6 (some .boolean) false none) 0 [dm_ild 1 3, dm_ald 2 0, dm_ild 3 1, dm_inv 6 75 1 6, dm_no, dm_no, dm_ii 7 (fun x y => x + y), dm_ald 8 0, dm_ild 9 2, dm_inv 12 75 1 6, dm_no, dm_no, dm_ii 13 (fun x y => x - y), dm_ist 15 5, dm_no, dm_ald 16 0] := dr_c (dg_iload_n (k := 3) rfl dX7_aboveFrom_0) <| dr_c (dg_aload_n (k := 0) rfl dX7_aboveFrom_1) <| dr_c (dg_iload_n (k := 1) rfl dX7_aboveFrom_2) <| dr_c (dg_inv dX7_aboveFrom_3 mo_75 rfl rfl wd_560 wd_381 wd_382 pd_75) <| dr_c (dg_no) <| dr_c (dg_no) <| dr_c (dg_iadd dX7_aboveFrom_6) <| dr_c (dg_aload_n (k := 0) rfl dX7_aboveFrom_7) <| dr_c (dg_iload_n (k := 2) rfl dX7_aboveFrom_8) <| dr_c (dg_inv dX7_aboveFrom_9 mo_75 rfl rfl wd_560 wd_381 wd_382 pd_75) <| dr_c (dg_no) <| dr_c (dg_no) <| dr_c (dg_isub dX7_aboveFrom_12) <| dr_c (dg_istore (by decide) dX7_aboveFrom_13) <| dr_c (dg_no) <| dr_c (dg_aload_n (k := 0) rfl dX7_aboveFrom_15) <| dr_n
theorem tr_66_1 : dm_AllR (dm_Good dm_tb RX7 cX7_aboveFrom 6 (some .boolean) false none) 16 [dm_ild 17 1, dm_inv 20 77 1 6, dm_no, dm_no, dm_if_eq 23 31, dm_no, dm_no, dm_ald 24 0, dm_ild 25 2, dm_inv 28 77 1 6, dm_no, dm_no, dm_if_ne 31 38, dm_no, dm_no, dm_ild 33 4] := dr_c (dg_iload_n (k := 1) rfl dX7_aboveFrom_16) <| dr_c (dg_inv dX7_aboveFrom_17 mo_77 rfl rfl wd_561 wd_293 wd_294 pd_77) <| dr_c (dg_no) <| dr_c (dg_no) <| dr_c (dg_if_eq (by decide) dX7_aboveFrom_20) <| dr_c (dg_no) <| dr_c (dg_no) <| dr_c (dg_aload_n (k := 0) rfl dX7_aboveFrom_23) <| dr_c (dg_iload_n (k := 2) rfl dX7_aboveFrom_24) <| dr_c (dg_inv dX7_aboveFrom_25 mo_77 rfl rfl wd_561 wd_293 wd_294 pd_77) <| dr_c (dg_no) <| dr_c (dg_no) <| dr_c (dg_if_ne (by decide) dX7_aboveFrom_28) <| dr_c (dg_no) <| dr_c (dg_no) <| dr_c (dg_iload dX7_aboveFrom_31) <| dr_n
theorem tr_66_2 : dm_AllR (dm_Good dm_tb RX7 cX7_aboveFrom 6 (some .boolean) false none) 32 [dm_no, dm_push 35 (.int 60), dm_no, dm_ic_lt 38 49, dm_no, dm_no, dm_ild 40 5, dm_no, dm_if_le 43 47, dm_no, dm_no, dm_push 44 (.int 1), dm_goto 48, dm_no, dm_no, dm_push 48 (.int 0)] := dr_c (dg_no) <| dr_c (dg_bipush (by decide) dX7_aboveFrom_33) <| dr_c (dg_no) <| dr_c (dg_ic_lt (by decide) dX7_aboveFrom_35) <| dr_c (dg_no) <| dr_c (dg_no) <| dr_c (dg_iload dX7_aboveFrom_38) <| dr_c (dg_no) <| dr_c (dg_if_le (by decide) dX7_aboveFrom_40) <| dr_c (dg_no) <| dr_c (dg_no) <| dr_c (dg_iconst (by decide) dX7_aboveFrom_43) <| dr_c (dg_goto (by decide) dX7_aboveFrom_44) <| dr_c (dg_no) <| dr_c (dg_no) <| dr_c (dg_iconst (by decide) dX7_aboveFrom_47) <| dr_n
theorem tr_66_3 : dm_AllR (dm_Good dm_tb RX7 cX7_aboveFrom 6 (some .boolean) false none) 48 [dm_ret .boolean, dm_ald 50 0, dm_ald 51 0, dm_ild 52 1, dm_inv 55 79 1 6, dm_no, dm_no, dm_ald 56 0, dm_ild 57 2, dm_inv 60 79 1 6, dm_no, dm_no, dm_ild 62 5, dm_no, dm_ild 64 4, dm_no] := dr_c (dg_ret dX7_aboveFrom_48) <| dr_c (dg_aload_n (k := 0) rfl dX7_aboveFrom_49) <| dr_c (dg_aload_n (k := 0) rfl dX7_aboveFrom_50) <| dr_c (dg_iload_n (k := 1) rfl dX7_aboveFrom_51) <| dr_c (dg_inv dX7_aboveFrom_52 mo_79 rfl rfl wd_562 wd_393 wd_394 pd_79) <| dr_c (dg_no) <| dr_c (dg_no) <| dr_c (dg_aload_n (k := 0) rfl dX7_aboveFrom_55) <| dr_c (dg_iload_n (k := 2) rfl dX7_aboveFrom_56) <| dr_c (dg_inv dX7_aboveFrom_57 mo_79 rfl rfl wd_562 wd_393 wd_394 pd_79) <| dr_c (dg_no) <| dr_c (dg_no) <| dr_c (dg_iload dX7_aboveFrom_60) <| dr_c (dg_no) <| dr_c (dg_iload dX7_aboveFrom_62) <| dr_c (dg_no) <| dr_n
theorem tr_66_4 : dm_AllR (dm_Good dm_tb RX7 cX7_aboveFrom 6 (some .boolean) false none) 64 [dm_push 65 (.int 1), dm_ii 66 (fun x y => x + y), dm_ins 69 66 5, dm_no, dm_no, dm_if_ne 72 95, dm_no, dm_no, dm_ald 73 0, dm_ald 74 0, dm_ild 75 1, dm_inv 78 80 1 6, dm_no, dm_no, dm_ald 79 0, dm_ild 80 2] := dr_c (dg_iconst (by decide) dX7_aboveFrom_64) <| dr_c (dg_iadd dX7_aboveFrom_65) <| dr_c (dg_ins dX7_aboveFrom_66 mo_66 wd_557 wd_558 pd_66) <| dr_c (dg_no) <| dr_c (dg_no) <| dr_c (dg_if_ne (by decide) dX7_aboveFrom_69) <| dr_c (dg_no) <| dr_c (dg_no) <| dr_c (dg_aload_n (k := 0) rfl dX7_aboveFrom_72) <| dr_c (dg_aload_n (k := 0) rfl dX7_aboveFrom_73) <| dr_c (dg_iload_n (k := 1) rfl dX7_aboveFrom_74) <| dr_c (dg_inv dX7_aboveFrom_75 mo_80 rfl rfl wd_563 wd_398 wd_399 pd_80) <| dr_c (dg_no) <| dr_c (dg_no) <| dr_c (dg_aload_n (k := 0) rfl dX7_aboveFrom_78) <| dr_c (dg_iload_n (k := 2) rfl dX7_aboveFrom_79) <| dr_n
theorem tr_66_5 : dm_AllR (dm_Good dm_tb RX7 cX7_aboveFrom 6 (some .boolean) false none) 80 [dm_inv 83 80 1 6, dm_no, dm_no, dm_ild 85 5, dm_no, dm_ild 87 4, dm_no, dm_push 88 (.int 1), dm_ii 89 (fun x y => x + y), dm_ins 92 66 5, dm_no, dm_no, dm_if_eq 95 99, dm_no, dm_no, dm_push 96 (.int 1)] := dr_c (dg_inv dX7_aboveFrom_80 mo_80 rfl rfl wd_563 wd_398 wd_399 pd_80) <| dr_c (dg_no) <| dr_c (dg_no) <| dr_c (dg_iload dX7_aboveFrom_83) <| dr_c (dg_no) <| dr_c (dg_iload dX7_aboveFrom_85) <| dr_c (dg_no) <| dr_c (dg_iconst (by decide) dX7_aboveFrom_87) <| dr_c (dg_iadd dX7_aboveFrom_88) <| dr_c (dg_ins dX7_aboveFrom_89 mo_66 wd_557 wd_558 pd_66) <| dr_c (dg_no) <| dr_c (dg_no) <| dr_c (dg_if_eq (by decide) dX7_aboveFrom_92) <| dr_c (dg_no) <| dr_c (dg_no) <| dr_c (dg_iconst (by decide) dX7_aboveFrom_95) <| dr_n
theorem tr_66_6 : dm_AllR (dm_Good dm_tb RX7 cX7_aboveFrom 6 (some .boolean) false none) 96 [dm_goto 100, dm_no, dm_no, dm_push 100 (.int 0), dm_ret .boolean] := dr_c (dg_goto (by decide) dX7_aboveFrom_96) <| dr_c (dg_no) <| dr_c (dg_no) <| dr_c (dg_iconst (by decide) dX7_aboveFrom_99) <| dr_c (dg_ret dX7_aboveFrom_100) <| dr_n
theorem tk_66 : dm_AllC (dm_Good dm_tb RX7 cX7_aboveFrom 6 (some .boolean) false none) 0 cd_66 := dc_c (by decide) tr_66_0 <| dc_c (by decide) tr_66_1 <| dc_c (by decide) tr_66_2 <| dc_c (by decide) tr_66_3 <| dc_c (by decide) tr_66_4 <| dc_c (by decide) tr_66_5 <| dc_c (by decide) tr_66_6 <| dc_n
theorem dX7_firstAbove_0 : decode cX7_firstAbove 0 = .ok (.aload_n 0, 1) := by decide +kernel
theorem dX7_firstAbove_1 : decode cX7_firstAbove 1 = .ok (.iload_n 1, 1) := by decide +kernel
theorem dX7_firstAbove_2 : decode cX7_firstAbove 2 = .ok (.iload_n 2, 1) := by decide +kernel
theorem dX7_firstAbove_3 : decode cX7_firstAbove 3 = .ok (.iconst 0, 1) := by decide +kernel
theorem dX7_firstAbove_4 : decode cX7_firstAbove 4 = .ok (.lconst 1, 1) := by decide +kernel
theorem dX7_firstAbove_5 : decode cX7_firstAbove 5 = .ok (.iconst 0, 1) := by decide +kernel
theorem dX7_firstAbove_6 : decode cX7_firstAbove 6 = .ok (.invokestatic 31, 3) := by decide +kernel
theorem dX7_firstAbove_9 : decode cX7_firstAbove 9 = .ok (.lreturn, 1) := by decide +kernel
def cd_67 : dm_Code := [[dm_ald 1 0, dm_ild 2 1, dm_ild 3 2, dm_push 4 (.int 0), dm_push 5 (.long 1), dm_push 6 (.int 0), dm_ins 9 68 6, dm_no, dm_no, dm_lret]]
theorem tr_67_0 : dm_AllR (dm_Good dm_tb RX7 cX7_firstAbove 3 (some .long) false none) 0 [dm_ald 1 0, dm_ild 2 1, dm_ild 3 2, dm_push 4 (.int 0), dm_push 5 (.long 1), dm_push 6 (.int 0), dm_ins 9 68 6, dm_no, dm_no, dm_lret] := dr_c (dg_aload_n (k := 0) rfl dX7_firstAbove_0) <| dr_c (dg_iload_n (k := 1) rfl dX7_firstAbove_1) <| dr_c (dg_iload_n (k := 2) rfl dX7_firstAbove_2) <| dr_c (dg_iconst (by decide) dX7_firstAbove_3) <| dr_c (dg_lconst (by decide) dX7_firstAbove_4) <| dr_c (dg_iconst (by decide) dX7_firstAbove_5) <| dr_c (dg_ins dX7_firstAbove_6 mo_68 wd_671 wd_672 pd_68) <| dr_c (dg_no) <| dr_c (dg_no) <| dr_c (dg_lret dX7_firstAbove_9) <| dr_n
theorem tk_67 : dm_AllC (dm_Good dm_tb RX7 cX7_firstAbove 3 (some .long) false none) 0 cd_67 := dc_c (by decide) tr_67_0 <| dc_n
theorem dX7_seek_0 : decode cX7_seek 0 = .ok (.iload_n 3, 1) := by decide +kernel
theorem dX7_seek_1 : decode cX7_seek 1 = .ok (.aload_n 0, 1) := by decide +kernel
theorem dX7_seek_2 : decode cX7_seek 2 = .ok (.iload_n 1, 1) := by decide +kernel
theorem dX7_seek_3 : decode cX7_seek 3 = .ok (.invokevirtual 15, 3) := by decide +kernel
theorem dX7_seek_6 : decode cX7_seek 6 = .ok (.iadd, 1) := by decide +kernel
theorem dX7_seek_7 : decode cX7_seek 7 = .ok (.aload_n 0, 1) := by decide +kernel
theorem dX7_seek_8 : decode cX7_seek 8 = .ok (.iload_n 2, 1) := by decide +kernel
theorem dX7_seek_9 : decode cX7_seek 9 = .ok (.invokevirtual 15, 3) := by decide +kernel
theorem dX7_seek_12 : decode cX7_seek 12 = .ok (.isub, 1) := by decide +kernel
theorem dX7_seek_13 : decode cX7_seek 13 = .ok (.istore 7, 2) := by decide +kernel
theorem dX7_seek_15 : decode cX7_seek 15 = .ok (.aload_n 0, 1) := by decide +kernel
theorem dX7_seek_16 : decode cX7_seek 16 = .ok (.iload_n 1, 1) := by decide +kernel
theorem dX7_seek_17 : decode cX7_seek 17 = .ok (.invokevirtual 21, 3) := by decide +kernel
theorem dX7_seek_20 : decode cX7_seek 20 = .ok (.ifCond .eq 11, 3) := by decide +kernel
theorem dX7_seek_23 : decode cX7_seek 23 = .ok (.aload_n 0, 1) := by decide +kernel
theorem dX7_seek_24 : decode cX7_seek 24 = .ok (.iload_n 2, 1) := by decide +kernel
theorem dX7_seek_25 : decode cX7_seek 25 = .ok (.invokevirtual 21, 3) := by decide +kernel
theorem dX7_seek_28 : decode cX7_seek 28 = .ok (.ifCond .ne 10, 3) := by decide +kernel
theorem dX7_seek_31 : decode cX7_seek 31 = .ok (.iload 6, 2) := by decide +kernel
theorem dX7_seek_33 : decode cX7_seek 33 = .ok (.bipush 60, 2) := by decide +kernel
theorem dX7_seek_35 : decode cX7_seek 35 = .ok (.if_icmp .lt 16, 3) := by decide +kernel
theorem dX7_seek_38 : decode cX7_seek 38 = .ok (.iload 7, 2) := by decide +kernel
theorem dX7_seek_40 : decode cX7_seek 40 = .ok (.ifCond .le 9, 3) := by decide +kernel
theorem dX7_seek_43 : decode cX7_seek 43 = .ok (.ldc2_w 35, 3) := by decide +kernel
theorem dX7_seek_46 : decode cX7_seek 46 = .ok (.goto 4, 3) := by decide +kernel
theorem dX7_seek_49 : decode cX7_seek 49 = .ok (.lconst 0, 1) := by decide +kernel
theorem dX7_seek_50 : decode cX7_seek 50 = .ok (.lreturn, 1) := by decide +kernel
theorem dX7_seek_51 : decode cX7_seek 51 = .ok (.aload_n 0, 1) := by decide +kernel
theorem dX7_seek_52 : decode cX7_seek 52 = .ok (.aload_n 0, 1) := by decide +kernel
theorem dX7_seek_53 : decode cX7_seek 53 = .ok (.iload_n 1, 1) := by decide +kernel
theorem dX7_seek_54 : decode cX7_seek 54 = .ok (.invokevirtual 25, 3) := by decide +kernel
theorem dX7_seek_57 : decode cX7_seek 57 = .ok (.aload_n 0, 1) := by decide +kernel
theorem dX7_seek_58 : decode cX7_seek 58 = .ok (.iload_n 2, 1) := by decide +kernel
theorem dX7_seek_59 : decode cX7_seek 59 = .ok (.invokevirtual 25, 3) := by decide +kernel
theorem dX7_seek_62 : decode cX7_seek 62 = .ok (.iload 7, 2) := by decide +kernel
theorem dX7_seek_64 : decode cX7_seek 64 = .ok (.ldc2_w 37, 3) := by decide +kernel
theorem dX7_seek_67 : decode cX7_seek 67 = .ok (.lload 4, 2) := by decide +kernel
theorem dX7_seek_69 : decode cX7_seek 69 = .ok (.lmul, 1) := by decide +kernel
theorem dX7_seek_70 : decode cX7_seek 70 = .ok (.iload 6, 2) := by decide +kernel
theorem dX7_seek_72 : decode cX7_seek 72 = .ok (.iconst 1, 1) := by decide +kernel
theorem dX7_seek_73 : decode cX7_seek 73 = .ok (.iadd, 1) := by decide +kernel
theorem dX7_seek_74 : decode cX7_seek 74 = .ok (.invokestatic 31, 3) := by decide +kernel
theorem dX7_seek_77 : decode cX7_seek 77 = .ok (.lstore 8, 2) := by decide +kernel
theorem dX7_seek_79 : decode cX7_seek 79 = .ok (.lload 8, 2) := by decide +kernel
theorem dX7_seek_81 : decode cX7_seek 81 = .ok (.ldc2_w 35, 3) := by decide +kernel
theorem dX7_seek_84 : decode cX7_seek 84 = .ok (.lcmp, 1) := by decide +kernel
theorem dX7_seek_85 : decode cX7_seek 85 = .ok (.ifCond .eq 13, 3) := by decide +kernel
theorem dX7_seek_88 : decode cX7_seek 88 = .ok (.lload 8, 2) := by decide +kernel
theorem dX7_seek_90 : decode cX7_seek 90 = .ok (.lconst 0, 1) := by decide +kernel
theorem dX7_seek_91 : decode cX7_seek 91 = .ok (.lcmp, 1) := by decide +kernel
theorem dX7_seek_92 : decode cX7_seek 92 = .ok (.ifCond .eq 6, 3) := by decide +kernel
theorem dX7_seek_95 : decode cX7_seek 95 = .ok (.lload 8, 2) := by decide +kernel
theorem dX7_seek_97 : decode cX7_seek 97 = .ok (.lreturn, 1) := by decide +kernel
theorem dX7_seek_98 : decode cX7_seek 98 = .ok (.aload_n 0, 1) := by decide +kernel
theorem dX7_seek_99 : decode cX7_seek 99 = .ok (.aload_n 0, 1) := by decide +kernel
theorem dX7_seek_100 : decode cX7_seek 100 = .ok (.iload_n 1, 1) := by decide +kernel
theorem dX7_seek_101 : decode cX7_seek 101 = .ok (.invokevirtual 28, 3) := by decide +kernel
theorem dX7_seek_104 : decode cX7_seek 104 = .ok (.aload_n 0, 1) := by decide +kernel
theorem dX7_seek_105 : decode cX7_seek 105 = .ok (.iload_n 2, 1) := by decide +kernel
theorem dX7_seek_106 : decode cX7_seek 106 = .ok (.invokevirtual 28, 3) := by decide +kernel
theorem dX7_seek_109 : decode cX7_seek 109 = .ok (.iload 7, 2) := by decide +kernel
theorem dX7_seek_111 : decode cX7_seek 111 = .ok (.ldc2_w 37, 3) := by decide +kernel
theorem dX7_seek_114 : decode cX7_seek 114 = .ok (.lload 4, 2) := by decide +kernel
theorem dX7_seek_116 : decode cX7_seek 116 = .ok (.lmul, 1) := by decide +kernel
theorem dX7_seek_117 : decode cX7_seek 117 = .ok (.lconst 1, 1) := by decide +kernel
theorem dX7_seek_118 : decode cX7_seek 118 = .ok (.ladd, 1) := by decide +kernel
theorem dX7_seek_119 : decode cX7_seek 119 = .ok (.iload 6, 2) := by decide +kernel
theorem dX7_seek_121 : decode cX7_seek 121 = .ok (.iconst 1, 1) := by decide +kernel
theorem dX7_seek_122 : decode cX7_seek 122 = .ok (.iadd, 1) := by decide +kernel
theorem dX7_seek_123 : decode cX7_seek 123 = .ok (.invokestatic 31, 3) := by decide +kernel
theorem dX7_seek_126 : decode cX7_seek 126 = .ok (.lstore 10, 2) := by decide +kernel
theorem dX7_seek_128 : decode cX7_seek 128 = .ok (.lload 8, 2) := by decide +kernel
theorem dX7_seek_130 : decode cX7_seek 130 = .ok (.ldc2_w 35, 3) := by decide +kernel
theorem dX7_seek_133 : decode cX7_seek 133 = .ok (.lcmp, 1) := by decide +kernel
theorem dX7_seek_134 : decode cX7_seek 134 = .ok (.ifCond .ne 25, 3) := by decide +kernel
theorem dX7_seek_137 : decode cX7_seek 137 = .ok (.lload 10, 2) := by decide +kernel
theorem dX7_seek_139 : decode cX7_seek 139 = .ok (.ldc2_w 35, 3) := by decide +kernel
theorem dX7_seek_142 : decode cX7_seek 142 = .ok (.lcmp, 1) := by decide +kernel
theorem dX7_seek_143 : decode cX7_seek 143 = .ok (.ifCond .ne 9, 3) := by decide +kernel
theorem dX7_seek_146 : decode cX7_seek 146 = .ok (.ldc2_w 35, 3) := by decide +kernel
theorem dX7_seek_149 : decode cX7_seek 149 = .ok (.goto 9, 3) := by decide +kernel
theorem dX7_seek_152 : decode cX7_seek 152 = .ok (.ldc2_w 37, 3) := by decide +kernel
theorem dX7_seek_155 : decode cX7_seek 155 = .ok (.lload 4, 2) := by decide +kernel
theorem dX7_seek_157 : decode cX7_seek 157 = .ok (.lmul, 1) := by decide +kernel
theorem dX7_seek_158 : decode cX7_seek 158 = .ok (.lreturn, 1) := by decide +kernel
theorem dX7_seek_159 : decode cX7_seek 159 = .ok (.lload 10, 2) := by decide +kernel
theorem dX7_seek_161 : decode cX7_seek 161 = .ok (.ldc2_w 35, 3) := by decide +kernel
theorem dX7_seek_164 : decode cX7_seek 164 = .ok (.lcmp, 1) := by decide +kernel
theorem dX7_seek_165 : decode cX7_seek 165 = .ok (.ifCond .ne 14, 3) := by decide +kernel
theorem dX7_seek_168 : decode cX7_seek 168 = .ok (.ldc2_w 37, 3) := by decide +kernel
theorem dX7_seek_171 : decode cX7_seek 171 = .ok (.lload 4, 2) := by decide +kernel
theorem dX7_seek_173 : decode cX7_seek 173 = .ok (.lmul, 1) := by decide +kernel
theorem dX7_seek_174 : decode cX7_seek 174 = .ok (.lconst 1, 1) := by decide +kernel
theorem dX7_seek_175 : decode cX7_seek 175 = .ok (.ladd, 1) := by decide +kernel
theorem dX7_seek_176 : decode cX7_seek 176 = .ok (.goto 5, 3) := by decide +kernel
theorem dX7_seek_179 : decode cX7_seek 179 = .ok (.lload 10, 2) := by decide +kernel
theorem dX7_seek_181 : decode cX7_seek 181 = .ok (.lreturn, 1) := by decide +kernel
def cd_68 : dm_Code := [[dm_ild 1 3, dm_ald 2 0, dm_ild 3 1, dm_inv 6 75 1 6, dm_no, dm_no, dm_ii 7 (fun x y => x + y), dm_ald 8 0, dm_ild 9 2, dm_inv 12 75 1 6, dm_no, dm_no, dm_ii 13 (fun x y => x - y), dm_ist 15 7, dm_no, dm_ald 16 0],
  [dm_ild 17 1, dm_inv 20 77 1 6, dm_no, dm_no, dm_if_eq 23 31, dm_no, dm_no, dm_ald 24 0, dm_ild 25 2, dm_inv 28 77 1 6, dm_no, dm_no, dm_if_ne 31 38, dm_no, dm_no, dm_ild 33 6],
  [dm_no, dm_push 35 (.int 60), dm_no, dm_ic_lt 38 51, dm_no, dm_no, dm_ild 40 7, dm_no, dm_if_le 43 49, dm_no, dm_no, dm_push 46 (.long (-1)), dm_no, dm_no, dm_goto 50, dm_no],
  [dm_no, dm_push 50 (.long 0), dm_lret, dm_ald 52 0, dm_ald 53 0, dm_ild 54 1, dm_inv 57 79 1 6, dm_no, dm_no, dm_ald 58 0, dm_ild 59 2, dm_inv 62 79 1 6, dm_no, dm_no, dm_ild 64 7, dm_no],
  [dm_push 67 (.long 2), dm_no, dm_no, dm_lld 69 4, dm_no, dm_ll 70 (fun x y => x * y), dm_ild 72 6, dm_no, dm_push 73 (.int 1), dm_ii 74 (fun x y => x + y), dm_ins 77 68 6, dm_no, dm_no, dm_lst 79 8, dm_no, dm_lld 81 8],
  [dm_no, dm_push 84 (.long (-1)), dm_no, dm_no, dm_lc 85, dm_if_eq 88 98, dm_no, dm_no, dm_lld 90 8, dm_no, dm_push 91 (.long 0), dm_lc 92, dm_if_eq 95 98, dm_no, dm_no, dm_lld 97 8],
  [dm_no, dm_lret, dm_ald 99 0, dm_ald 100 0, dm_ild 101 1, dm_inv 104 80 1 6, dm_no, dm_no, dm_ald 105 0, dm_ild 106 2, dm_inv 109 80 1 6, dm_no, dm_no, dm_ild 111 7, dm_no, dm_push 114 (.long 2)],
  [dm_no, dm_no, dm_lld 116 4, dm_no, dm_ll 117 (fun x y => x * y), dm_push 118 (.long 1), dm_ll 119 (fun x y => x + y), dm_ild 121 6, dm_no, dm_push 122 (.int 1), dm_ii 123 (fun x y => x + y), dm_ins 126 68 6, dm_no, dm_no, dm_lst 128 10, dm_no],
  [dm_lld 130 8, dm_no, dm_push 133 (.long (-1)), dm_no, dm_no, dm_lc 134, dm_if_ne 137 159, dm_no, dm_no, dm_lld 139 10, dm_no, dm_push 142 (.long (-1)), dm_no, dm_no, dm_lc 143, dm_if_ne 146 152],
  [dm_no, dm_no, dm_push 149 (.long (-1)), dm_no, dm_no, dm_goto 158, dm_no, dm_no, dm_push 155 (.long 2), dm_no, dm_no, dm_lld 157 4, dm_no, dm_ll 158 (fun x y => x * y), dm_lret, dm_lld 161 10],
  [dm_no, dm_push 164 (.long (-1)), dm_no, dm_no, dm_lc 165, dm_if_ne 168 179, dm_no, dm_no, dm_push 171 (.long 2), dm_no, dm_no, dm_lld 173 4, dm_no, dm_ll 174 (fun x y => x * y), dm_push 175 (.long 1), dm_ll 176 (fun x y => x + y)],
  [dm_goto 181, dm_no, dm_no, dm_lld 181 10, dm_no, dm_lret]]
theorem tr_68_0 : dm_AllR (dm_Good dm_tb RX7 cX7_seek 12 (some .long) false none) 0 [dm_ild 1 3, dm_ald 2 0, dm_ild 3 1, dm_inv 6 75 1 6, dm_no, dm_no, dm_ii 7 (fun x y => x + y), dm_ald 8 0, dm_ild 9 2, dm_inv 12 75 1 6, dm_no, dm_no, dm_ii 13 (fun x y => x - y), dm_ist 15 7, dm_no, dm_ald 16 0] := dr_c (dg_iload_n (k := 3) rfl dX7_seek_0) <| dr_c (dg_aload_n (k := 0) rfl dX7_seek_1) <| dr_c (dg_iload_n (k := 1) rfl dX7_seek_2) <| dr_c (dg_inv dX7_seek_3 mo_75 rfl rfl wd_560 wd_381 wd_382 pd_75) <| dr_c (dg_no) <| dr_c (dg_no) <| dr_c (dg_iadd dX7_seek_6) <| dr_c (dg_aload_n (k := 0) rfl dX7_seek_7) <| dr_c (dg_iload_n (k := 2) rfl dX7_seek_8) <| dr_c (dg_inv dX7_seek_9 mo_75 rfl rfl wd_560 wd_381 wd_382 pd_75) <| dr_c (dg_no) <| dr_c (dg_no) <| dr_c (dg_isub dX7_seek_12) <| dr_c (dg_istore (by decide) dX7_seek_13) <| dr_c (dg_no) <| dr_c (dg_aload_n (k := 0) rfl dX7_seek_15) <| dr_n
theorem tr_68_1 : dm_AllR (dm_Good dm_tb RX7 cX7_seek 12 (some .long) false none) 16 [dm_ild 17 1, dm_inv 20 77 1 6, dm_no, dm_no, dm_if_eq 23 31, dm_no, dm_no, dm_ald 24 0, dm_ild 25 2, dm_inv 28 77 1 6, dm_no, dm_no, dm_if_ne 31 38, dm_no, dm_no, dm_ild 33 6] := dr_c (dg_iload_n (k := 1) rfl dX7_seek_16) <| dr_c (dg_inv dX7_seek_17 mo_77 rfl rfl wd_561 wd_293 wd_294 pd_77) <| dr_c (dg_no) <| dr_c (dg_no) <| dr_c (dg_if_eq (by decide) dX7_seek_20) <| dr_c (dg_no) <| dr_c (dg_no) <| dr_c (dg_aload_n (k := 0) rfl dX7_seek_23) <| dr_c (dg_iload_n (k := 2) rfl dX7_seek_24) <| dr_c (dg_inv dX7_seek_25 mo_77 rfl rfl wd_561 wd_293 wd_294 pd_77) <| dr_c (dg_no) <| dr_c (dg_no) <| dr_c (dg_if_ne (by decide) dX7_seek_28) <| dr_c (dg_no) <| dr_c (dg_no) <| dr_c (dg_iload dX7_seek_31) <| dr_n
theorem tr_68_2 : dm_AllR (dm_Good dm_tb RX7 cX7_seek 12 (some .long) false none) 32 [dm_no, dm_push 35 (.int 60), dm_no, dm_ic_lt 38 51, dm_no, dm_no, dm_ild 40 7, dm_no, dm_if_le 43 49, dm_no, dm_no, dm_push 46 (.long (-1)), dm_no, dm_no, dm_goto 50, dm_no] := dr_c (dg_no) <| dr_c (dg_bipush (by decide) dX7_seek_33) <| dr_c (dg_no) <| dr_c (dg_ic_lt (by decide) dX7_seek_35) <| dr_c (dg_no) <| dr_c (dg_no) <| dr_c (dg_iload dX7_seek_38) <| dr_c (dg_no) <| dr_c (dg_if_le (by decide) dX7_seek_40) <| dr_c (dg_no) <| dr_c (dg_no) <| dr_c (dg_ldc2 wd_674 dX7_seek_43) <| dr_c (dg_no) <| dr_c (dg_no) <| dr_c (dg_goto (by decide) dX7_seek_46) <| dr_c (dg_no) <| dr_n
theorem tr_68_3 : dm_AllR (dm_Good dm_tb RX7 cX7_seek 12 (some .long) false none) 48 [dm_no, dm_push 50 (.long 0), dm_lret, dm_ald 52 0, dm_ald 53 0, dm_ild 54 1, dm_inv 57 79 1 6, dm_no, dm_no, dm_ald 58 0, dm_ild 59 2, dm_inv 62 79 1 6, dm_no, dm_no, dm_ild 64 7, dm_no] := dr_c (dg_no) <| dr_c (dg_lconst (by decide) dX7_seek_49) <| dr_c (dg_lret dX7_seek_50) <| dr_c (dg_aload_n (k := 0) rfl dX7_seek_51) <| dr_c (dg_aload_n (k := 0) rfl dX7_seek_52) <| dr_c (dg_iload_n (k := 1) rfl dX7_seek_53) <| dr_c (dg_inv dX7_seek_54 mo_79 rfl rfl wd_562 wd_393 wd_394 pd_79) <| dr_c (dg_no) <| dr_c (dg_no) <| dr_c (dg_aload_n (k := 0) rfl dX7_seek_57) <| dr_c (dg_iload_n (k := 2) rfl dX7_seek_58) <| dr_c (dg_inv dX7_seek_59 mo_79 rfl rfl wd_562 wd_393 wd_394 pd_79) <| dr_c (dg_no) <| dr_c (dg_no) <| dr_c (dg_iload dX7_seek_62) <| dr_c (dg_no) <| dr_n
theorem tr_68_4 : dm_AllR (dm_Good dm_tb RX7 cX7_seek 12 (some .long) false none) 64 [dm_push 67 (.long 2), dm_no, dm_no, dm_lld 69 4, dm_no, dm_ll 70 (fun x y => x * y), dm_ild 72 6, dm_no, dm_push 73 (.int 1), dm_ii 74 (fun x y => x + y), dm_ins 77 68 6, dm_no, dm_no, dm_lst 79 8, dm_no, dm_lld 81 8] := dr_c (dg_ldc2 wd_675 dX7_seek_64) <| dr_c (dg_no) <| dr_c (dg_no) <| dr_c (dg_lload dX7_seek_67) <| dr_c (dg_no) <| dr_c (dg_lmul dX7_seek_69) <| dr_c (dg_iload dX7_seek_70) <| dr_c (dg_no) <| dr_c (dg_iconst (by decide) dX7_seek_72) <| dr_c (dg_iadd dX7_seek_73) <| dr_c (dg_ins dX7_seek_74 mo_68 wd_671 wd_672 pd_68) <| dr_c (dg_no) <| dr_c (dg_no) <| dr_c (dg_lstore (by decide) dX7_seek_77) <| dr_c (dg_no) <| dr_c (dg_lload dX7_seek_79) <| dr_n
theorem tr_68_5 : dm_AllR (dm_Good dm_tb RX7 cX7_seek 12 (some .long) false none) 80 [dm_no, dm_push 84 (.long (-1)), dm_no, dm_no, dm_lc 85, dm_if_eq 88 98, dm_no, dm_no, dm_lld 90 8, dm_no, dm_push 91 (.long 0), dm_lc 92, dm_if_eq 95 98, dm_no, dm_no, dm_lld 97 8] := dr_c (dg_no) <| dr_c (dg_ldc2 wd_674 dX7_seek_81) <| dr_c (dg_no) <| dr_c (dg_no) <| dr_c (dg_lcmp dX7_seek_84) <| dr_c (dg_if_eq (by decide) dX7_seek_85) <| dr_c (dg_no) <| dr_c (dg_no) <| dr_c (dg_lload dX7_seek_88) <| dr_c (dg_no) <| dr_c (dg_lconst (by decide) dX7_seek_90) <| dr_c (dg_lcmp dX7_seek_91) <| dr_c (dg_if_eq (by decide) dX7_seek_92) <| dr_c (dg_no) <| dr_c (dg_no) <| dr_c (dg_lload dX7_seek_95) <| dr_n
theorem tr_68_6 : dm_AllR (dm_Good dm_tb RX7 cX7_seek 12 (some .long) false none) 96 [dm_no, dm_lret, dm_ald 99 0, dm_ald 100 0, dm_ild 101 1, dm_inv 104 80 1 6, dm_no, dm_no, dm_ald 105 0, dm_ild 106 2, dm_inv 109 80 1 6, dm_no, dm_no, dm_ild 111 7, dm_no, dm_push 114 (.long 2)] := dr_c (dg_no) <| dr_c (dg_lret dX7_seek_97) <| dr_c (dg_aload_n (k := 0) rfl dX7_seek_98) <| dr_c (dg_aload_n (k := 0) rfl dX7_seek_99) <| dr_c (dg_iload_n (k := 1) rfl dX7_seek_100) <| dr_c (dg_inv dX7_seek_101 mo_80 rfl rfl wd_563 wd_398 wd_399 pd_80) <| dr_c (dg_no) <| dr_c (dg_no) <| dr_c (dg_aload_n (k := 0) rfl dX7_seek_104) <| dr_c (dg_iload_n (k := 2) rfl dX7_seek_105) <| dr_c (dg_inv dX7_seek_106 mo_80 rfl rfl wd_563 wd_398 wd_399 pd_80) <| dr_c (dg_no) <| dr_c (dg_no) <| dr_c (dg_iload dX7_seek_109) <| dr_c (dg_no) <| dr_c (dg_ldc2 wd_675 dX7_seek_111) <| dr_n
theorem tr_68_7 : dm_AllR (dm_Good dm_tb RX7 cX7_seek 12 (some .long) false none) 112 [dm_no, dm_no, dm_lld 116 4, dm_no, dm_ll 117 (fun x y => x * y), dm_push 118 (.long 1), dm_ll 119 (fun x y => x + y), dm_ild 121 6, dm_no, dm_push 122 (.int 1), dm_ii 123 (fun x y => x + y), dm_ins 126 68 6, dm_no, dm_no, dm_lst 128 10, dm_no] := dr_c (dg_no) <| dr_c (dg_no) <| dr_c (dg_lload dX7_seek_114) <| dr_c (dg_no) <| dr_c (dg_lmul dX7_seek_116) <| dr_c (dg_lconst (by decide) dX7_seek_117) <| dr_c (dg_ladd dX7_seek_118) <| dr_c (dg_iload dX7_seek_119) <| dr_c (dg_no) <| dr_c (dg_iconst (by decide) dX7_seek_121) <| dr_c (dg_iadd dX7_seek_122) <| dr_c (dg_ins dX7_seek_123 mo_68 wd_671 wd_672 pd_68) <| dr_c (dg_no) <| dr_c (dg_no) <| dr_c (dg_lstore (by decide) dX7_seek_126) <| dr_c (dg_no) <| dr_n
theorem tr_68_8 : dm_AllR (dm_Good dm_tb RX7 cX7_seek 12 (some .long) false none) 128 [dm_lld 130 8, dm_no, dm_push 133 (.long (-1)), dm_no, dm_no, dm_lc 134, dm_if_ne 137 159, dm_no, dm_no, dm_lld 139 10, dm_no, dm_push 142 (.long (-1)), dm_no, dm_no, dm_lc 143, dm_if_ne 146 152] := dr_c (dg_lload dX7_seek_128) <| dr_c (dg_no) <| dr_c (dg_ldc2 wd_674 dX7_seek_130) <| dr_c (dg_no) <| dr_c (dg_no) <| dr_c (dg_lcmp dX7_seek_133) <| dr_c (dg_if_ne (by decide) dX7_seek_134) <| dr_c (dg_no) <| dr_c (dg_no) <| dr_c (dg_lload dX7_seek_137) <| dr_c (dg_no) <| dr_c (dg_ldc2 wd_674 dX7_seek_139) <| dr_c (dg_no) <| dr_c (dg_no) <| dr_c (dg_lcmp dX7_seek_142) <| dr_c (dg_if_ne (by decide) dX7_seek_143) <| dr_n
theorem tr_68_9 : dm_AllR (dm_Good dm_tb RX7 cX7_seek 12 (some .long) false none) 144 [dm_no, dm_no, dm_push 149 (.long (-1)), dm_no, dm_no, dm_goto 158, dm_no, dm_no, dm_push 155 (.long 2), dm_no, dm_no, dm_lld 157 4, dm_no, dm_ll 158 (fun x y => x * y), dm_lret, dm_lld 161 10] := dr_c (dg_no) <| dr_c (dg_no) <| dr_c (dg_ldc2 wd_674 dX7_seek_146) <| dr_c (dg_no) <| dr_c (dg_no) <| dr_c (dg_goto (by decide) dX7_seek_149) <| dr_c (dg_no) <| dr_c (dg_no) <| dr_c (dg_ldc2 wd_675 dX7_seek_152) <| dr_c (dg_no) <| dr_c (dg_no) <| dr_c (dg_lload dX7_seek_155) <| dr_c (dg_no) <| dr_c (dg_lmul dX7_seek_157) <| dr_c (dg_lret dX7_seek_158) <| dr_c (dg_lload dX7_seek_159) <| dr_n
theorem tr_68_10 : dm_AllR (dm_Good dm_tb RX7 cX7_seek 12 (some .long) false none) 160 [dm_no, dm_push 164 (.long (-1)), dm_no, dm_no, dm_lc 165, dm_if_ne 168 179, dm_no, dm_no, dm_push 171 (.long 2), dm_no, dm_no, dm_lld 173 4, dm_no, dm_ll 174 (fun x y => x * y), dm_push 175 (.long 1), dm_ll 176 (fun x y => x + y)] := dr_c (dg_no) <| dr_c (dg_ldc2 wd_674 dX7_seek_161) <| dr_c (dg_no) <| dr_c (dg_no) <| dr_c (dg_lcmp dX7_seek_164) <| dr_c (dg_if_ne (by decide) dX7_seek_165) <| dr_c (dg_no) <| dr_c (dg_no) <| dr_c (dg_ldc2 wd_675 dX7_seek_168) <| dr_c (dg_no) <| dr_c (dg_no) <| dr_c (dg_lload dX7_seek_171) <| dr_c (dg_no) <| dr_c (dg_lmul dX7_seek_173) <| dr_c (dg_lconst (by decide) dX7_seek_174) <| dr_c (dg_ladd dX7_seek_175) <| dr_n
theorem tr_68_11 : dm_AllR (dm_Good dm_tb RX7 cX7_seek 12 (some .long) false none) 176 [dm_goto 181, dm_no, dm_no, dm_lld 181 10, dm_no, dm_lret] := dr_c (dg_goto (by decide) dX7_seek_176) <| dr_c (dg_no) <| dr_c (dg_no) <| dr_c (dg_lload dX7_seek_179) <| dr_c (dg_no) <| dr_c (dg_lret dX7_seek_181) <| dr_n
theorem tk_68 : dm_AllC (dm_Good dm_tb RX7 cX7_seek 12 (some .long) false none) 0 cd_68 := dc_c (by decide) tr_68_0 <| dc_c (by decide) tr_68_1 <| dc_c (by decide) tr_68_2 <| dc_c (by decide) tr_68_3 <| dc_c (by decide) tr_68_4 <| dc_c (by decide) tr_68_5 <| dc_c (by decide) tr_68_6 <| dc_c (by decide) tr_68_7 <| dc_c (by decide) tr_68_8 <| dc_c (by decide) tr_68_9 <| dc_c (by decide) tr_68_10 <| dc_c (by decide) tr_68_11 <| dc_n
theorem dX7_overlap_0 : decode cX7_overlap 0 = .ok (.aload_n 0, 1) := by decide +kernel
theorem dX7_overlap_1 : decode cX7_overlap 1 = .ok (.iload_n 1, 1) := by decide +kernel
theorem dX7_overlap_2 : decode cX7_overlap 2 = .ok (.iload_n 2, 1) := by decide +kernel
theorem dX7_overlap_3 : decode cX7_overlap 3 = .ok (.iconst 0, 1) := by decide +kernel
theorem dX7_overlap_4 : decode cX7_overlap 4 = .ok (.invokestatic 39, 3) := by decide +kernel
theorem dX7_overlap_7 : decode cX7_overlap 7 = .ok (.ireturn, 1) := by decide +kernel
def cd_69 : dm_Code := [[dm_ald 1 0, dm_ild 2 1, dm_ild 3 2, dm_push 4 (.int 0), dm_ins 7 70 4, dm_no, dm_no, dm_ret .boolean]]
theorem tr_69_0 : dm_AllR (dm_Good dm_tb RX7 cX7_overlap 3 (some .boolean) false none) 0 [dm_ald 1 0, dm_ild 2 1, dm_ild 3 2, dm_push 4 (.int 0), dm_ins 7 70 4, dm_no, dm_no, dm_ret .boolean] := dr_c (dg_aload_n (k := 0) rfl dX7_overlap_0) <| dr_c (dg_iload_n (k := 1) rfl dX7_overlap_1) <| dr_c (dg_iload_n (k := 2) rfl dX7_overlap_2) <| dr_c (dg_iconst (by decide) dX7_overlap_3) <| dr_c (dg_ins dX7_overlap_4 mo_70 wd_616 wd_617 pd_70) <| dr_c (dg_no) <| dr_c (dg_no) <| dr_c (dg_ret dX7_overlap_7) <| dr_n
theorem tk_69 : dm_AllC (dm_Good dm_tb RX7 cX7_overlap 3 (some .boolean) false none) 0 cd_69 := dc_c (by decide) tr_69_0 <| dc_n
theorem dX7_overlapFrom_0 : decode cX7_overlapFrom 0 = .ok (.aload_n 0, 1) := by decide +kernel
theorem dX7_overlapFrom_1 : decode cX7_overlapFrom 1 = .ok (.iload_n 1, 1) := by decide +kernel
theorem dX7_overlapFrom_2 : decode cX7_overlapFrom 2 = .ok (.iconst 0, 1) := by decide +kernel
theorem dX7_overlapFrom_3 : decode cX7_overlapFrom 3 = .ok (.invokevirtual 43, 3) := by decide +kernel
theorem dX7_overlapFrom_6 : decode cX7_overlapFrom 6 = .ok (.ifCond .ne 12, 3) := by decide +kernel
theorem dX7_overlapFrom_9 : decode cX7_overlapFrom 9 = .ok (.aload_n 0, 1) := by decide +kernel
theorem dX7_overlapFrom_10 : decode cX7_overlapFrom 10 = .ok (.iload_n 2, 1) := by decide +kernel
theorem dX7_overlapFrom_11 : decode cX7_overlapFrom 11 = .ok (.iconst 0, 1) := by decide +kernel
theorem dX7_overlapFrom_12 : decode cX7_overlapFrom 12 = .ok (.invokevirtual 43, 3) := by decide +kernel
theorem dX7_overlapFrom_15 : decode cX7_overlapFrom 15 = .ok (.ifCond .eq 5, 3) := by decide +kernel
theorem dX7_overlapFrom_18 : decode cX7_overlapFrom 18 = .ok (.iconst 0, 1) := by decide +kernel
theorem dX7_overlapFrom_19 : decode cX7_overlapFrom 19 = .ok (.ireturn, 1) := by decide +kernel
theorem dX7_overlapFrom_20 : decode cX7_overlapFrom 20 = .ok (.aload_n 0, 1) := by decide +kernel
theorem dX7_overlapFrom_21 : decode cX7_overlapFrom 21 = .ok (.iload_n 1, 1) := by decide +kernel
theorem dX7_overlapFrom_22 : decode cX7_overlapFrom 22 = .ok (.invokevirtual 21, 3) := by decide +kernel
theorem dX7_overlapFrom_25 : decode cX7_overlapFrom 25 = .ok (.ifCond .ne 17, 3) := by decide +kernel
theorem dX7_overlapFrom_28 : decode cX7_overlapFrom 28 = .ok (.aload_n 0, 1) := by decide +kernel
theorem dX7_overlapFrom_29 : decode cX7_overlapFrom 29 = .ok (.iload_n 2, 1) := by decide +kernel
theorem dX7_overlapFrom_30 : decode cX7_overlapFrom 30 = .ok (.invokevirtual 21, 3) := by decide +kernel
theorem dX7_overlapFrom_33 : decode cX7_overlapFrom 33 = .ok (.ifCond .ne 9, 3) := by decide +kernel
theorem dX7_overlapFrom_36 : decode cX7_overlapFrom 36 = .ok (.iload_n 3, 1) := by decide +kernel
theorem dX7_overlapFrom_37 : decode cX7_overlapFrom 37 = .ok (.bipush 60, 2) := by decide +kernel
theorem dX7_overlapFrom_39 : decode cX7_overlapFrom 39 = .ok (.if_icmp .lt 5, 3) := by decide +kernel
theorem dX7_overlapFrom_42 : decode cX7_overlapFrom 42 = .ok (.iconst 1, 1) := by decide +kernel
theorem dX7_overlapFrom_43 : decode cX7_overlapFrom 43 = .ok (.ireturn, 1) := by decide +kernel
theorem dX7_overlapFrom_44 : decode cX7_overlapFrom 44 = .ok (.aload_n 0, 1) := by decide +kernel
theorem dX7_overlapFrom_45 : decode cX7_overlapFrom 45 = .ok (.aload_n 0, 1) := by decide +kernel
theorem dX7_overlapFrom_46 : decode cX7_overlapFrom 46 = .ok (.iload_n 1, 1) := by decide +kernel
theorem dX7_overlapFrom_47 : decode cX7_overlapFrom 47 = .ok (.invokevirtual 25, 3) := by decide +kernel
theorem dX7_overlapFrom_50 : decode cX7_overlapFrom 50 = .ok (.aload_n 0, 1) := by decide +kernel
theorem dX7_overlapFrom_51 : decode cX7_overlapFrom 51 = .ok (.iload_n 2, 1) := by decide +kernel
theorem dX7_overlapFrom_52 : decode cX7_overlapFrom 52 = .ok (.invokevirtual 25, 3) := by decide +kernel
theorem dX7_overlapFrom_55 : decode cX7_overlapFrom 55 = .ok (.iload_n 3, 1) := by decide +kernel
theorem dX7_overlapFrom_56 : decode cX7_overlapFrom 56 = .ok (.iconst 1, 1) := by decide +kernel
theorem dX7_overlapFrom_57 : decode cX7_overlapFrom 57 = .ok (.iadd, 1) := by decide +kernel
theorem dX7_overlapFrom_58 : decode cX7_overlapFrom 58 = .ok (.invokestatic 39, 3) := by decide +kernel
theorem dX7_overlapFrom_61 : decode cX7_overlapFrom 61 = .ok (.ifCond .ne 23, 3) := by decide +kernel
theorem dX7_overlapFrom_64 : decode cX7_overlapFrom 64 = .ok (.aload_n 0, 1) := by decide +kernel
theorem dX7_overlapFrom_65 : decode cX7_overlapFrom 65 = .ok (.aload_n 0, 1) := by decide +kernel
theorem dX7_overlapFrom_66 : decode cX7_overlapFrom 66 = .ok (.iload_n 1, 1) := by decide +kernel
theorem dX7_overlapFrom_67 : decode cX7_overlapFrom 67 = .ok (.invokevirtual 28, 3) := by decide +kernel
theorem dX7_overlapFrom_70 : decode cX7_overlapFrom 70 = .ok (.aload_n 0, 1) := by decide +kernel
theorem dX7_overlapFrom_71 : decode cX7_overlapFrom 71 = .ok (.iload_n 2, 1) := by decide +kernel
theorem dX7_overlapFrom_72 : decode cX7_overlapFrom 72 = .ok (.invokevirtual 28, 3) := by decide +kernel
theorem dX7_overlapFrom_75 : decode cX7_overlapFrom 75 = .ok (.iload_n 3, 1) := by decide +kernel
theorem dX7_overlapFrom_76 : decode cX7_overlapFrom 76 = .ok (.iconst 1, 1) := by decide +kernel
theorem dX7_overlapFrom_77 : decode cX7_overlapFrom 77 = .ok (.iadd, 1) := by decide +kernel
theorem dX7_overlapFrom_78 : decode cX7_overlapFrom 78 = .ok (.invokestatic 39, 3) := by decide +kernel
theorem dX7_overlapFrom_81 : decode cX7_overlapFrom 81 = .ok (.ifCond .eq 7, 3) := by decide +kernel
theorem dX7_overlapFrom_84 : decode cX7_overlapFrom 84 = .ok (.iconst 1, 1) := by decide +kernel
theorem dX7_overlapFrom_85 : decode cX7_overlapFrom 85 = .ok (.goto 4, 3) := by decide +kernel
theorem dX7_overlapFrom_88 : decode cX7_overlapFrom 88 = .ok (.iconst 0, 1) := by decide +kernel
theorem dX7_overlapFrom_89 : decode cX7_overlapFrom 89 = .ok (.ireturn, 1) := by decide +kernel
def cd_70 : dm_Code := [[dm_ald 1 0, dm_ild 2 1, dm_push 3 (.int 0), dm_inv 6 78 2 6, dm_no, dm_no, dm_if_ne 9 18, dm_no, dm_no, dm_ald 10 0, dm_ild 11 2, dm_push 12 (.int 0), dm_inv 15 78 2 6, dm_no, dm_no, dm_if_eq 18 20],
  [dm_no, dm_no, dm_push 19 (.int 0), dm_ret .boolean, dm_ald 21 0, dm_ild 22 1, dm_inv 25 77 1 6, dm_no, dm_no, dm_if_ne 28 42, dm_no, dm_no, dm_ald 29 0, dm_ild 30 2, dm_inv 33 77 1 6, dm_no],
  [dm_no, dm_if_ne 36 42, dm_no, dm_no, dm_ild 37 3, dm_push 39 (.int 60), dm_no, dm_ic_lt 42 44, dm_no, dm_no, dm_push 43 (.int 1), dm_ret .boolean, dm_ald 45 0, dm_ald 46 0, dm_ild 47 1, dm_inv 50 79 1 6],
  [dm_no, dm_no, dm_ald 51 0, dm_ild 52 2, dm_inv 55 79 1 6, dm_no, dm_no, dm_ild 56 3, dm_push 57 (.int 1), dm_ii 58 (fun x y => x + y), dm_ins 61 70 4, dm_no, dm_no, dm_if_ne 64 84, dm_no, dm_no],
  [dm_ald 65 0, dm_ald 66 0, dm_ild 67 1, dm_inv 70 80 1 6, dm_no, dm_no, dm_ald 71 0, dm_ild 72 2, dm_inv 75 80 1 6, dm_no, dm_no, dm_ild 76 3, dm_push 77 (.int 1), dm_ii 78 (fun x y => x + y), dm_ins 81 70 4, dm_no],
  [dm_no, dm_if_eq 84 88, dm_no, dm_no, dm_push 85 (.int 1), dm_goto 89, dm_no, dm_no, dm_push 89 (.int 0), dm_ret .boolean]]
theorem tr_70_0 : dm_AllR (dm_Good dm_tb RX7 cX7_overlapFrom 4 (some .boolean) false none) 0 [dm_ald 1 0, dm_ild 2 1, dm_push 3 (.int 0), dm_inv 6 78 2 6, dm_no, dm_no, dm_if_ne 9 18, dm_no, dm_no, dm_ald 10 0, dm_ild 11 2, dm_push 12 (.int 0), dm_inv 15 78 2 6, dm_no, dm_no, dm_if_eq 18 20] := dr_c (dg_aload_n (k := 0) rfl dX7_overlapFrom_0) <| dr_c (dg_iload_n (k := 1) rfl dX7_overlapFrom_1) <| dr_c (dg_iconst (by decide) dX7_overlapFrom_2) <| dr_c (dg_inv dX7_overlapFrom_3 mo_78 rfl rfl wd_619 wd_377 wd_378 pd_78) <| dr_c (dg_no) <| dr_c (dg_no) <| dr_c (dg_if_ne (by decide) dX7_overlapFrom_6) <| dr_c (dg_no) <| dr_c (dg_no) <| dr_c (dg_aload_n (k := 0) rfl dX7_overlapFrom_9) <| dr_c (dg_iload_n (k := 2) rfl dX7_overlapFrom_10) <| dr_c (dg_iconst (by decide) dX7_overlapFrom_11) <| dr_c (dg_inv dX7_overlapFrom_12 mo_78 rfl rfl wd_619 wd_377 wd_378 pd_78) <| dr_c (dg_no) <| dr_c (dg_no) <| dr_c (dg_if_eq (by decide) dX7_overlapFrom_15) <| dr_n
theorem tr_70_1 : dm_AllR (dm_Good dm_tb RX7 cX7_overlapFrom 4 (some .boolean) false none) 16 [dm_no, dm_no, dm_push 19 (.int 0), dm_ret .boolean, dm_ald 21 0, dm_ild 22 1, dm_inv 25 77 1 6, dm_no, dm_no, dm_if_ne 28 42, dm_no, dm_no, dm_ald 29 0, dm_ild 30 2, dm_inv 33 77 1 6, dm_no] := dr_c (dg_no) <| dr_c (dg_no) <| dr_c (dg_iconst (by decide) dX7_overlapFrom_18) <| dr_c (dg_ret dX7_overlapFrom_19) <| dr_c (dg_aload_n (k := 0) rfl dX7_overlapFrom_20) <| dr_c (dg_iload_n (k := 1) rfl dX7_overlapFrom_21) <| dr_c (dg_inv dX7_overlapFrom_22 mo_77 rfl rfl wd_561 wd_293 wd_294 pd_77) <| dr_c (dg_no) <| dr_c (dg_no) <| dr_c (dg_if_ne (by decide) dX7_overlapFrom_25) <| dr_c (dg_no) <| dr_c (dg_no) <| dr_c (dg_aload_n (k := 0) rfl dX7_overlapFrom_28) <| dr_c (dg_iload_n (k := 2) rfl dX7_overlapFrom_29) <| dr_c (dg_inv dX7_overlapFrom_30 mo_77 rfl rfl wd_561 wd_293 wd_294 pd_77) <| dr_c (dg_no) <| dr_n
theorem tr_70_2 : dm_AllR (dm_Good dm_tb RX7 cX7_overlapFrom 4 (some .boolean) false none) 32 [dm_no, dm_if_ne 36 42, dm_no, dm_no, dm_ild 37 3, dm_push 39 (.int 60), dm_no, dm_ic_lt 42 44, dm_no, dm_no, dm_push 43 (.int 1), dm_ret .boolean, dm_ald 45 0, dm_ald 46 0, dm_ild 47 1, dm_inv 50 79 1 6] := dr_c (dg_no) <| dr_c (dg_if_ne (by decide) dX7_overlapFrom_33) <| dr_c (dg_no) <| dr_c (dg_no) <| dr_c (dg_iload_n (k := 3) rfl dX7_overlapFrom_36) <| dr_c (dg_bipush (by decide) dX7_overlapFrom_37) <| dr_c (dg_no) <| dr_c (dg_ic_lt (by decide) dX7_overlapFrom_39) <| dr_c (dg_no) <| dr_c (dg_no) <| dr_c (dg_iconst (by decide) dX7_overlapFrom_42) <| dr_c (dg_ret dX7_overlapFrom_43) <| dr_c (dg_aload_n (k := 0) rfl dX7_overlapFrom_44) <| dr_c (dg_aload_n (k := 0) rfl dX7_overlapFrom_45) <| dr_c (dg_iload_n (k := 1) rfl dX7_overlapFrom_46) <| dr_c (dg_inv dX7_overlapFrom_47 mo_79 rfl rfl wd_562 wd_393 wd_394 pd_79) <| dr_n
theorem tr_70_3 : dm_AllR (dm_Good dm_tb RX7 cX7_overlapFrom 4 (some .boolean) false none) 48 [dm_no, dm_no, dm_ald 51 0, dm_ild 52 2, dm_inv 55 79 1 6, dm_no, dm_no, dm_ild 56 3, dm_push 57 (.int 1), dm_ii 58 (fun x y => x + y), dm_ins 61 70 4, dm_no, dm_no, dm_if_ne 64 84, dm_no, dm_no] := dr_c (dg_no) <| dr_c (dg_no) <| dr_c (dg_aload_n (k := 0) rfl dX7_overlapFrom_50) <| dr_c (dg_iload_n (k := 2) rfl dX7_overlapFrom_51) <| dr_c (dg_inv dX7_overlapFrom_52 mo_79 rfl rfl wd_562 wd_393 wd_394 pd_79) <| dr_c (dg_no) <| dr_c (dg_no) <| dr_c (dg_iload_n (k := 3) rfl dX7_overlapFrom_55) <| dr_c (dg_iconst (by decide) dX7_overlapFrom_56) <| dr_c (dg_iadd dX7_overlapFrom_57) <| dr_c (dg_ins dX7_overlapFrom_58 mo_70 wd_616 wd_617 pd_70) <| dr_c (dg_no) <| dr_c (dg_no) <| dr_c (dg_if_ne (by decide) dX7_overlapFrom_61) <| dr_c (dg_no) <| dr_c (dg_no) <| dr_n
theorem tr_70_4 : dm_AllR (dm_Good dm_tb RX7 cX7_overlapFrom 4 (some .boolean) false none) 64 [dm_ald 65 0, dm_ald 66 0, dm_ild 67 1, dm_inv 70 80 1 6, dm_no, dm_no, dm_ald 71 0, dm_ild 72 2, dm_inv 75 80 1 6, dm_no, dm_no, dm_ild 76 3, dm_push 77 (.int 1), dm_ii 78 (fun x y => x + y), dm_ins 81 70 4, dm_no] := dr_c (dg_aload_n (k := 0) rfl dX7_overlapFrom_64) <| dr_c (dg_aload_n (k := 0) rfl dX7_overlapFrom_65) <| dr_c (dg_iload_n (k := 1) rfl dX7_overlapFrom_66) <| dr_c (dg_inv dX7_overlapFrom_67 mo_80 rfl rfl wd_563 wd_398 wd_399 pd_80) <| dr_c (dg_no) <| dr_c (dg_no) <| dr_c (dg_aload_n (k := 0) rfl dX7_overlapFrom_70) <| dr_c (dg_iload_n (k := 2) rfl dX7_overlapFrom_71) <| dr_c (dg_inv dX7_overlapFrom_72 mo_80 rfl rfl wd_563 wd_398 wd_399 pd_80) <| dr_c (dg_no) <| dr_c (dg_no) <| dr_c (dg_iload_n (k := 3) rfl dX7_overlapFrom_75) <| dr_c (dg_iconst (by decide) dX7_overlapFrom_76) <| dr_c (dg_iadd dX7_overlapFrom_77) <| dr_c (dg_ins dX7_overlapFrom_78 mo_70 wd_616 wd_617 pd_70) <| dr_c (dg_no) <| dr_n
theorem tr_70_5 : dm_AllR (dm_Good dm_tb RX7 cX7_overlapFrom 4 (some .boolean) false none) 80 [dm_no, dm_if_eq 84 88, dm_no, dm_no, dm_push 85 (.int 1), dm_goto 89, dm_no, dm_no, dm_push 89 (.int 0), dm_ret .boolean] := dr_c (dg_no) <| dr_c (dg_if_eq (by decide) dX7_overlapFrom_81) <| dr_c (dg_no) <| dr_c (dg_no) <| dr_c (dg_iconst (by decide) dX7_overlapFrom_84) <| dr_c (dg_goto (by decide) dX7_overlapFrom_85) <| dr_c (dg_no) <| dr_c (dg_no) <| dr_c (dg_iconst (by decide) dX7_overlapFrom_88) <| dr_c (dg_ret dX7_overlapFrom_89) <| dr_n
theorem tk_70 : dm_AllC (dm_Good dm_tb RX7 cX7_overlapFrom 4 (some .boolean) false none) 0 cd_70 := dc_c (by decide) tr_70_0 <| dc_c (by decide) tr_70_1 <| dc_c (by decide) tr_70_2 <| dc_c (by decide) tr_70_3 <| dc_c (by decide) tr_70_4 <| dc_c (by decide) tr_70_5 <| dc_n
theorem dX8_init_0 : decode cX8_init 0 = .ok (.aload_n 0, 1) := by decide +kernel
theorem dX8_init_1 : decode cX8_init 1 = .ok (.invokespecial 3, 3) := by decide +kernel
theorem dX8_init_4 : decode cX8_init 4 = .ok (.aload_n 0, 1) := by decide +kernel
theorem dX8_init_5 : decode cX8_init 5 = .ok (.new 9, 3) := by decide +kernel
theorem dX8_init_8 : decode cX8_init 8 = .ok (.dup, 1) := by decide +kernel
theorem dX8_init_9 : decode cX8_init 9 = .ok (.ldc 13, 2) := by decide +kernel
theorem dX8_init_11 : decode cX8_init 11 = .ok (.invokespecial 14, 3) := by decide +kernel
theorem dX8_init_14 : decode cX8_init 14 = .ok (.putfield 17, 3) := by decide +kernel
theorem dX8_init_17 : decode cX8_init 17 = .ok (.aload_n 0, 1) := by decide +kernel
theorem dX8_init_18 : decode cX8_init 18 = .ok (.new 9, 3) := by decide +kernel
theorem dX8_init_21 : decode cX8_init 21 = .ok (.dup, 1) := by decide +kernel
theorem dX8_init_22 : decode cX8_init 22 = .ok (.ldc 13, 2) := by decide +kernel
theorem dX8_init_24 : decode cX8_init 24 = .ok (.invokespecial 14, 3) := by decide +kernel
theorem dX8_init_27 : decode cX8_init 27 = .ok (.putfield 21, 3) := by decide +kernel
theorem dX8_init_30 : decode cX8_init 30 = .ok (.return_, 1) := by decide +kernel
def cd_71 : dm_Code := [[dm_ald 1 0, dm_oin 4, dm_no, dm_no, dm_ald 5 0, dm_new 8 3 nf_X4, dm_no, dm_no, dm_dup 9, dm_push 11 (.int 41000), dm_no, dm_ini 14 44 1, dm_no, dm_no, dm_putf 17 6 0 (.object "SplitClocks$Numbers"), dm_no],
  [dm_no, dm_ald 18 0, dm_new 21 3 nf_X4, dm_no, dm_no, dm_dup 22, dm_push 24 (.int 41000), dm_no, dm_ini 27 44 1, dm_no, dm_no, dm_putf 30 6 1 (.object "SplitClocks$Numbers"), dm_no, dm_no, dm_vret]]
theorem tr_71_0 : dm_AllR (dm_Good dm_tb RX8 cX8_init 1 none true none) 0 [dm_ald 1 0, dm_oin 4, dm_no, dm_no, dm_ald 5 0, dm_new 8 3 nf_X4, dm_no, dm_no, dm_dup 9, dm_push 11 (.int 41000), dm_no, dm_ini 14 44 1, dm_no, dm_no, dm_putf 17 6 0 (.object "SplitClocks$Numbers"), dm_no] := dr_c (dg_aload_n (k := 0) rfl dX8_init_0) <| dr_c (dg_oin dX8_init_1 wd_99 wd_86 wd_87) <| dr_c (dg_no) <| dr_c (dg_no) <| dr_c (dg_aload_n (k := 0) rfl dX8_init_4) <| dr_c (dg_new (T := TX4) (C := RX4) (N := 2) (ty := tyX4) dX8_init_5 rfl iw_X4 tyX4_ok wd_100 wd_101 wd_63 rfl nv_X4 nz_X4) <| dr_c (dg_no) <| dr_c (dg_no) <| dr_c (dg_dup dX8_init_8) <| dr_c (dg_ldc wd_102 dX8_init_9) <| dr_c (dg_no) <| dr_c (dg_ini dX8_init_11 mo_44 rfl rfl wd_103 wd_104 pd_44) <| dr_c (dg_no) <| dr_c (dg_no) <| dr_c (dg_putF (T := TX8) (C := RX8) (N := 3) dX8_init_14 rfl (by decide) iw_X8 tyX8_ok nmX8 wd_118 rfl rfl rfl) <| dr_c (dg_no) <| dr_n
theorem tr_71_1 : dm_AllR (dm_Good dm_tb RX8 cX8_init 1 none true none) 16 [dm_no, dm_ald 18 0, dm_new 21 3 nf_X4, dm_no, dm_no, dm_dup 22, dm_push 24 (.int 41000), dm_no, dm_ini 27 44 1, dm_no, dm_no, dm_putf 30 6 1 (.object "SplitClocks$Numbers"), dm_no, dm_no, dm_vret] := dr_c (dg_no) <| dr_c (dg_aload_n (k := 0) rfl dX8_init_17) <| dr_c (dg_new (T := TX4) (C := RX4) (N := 2) (ty := tyX4) dX8_init_18 rfl iw_X4 tyX4_ok wd_100 wd_101 wd_63 rfl nv_X4 nz_X4) <| dr_c (dg_no) <| dr_c (dg_no) <| dr_c (dg_dup dX8_init_21) <| dr_c (dg_ldc wd_102 dX8_init_22) <| dr_c (dg_no) <| dr_c (dg_ini dX8_init_24 mo_44 rfl rfl wd_103 wd_104 pd_44) <| dr_c (dg_no) <| dr_c (dg_no) <| dr_c (dg_putF (T := TX8) (C := RX8) (N := 3) dX8_init_27 rfl (by decide) iw_X8 tyX8_ok nmX8 wd_119 rfl rfl rfl) <| dr_c (dg_no) <| dr_c (dg_no) <| dr_c (dg_vret dX8_init_30) <| dr_n
theorem tk_71 : dm_AllC (dm_Good dm_tb RX8 cX8_init 1 none true none) 0 cd_71 := dc_c (by decide) tr_71_0 <| dc_c (by decide) tr_71_1 <| dc_n
theorem dX8_clear_0 : decode cX8_clear 0 = .ok (.aload_n 0, 1) := by decide +kernel
theorem dX8_clear_1 : decode cX8_clear 1 = .ok (.iconst 0, 1) := by decide +kernel
theorem dX8_clear_2 : decode cX8_clear 2 = .ok (.putfield 24, 3) := by decide +kernel
theorem dX8_clear_5 : decode cX8_clear 5 = .ok (.aload_n 0, 1) := by decide +kernel
theorem dX8_clear_6 : decode cX8_clear 6 = .ok (.iconst 0, 1) := by decide +kernel
theorem dX8_clear_7 : decode cX8_clear 7 = .ok (.invokevirtual 28, 3) := by decide +kernel
theorem dX8_clear_10 : decode cX8_clear 10 = .ok (.pop, 1) := by decide +kernel
theorem dX8_clear_11 : decode cX8_clear 11 = .ok (.aload_n 0, 1) := by decide +kernel
theorem dX8_clear_12 : decode cX8_clear 12 = .ok (.iconst 1, 1) := by decide +kernel
theorem dX8_clear_13 : decode cX8_clear 13 = .ok (.invokevirtual 28, 3) := by decide +kernel
theorem dX8_clear_16 : decode cX8_clear 16 = .ok (.pop, 1) := by decide +kernel
theorem dX8_clear_17 : decode cX8_clear 17 = .ok (.return_, 1) := by decide +kernel
def cd_72 : dm_Code := [[dm_ald 1 0, dm_push 2 (.int 0), dm_putf 5 6 2 .int, dm_no, dm_no, dm_ald 6 0, dm_push 7 (.int 0), dm_inv 10 81 1 6, dm_no, dm_no, dm_pop 11, dm_ald 12 0, dm_push 13 (.int 1), dm_inv 16 81 1 6, dm_no, dm_no],
  [dm_pop 17, dm_vret]]
theorem tr_72_0 : dm_AllR (dm_Good dm_tb RX8 cX8_clear 1 none false none) 0 [dm_ald 1 0, dm_push 2 (.int 0), dm_putf 5 6 2 .int, dm_no, dm_no, dm_ald 6 0, dm_push 7 (.int 0), dm_inv 10 81 1 6, dm_no, dm_no, dm_pop 11, dm_ald 12 0, dm_push 13 (.int 1), dm_inv 16 81 1 6, dm_no, dm_no] := dr_c (dg_aload_n (k := 0) rfl dX8_clear_0) <| dr_c (dg_iconst (by decide) dX8_clear_1) <| dr_c (dg_putf (T := TX8) (C := RX8) (N := 3) dX8_clear_2 rfl (by decide) iw_X8 tyX8_ok nmX8 wd_120 rfl rfl) <| dr_c (dg_no) <| dr_c (dg_no) <| dr_c (dg_aload_n (k := 0) rfl dX8_clear_5) <| dr_c (dg_iconst (by decide) dX8_clear_6) <| dr_c (dg_inv dX8_clear_7 mo_81 rfl rfl wd_247 wd_248 wd_249 pd_81) <| dr_c (dg_no) <| dr_c (dg_no) <| dr_c (dg_pop dX8_clear_10) <| dr_c (dg_aload_n (k := 0) rfl dX8_clear_11) <| dr_c (dg_iconst (by decide) dX8_clear_12) <| dr_c (dg_inv dX8_clear_13 mo_81 rfl rfl wd_247 wd_248 wd_249 pd_81) <| dr_c (dg_no) <| dr_c (dg_no) <| dr_n
theorem tr_72_1 : dm_AllR (dm_Good dm_tb RX8 cX8_clear 1 none false none) 16 [dm_pop 17, dm_vret] := dr_c (dg_pop dX8_clear_16) <| dr_c (dg_vret dX8_clear_17) <| dr_n
theorem tk_72 : dm_AllC (dm_Good dm_tb RX8 cX8_clear 1 none false none) 0 cd_72 := dc_c (by decide) tr_72_0 <| dc_c (by decide) tr_72_1 <| dc_n
theorem dX8_top_0 : decode cX8_top 0 = .ok (.aload_n 0, 1) := by decide +kernel
theorem dX8_top_1 : decode cX8_top 1 = .ok (.getfield 24, 3) := by decide +kernel
theorem dX8_top_4 : decode cX8_top 4 = .ok (.ireturn, 1) := by decide +kernel
def cd_73 : dm_Code := [[dm_ald 1 0, dm_getf 4 6 2, dm_no, dm_no, dm_ret .int]]
theorem tr_73_0 : dm_AllR (dm_Good dm_tb RX8 cX8_top 1 (some .int) false none) 0 [dm_ald 1 0, dm_getf 4 6 2, dm_no, dm_no, dm_ret .int] := dr_c (dg_aload_n (k := 0) rfl dX8_top_0) <| dr_c (dg_getf (T := TX8) (C := RX8) (N := 3) dX8_top_1 rfl (by decide) iw_X8 wd_120) <| dr_c (dg_no) <| dr_c (dg_no) <| dr_c (dg_ret dX8_top_4) <| dr_n
theorem tk_73 : dm_AllC (dm_Good dm_tb RX8 cX8_top 1 (some .int) false none) 0 cd_73 := dc_c (by decide) tr_73_0 <| dc_n
theorem dX8_cut_0 : decode cX8_cut 0 = .ok (.aload_n 0, 1) := by decide +kernel
theorem dX8_cut_1 : decode cX8_cut 1 = .ok (.iload_n 1, 1) := by decide +kernel
theorem dX8_cut_2 : decode cX8_cut 2 = .ok (.putfield 24, 3) := by decide +kernel
theorem dX8_cut_5 : decode cX8_cut 5 = .ok (.return_, 1) := by decide +kernel
def cd_74 : dm_Code := [[dm_ald 1 0, dm_ild 2 1, dm_putf 5 6 2 .int, dm_no, dm_no, dm_vret]]
theorem tr_74_0 : dm_AllR (dm_Good dm_tb RX8 cX8_cut 2 none false none) 0 [dm_ald 1 0, dm_ild 2 1, dm_putf 5 6 2 .int, dm_no, dm_no, dm_vret] := dr_c (dg_aload_n (k := 0) rfl dX8_cut_0) <| dr_c (dg_iload_n (k := 1) rfl dX8_cut_1) <| dr_c (dg_putf (T := TX8) (C := RX8) (N := 3) dX8_cut_2 rfl (by decide) iw_X8 tyX8_ok nmX8 wd_120 rfl rfl) <| dr_c (dg_no) <| dr_c (dg_no) <| dr_c (dg_vret dX8_cut_5) <| dr_n
theorem tk_74 : dm_AllC (dm_Good dm_tb RX8 cX8_cut 2 none false none) 0 cd_74 := dc_c (by decide) tr_74_0 <| dc_n
theorem dX8_numberOf_0 : decode cX8_numberOf 0 = .ok (.aload_n 0, 1) := by decide +kernel
theorem dX8_numberOf_1 : decode cX8_numberOf 1 = .ok (.getfield 17, 3) := by decide +kernel
theorem dX8_numberOf_4 : decode cX8_numberOf 4 = .ok (.iload_n 1, 1) := by decide +kernel
theorem dX8_numberOf_5 : decode cX8_numberOf 5 = .ok (.invokevirtual 32, 3) := by decide +kernel
theorem dX8_numberOf_8 : decode cX8_numberOf 8 = .ok (.ireturn, 1) := by decide +kernel
def cd_75 : dm_Code := [[dm_ald 1 0, dm_getf 4 6 0, dm_no, dm_no, dm_ild 5 1, dm_inv 8 45 1 3, dm_no, dm_no, dm_ret .int]]
theorem tr_75_0 : dm_AllR (dm_Good dm_tb RX8 cX8_numberOf 2 (some .int) false none) 0 [dm_ald 1 0, dm_getf 4 6 0, dm_no, dm_no, dm_ild 5 1, dm_inv 8 45 1 3, dm_no, dm_no, dm_ret .int] := dr_c (dg_aload_n (k := 0) rfl dX8_numberOf_0) <| dr_c (dg_getf (T := TX8) (C := RX8) (N := 3) dX8_numberOf_1 rfl (by decide) iw_X8 wd_118) <| dr_c (dg_no) <| dr_c (dg_no) <| dr_c (dg_iload_n (k := 1) rfl dX8_numberOf_4) <| dr_c (dg_inv dX8_numberOf_5 mo_45 rfl rfl wd_296 wd_285 wd_286 pd_45) <| dr_c (dg_no) <| dr_c (dg_no) <| dr_c (dg_ret dX8_numberOf_8) <| dr_n
theorem tk_75 : dm_AllC (dm_Good dm_tb RX8 cX8_numberOf 2 (some .int) false none) 0 cd_75 := dc_c (by decide) tr_75_0 <| dc_n
theorem dX8_setNumber_0 : decode cX8_setNumber 0 = .ok (.aload_n 0, 1) := by decide +kernel
theorem dX8_setNumber_1 : decode cX8_setNumber 1 = .ok (.getfield 17, 3) := by decide +kernel
theorem dX8_setNumber_4 : decode cX8_setNumber 4 = .ok (.iload_n 1, 1) := by decide +kernel
theorem dX8_setNumber_5 : decode cX8_setNumber 5 = .ok (.iload_n 2, 1) := by decide +kernel
theorem dX8_setNumber_6 : decode cX8_setNumber 6 = .ok (.invokevirtual 35, 3) := by decide +kernel
theorem dX8_setNumber_9 : decode cX8_setNumber 9 = .ok (.return_, 1) := by decide +kernel
def cd_76 : dm_Code := [[dm_ald 1 0, dm_getf 4 6 0, dm_no, dm_no, dm_ild 5 1, dm_ild 6 2, dm_inv 9 46 2 3, dm_no, dm_no, dm_vret]]
theorem tr_76_0 : dm_AllR (dm_Good dm_tb RX8 cX8_setNumber 3 none false none) 0 [dm_ald 1 0, dm_getf 4 6 0, dm_no, dm_no, dm_ild 5 1, dm_ild 6 2, dm_inv 9 46 2 3, dm_no, dm_no, dm_vret] := dr_c (dg_aload_n (k := 0) rfl dX8_setNumber_0) <| dr_c (dg_getf (T := TX8) (C := RX8) (N := 3) dX8_setNumber_1 rfl (by decide) iw_X8 wd_118) <| dr_c (dg_no) <| dr_c (dg_no) <| dr_c (dg_iload_n (k := 1) rfl dX8_setNumber_4) <| dr_c (dg_iload_n (k := 2) rfl dX8_setNumber_5) <| dr_c (dg_inv dX8_setNumber_6 mo_46 rfl rfl wd_251 wd_252 wd_253 pd_46) <| dr_c (dg_no) <| dr_c (dg_no) <| dr_c (dg_vret dX8_setNumber_9) <| dr_n
theorem tk_76 : dm_AllC (dm_Good dm_tb RX8 cX8_setNumber 3 none false none) 0 cd_76 := dc_c (by decide) tr_76_0 <| dc_n
theorem dX8_isNumber_0 : decode cX8_isNumber 0 = .ok (.aload_n 0, 1) := by decide +kernel
theorem dX8_isNumber_1 : decode cX8_isNumber 1 = .ok (.getfield 21, 3) := by decide +kernel
theorem dX8_isNumber_4 : decode cX8_isNumber 4 = .ok (.iload_n 1, 1) := by decide +kernel
theorem dX8_isNumber_5 : decode cX8_isNumber 5 = .ok (.invokevirtual 32, 3) := by decide +kernel
theorem dX8_isNumber_8 : decode cX8_isNumber 8 = .ok (.ifCond .ne 7, 3) := by decide +kernel
theorem dX8_isNumber_11 : decode cX8_isNumber 11 = .ok (.iconst 1, 1) := by decide +kernel
theorem dX8_isNumber_12 : decode cX8_isNumber 12 = .ok (.goto 4, 3) := by decide +kernel
theorem dX8_isNumber_15 : decode cX8_isNumber 15 = .ok (.iconst 0, 1) := by decide +kernel
theorem dX8_isNumber_16 : decode cX8_isNumber 16 = .ok (.ireturn, 1) := by decide +kernel
def cd_77 : dm_Code := [[dm_ald 1 0, dm_getf 4 6 1, dm_no, dm_no, dm_ild 5 1, dm_inv 8 45 1 3, dm_no, dm_no, dm_if_ne 11 15, dm_no, dm_no, dm_push 12 (.int 1), dm_goto 16, dm_no, dm_no, dm_push 16 (.int 0)],
  [dm_ret .boolean]]
theorem tr_77_0 : dm_AllR (dm_Good dm_tb RX8 cX8_isNumber 2 (some .boolean) false none) 0 [dm_ald 1 0, dm_getf 4 6 1, dm_no, dm_no, dm_ild 5 1, dm_inv 8 45 1 3, dm_no, dm_no, dm_if_ne 11 15, dm_no, dm_no, dm_push 12 (.int 1), dm_goto 16, dm_no, dm_no, dm_push 16 (.int 0)] := dr_c (dg_aload_n (k := 0) rfl dX8_isNumber_0) <| dr_c (dg_getf (T := TX8) (C := RX8) (N := 3) dX8_isNumber_1 rfl (by decide) iw_X8 wd_119) <| dr_c (dg_no) <| dr_c (dg_no) <| dr_c (dg_iload_n (k := 1) rfl dX8_isNumber_4) <| dr_c (dg_inv dX8_isNumber_5 mo_45 rfl rfl wd_296 wd_285 wd_286 pd_45) <| dr_c (dg_no) <| dr_c (dg_no) <| dr_c (dg_if_ne (by decide) dX8_isNumber_8) <| dr_c (dg_no) <| dr_c (dg_no) <| dr_c (dg_iconst (by decide) dX8_isNumber_11) <| dr_c (dg_goto (by decide) dX8_isNumber_12) <| dr_c (dg_no) <| dr_c (dg_no) <| dr_c (dg_iconst (by decide) dX8_isNumber_15) <| dr_n
theorem tr_77_1 : dm_AllR (dm_Good dm_tb RX8 cX8_isNumber 2 (some .boolean) false none) 16 [dm_ret .boolean] := dr_c (dg_ret dX8_isNumber_16) <| dr_n
theorem tk_77 : dm_AllC (dm_Good dm_tb RX8 cX8_isNumber 2 (some .boolean) false none) 0 cd_77 := dc_c (by decide) tr_77_0 <| dc_c (by decide) tr_77_1 <| dc_n
theorem dX8_isJust_0 : decode cX8_isJust 0 = .ok (.aload_n 0, 1) := by decide +kernel
theorem dX8_isJust_1 : decode cX8_isJust 1 = .ok (.iload_n 1, 1) := by decide +kernel
theorem dX8_isJust_2 : decode cX8_isJust 2 = .ok (.invokevirtual 39, 3) := by decide +kernel
theorem dX8_isJust_5 : decode cX8_isJust 5 = .ok (.ifCond .eq 16, 3) := by decide +kernel
theorem dX8_isJust_8 : decode cX8_isJust 8 = .ok (.aload_n 0, 1) := by decide +kernel
theorem dX8_isJust_9 : decode cX8_isJust 9 = .ok (.iload_n 1, 1) := by decide +kernel
theorem dX8_isJust_10 : decode cX8_isJust 10 = .ok (.invokevirtual 43, 3) := by decide +kernel
theorem dX8_isJust_13 : decode cX8_isJust 13 = .ok (.iload_n 2, 1) := by decide +kernel
theorem dX8_isJust_14 : decode cX8_isJust 14 = .ok (.if_icmp .ne 7, 3) := by decide +kernel
theorem dX8_isJust_17 : decode cX8_isJust 17 = .ok (.iconst 1, 1) := by decide +kernel
theorem dX8_isJust_18 : decode cX8_isJust 18 = .ok (.goto 4, 3) := by decide +kernel
theorem dX8_isJust_21 : decode cX8_isJust 21 = .ok (.iconst 0, 1) := by decide +kernel
theorem dX8_isJust_22 : decode cX8_isJust 22 = .ok (.ireturn, 1) := by decide +kernel
def cd_78 : dm_Code := [[dm_ald 1 0, dm_ild 2 1, dm_inv 5 77 1 6, dm_no, dm_no, dm_if_eq 8 21, dm_no, dm_no, dm_ald 9 0, dm_ild 10 1, dm_inv 13 75 1 6, dm_no, dm_no, dm_ild 14 2, dm_ic_ne 17 21, dm_no],
  [dm_no, dm_push 18 (.int 1), dm_goto 22, dm_no, dm_no, dm_push 22 (.int 0), dm_ret .boolean]]
theorem tr_78_0 : dm_AllR (dm_Good dm_tb RX8 cX8_isJust 3 (some .boolean) false none) 0 [dm_ald 1 0, dm_ild 2 1, dm_inv 5 77 1 6, dm_no, dm_no, dm_if_eq 8 21, dm_no, dm_no, dm_ald 9 0, dm_ild 10 1, dm_inv 13 75 1 6, dm_no, dm_no, dm_ild 14 2, dm_ic_ne 17 21, dm_no] := dr_c (dg_aload_n (k := 0) rfl dX8_isJust_0) <| dr_c (dg_iload_n (k := 1) rfl dX8_isJust_1) <| dr_c (dg_inv dX8_isJust_2 mo_77 rfl rfl wd_292 wd_293 wd_294 pd_77) <| dr_c (dg_no) <| dr_c (dg_no) <| dr_c (dg_if_eq (by decide) dX8_isJust_5) <| dr_c (dg_no) <| dr_c (dg_no) <| dr_c (dg_aload_n (k := 0) rfl dX8_isJust_8) <| dr_c (dg_iload_n (k := 1) rfl dX8_isJust_9) <| dr_c (dg_inv dX8_isJust_10 mo_75 rfl rfl wd_380 wd_381 wd_382 pd_75) <| dr_c (dg_no) <| dr_c (dg_no) <| dr_c (dg_iload_n (k := 2) rfl dX8_isJust_13) <| dr_c (dg_ic_ne (by decide) dX8_isJust_14) <| dr_c (dg_no) <| dr_n
theorem tr_78_1 : dm_AllR (dm_Good dm_tb RX8 cX8_isJust 3 (some .boolean) false none) 16 [dm_no, dm_push 18 (.int 1), dm_goto 22, dm_no, dm_no, dm_push 22 (.int 0), dm_ret .boolean] := dr_c (dg_no) <| dr_c (dg_iconst (by decide) dX8_isJust_17) <| dr_c (dg_goto (by decide) dX8_isJust_18) <| dr_c (dg_no) <| dr_c (dg_no) <| dr_c (dg_iconst (by decide) dX8_isJust_21) <| dr_c (dg_ret dX8_isJust_22) <| dr_n
theorem tk_78 : dm_AllC (dm_Good dm_tb RX8 cX8_isJust 3 (some .boolean) false none) 0 cd_78 := dc_c (by decide) tr_78_0 <| dc_c (by decide) tr_78_1 <| dc_n
theorem dX8_leftOf_0 : decode cX8_leftOf 0 = .ok (.aload_n 0, 1) := by decide +kernel
theorem dX8_leftOf_1 : decode cX8_leftOf 1 = .ok (.getfield 21, 3) := by decide +kernel
theorem dX8_leftOf_4 : decode cX8_leftOf 4 = .ok (.iload_n 1, 1) := by decide +kernel
theorem dX8_leftOf_5 : decode cX8_leftOf 5 = .ok (.invokevirtual 32, 3) := by decide +kernel
theorem dX8_leftOf_8 : decode cX8_leftOf 8 = .ok (.ifCond .ne 7, 3) := by decide +kernel
theorem dX8_leftOf_11 : decode cX8_leftOf 11 = .ok (.iconst 0, 1) := by decide +kernel
theorem dX8_leftOf_12 : decode cX8_leftOf 12 = .ok (.goto 6, 3) := by decide +kernel
theorem dX8_leftOf_15 : decode cX8_leftOf 15 = .ok (.iload_n 1, 1) := by decide +kernel
theorem dX8_leftOf_16 : decode cX8_leftOf 16 = .ok (.iconst 1, 1) := by decide +kernel
theorem dX8_leftOf_17 : decode cX8_leftOf 17 = .ok (.iadd, 1) := by decide +kernel
theorem dX8_leftOf_18 : decode cX8_leftOf 18 = .ok (.ireturn, 1) := by decide +kernel
def cd_79 : dm_Code := [[dm_ald 1 0, dm_getf 4 6 1, dm_no, dm_no, dm_ild 5 1, dm_inv 8 45 1 3, dm_no, dm_no, dm_if_ne 11 15, dm_no, dm_no, dm_push 12 (.int 0), dm_goto 18, dm_no, dm_no, dm_ild 16 1],
  [dm_push 17 (.int 1), dm_ii 18 (fun x y => x + y), dm_ret .int]]
theorem tr_79_0 : dm_AllR (dm_Good dm_tb RX8 cX8_leftOf 2 (some .int) false none) 0 [dm_ald 1 0, dm_getf 4 6 1, dm_no, dm_no, dm_ild 5 1, dm_inv 8 45 1 3, dm_no, dm_no, dm_if_ne 11 15, dm_no, dm_no, dm_push 12 (.int 0), dm_goto 18, dm_no, dm_no, dm_ild 16 1] := dr_c (dg_aload_n (k := 0) rfl dX8_leftOf_0) <| dr_c (dg_getf (T := TX8) (C := RX8) (N := 3) dX8_leftOf_1 rfl (by decide) iw_X8 wd_119) <| dr_c (dg_no) <| dr_c (dg_no) <| dr_c (dg_iload_n (k := 1) rfl dX8_leftOf_4) <| dr_c (dg_inv dX8_leftOf_5 mo_45 rfl rfl wd_296 wd_285 wd_286 pd_45) <| dr_c (dg_no) <| dr_c (dg_no) <| dr_c (dg_if_ne (by decide) dX8_leftOf_8) <| dr_c (dg_no) <| dr_c (dg_no) <| dr_c (dg_iconst (by decide) dX8_leftOf_11) <| dr_c (dg_goto (by decide) dX8_leftOf_12) <| dr_c (dg_no) <| dr_c (dg_no) <| dr_c (dg_iload_n (k := 1) rfl dX8_leftOf_15) <| dr_n
theorem tr_79_1 : dm_AllR (dm_Good dm_tb RX8 cX8_leftOf 2 (some .int) false none) 16 [dm_push 17 (.int 1), dm_ii 18 (fun x y => x + y), dm_ret .int] := dr_c (dg_iconst (by decide) dX8_leftOf_16) <| dr_c (dg_iadd dX8_leftOf_17) <| dr_c (dg_ret dX8_leftOf_18) <| dr_n
theorem tk_79 : dm_AllC (dm_Good dm_tb RX8 cX8_leftOf 2 (some .int) false none) 0 cd_79 := dc_c (by decide) tr_79_0 <| dc_c (by decide) tr_79_1 <| dc_n
theorem dX8_rightOf_0 : decode cX8_rightOf 0 = .ok (.aload_n 0, 1) := by decide +kernel
theorem dX8_rightOf_1 : decode cX8_rightOf 1 = .ok (.getfield 21, 3) := by decide +kernel
theorem dX8_rightOf_4 : decode cX8_rightOf 4 = .ok (.iload_n 1, 1) := by decide +kernel
theorem dX8_rightOf_5 : decode cX8_rightOf 5 = .ok (.invokevirtual 32, 3) := by decide +kernel
theorem dX8_rightOf_8 : decode cX8_rightOf 8 = .ok (.ifCond .ne 7, 3) := by decide +kernel
theorem dX8_rightOf_11 : decode cX8_rightOf 11 = .ok (.iconst 0, 1) := by decide +kernel
theorem dX8_rightOf_12 : decode cX8_rightOf 12 = .ok (.goto 11, 3) := by decide +kernel
theorem dX8_rightOf_15 : decode cX8_rightOf 15 = .ok (.aload_n 0, 1) := by decide +kernel
theorem dX8_rightOf_16 : decode cX8_rightOf 16 = .ok (.getfield 21, 3) := by decide +kernel
theorem dX8_rightOf_19 : decode cX8_rightOf 19 = .ok (.iload_n 1, 1) := by decide +kernel
theorem dX8_rightOf_20 : decode cX8_rightOf 20 = .ok (.invokevirtual 32, 3) := by decide +kernel
theorem dX8_rightOf_23 : decode cX8_rightOf 23 = .ok (.ireturn, 1) := by decide +kernel
def cd_80 : dm_Code := [[dm_ald 1 0, dm_getf 4 6 1, dm_no, dm_no, dm_ild 5 1, dm_inv 8 45 1 3, dm_no, dm_no, dm_if_ne 11 15, dm_no, dm_no, dm_push 12 (.int 0), dm_goto 23, dm_no, dm_no, dm_ald 16 0],
  [dm_getf 19 6 1, dm_no, dm_no, dm_ild 20 1, dm_inv 23 45 1 3, dm_no, dm_no, dm_ret .int]]
theorem tr_80_0 : dm_AllR (dm_Good dm_tb RX8 cX8_rightOf 2 (some .int) false none) 0 [dm_ald 1 0, dm_getf 4 6 1, dm_no, dm_no, dm_ild 5 1, dm_inv 8 45 1 3, dm_no, dm_no, dm_if_ne 11 15, dm_no, dm_no, dm_push 12 (.int 0), dm_goto 23, dm_no, dm_no, dm_ald 16 0] := dr_c (dg_aload_n (k := 0) rfl dX8_rightOf_0) <| dr_c (dg_getf (T := TX8) (C := RX8) (N := 3) dX8_rightOf_1 rfl (by decide) iw_X8 wd_119) <| dr_c (dg_no) <| dr_c (dg_no) <| dr_c (dg_iload_n (k := 1) rfl dX8_rightOf_4) <| dr_c (dg_inv dX8_rightOf_5 mo_45 rfl rfl wd_296 wd_285 wd_286 pd_45) <| dr_c (dg_no) <| dr_c (dg_no) <| dr_c (dg_if_ne (by decide) dX8_rightOf_8) <| dr_c (dg_no) <| dr_c (dg_no) <| dr_c (dg_iconst (by decide) dX8_rightOf_11) <| dr_c (dg_goto (by decide) dX8_rightOf_12) <| dr_c (dg_no) <| dr_c (dg_no) <| dr_c (dg_aload_n (k := 0) rfl dX8_rightOf_15) <| dr_n
theorem tr_80_1 : dm_AllR (dm_Good dm_tb RX8 cX8_rightOf 2 (some .int) false none) 16 [dm_getf 19 6 1, dm_no, dm_no, dm_ild 20 1, dm_inv 23 45 1 3, dm_no, dm_no, dm_ret .int] := dr_c (dg_getf (T := TX8) (C := RX8) (N := 3) dX8_rightOf_16 rfl (by decide) iw_X8 wd_119) <| dr_c (dg_no) <| dr_c (dg_no) <| dr_c (dg_iload_n (k := 1) rfl dX8_rightOf_19) <| dr_c (dg_inv dX8_rightOf_20 mo_45 rfl rfl wd_296 wd_285 wd_286 pd_45) <| dr_c (dg_no) <| dr_c (dg_no) <| dr_c (dg_ret dX8_rightOf_23) <| dr_n
theorem tk_80 : dm_AllC (dm_Good dm_tb RX8 cX8_rightOf 2 (some .int) false none) 0 cd_80 := dc_c (by decide) tr_80_0 <| dc_c (by decide) tr_80_1 <| dc_n
theorem dX8_grow_0 : decode cX8_grow 0 = .ok (.aload_n 0, 1) := by decide +kernel
theorem dX8_grow_1 : decode cX8_grow 1 = .ok (.getfield 17, 3) := by decide +kernel
theorem dX8_grow_4 : decode cX8_grow 4 = .ok (.aload_n 0, 1) := by decide +kernel
theorem dX8_grow_5 : decode cX8_grow 5 = .ok (.getfield 24, 3) := by decide +kernel
theorem dX8_grow_8 : decode cX8_grow 8 = .ok (.iload_n 1, 1) := by decide +kernel
theorem dX8_grow_9 : decode cX8_grow 9 = .ok (.invokevirtual 35, 3) := by decide +kernel
theorem dX8_grow_12 : decode cX8_grow 12 = .ok (.aload_n 0, 1) := by decide +kernel
theorem dX8_grow_13 : decode cX8_grow 13 = .ok (.getfield 21, 3) := by decide +kernel
theorem dX8_grow_16 : decode cX8_grow 16 = .ok (.aload_n 0, 1) := by decide +kernel
theorem dX8_grow_17 : decode cX8_grow 17 = .ok (.getfield 24, 3) := by decide +kernel
theorem dX8_grow_20 : decode cX8_grow 20 = .ok (.iconst 0, 1) := by decide +kernel
theorem dX8_grow_21 : decode cX8_grow 21 = .ok (.invokevirtual 35, 3) := by decide +kernel
theorem dX8_grow_24 : decode cX8_grow 24 = .ok (.aload_n 0, 1) := by decide +kernel
theorem dX8_grow_25 : decode cX8_grow 25 = .ok (.dup, 1) := by decide +kernel
theorem dX8_grow_26 : decode cX8_grow 26 = .ok (.getfield 24, 3) := by decide +kernel
theorem dX8_grow_29 : decode cX8_grow 29 = .ok (.iconst 1, 1) := by decide +kernel
theorem dX8_grow_30 : decode cX8_grow 30 = .ok (.iadd, 1) := by decide +kernel
theorem dX8_grow_31 : decode cX8_grow 31 = .ok (.putfield 24, 3) := by decide +kernel
theorem dX8_grow_34 : decode cX8_grow 34 = .ok (.aload_n 0, 1) := by decide +kernel
theorem dX8_grow_35 : decode cX8_grow 35 = .ok (.getfield 24, 3) := by decide +kernel
theorem dX8_grow_38 : decode cX8_grow 38 = .ok (.iconst 1, 1) := by decide +kernel
theorem dX8_grow_39 : decode cX8_grow 39 = .ok (.isub, 1) := by decide +kernel
theorem dX8_grow_40 : decode cX8_grow 40 = .ok (.ireturn, 1) := by decide +kernel
def cd_81 : dm_Code := [[dm_ald 1 0, dm_getf 4 6 0, dm_no, dm_no, dm_ald 5 0, dm_getf 8 6 2, dm_no, dm_no, dm_ild 9 1, dm_inv 12 46 2 3, dm_no, dm_no, dm_ald 13 0, dm_getf 16 6 1, dm_no, dm_no],
  [dm_ald 17 0, dm_getf 20 6 2, dm_no, dm_no, dm_push 21 (.int 0), dm_inv 24 46 2 3, dm_no, dm_no, dm_ald 25 0, dm_dup 26, dm_getf 29 6 2, dm_no, dm_no, dm_push 30 (.int 1), dm_ii 31 (fun x y => x + y), dm_putf 34 6 2 .int],
  [dm_no, dm_no, dm_ald 35 0, dm_getf 38 6 2, dm_no, dm_no, dm_push 39 (.int 1), dm_ii 40 (fun x y => x - y), dm_ret .int]]
theorem tr_81_0 : dm_AllR (dm_Good dm_tb RX8 cX8_grow 2 (some .int) false none) 0 [dm_ald 1 0, dm_getf 4 6 0, dm_no, dm_no, dm_ald 5 0, dm_getf 8 6 2, dm_no, dm_no, dm_ild 9 1, dm_inv 12 46 2 3, dm_no, dm_no, dm_ald 13 0, dm_getf 16 6 1, dm_no, dm_no] := dr_c (dg_aload_n (k := 0) rfl dX8_grow_0) <| dr_c (dg_getf (T := TX8) (C := RX8) (N := 3) dX8_grow_1 rfl (by decide) iw_X8 wd_118) <| dr_c (dg_no) <| dr_c (dg_no) <| dr_c (dg_aload_n (k := 0) rfl dX8_grow_4) <| dr_c (dg_getf (T := TX8) (C := RX8) (N := 3) dX8_grow_5 rfl (by decide) iw_X8 wd_120) <| dr_c (dg_no) <| dr_c (dg_no) <| dr_c (dg_iload_n (k := 1) rfl dX8_grow_8) <| dr_c (dg_inv dX8_grow_9 mo_46 rfl rfl wd_251 wd_252 wd_253 pd_46) <| dr_c (dg_no) <| dr_c (dg_no) <| dr_c (dg_aload_n (k := 0) rfl dX8_grow_12) <| dr_c (dg_getf (T := TX8) (C := RX8) (N := 3) dX8_grow_13 rfl (by decide) iw_X8 wd_119) <| dr_c (dg_no) <| dr_c (dg_no) <| dr_n
theorem tr_81_1 : dm_AllR (dm_Good dm_tb RX8 cX8_grow 2 (some .int) false none) 16 [dm_ald 17 0, dm_getf 20 6 2, dm_no, dm_no, dm_push 21 (.int 0), dm_inv 24 46 2 3, dm_no, dm_no, dm_ald 25 0, dm_dup 26, dm_getf 29 6 2, dm_no, dm_no, dm_push 30 (.int 1), dm_ii 31 (fun x y => x + y), dm_putf 34 6 2 .int] := dr_c (dg_aload_n (k := 0) rfl dX8_grow_16) <| dr_c (dg_getf (T := TX8) (C := RX8) (N := 3) dX8_grow_17 rfl (by decide) iw_X8 wd_120) <| dr_c (dg_no) <| dr_c (dg_no) <| dr_c (dg_iconst (by decide) dX8_grow_20) <| dr_c (dg_inv dX8_grow_21 mo_46 rfl rfl wd_251 wd_252 wd_253 pd_46) <| dr_c (dg_no) <| dr_c (dg_no) <| dr_c (dg_aload_n (k := 0) rfl dX8_grow_24) <| dr_c (dg_dup dX8_grow_25) <| dr_c (dg_getf (T := TX8) (C := RX8) (N := 3) dX8_grow_26 rfl (by decide) iw_X8 wd_120) <| dr_c (dg_no) <| dr_c (dg_no) <| dr_c (dg_iconst (by decide) dX8_grow_29) <| dr_c (dg_iadd dX8_grow_30) <| dr_c (dg_putf (T := TX8) (C := RX8) (N := 3) dX8_grow_31 rfl (by decide) iw_X8 tyX8_ok nmX8 wd_120 rfl rfl) <| dr_n
theorem tr_81_2 : dm_AllR (dm_Good dm_tb RX8 cX8_grow 2 (some .int) false none) 32 [dm_no, dm_no, dm_ald 35 0, dm_getf 38 6 2, dm_no, dm_no, dm_push 39 (.int 1), dm_ii 40 (fun x y => x - y), dm_ret .int] := dr_c (dg_no) <| dr_c (dg_no) <| dr_c (dg_aload_n (k := 0) rfl dX8_grow_34) <| dr_c (dg_getf (T := TX8) (C := RX8) (N := 3) dX8_grow_35 rfl (by decide) iw_X8 wd_120) <| dr_c (dg_no) <| dr_c (dg_no) <| dr_c (dg_iconst (by decide) dX8_grow_38) <| dr_c (dg_isub dX8_grow_39) <| dr_c (dg_ret dX8_grow_40) <| dr_n
theorem tk_81 : dm_AllC (dm_Good dm_tb RX8 cX8_grow 2 (some .int) false none) 0 cd_81 := dc_c (by decide) tr_81_0 <| dc_c (by decide) tr_81_1 <| dc_c (by decide) tr_81_2 <| dc_n
theorem dX8_turn_0 : decode cX8_turn 0 = .ok (.aload_n 0, 1) := by decide +kernel
theorem dX8_turn_1 : decode cX8_turn 1 = .ok (.getfield 21, 3) := by decide +kernel
theorem dX8_turn_4 : decode cX8_turn 4 = .ok (.iload_n 1, 1) := by decide +kernel
theorem dX8_turn_5 : decode cX8_turn 5 = .ok (.aload_n 0, 1) := by decide +kernel
theorem dX8_turn_6 : decode cX8_turn 6 = .ok (.getfield 24, 3) := by decide +kernel
theorem dX8_turn_9 : decode cX8_turn 9 = .ok (.invokevirtual 35, 3) := by decide +kernel
theorem dX8_turn_12 : decode cX8_turn 12 = .ok (.return_, 1) := by decide +kernel
def cd_82 : dm_Code := [[dm_ald 1 0, dm_getf 4 6 1, dm_no, dm_no, dm_ild 5 1, dm_ald 6 0, dm_getf 9 6 2, dm_no, dm_no, dm_inv 12 46 2 3, dm_no, dm_no, dm_vret]]
theorem tr_82_0 : dm_AllR (dm_Good dm_tb RX8 cX8_turn 2 none false none) 0 [dm_ald 1 0, dm_getf 4 6 1, dm_no, dm_no, dm_ild 5 1, dm_ald 6 0, dm_getf 9 6 2, dm_no, dm_no, dm_inv 12 46 2 3, dm_no, dm_no, dm_vret] := dr_c (dg_aload_n (k := 0) rfl dX8_turn_0) <| dr_c (dg_getf (T := TX8) (C := RX8) (N := 3) dX8_turn_1 rfl (by decide) iw_X8 wd_119) <| dr_c (dg_no) <| dr_c (dg_no) <| dr_c (dg_iload_n (k := 1) rfl dX8_turn_4) <| dr_c (dg_aload_n (k := 0) rfl dX8_turn_5) <| dr_c (dg_getf (T := TX8) (C := RX8) (N := 3) dX8_turn_6 rfl (by decide) iw_X8 wd_120) <| dr_c (dg_no) <| dr_c (dg_no) <| dr_c (dg_inv dX8_turn_9 mo_46 rfl rfl wd_251 wd_252 wd_253 pd_46) <| dr_c (dg_no) <| dr_c (dg_no) <| dr_c (dg_vret dX8_turn_12) <| dr_n
theorem tk_82 : dm_AllC (dm_Good dm_tb RX8 cX8_turn 2 none false none) 0 cd_82 := dc_c (by decide) tr_82_0 <| dc_n
theorem dX8_close_0 : decode cX8_close 0 = .ok (.aload_n 0, 1) := by decide +kernel
theorem dX8_close_1 : decode cX8_close 1 = .ok (.iload_n 1, 1) := by decide +kernel
theorem dX8_close_2 : decode cX8_close 2 = .ok (.invokevirtual 46, 3) := by decide +kernel
theorem dX8_close_5 : decode cX8_close 5 = .ok (.istore_n 2, 1) := by decide +kernel
theorem dX8_close_6 : decode cX8_close 6 = .ok (.aload_n 0, 1) := by decide +kernel
theorem dX8_close_7 : decode cX8_close 7 = .ok (.iload_n 1, 1) := by decide +kernel
theorem dX8_close_8 : decode cX8_close 8 = .ok (.invokevirtual 49, 3) := by decide +kernel
theorem dX8_close_11 : decode cX8_close 11 = .ok (.istore_n 3, 1) := by decide +kernel
theorem dX8_close_12 : decode cX8_close 12 = .ok (.aload_n 0, 1) := by decide +kernel
theorem dX8_close_13 : decode cX8_close 13 = .ok (.iload_n 2, 1) := by decide +kernel
theorem dX8_close_14 : decode cX8_close 14 = .ok (.invokevirtual 43, 3) := by decide +kernel
theorem dX8_close_17 : decode cX8_close 17 = .ok (.aload_n 0, 1) := by decide +kernel
theorem dX8_close_18 : decode cX8_close 18 = .ok (.iload_n 3, 1) := by decide +kernel
theorem dX8_close_19 : decode cX8_close 19 = .ok (.invokevirtual 43, 3) := by decide +kernel
theorem dX8_close_22 : decode cX8_close 22 = .ok (.invokestatic 52, 3) := by decide +kernel
theorem dX8_close_25 : decode cX8_close 25 = .ok (.istore 4, 2) := by decide +kernel
theorem dX8_close_27 : decode cX8_close 27 = .ok (.aload_n 0, 1) := by decide +kernel
theorem dX8_close_28 : decode cX8_close 28 = .ok (.getfield 17, 3) := by decide +kernel
theorem dX8_close_31 : decode cX8_close 31 = .ok (.iload_n 1, 1) := by decide +kernel
theorem dX8_close_32 : decode cX8_close 32 = .ok (.aload_n 0, 1) := by decide +kernel
theorem dX8_close_33 : decode cX8_close 33 = .ok (.iload_n 1, 1) := by decide +kernel
theorem dX8_close_34 : decode cX8_close 34 = .ok (.invokevirtual 43, 3) := by decide +kernel
theorem dX8_close_37 : decode cX8_close 37 = .ok (.iload 4, 2) := by decide +kernel
theorem dX8_close_39 : decode cX8_close 39 = .ok (.iadd, 1) := by decide +kernel
theorem dX8_close_40 : decode cX8_close 40 = .ok (.invokevirtual 35, 3) := by decide +kernel
theorem dX8_close_43 : decode cX8_close 43 = .ok (.aload_n 0, 1) := by decide +kernel
theorem dX8_close_44 : decode cX8_close 44 = .ok (.getfield 17, 3) := by decide +kernel
theorem dX8_close_47 : decode cX8_close 47 = .ok (.iload_n 2, 1) := by decide +kernel
theorem dX8_close_48 : decode cX8_close 48 = .ok (.aload_n 0, 1) := by decide +kernel
theorem dX8_close_49 : decode cX8_close 49 = .ok (.iload_n 2, 1) := by decide +kernel
theorem dX8_close_50 : decode cX8_close 50 = .ok (.invokevirtual 43, 3) := by decide +kernel
theorem dX8_close_53 : decode cX8_close 53 = .ok (.iload 4, 2) := by decide +kernel
theorem dX8_close_55 : decode cX8_close 55 = .ok (.isub, 1) := by decide +kernel
theorem dX8_close_56 : decode cX8_close 56 = .ok (.invokevirtual 35, 3) := by decide +kernel
theorem dX8_close_59 : decode cX8_close 59 = .ok (.aload_n 0, 1) := by decide +kernel
theorem dX8_close_60 : decode cX8_close 60 = .ok (.getfield 17, 3) := by decide +kernel
theorem dX8_close_63 : decode cX8_close 63 = .ok (.iload_n 3, 1) := by decide +kernel
theorem dX8_close_64 : decode cX8_close 64 = .ok (.aload_n 0, 1) := by decide +kernel
theorem dX8_close_65 : decode cX8_close 65 = .ok (.iload_n 3, 1) := by decide +kernel
theorem dX8_close_66 : decode cX8_close 66 = .ok (.invokevirtual 43, 3) := by decide +kernel
theorem dX8_close_69 : decode cX8_close 69 = .ok (.iload 4, 2) := by decide +kernel
theorem dX8_close_71 : decode cX8_close 71 = .ok (.isub, 1) := by decide +kernel
theorem dX8_close_72 : decode cX8_close 72 = .ok (.invokevirtual 35, 3) := by decide +kernel
theorem dX8_close_75 : decode cX8_close 75 = .ok (.aload_n 0, 1) := by decide +kernel
theorem dX8_close_76 : decode cX8_close 76 = .ok (.iload_n 2, 1) := by decide +kernel
theorem dX8_close_77 : decode cX8_close 77 = .ok (.iconst 0, 1) := by decide +kernel
theorem dX8_close_78 : decode cX8_close 78 = .ok (.invokevirtual 58, 3) := by decide +kernel
theorem dX8_close_81 : decode cX8_close 81 = .ok (.ifCond .eq 28, 3) := by decide +kernel
theorem dX8_close_84 : decode cX8_close 84 = .ok (.aload_n 0, 1) := by decide +kernel
theorem dX8_close_85 : decode cX8_close 85 = .ok (.iload_n 3, 1) := by decide +kernel
theorem dX8_close_86 : decode cX8_close 86 = .ok (.iconst 0, 1) := by decide +kernel
theorem dX8_close_87 : decode cX8_close 87 = .ok (.invokevirtual 58, 3) := by decide +kernel
theorem dX8_close_90 : decode cX8_close 90 = .ok (.ifCond .eq 19, 3) := by decide +kernel
theorem dX8_close_93 : decode cX8_close 93 = .ok (.aload_n 0, 1) := by decide +kernel
theorem dX8_close_94 : decode cX8_close 94 = .ok (.getfield 21, 3) := by decide +kernel
theorem dX8_close_97 : decode cX8_close 97 = .ok (.iload_n 1, 1) := by decide +kernel
theorem dX8_close_98 : decode cX8_close 98 = .ok (.iconst 0, 1) := by decide +kernel
theorem dX8_close_99 : decode cX8_close 99 = .ok (.invokevirtual 35, 3) := by decide +kernel
theorem dX8_close_102 : decode cX8_close 102 = .ok (.aload_n 0, 1) := by decide +kernel
theorem dX8_close_103 : decode cX8_close 103 = .ok (.iload_n 1, 1) := by decide +kernel
theorem dX8_close_104 : decode cX8_close 104 = .ok (.iconst 1, 1) := by decide +kernel
theorem dX8_close_105 : decode cX8_close 105 = .ok (.iadd, 1) := by decide +kernel
theorem dX8_close_106 : decode cX8_close 106 = .ok (.putfield 24, 3) := by decide +kernel
theorem dX8_close_109 : decode cX8_close 109 = .ok (.return_, 1) := by decide +kernel
def cd_83 : dm_Code := [[dm_ald 1 0, dm_ild 2 1, dm_inv 5 79 1 6, dm_no, dm_no, dm_ist 6 2, dm_ald 7 0, dm_ild 8 1, dm_inv 11 80 1 6, dm_no, dm_no, dm_ist 12 3, dm_ald 13 0, dm_ild 14 2, dm_inv 17 75 1 6, dm_no],
  [dm_no, dm_ald 18 0, dm_ild 19 3, dm_inv 22 75 1 6, dm_no, dm_no, dm_mn 25, dm_no, dm_no, dm_ist 27 4, dm_no, dm_ald 28 0, dm_getf 31 6 0, dm_no, dm_no, dm_ild 32 1],
  [dm_ald 33 0, dm_ild 34 1, dm_inv 37 75 1 6, dm_no, dm_no, dm_ild 39 4, dm_no, dm_ii 40 (fun x y => x + y), dm_inv 43 46 2 3, dm_no, dm_no, dm_ald 44 0, dm_getf 47 6 0, dm_no, dm_no, dm_ild 48 2],
  [dm_ald 49 0, dm_ild 50 2, dm_inv 53 75 1 6, dm_no, dm_no, dm_ild 55 4, dm_no, dm_ii 56 (fun x y => x - y), dm_inv 59 46 2 3, dm_no, dm_no, dm_ald 60 0, dm_getf 63 6 0, dm_no, dm_no, dm_ild 64 3],
  [dm_ald 65 0, dm_ild 66 3, dm_inv 69 75 1 6, dm_no, dm_no, dm_ild 71 4, dm_no, dm_ii 72 (fun x y => x - y), dm_inv 75 46 2 3, dm_no, dm_no, dm_ald 76 0, dm_ild 77 2, dm_push 78 (.int 0), dm_inv 81 78 2 6, dm_no],
  [dm_no, dm_if_eq 84 109, dm_no, dm_no, dm_ald 85 0, dm_ild 86 3, dm_push 87 (.int 0), dm_inv 90 78 2 6, dm_no, dm_no, dm_if_eq 93 109, dm_no, dm_no, dm_ald 94 0, dm_getf 97 6 1, dm_no],
  [dm_no, dm_ild 98 1, dm_push 99 (.int 0), dm_inv 102 46 2 3, dm_no, dm_no, dm_ald 103 0, dm_ild 104 1, dm_push 105 (.int 1), dm_ii 106 (fun x y => x + y), dm_putf 109 6 2 .int, dm_no, dm_no, dm_vret]]
theorem tr_83_0 : dm_AllR (dm_Good dm_tb RX8 cX8_close 5 none false none) 0 [dm_ald 1 0, dm_ild 2 1, dm_inv 5 79 1 6, dm_no, dm_no, dm_ist 6 2, dm_ald 7 0, dm_ild 8 1, dm_inv 11 80 1 6, dm_no, dm_no, dm_ist 12 3, dm_ald 13 0, dm_ild 14 2, dm_inv 17 75 1 6, dm_no] := dr_c (dg_aload_n (k := 0) rfl dX8_close_0) <| dr_c (dg_iload_n (k := 1) rfl dX8_close_1) <| dr_c (dg_inv dX8_close_2 mo_79 rfl rfl wd_474 wd_393 wd_394 pd_79) <| dr_c (dg_no) <| dr_c (dg_no) <| dr_c (dg_istore_n (k := 2) rfl (by decide) dX8_close_5) <| dr_c (dg_aload_n (k := 0) rfl dX8_close_6) <| dr_c (dg_iload_n (k := 1) rfl dX8_close_7) <| dr_c (dg_inv dX8_close_8 mo_80 rfl rfl wd_475 wd_398 wd_399 pd_80) <| dr_c (dg_no) <| dr_c (dg_no) <| dr_c (dg_istore_n (k := 3) rfl (by decide) dX8_close_11) <| dr_c (dg_aload_n (k := 0) rfl dX8_close_12) <| dr_c (dg_iload_n (k := 2) rfl dX8_close_13) <| dr_c (dg_inv dX8_close_14 mo_75 rfl rfl wd_380 wd_381 wd_382 pd_75) <| dr_c (dg_no) <| dr_n
theorem tr_83_1 : dm_AllR (dm_Good dm_tb RX8 cX8_close 5 none false none) 16 [dm_no, dm_ald 18 0, dm_ild 19 3, dm_inv 22 75 1 6, dm_no, dm_no, dm_mn 25, dm_no, dm_no, dm_ist 27 4, dm_no, dm_ald 28 0, dm_getf 31 6 0, dm_no, dm_no, dm_ild 32 1] := dr_c (dg_no) <| dr_c (dg_aload_n (k := 0) rfl dX8_close_17) <| dr_c (dg_iload_n (k := 3) rfl dX8_close_18) <| dr_c (dg_inv dX8_close_19 mo_75 rfl rfl wd_380 wd_381 wd_382 pd_75) <| dr_c (dg_no) <| dr_c (dg_no) <| dr_c (dg_mn dX8_close_22 wd_487 wd_260 wd_64 wd_261) <| dr_c (dg_no) <| dr_c (dg_no) <| dr_c (dg_istore (by decide) dX8_close_25) <| dr_c (dg_no) <| dr_c (dg_aload_n (k := 0) rfl dX8_close_27) <| dr_c (dg_getf (T := TX8) (C := RX8) (N := 3) dX8_close_28 rfl (by decide) iw_X8 wd_118) <| dr_c (dg_no) <| dr_c (dg_no) <| dr_c (dg_iload_n (k := 1) rfl dX8_close_31) <| dr_n
theorem tr_83_2 : dm_AllR (dm_Good dm_tb RX8 cX8_close 5 none false none) 32 [dm_ald 33 0, dm_ild 34 1, dm_inv 37 75 1 6, dm_no, dm_no, dm_ild 39 4, dm_no, dm_ii 40 (fun x y => x + y), dm_inv 43 46 2 3, dm_no, dm_no, dm_ald 44 0, dm_getf 47 6 0, dm_no, dm_no, dm_ild 48 2] := dr_c (dg_aload_n (k := 0) rfl dX8_close_32) <| dr_c (dg_iload_n (k := 1) rfl dX8_close_33) <| dr_c (dg_inv dX8_close_34 mo_75 rfl rfl wd_380 wd_381 wd_382 pd_75) <| dr_c (dg_no) <| dr_c (dg_no) <| dr_c (dg_iload dX8_close_37) <| dr_c (dg_no) <| dr_c (dg_iadd dX8_close_39) <| dr_c (dg_inv dX8_close_40 mo_46 rfl rfl wd_251 wd_252 wd_253 pd_46) <| dr_c (dg_no) <| dr_c (dg_no) <| dr_c (dg_aload_n (k := 0) rfl dX8_close_43) <| dr_c (dg_getf (T := TX8) (C := RX8) (N := 3) dX8_close_44 rfl (by decide) iw_X8 wd_118) <| dr_c (dg_no) <| dr_c (dg_no) <| dr_c (dg_iload_n (k := 2) rfl dX8_close_47) <| dr_n
theorem tr_83_3 : dm_AllR (dm_Good dm_tb RX8 cX8_close 5 none false none) 48 [dm_ald 49 0, dm_ild 50 2, dm_inv 53 75 1 6, dm_no, dm_no, dm_ild 55 4, dm_no, dm_ii 56 (fun x y => x - y), dm_inv 59 46 2 3, dm_no, dm_no, dm_ald 60 0, dm_getf 63 6 0, dm_no, dm_no, dm_ild 64 3] := dr_c (dg_aload_n (k := 0) rfl dX8_close_48) <| dr_c (dg_iload_n (k := 2) rfl dX8_close_49) <| dr_c (dg_inv dX8_close_50 mo_75 rfl rfl wd_380 wd_381 wd_382 pd_75) <| dr_c (dg_no) <| dr_c (dg_no) <| dr_c (dg_iload dX8_close_53) <| dr_c (dg_no) <| dr_c (dg_isub dX8_close_55) <| dr_c (dg_inv dX8_close_56 mo_46 rfl rfl wd_251 wd_252 wd_253 pd_46) <| dr_c (dg_no) <| dr_c (dg_no) <| dr_c (dg_aload_n (k := 0) rfl dX8_close_59) <| dr_c (dg_getf (T := TX8) (C := RX8) (N := 3) dX8_close_60 rfl (by decide) iw_X8 wd_118) <| dr_c (dg_no) <| dr_c (dg_no) <| dr_c (dg_iload_n (k := 3) rfl dX8_close_63) <| dr_n
theorem tr_83_4 : dm_AllR (dm_Good dm_tb RX8 cX8_close 5 none false none) 64 [dm_ald 65 0, dm_ild 66 3, dm_inv 69 75 1 6, dm_no, dm_no, dm_ild 71 4, dm_no, dm_ii 72 (fun x y => x - y), dm_inv 75 46 2 3, dm_no, dm_no, dm_ald 76 0, dm_ild 77 2, dm_push 78 (.int 0), dm_inv 81 78 2 6, dm_no] := dr_c (dg_aload_n (k := 0) rfl dX8_close_64) <| dr_c (dg_iload_n (k := 3) rfl dX8_close_65) <| dr_c (dg_inv dX8_close_66 mo_75 rfl rfl wd_380 wd_381 wd_382 pd_75) <| dr_c (dg_no) <| dr_c (dg_no) <| dr_c (dg_iload dX8_close_69) <| dr_c (dg_no) <| dr_c (dg_isub dX8_close_71) <| dr_c (dg_inv dX8_close_72 mo_46 rfl rfl wd_251 wd_252 wd_253 pd_46) <| dr_c (dg_no) <| dr_c (dg_no) <| dr_c (dg_aload_n (k := 0) rfl dX8_close_75) <| dr_c (dg_iload_n (k := 2) rfl dX8_close_76) <| dr_c (dg_iconst (by decide) dX8_close_77) <| dr_c (dg_inv dX8_close_78 mo_78 rfl rfl wd_488 wd_377 wd_378 pd_78) <| dr_c (dg_no) <| dr_n
theorem tr_83_5 : dm_AllR (dm_Good dm_tb RX8 cX8_close 5 none false none) 80 [dm_no, dm_if_eq 84 109, dm_no, dm_no, dm_ald 85 0, dm_ild 86 3, dm_push 87 (.int 0), dm_inv 90 78 2 6, dm_no, dm_no, dm_if_eq 93 109, dm_no, dm_no, dm_ald 94 0, dm_getf 97 6 1, dm_no] := dr_c (dg_no) <| dr_c (dg_if_eq (by decide) dX8_close_81) <| dr_c (dg_no) <| dr_c (dg_no) <| dr_c (dg_aload_n (k := 0) rfl dX8_close_84) <| dr_c (dg_iload_n (k := 3) rfl dX8_close_85) <| dr_c (dg_iconst (by decide) dX8_close_86) <| dr_c (dg_inv dX8_close_87 mo_78 rfl rfl wd_488 wd_377 wd_378 pd_78) <| dr_c (dg_no) <| dr_c (dg_no) <| dr_c (dg_if_eq (by decide) dX8_close_90) <| dr_c (dg_no) <| dr_c (dg_no) <| dr_c (dg_aload_n (k := 0) rfl dX8_close_93) <| dr_c (dg_getf (T := TX8) (C := RX8) (N := 3) dX8_close_94 rfl (by decide) iw_X8 wd_119) <| dr_c (dg_no) <| dr_n
theorem tr_83_6 : dm_AllR (dm_Good dm_tb RX8 cX8_close 5 none false none) 96 [dm_no, dm_ild 98 1, dm_push 99 (.int 0), dm_inv 102 46 2 3, dm_no, dm_no, dm_ald 103 0, dm_ild 104 1, dm_push 105 (.int 1), dm_ii 106 (fun x y => x + y), dm_putf 109 6 2 .int, dm_no, dm_no, dm_vret] := dr_c (dg_no) <| dr_c (dg_iload_n (k := 1) rfl dX8_close_97) <| dr_c (dg_iconst (by decide) dX8_close_98) <| dr_c (dg_inv dX8_close_99 mo_46 rfl rfl wd_251 wd_252 wd_253 pd_46) <| dr_c (dg_no) <| dr_c (dg_no) <| dr_c (dg_aload_n (k := 0) rfl dX8_close_102) <| dr_c (dg_iload_n (k := 1) rfl dX8_close_103) <| dr_c (dg_iconst (by decide) dX8_close_104) <| dr_c (dg_iadd dX8_close_105) <| dr_c (dg_putf (T := TX8) (C := RX8) (N := 3) dX8_close_106 rfl (by decide) iw_X8 tyX8_ok nmX8 wd_120 rfl rfl) <| dr_c (dg_no) <| dr_c (dg_no) <| dr_c (dg_vret dX8_close_109) <| dr_n
theorem tk_83 : dm_AllC (dm_Good dm_tb RX8 cX8_close 5 none false none) 0 cd_83 := dc_c (by decide) tr_83_0 <| dc_c (by decide) tr_83_1 <| dc_c (by decide) tr_83_2 <| dc_c (by decide) tr_83_3 <| dc_c (by decide) tr_83_4 <| dc_c (by decide) tr_83_5 <| dc_c (by decide) tr_83_6 <| dc_n
theorem dX8_nodesOf_0 : decode cX8_nodesOf 0 = .ok (.iconst 1, 1) := by decide +kernel
theorem dX8_nodesOf_1 : decode cX8_nodesOf 1 = .ok (.istore_n 2, 1) := by decide +kernel
theorem dX8_nodesOf_2 : decode cX8_nodesOf 2 = .ok (.iload_n 1, 1) := by decide +kernel
theorem dX8_nodesOf_3 : decode cX8_nodesOf 3 = .ok (.istore_n 3, 1) := by decide +kernel
theorem dX8_nodesOf_4 : decode cX8_nodesOf 4 = .ok (.iload_n 2, 1) := by decide +kernel
theorem dX8_nodesOf_5 : decode cX8_nodesOf 5 = .ok (.ifCond .le 33, 3) := by decide +kernel
theorem dX8_nodesOf_8 : decode cX8_nodesOf 8 = .ok (.iload_n 3, 1) := by decide +kernel
theorem dX8_nodesOf_9 : decode cX8_nodesOf 9 = .ok (.aload_n 0, 1) := by decide +kernel
theorem dX8_nodesOf_10 : decode cX8_nodesOf 10 = .ok (.getfield 24, 3) := by decide +kernel
theorem dX8_nodesOf_13 : decode cX8_nodesOf 13 = .ok (.if_icmp .ge 25, 3) := by decide +kernel
theorem dX8_nodesOf_16 : decode cX8_nodesOf 16 = .ok (.iload_n 2, 1) := by decide +kernel
theorem dX8_nodesOf_17 : decode cX8_nodesOf 17 = .ok (.aload_n 0, 1) := by decide +kernel
theorem dX8_nodesOf_18 : decode cX8_nodesOf 18 = .ok (.iload_n 3, 1) := by decide +kernel
theorem dX8_nodesOf_19 : decode cX8_nodesOf 19 = .ok (.invokevirtual 39, 3) := by decide +kernel
theorem dX8_nodesOf_22 : decode cX8_nodesOf 22 = .ok (.ifCond .eq 7, 3) := by decide +kernel
theorem dX8_nodesOf_25 : decode cX8_nodesOf 25 = .ok (.iconst (-1), 1) := by decide +kernel
theorem dX8_nodesOf_26 : decode cX8_nodesOf 26 = .ok (.goto 4, 3) := by decide +kernel
theorem dX8_nodesOf_29 : decode cX8_nodesOf 29 = .ok (.iconst 1, 1) := by decide +kernel
theorem dX8_nodesOf_30 : decode cX8_nodesOf 30 = .ok (.iadd, 1) := by decide +kernel
theorem dX8_nodesOf_31 : decode cX8_nodesOf 31 = .ok (.istore_n 2, 1) := by decide +kernel
theorem dX8_nodesOf_32 : decode cX8_nodesOf 32 = .ok (.iinc 3 1, 3) := by decide +kernel
theorem dX8_nodesOf_35 : decode cX8_nodesOf 35 = .ok (.goto (-31), 3) := by decide +kernel
theorem dX8_nodesOf_38 : decode cX8_nodesOf 38 = .ok (.iload_n 3, 1) := by decide +kernel
theorem dX8_nodesOf_39 : decode cX8_nodesOf 39 = .ok (.iload_n 1, 1) := by decide +kernel
theorem dX8_nodesOf_40 : decode cX8_nodesOf 40 = .ok (.isub, 1) := by decide +kernel
theorem dX8_nodesOf_41 : decode cX8_nodesOf 41 = .ok (.ireturn, 1) := by decide +kernel
def cd_84 : dm_Code := [[dm_push 1 (.int 1), dm_ist 2 2, dm_ild 3 1, dm_ist 4 3, dm_ild 5 2, dm_if_le 8 38, dm_no, dm_no, dm_ild 9 3, dm_ald 10 0, dm_getf 13 6 2, dm_no, dm_no, dm_ic_ge 16 38, dm_no, dm_no],
  [dm_ild 17 2, dm_ald 18 0, dm_ild 19 3, dm_inv 22 77 1 6, dm_no, dm_no, dm_if_eq 25 29, dm_no, dm_no, dm_push 26 (.int (-1)), dm_goto 30, dm_no, dm_no, dm_push 30 (.int 1), dm_ii 31 (fun x y => x + y), dm_ist 32 2],
  [dm_iinc 35 3 1, dm_no, dm_no, dm_goto 4, dm_no, dm_no, dm_ild 39 3, dm_ild 40 1, dm_ii 41 (fun x y => x - y), dm_ret .int]]
theorem tr_84_0 : dm_AllR (dm_Good dm_tb RX8 cX8_nodesOf 4 (some .int) false none) 0 [dm_push 1 (.int 1), dm_ist 2 2, dm_ild 3 1, dm_ist 4 3, dm_ild 5 2, dm_if_le 8 38, dm_no, dm_no, dm_ild 9 3, dm_ald 10 0, dm_getf 13 6 2, dm_no, dm_no, dm_ic_ge 16 38, dm_no, dm_no] := dr_c (dg_iconst (by decide) dX8_nodesOf_0) <| dr_c (dg_istore_n (k := 2) rfl (by decide) dX8_nodesOf_1) <| dr_c (dg_iload_n (k := 1) rfl dX8_nodesOf_2) <| dr_c (dg_istore_n (k := 3) rfl (by decide) dX8_nodesOf_3) <| dr_c (dg_iload_n (k := 2) rfl dX8_nodesOf_4) <| dr_c (dg_if_le (by decide) dX8_nodesOf_5) <| dr_c (dg_no) <| dr_c (dg_no) <| dr_c (dg_iload_n (k := 3) rfl dX8_nodesOf_8) <| dr_c (dg_aload_n (k := 0) rfl dX8_nodesOf_9) <| dr_c (dg_getf (T := TX8) (C := RX8) (N := 3) dX8_nodesOf_10 rfl (by decide) iw_X8 wd_120) <| dr_c (dg_no) <| dr_c (dg_no) <| dr_c (dg_ic_ge (by decide) dX8_nodesOf_13) <| dr_c (dg_no) <| dr_c (dg_no) <| dr_n
theorem tr_84_1 : dm_AllR (dm_Good dm_tb RX8 cX8_nodesOf 4 (some .int) false none) 16 [dm_ild 17 2, dm_ald 18 0, dm_ild 19 3, dm_inv 22 77 1 6, dm_no, dm_no, dm_if_eq 25 29, dm_no, dm_no, dm_push 26 (.int (-1)), dm_goto 30, dm_no, dm_no, dm_push 30 (.int 1), dm_ii 31 (fun x y => x + y), dm_ist 32 2] := dr_c (dg_iload_n (k := 2) rfl dX8_nodesOf_16) <| dr_c (dg_aload_n (k := 0) rfl dX8_nodesOf_17) <| dr_c (dg_iload_n (k := 3) rfl dX8_nodesOf_18) <| dr_c (dg_inv dX8_nodesOf_19 mo_77 rfl rfl wd_292 wd_293 wd_294 pd_77) <| dr_c (dg_no) <| dr_c (dg_no) <| dr_c (dg_if_eq (by decide) dX8_nodesOf_22) <| dr_c (dg_no) <| dr_c (dg_no) <| dr_c (dg_iconst (by decide) dX8_nodesOf_25) <| dr_c (dg_goto (by decide) dX8_nodesOf_26) <| dr_c (dg_no) <| dr_c (dg_no) <| dr_c (dg_iconst (by decide) dX8_nodesOf_29) <| dr_c (dg_iadd dX8_nodesOf_30) <| dr_c (dg_istore_n (k := 2) rfl (by decide) dX8_nodesOf_31) <| dr_n
theorem tr_84_2 : dm_AllR (dm_Good dm_tb RX8 cX8_nodesOf 4 (some .int) false none) 32 [dm_iinc 35 3 1, dm_no, dm_no, dm_goto 4, dm_no, dm_no, dm_ild 39 3, dm_ild 40 1, dm_ii 41 (fun x y => x - y), dm_ret .int] := dr_c (dg_iinc (by decide) (by decide) dX8_nodesOf_32) <| dr_c (dg_no) <| dr_c (dg_no) <| dr_c (dg_goto (by decide) dX8_nodesOf_35) <| dr_c (dg_no) <| dr_c (dg_no) <| dr_c (dg_iload_n (k := 3) rfl dX8_nodesOf_38) <| dr_c (dg_iload_n (k := 1) rfl dX8_nodesOf_39) <| dr_c (dg_isub dX8_nodesOf_40) <| dr_c (dg_ret dX8_nodesOf_41) <| dr_n
theorem tk_84 : dm_AllC (dm_Good dm_tb RX8 cX8_nodesOf 4 (some .int) false none) 0 cd_84 := dc_c (by decide) tr_84_0 <| dc_c (by decide) tr_84_1 <| dc_c (by decide) tr_84_2 <| dc_n
theorem dX8_copy_0 : decode cX8_copy 0 = .ok (.aload_n 0, 1) := by decide +kernel
theorem dX8_copy_1 : decode cX8_copy 1 = .ok (.getfield 24, 3) := by decide +kernel
theorem dX8_copy_4 : decode cX8_copy 4 = .ok (.iload_n 1, 1) := by decide +kernel
theorem dX8_copy_5 : decode cX8_copy 5 = .ok (.isub, 1) := by decide +kernel
theorem dX8_copy_6 : decode cX8_copy 6 = .ok (.istore_n 2, 1) := by decide +kernel
theorem dX8_copy_7 : decode cX8_copy 7 = .ok (.aload_n 0, 1) := by decide +kernel
theorem dX8_copy_8 : decode cX8_copy 8 = .ok (.iload_n 1, 1) := by decide +kernel
theorem dX8_copy_9 : decode cX8_copy 9 = .ok (.invokevirtual 62, 3) := by decide +kernel
theorem dX8_copy_12 : decode cX8_copy 12 = .ok (.istore_n 3, 1) := by decide +kernel
theorem dX8_copy_13 : decode cX8_copy 13 = .ok (.iload_n 1, 1) := by decide +kernel
theorem dX8_copy_14 : decode cX8_copy 14 = .ok (.istore 4, 2) := by decide +kernel
theorem dX8_copy_16 : decode cX8_copy 16 = .ok (.iload 4, 2) := by decide +kernel
theorem dX8_copy_18 : decode cX8_copy 18 = .ok (.iload_n 1, 1) := by decide +kernel
theorem dX8_copy_19 : decode cX8_copy 19 = .ok (.iload_n 3, 1) := by decide +kernel
theorem dX8_copy_20 : decode cX8_copy 20 = .ok (.iadd, 1) := by decide +kernel
theorem dX8_copy_21 : decode cX8_copy 21 = .ok (.if_icmp .ge 61, 3) := by decide +kernel
theorem dX8_copy_24 : decode cX8_copy 24 = .ok (.aload_n 0, 1) := by decide +kernel
theorem dX8_copy_25 : decode cX8_copy 25 = .ok (.getfield 17, 3) := by decide +kernel
theorem dX8_copy_28 : decode cX8_copy 28 = .ok (.iload 4, 2) := by decide +kernel
theorem dX8_copy_30 : decode cX8_copy 30 = .ok (.iload_n 2, 1) := by decide +kernel
theorem dX8_copy_31 : decode cX8_copy 31 = .ok (.iadd, 1) := by decide +kernel
theorem dX8_copy_32 : decode cX8_copy 32 = .ok (.aload_n 0, 1) := by decide +kernel
theorem dX8_copy_33 : decode cX8_copy 33 = .ok (.iload 4, 2) := by decide +kernel
theorem dX8_copy_35 : decode cX8_copy 35 = .ok (.invokevirtual 43, 3) := by decide +kernel
theorem dX8_copy_38 : decode cX8_copy 38 = .ok (.invokevirtual 35, 3) := by decide +kernel
theorem dX8_copy_41 : decode cX8_copy 41 = .ok (.aload_n 0, 1) := by decide +kernel
theorem dX8_copy_42 : decode cX8_copy 42 = .ok (.getfield 21, 3) := by decide +kernel
theorem dX8_copy_45 : decode cX8_copy 45 = .ok (.iload 4, 2) := by decide +kernel
theorem dX8_copy_47 : decode cX8_copy 47 = .ok (.iload_n 2, 1) := by decide +kernel
theorem dX8_copy_48 : decode cX8_copy 48 = .ok (.iadd, 1) := by decide +kernel
theorem dX8_copy_49 : decode cX8_copy 49 = .ok (.aload_n 0, 1) := by decide +kernel
theorem dX8_copy_50 : decode cX8_copy 50 = .ok (.iload 4, 2) := by decide +kernel
theorem dX8_copy_52 : decode cX8_copy 52 = .ok (.invokevirtual 39, 3) := by decide +kernel
theorem dX8_copy_55 : decode cX8_copy 55 = .ok (.ifCond .eq 7, 3) := by decide +kernel
theorem dX8_copy_58 : decode cX8_copy 58 = .ok (.iconst 0, 1) := by decide +kernel
theorem dX8_copy_59 : decode cX8_copy 59 = .ok (.goto 14, 3) := by decide +kernel
theorem dX8_copy_62 : decode cX8_copy 62 = .ok (.aload_n 0, 1) := by decide +kernel
theorem dX8_copy_63 : decode cX8_copy 63 = .ok (.getfield 21, 3) := by decide +kernel
theorem dX8_copy_66 : decode cX8_copy 66 = .ok (.iload 4, 2) := by decide +kernel
theorem dX8_copy_68 : decode cX8_copy 68 = .ok (.invokevirtual 32, 3) := by decide +kernel
theorem dX8_copy_71 : decode cX8_copy 71 = .ok (.iload_n 2, 1) := by decide +kernel
theorem dX8_copy_72 : decode cX8_copy 72 = .ok (.iadd, 1) := by decide +kernel
theorem dX8_copy_73 : decode cX8_copy 73 = .ok (.invokevirtual 35, 3) := by decide +kernel
theorem dX8_copy_76 : decode cX8_copy 76 = .ok (.iinc 4 1, 3) := by decide +kernel
theorem dX8_copy_79 : decode cX8_copy 79 = .ok (.goto (-63), 3) := by decide +kernel
theorem dX8_copy_82 : decode cX8_copy 82 = .ok (.aload_n 0, 1) := by decide +kernel
theorem dX8_copy_83 : decode cX8_copy 83 = .ok (.dup, 1) := by decide +kernel
theorem dX8_copy_84 : decode cX8_copy 84 = .ok (.getfield 24, 3) := by decide +kernel
theorem dX8_copy_87 : decode cX8_copy 87 = .ok (.iload_n 3, 1) := by decide +kernel
theorem dX8_copy_88 : decode cX8_copy 88 = .ok (.iadd, 1) := by decide +kernel
theorem dX8_copy_89 : decode cX8_copy 89 = .ok (.putfield 24, 3) := by decide +kernel
theorem dX8_copy_92 : decode cX8_copy 92 = .ok (.return_, 1) := by decide +kernel
def cd_85 : dm_Code := [[dm_ald 1 0, dm_getf 4 6 2, dm_no, dm_no, dm_ild 5 1, dm_ii 6 (fun x y => x - y), dm_ist 7 2, dm_ald 8 0, dm_ild 9 1, dm_inv 12 84 1 6, dm_no, dm_no, dm_ist 13 3, dm_ild 14 1, dm_ist 16 4, dm_no],
  [dm_ild 18 4, dm_no, dm_ild 19 1, dm_ild 20 3, dm_ii 21 (fun x y => x + y), dm_ic_ge 24 82, dm_no, dm_no, dm_ald 25 0, dm_getf 28 6 0, dm_no, dm_no, dm_ild 30 4, dm_no, dm_ild 31 2, dm_ii 32 (fun x y => x + y)],
  [dm_ald 33 0, dm_ild 35 4, dm_no, dm_inv 38 75 1 6, dm_no, dm_no, dm_inv 41 46 2 3, dm_no, dm_no, dm_ald 42 0, dm_getf 45 6 1, dm_no, dm_no, dm_ild 47 4, dm_no, dm_ild 48 2],
  [dm_ii 49 (fun x y => x + y), dm_ald 50 0, dm_ild 52 4, dm_no, dm_inv 55 77 1 6, dm_no, dm_no, dm_if_eq 58 62, dm_no, dm_no, dm_push 59 (.int 0), dm_goto 73, dm_no, dm_no, dm_ald 63 0, dm_getf 66 6 1],
  [dm_no, dm_no, dm_ild 68 4, dm_no, dm_inv 71 45 1 3, dm_no, dm_no, dm_ild 72 2, dm_ii 73 (fun x y => x + y), dm_inv 76 46 2 3, dm_no, dm_no, dm_iinc 79 4 1, dm_no, dm_no, dm_goto 16],
  [dm_no, dm_no, dm_ald 83 0, dm_dup 84, dm_getf 87 6 2, dm_no, dm_no, dm_ild 88 3, dm_ii 89 (fun x y => x + y), dm_putf 92 6 2 .int, dm_no, dm_no, dm_vret]]
theorem tr_85_0 : dm_AllR (dm_Good dm_tb RX8 cX8_copy 5 none false none) 0 [dm_ald 1 0, dm_getf 4 6 2, dm_no, dm_no, dm_ild 5 1, dm_ii 6 (fun x y => x - y), dm_ist 7 2, dm_ald 8 0, dm_ild 9 1, dm_inv 12 84 1 6, dm_no, dm_no, dm_ist 13 3, dm_ild 14 1, dm_ist 16 4, dm_no] := dr_c (dg_aload_n (k := 0) rfl dX8_copy_0) <| dr_c (dg_getf (T := TX8) (C := RX8) (N := 3) dX8_copy_1 rfl (by decide) iw_X8 wd_120) <| dr_c (dg_no) <| dr_c (dg_no) <| dr_c (dg_iload_n (k := 1) rfl dX8_copy_4) <| dr_c (dg_isub dX8_copy_5) <| dr_c (dg_istore_n (k := 2) rfl (by decide) dX8_copy_6) <| dr_c (dg_aload_n (k := 0) rfl dX8_copy_7) <| dr_c (dg_iload_n (k := 1) rfl dX8_copy_8) <| dr_c (dg_inv dX8_copy_9 mo_84 rfl rfl wd_425 wd_289 wd_290 pd_84) <| dr_c (dg_no) <| dr_c (dg_no) <| dr_c (dg_istore_n (k := 3) rfl (by decide) dX8_copy_12) <| dr_c (dg_iload_n (k := 1) rfl dX8_copy_13) <| dr_c (dg_istore (by decide) dX8_copy_14) <| dr_c (dg_no) <| dr_n
theorem tr_85_1 : dm_AllR (dm_Good dm_tb RX8 cX8_copy 5 none false none) 16 [dm_ild 18 4, dm_no, dm_ild 19 1, dm_ild 20 3, dm_ii 21 (fun x y => x + y), dm_ic_ge 24 82, dm_no, dm_no, dm_ald 25 0, dm_getf 28 6 0, dm_no, dm_no, dm_ild 30 4, dm_no, dm_ild 31 2, dm_ii 32 (fun x y => x + y)] := dr_c (dg_iload dX8_copy_16) <| dr_c (dg_no) <| dr_c (dg_iload_n (k := 1) rfl dX8_copy_18) <| dr_c (dg_iload_n (k := 3) rfl dX8_copy_19) <| dr_c (dg_iadd dX8_copy_20) <| dr_c (dg_ic_ge (by decide) dX8_copy_21) <| dr_c (dg_no) <| dr_c (dg_no) <| dr_c (dg_aload_n (k := 0) rfl dX8_copy_24) <| dr_c (dg_getf (T := TX8) (C := RX8) (N := 3) dX8_copy_25 rfl (by decide) iw_X8 wd_118) <| dr_c (dg_no) <| dr_c (dg_no) <| dr_c (dg_iload dX8_copy_28) <| dr_c (dg_no) <| dr_c (dg_iload_n (k := 2) rfl dX8_copy_30) <| dr_c (dg_iadd dX8_copy_31) <| dr_n
theorem tr_85_2 : dm_AllR (dm_Good dm_tb RX8 cX8_copy 5 none false none) 32 [dm_ald 33 0, dm_ild 35 4, dm_no, dm_inv 38 75 1 6, dm_no, dm_no, dm_inv 41 46 2 3, dm_no, dm_no, dm_ald 42 0, dm_getf 45 6 1, dm_no, dm_no, dm_ild 47 4, dm_no, dm_ild 48 2] := dr_c (dg_aload_n (k := 0) rfl dX8_copy_32) <| dr_c (dg_iload dX8_copy_33) <| dr_c (dg_no) <| dr_c (dg_inv dX8_copy_35 mo_75 rfl rfl wd_380 wd_381 wd_382 pd_75) <| dr_c (dg_no) <| dr_c (dg_no) <| dr_c (dg_inv dX8_copy_38 mo_46 rfl rfl wd_251 wd_252 wd_253 pd_46) <| dr_c (dg_no) <| dr_c (dg_no) <| dr_c (dg_aload_n (k := 0) rfl dX8_copy_41) <| dr_c (dg_getf (T := TX8) (C := RX8) (N := 3) dX8_copy_42 rfl (by decide) iw_X8 wd_119) <| dr_c (dg_no) <| dr_c (dg_no) <| dr_c (dg_iload dX8_copy_45) <| dr_c (dg_no) <| dr_c (dg_iload_n (k := 2) rfl dX8_copy_47) <| dr_n
theorem tr_85_3 : dm_AllR (dm_Good dm_tb RX8 cX8_copy 5 none false none) 48 [dm_ii 49 (fun x y => x + y), dm_ald 50 0, dm_ild 52 4, dm_no, dm_inv 55 77 1 6, dm_no, dm_no, dm_if_eq 58 62, dm_no, dm_no, dm_push 59 (.int 0), dm_goto 73, dm_no, dm_no, dm_ald 63 0, dm_getf 66 6 1] := dr_c (dg_iadd dX8_copy_48) <| dr_c (dg_aload_n (k := 0) rfl dX8_copy_49) <| dr_c (dg_iload dX8_copy_50) <| dr_c (dg_no) <| dr_c (dg_inv dX8_copy_52 mo_77 rfl rfl wd_292 wd_293 wd_294 pd_77) <| dr_c (dg_no) <| dr_c (dg_no) <| dr_c (dg_if_eq (by decide) dX8_copy_55) <| dr_c (dg_no) <| dr_c (dg_no) <| dr_c (dg_iconst (by decide) dX8_copy_58) <| dr_c (dg_goto (by decide) dX8_copy_59) <| dr_c (dg_no) <| dr_c (dg_no) <| dr_c (dg_aload_n (k := 0) rfl dX8_copy_62) <| dr_c (dg_getf (T := TX8) (C := RX8) (N := 3) dX8_copy_63 rfl (by decide) iw_X8 wd_119) <| dr_n
theorem tr_85_4 : dm_AllR (dm_Good dm_tb RX8 cX8_copy 5 none false none) 64 [dm_no, dm_no, dm_ild 68 4, dm_no, dm_inv 71 45 1 3, dm_no, dm_no, dm_ild 72 2, dm_ii 73 (fun x y => x + y), dm_inv 76 46 2 3, dm_no, dm_no, dm_iinc 79 4 1, dm_no, dm_no, dm_goto 16] := dr_c (dg_no) <| dr_c (dg_no) <| dr_c (dg_iload dX8_copy_66) <| dr_c (dg_no) <| dr_c (dg_inv dX8_copy_68 mo_45 rfl rfl wd_296 wd_285 wd_286 pd_45) <| dr_c (dg_no) <| dr_c (dg_no) <| dr_c (dg_iload_n (k := 2) rfl dX8_copy_71) <| dr_c (dg_iadd dX8_copy_72) <| dr_c (dg_inv dX8_copy_73 mo_46 rfl rfl wd_251 wd_252 wd_253 pd_46) <| dr_c (dg_no) <| dr_c (dg_no) <| dr_c (dg_iinc (by decide) (by decide) dX8_copy_76) <| dr_c (dg_no) <| dr_c (dg_no) <| dr_c (dg_goto (by decide) dX8_copy_79) <| dr_n
theorem tr_85_5 : dm_AllR (dm_Good dm_tb RX8 cX8_copy 5 none false none) 80 [dm_no, dm_no, dm_ald 83 0, dm_dup 84, dm_getf 87 6 2, dm_no, dm_no, dm_ild 88 3, dm_ii 89 (fun x y => x + y), dm_putf 92 6 2 .int, dm_no, dm_no, dm_vret] := dr_c (dg_no) <| dr_c (dg_no) <| dr_c (dg_aload_n (k := 0) rfl dX8_copy_82) <| dr_c (dg_dup dX8_copy_83) <| dr_c (dg_getf (T := TX8) (C := RX8) (N := 3) dX8_copy_84 rfl (by decide) iw_X8 wd_120) <| dr_c (dg_no) <| dr_c (dg_no) <| dr_c (dg_iload_n (k := 3) rfl dX8_copy_87) <| dr_c (dg_iadd dX8_copy_88) <| dr_c (dg_putf (T := TX8) (C := RX8) (N := 3) dX8_copy_89 rfl (by decide) iw_X8 tyX8_ok nmX8 wd_120 rfl rfl) <| dr_c (dg_no) <| dr_c (dg_no) <| dr_c (dg_vret dX8_copy_92) <| dr_n
theorem tk_85 : dm_AllC (dm_Good dm_tb RX8 cX8_copy 5 none false none) 0 cd_85 := dc_c (by decide) tr_85_0 <| dc_c (by decide) tr_85_1 <| dc_c (by decide) tr_85_2 <| dc_c (by decide) tr_85_3 <| dc_c (by decide) tr_85_4 <| dc_c (by decide) tr_85_5 <| dc_n
theorem dX8_same_0 : decode cX8_same 0 = .ok (.aload_n 0, 1) := by decide +kernel
theorem dX8_same_1 : decode cX8_same 1 = .ok (.iload_n 1, 1) := by decide +kernel
theorem dX8_same_2 : decode cX8_same 2 = .ok (.invokevirtual 62, 3) := by decide +kernel
theorem dX8_same_5 : decode cX8_same 5 = .ok (.istore_n 3, 1) := by decide +kernel
theorem dX8_same_6 : decode cX8_same 6 = .ok (.iload_n 3, 1) := by decide +kernel
theorem dX8_same_7 : decode cX8_same 7 = .ok (.aload_n 0, 1) := by decide +kernel
theorem dX8_same_8 : decode cX8_same 8 = .ok (.iload_n 2, 1) := by decide +kernel
theorem dX8_same_9 : decode cX8_same 9 = .ok (.invokevirtual 62, 3) := by decide +kernel
theorem dX8_same_12 : decode cX8_same 12 = .ok (.if_icmp .ne 7, 3) := by decide +kernel
theorem dX8_same_15 : decode cX8_same 15 = .ok (.iconst 1, 1) := by decide +kernel
theorem dX8_same_16 : decode cX8_same 16 = .ok (.goto 4, 3) := by decide +kernel
theorem dX8_same_19 : decode cX8_same 19 = .ok (.iconst 0, 1) := by decide +kernel
theorem dX8_same_20 : decode cX8_same 20 = .ok (.istore 4, 2) := by decide +kernel
theorem dX8_same_22 : decode cX8_same 22 = .ok (.iconst 0, 1) := by decide +kernel
theorem dX8_same_23 : decode cX8_same 23 = .ok (.istore 5, 2) := by decide +kernel
theorem dX8_same_25 : decode cX8_same 25 = .ok (.iload 4, 2) := by decide +kernel
theorem dX8_same_27 : decode cX8_same 27 = .ok (.ifCond .eq 60, 3) := by decide +kernel
theorem dX8_same_30 : decode cX8_same 30 = .ok (.iload 5, 2) := by decide +kernel
theorem dX8_same_32 : decode cX8_same 32 = .ok (.iload_n 3, 1) := by decide +kernel
theorem dX8_same_33 : decode cX8_same 33 = .ok (.if_icmp .ge 54, 3) := by decide +kernel
theorem dX8_same_36 : decode cX8_same 36 = .ok (.aload_n 0, 1) := by decide +kernel
theorem dX8_same_37 : decode cX8_same 37 = .ok (.iload_n 1, 1) := by decide +kernel
theorem dX8_same_38 : decode cX8_same 38 = .ok (.iload 5, 2) := by decide +kernel
theorem dX8_same_40 : decode cX8_same 40 = .ok (.iadd, 1) := by decide +kernel
theorem dX8_same_41 : decode cX8_same 41 = .ok (.invokevirtual 43, 3) := by decide +kernel
theorem dX8_same_44 : decode cX8_same 44 = .ok (.aload_n 0, 1) := by decide +kernel
theorem dX8_same_45 : decode cX8_same 45 = .ok (.iload_n 2, 1) := by decide +kernel
theorem dX8_same_46 : decode cX8_same 46 = .ok (.iload 5, 2) := by decide +kernel
theorem dX8_same_48 : decode cX8_same 48 = .ok (.iadd, 1) := by decide +kernel
theorem dX8_same_49 : decode cX8_same 49 = .ok (.invokevirtual 43, 3) := by decide +kernel
theorem dX8_same_52 : decode cX8_same 52 = .ok (.if_icmp .ne 26, 3) := by decide +kernel
theorem dX8_same_55 : decode cX8_same 55 = .ok (.aload_n 0, 1) := by decide +kernel
theorem dX8_same_56 : decode cX8_same 56 = .ok (.iload_n 1, 1) := by decide +kernel
theorem dX8_same_57 : decode cX8_same 57 = .ok (.iload 5, 2) := by decide +kernel
theorem dX8_same_59 : decode cX8_same 59 = .ok (.iadd, 1) := by decide +kernel
theorem dX8_same_60 : decode cX8_same 60 = .ok (.invokevirtual 39, 3) := by decide +kernel
theorem dX8_same_63 : decode cX8_same 63 = .ok (.aload_n 0, 1) := by decide +kernel
theorem dX8_same_64 : decode cX8_same 64 = .ok (.iload_n 2, 1) := by decide +kernel
theorem dX8_same_65 : decode cX8_same 65 = .ok (.iload 5, 2) := by decide +kernel
theorem dX8_same_67 : decode cX8_same 67 = .ok (.iadd, 1) := by decide +kernel
theorem dX8_same_68 : decode cX8_same 68 = .ok (.invokevirtual 39, 3) := by decide +kernel
theorem dX8_same_71 : decode cX8_same 71 = .ok (.if_icmp .ne 7, 3) := by decide +kernel
theorem dX8_same_74 : decode cX8_same 74 = .ok (.iconst 1, 1) := by decide +kernel
theorem dX8_same_75 : decode cX8_same 75 = .ok (.goto 4, 3) := by decide +kernel
theorem dX8_same_78 : decode cX8_same 78 = .ok (.iconst 0, 1) := by decide +kernel
theorem dX8_same_79 : decode cX8_same 79 = .ok (.istore 4, 2) := by decide +kernel
theorem dX8_same_81 : decode cX8_same 81 = .ok (.iinc 5 1, 3) := by decide +kernel
theorem dX8_same_84 : decode cX8_same 84 = .ok (.goto (-59), 3) := by decide +kernel
theorem dX8_same_87 : decode cX8_same 87 = .ok (.iload 4, 2) := by decide +kernel
theorem dX8_same_89 : decode cX8_same 89 = .ok (.ireturn, 1) := by decide +kernel
def cd_86 : dm_Code := [[dm_ald 1 0, dm_ild 2 1, dm_inv 5 84 1 6, dm_no, dm_no, dm_ist 6 3, dm_ild 7 3, dm_ald 8 0, dm_ild 9 2, dm_inv 12 84 1 6, dm_no, dm_no, dm_ic_ne 15 19, dm_no, dm_no, dm_push 16 (.int 1)],
  [dm_goto 20, dm_no, dm_no, dm_push 20 (.int 0), dm_ist 22 4, dm_no, dm_push 23 (.int 0), dm_ist 25 5, dm_no, dm_ild 27 4, dm_no, dm_if_eq 30 87, dm_no, dm_no, dm_ild 32 5, dm_no],
  [dm_ild 33 3, dm_ic_ge 36 87, dm_no, dm_no, dm_ald 37 0, dm_ild 38 1, dm_ild 40 5, dm_no, dm_ii 41 (fun x y => x + y), dm_inv 44 75 1 6, dm_no, dm_no, dm_ald 45 0, dm_ild 46 2, dm_ild 48 5, dm_no],
  [dm_ii 49 (fun x y => x + y), dm_inv 52 75 1 6, dm_no, dm_no, dm_ic_ne 55 78, dm_no, dm_no, dm_ald 56 0, dm_ild 57 1, dm_ild 59 5, dm_no, dm_ii 60 (fun x y => x + y), dm_inv 63 77 1 6, dm_no, dm_no, dm_ald 64 0],
  [dm_ild 65 2, dm_ild 67 5, dm_no, dm_ii 68 (fun x y => x + y), dm_inv 71 77 1 6, dm_no, dm_no, dm_ic_ne 74 78, dm_no, dm_no, dm_push 75 (.int 1), dm_goto 79, dm_no, dm_no, dm_push 79 (.int 0), dm_ist 81 4],
  [dm_no, dm_iinc 84 5 1, dm_no, dm_no, dm_goto 25, dm_no, dm_no, dm_ild 89 4, dm_no, dm_ret .boolean]]
theorem tr_86_0 : dm_AllR (dm_Good dm_tb RX8 cX8_same 6 (some .boolean) false none) 0 [dm_ald 1 0, dm_ild 2 1, dm_inv 5 84 1 6, dm_no, dm_no, dm_ist 6 3, dm_ild 7 3, dm_ald 8 0, dm_ild 9 2, dm_inv 12 84 1 6, dm_no, dm_no, dm_ic_ne 15 19, dm_no, dm_no, dm_push 16 (.int 1)] := dr_c (dg_aload_n (k := 0) rfl dX8_same_0) <| dr_c (dg_iload_n (k := 1) rfl dX8_same_1) <| dr_c (dg_inv dX8_same_2 mo_84 rfl rfl wd_425 wd_289 wd_290 pd_84) <| dr_c (dg_no) <| dr_c (dg_no) <| dr_c (dg_istore_n (k := 3) rfl (by decide) dX8_same_5) <| dr_c (dg_iload_n (k := 3) rfl dX8_same_6) <| dr_c (dg_aload_n (k := 0) rfl dX8_same_7) <| dr_c (dg_iload_n (k := 2) rfl dX8_same_8) <| dr_c (dg_inv dX8_same_9 mo_84 rfl rfl wd_425 wd_289 wd_290 pd_84) <| dr_c (dg_no) <| dr_c (dg_no) <| dr_c (dg_ic_ne (by decide) dX8_same_12) <| dr_c (dg_no) <| dr_c (dg_no) <| dr_c (dg_iconst (by decide) dX8_same_15) <| dr_n
theorem tr_86_1 : dm_AllR (dm_Good dm_tb RX8 cX8_same 6 (some .boolean) false none) 16 [dm_goto 20, dm_no, dm_no, dm_push 20 (.int 0), dm_ist 22 4, dm_no, dm_push 23 (.int 0), dm_ist 25 5, dm_no, dm_ild 27 4, dm_no, dm_if_eq 30 87, dm_no, dm_no, dm_ild 32 5, dm_no] := dr_c (dg_goto (by decide) dX8_same_16) <| dr_c (dg_no) <| dr_c (dg_no) <| dr_c (dg_iconst (by decide) dX8_same_19) <| dr_c (dg_istore (by decide) dX8_same_20) <| dr_c (dg_no) <| dr_c (dg_iconst (by decide) dX8_same_22) <| dr_c (dg_istore (by decide) dX8_same_23) <| dr_c (dg_no) <| dr_c (dg_iload dX8_same_25) <| dr_c (dg_no) <| dr_c (dg_if_eq (by decide) dX8_same_27) <| dr_c (dg_no) <| dr_c (dg_no) <| dr_c (dg_iload dX8_same_30) <| dr_c (dg_no) <| dr_n
theorem tr_86_2 : dm_AllR (dm_Good dm_tb RX8 cX8_same 6 (some .boolean) false none) 32 [dm_ild 33 3, dm_ic_ge 36 87, dm_no, dm_no, dm_ald 37 0, dm_ild 38 1, dm_ild 40 5, dm_no, dm_ii 41 (fun x y => x + y), dm_inv 44 75 1 6, dm_no, dm_no, dm_ald 45 0, dm_ild 46 2, dm_ild 48 5, dm_no] := dr_c (dg_iload_n (k := 3) rfl dX8_same_32) <| dr_c (dg_ic_ge (by decide) dX8_same_33) <| dr_c (dg_no) <| dr_c (dg_no) <| dr_c (dg_aload_n (k := 0) rfl dX8_same_36) <| dr_c (dg_iload_n (k := 1) rfl dX8_same_37) <| dr_c (dg_iload dX8_same_38) <| dr_c (dg_no) <| dr_c (dg_iadd dX8_same_40) <| dr_c (dg_inv dX8_same_41 mo_75 rfl rfl wd_380 wd_381 wd_382 pd_75) <| dr_c (dg_no) <| dr_c (dg_no) <| dr_c (dg_aload_n (k := 0) rfl dX8_same_44) <| dr_c (dg_iload_n (k := 2) rfl dX8_same_45) <| dr_c (dg_iload dX8_same_46) <| dr_c (dg_no) <| dr_n
theorem tr_86_3 : dm_AllR (dm_Good dm_tb RX8 cX8_same 6 (some .boolean) false none) 48 [dm_ii 49 (fun x y => x + y), dm_inv 52 75 1 6, dm_no, dm_no, dm_ic_ne 55 78, dm_no, dm_no, dm_ald 56 0, dm_ild 57 1, dm_ild 59 5, dm_no, dm_ii 60 (fun x y => x + y), dm_inv 63 77 1 6, dm_no, dm_no, dm_ald 64 0] := dr_c (dg_iadd dX8_same_48) <| dr_c (dg_inv dX8_same_49 mo_75 rfl rfl wd_380 wd_381 wd_382 pd_75) <| dr_c (dg_no) <| dr_c (dg_no) <| dr_c (dg_ic_ne (by decide) dX8_same_52) <| dr_c (dg_no) <| dr_c (dg_no) <| dr_c (dg_aload_n (k := 0) rfl dX8_same_55) <| dr_c (dg_iload_n (k := 1) rfl dX8_same_56) <| dr_c (dg_iload dX8_same_57) <| dr_c (dg_no) <| dr_c (dg_iadd dX8_same_59) <| dr_c (dg_inv dX8_same_60 mo_77 rfl rfl wd_292 wd_293 wd_294 pd_77) <| dr_c (dg_no) <| dr_c (dg_no) <| dr_c (dg_aload_n (k := 0) rfl dX8_same_63) <| dr_n
theorem tr_86_4 : dm_AllR (dm_Good dm_tb RX8 cX8_same 6 (some .boolean) false none) 64 [dm_ild 65 2, dm_ild 67 5, dm_no, dm_ii 68 (fun x y => x + y), dm_inv 71 77 1 6, dm_no, dm_no, dm_ic_ne 74 78, dm_no, dm_no, dm_push 75 (.int 1), dm_goto 79, dm_no, dm_no, dm_push 79 (.int 0), dm_ist 81 4] := dr_c (dg_iload_n (k := 2) rfl dX8_same_64) <| dr_c (dg_iload dX8_same_65) <| dr_c (dg_no) <| dr_c (dg_iadd dX8_same_67) <| dr_c (dg_inv dX8_same_68 mo_77 rfl rfl wd_292 wd_293 wd_294 pd_77) <| dr_c (dg_no) <| dr_c (dg_no) <| dr_c (dg_ic_ne (by decide) dX8_same_71) <| dr_c (dg_no) <| dr_c (dg_no) <| dr_c (dg_iconst (by decide) dX8_same_74) <| dr_c (dg_goto (by decide) dX8_same_75) <| dr_c (dg_no) <| dr_c (dg_no) <| dr_c (dg_iconst (by decide) dX8_same_78) <| dr_c (dg_istore (by decide) dX8_same_79) <| dr_n
theorem tr_86_5 : dm_AllR (dm_Good dm_tb RX8 cX8_same 6 (some .boolean) false none) 80 [dm_no, dm_iinc 84 5 1, dm_no, dm_no, dm_goto 25, dm_no, dm_no, dm_ild 89 4, dm_no, dm_ret .boolean] := dr_c (dg_no) <| dr_c (dg_iinc (by decide) (by decide) dX8_same_81) <| dr_c (dg_no) <| dr_c (dg_no) <| dr_c (dg_goto (by decide) dX8_same_84) <| dr_c (dg_no) <| dr_c (dg_no) <| dr_c (dg_iload dX8_same_87) <| dr_c (dg_no) <| dr_c (dg_ret dX8_same_89) <| dr_n
theorem tk_86 : dm_AllC (dm_Good dm_tb RX8 cX8_same 6 (some .boolean) false none) 0 cd_86 := dc_c (by decide) tr_86_0 <| dc_c (by decide) tr_86_1 <| dc_c (by decide) tr_86_2 <| dc_c (by decide) tr_86_3 <| dc_c (by decide) tr_86_4 <| dc_c (by decide) tr_86_5 <| dc_n
theorem dX8_numberAt_0 : decode cX8_numberAt 0 = .ok (.iload_n 1, 1) := by decide +kernel
theorem dX8_numberAt_1 : decode cX8_numberAt 1 = .ok (.istore 5, 2) := by decide +kernel
theorem dX8_numberAt_3 : decode cX8_numberAt 3 = .ok (.aload_n 0, 1) := by decide +kernel
theorem dX8_numberAt_4 : decode cX8_numberAt 4 = .ok (.iload 5, 2) := by decide +kernel
theorem dX8_numberAt_6 : decode cX8_numberAt 6 = .ok (.invokevirtual 43, 3) := by decide +kernel
theorem dX8_numberAt_9 : decode cX8_numberAt 9 = .ok (.istore 6, 2) := by decide +kernel
theorem dX8_numberAt_11 : decode cX8_numberAt 11 = .ok (.iload 4, 2) := by decide +kernel
theorem dX8_numberAt_13 : decode cX8_numberAt 13 = .ok (.iconst 1, 1) := by decide +kernel
theorem dX8_numberAt_14 : decode cX8_numberAt 14 = .ok (.isub, 1) := by decide +kernel
theorem dX8_numberAt_15 : decode cX8_numberAt 15 = .ok (.istore 7, 2) := by decide +kernel
theorem dX8_numberAt_17 : decode cX8_numberAt 17 = .ok (.iload 7, 2) := by decide +kernel
theorem dX8_numberAt_19 : decode cX8_numberAt 19 = .ok (.iload 4, 2) := by decide +kernel
theorem dX8_numberAt_21 : decode cX8_numberAt 21 = .ok (.bipush 60, 2) := by decide +kernel
theorem dX8_numberAt_23 : decode cX8_numberAt 23 = .ok (.isub, 1) := by decide +kernel
theorem dX8_numberAt_24 : decode cX8_numberAt 24 = .ok (.if_icmp .lt 74, 3) := by decide +kernel
theorem dX8_numberAt_27 : decode cX8_numberAt 27 = .ok (.aload_n 0, 1) := by decide +kernel
theorem dX8_numberAt_28 : decode cX8_numberAt 28 = .ok (.iload 5, 2) := by decide +kernel
theorem dX8_numberAt_30 : decode cX8_numberAt 30 = .ok (.invokevirtual 39, 3) := by decide +kernel
theorem dX8_numberAt_33 : decode cX8_numberAt 33 = .ok (.ifCond .ne 65, 3) := by decide +kernel
theorem dX8_numberAt_36 : decode cX8_numberAt 36 = .ok (.iload 7, 2) := by decide +kernel
theorem dX8_numberAt_38 : decode cX8_numberAt 38 = .ok (.ifCond .lt 18, 3) := by decide +kernel
theorem dX8_numberAt_41 : decode cX8_numberAt 41 = .ok (.lload_n 2, 1) := by decide +kernel
theorem dX8_numberAt_42 : decode cX8_numberAt 42 = .ok (.iload 7, 2) := by decide +kernel
theorem dX8_numberAt_44 : decode cX8_numberAt 44 = .ok (.lshr, 1) := by decide +kernel
theorem dX8_numberAt_45 : decode cX8_numberAt 45 = .ok (.lconst 1, 1) := by decide +kernel
theorem dX8_numberAt_46 : decode cX8_numberAt 46 = .ok (.land, 1) := by decide +kernel
theorem dX8_numberAt_47 : decode cX8_numberAt 47 = .ok (.lconst 1, 1) := by decide +kernel
theorem dX8_numberAt_48 : decode cX8_numberAt 48 = .ok (.lcmp, 1) := by decide +kernel
theorem dX8_numberAt_49 : decode cX8_numberAt 49 = .ok (.ifCond .ne 7, 3) := by decide +kernel
theorem dX8_numberAt_52 : decode cX8_numberAt 52 = .ok (.iconst 1, 1) := by decide +kernel
theorem dX8_numberAt_53 : decode cX8_numberAt 53 = .ok (.goto 4, 3) := by decide +kernel
theorem dX8_numberAt_56 : decode cX8_numberAt 56 = .ok (.iconst 0, 1) := by decide +kernel
theorem dX8_numberAt_57 : decode cX8_numberAt 57 = .ok (.istore 8, 2) := by decide +kernel
theorem dX8_numberAt_59 : decode cX8_numberAt 59 = .ok (.iload 8, 2) := by decide +kernel
theorem dX8_numberAt_61 : decode cX8_numberAt 61 = .ok (.ifCond .eq 12, 3) := by decide +kernel
theorem dX8_numberAt_64 : decode cX8_numberAt 64 = .ok (.aload_n 0, 1) := by decide +kernel
theorem dX8_numberAt_65 : decode cX8_numberAt 65 = .ok (.iload 5, 2) := by decide +kernel
theorem dX8_numberAt_67 : decode cX8_numberAt 67 = .ok (.invokevirtual 49, 3) := by decide +kernel
theorem dX8_numberAt_70 : decode cX8_numberAt 70 = .ok (.goto 9, 3) := by decide +kernel
theorem dX8_numberAt_73 : decode cX8_numberAt 73 = .ok (.aload_n 0, 1) := by decide +kernel
theorem dX8_numberAt_74 : decode cX8_numberAt 74 = .ok (.iload 5, 2) := by decide +kernel
theorem dX8_numberAt_76 : decode cX8_numberAt 76 = .ok (.invokevirtual 46, 3) := by decide +kernel
theorem dX8_numberAt_79 : decode cX8_numberAt 79 = .ok (.istore 5, 2) := by decide +kernel
theorem dX8_numberAt_81 : decode cX8_numberAt 81 = .ok (.iload 6, 2) := by decide +kernel
theorem dX8_numberAt_83 : decode cX8_numberAt 83 = .ok (.aload_n 0, 1) := by decide +kernel
theorem dX8_numberAt_84 : decode cX8_numberAt 84 = .ok (.iload 5, 2) := by decide +kernel
theorem dX8_numberAt_86 : decode cX8_numberAt 86 = .ok (.invokevirtual 43, 3) := by decide +kernel
theorem dX8_numberAt_89 : decode cX8_numberAt 89 = .ok (.iadd, 1) := by decide +kernel
theorem dX8_numberAt_90 : decode cX8_numberAt 90 = .ok (.istore 6, 2) := by decide +kernel
theorem dX8_numberAt_92 : decode cX8_numberAt 92 = .ok (.iinc 7 (-1), 3) := by decide +kernel
theorem dX8_numberAt_95 : decode cX8_numberAt 95 = .ok (.goto (-78), 3) := by decide +kernel
theorem dX8_numberAt_98 : decode cX8_numberAt 98 = .ok (.iload 6, 2) := by decide +kernel
theorem dX8_numberAt_100 : decode cX8_numberAt 100 = .ok (.ireturn, 1) := by decide +kernel
def cd_87 : dm_Code := [[dm_ild 1 1, dm_ist 3 5, dm_no, dm_ald 4 0, dm_ild 6 5, dm_no, dm_inv 9 75 1 6, dm_no, dm_no, dm_ist 11 6, dm_no, dm_ild 13 4, dm_no, dm_push 14 (.int 1), dm_ii 15 (fun x y => x - y), dm_ist 17 7],
  [dm_no, dm_ild 19 7, dm_no, dm_ild 21 4, dm_no, dm_push 23 (.int 60), dm_no, dm_ii 24 (fun x y => x - y), dm_ic_lt 27 98, dm_no, dm_no, dm_ald 28 0, dm_ild 30 5, dm_no, dm_inv 33 77 1 6, dm_no],
  [dm_no, dm_if_ne 36 98, dm_no, dm_no, dm_ild 38 7, dm_no, dm_if_lt 41 56, dm_no, dm_no, dm_lld 42 2, dm_ild 44 7, dm_no, dm_li 45 (fun x y => x >>> (y.toInt64 &&& 63)), dm_push 46 (.long 1), dm_ll 47 (fun x y => x &&& y), dm_push 48 (.long 1)],
  [dm_lc 49, dm_if_ne 52 56, dm_no, dm_no, dm_push 53 (.int 1), dm_goto 57, dm_no, dm_no, dm_push 57 (.int 0), dm_ist 59 8, dm_no, dm_ild 61 8, dm_no, dm_if_eq 64 73, dm_no, dm_no],
  [dm_ald 65 0, dm_ild 67 5, dm_no, dm_inv 70 80 1 6, dm_no, dm_no, dm_goto 79, dm_no, dm_no, dm_ald 74 0, dm_ild 76 5, dm_no, dm_inv 79 79 1 6, dm_no, dm_no, dm_ist 81 5],
  [dm_no, dm_ild 83 6, dm_no, dm_ald 84 0, dm_ild 86 5, dm_no, dm_inv 89 75 1 6, dm_no, dm_no, dm_ii 90 (fun x y => x + y), dm_ist 92 6, dm_no, dm_iinc 95 7 (-1), dm_no, dm_no, dm_goto 17],
  [dm_no, dm_no, dm_ild 100 6, dm_no, dm_ret .int]]
theorem tr_87_0 : dm_AllR (dm_Good dm_tb RX8 cX8_numberAt 9 (some .int) false none) 0 [dm_ild 1 1, dm_ist 3 5, dm_no, dm_ald 4 0, dm_ild 6 5, dm_no, dm_inv 9 75 1 6, dm_no, dm_no, dm_ist 11 6, dm_no, dm_ild 13 4, dm_no, dm_push 14 (.int 1), dm_ii 15 (fun x y => x - y), dm_ist 17 7] := dr_c (dg_iload_n (k := 1) rfl dX8_numberAt_0) <| dr_c (dg_istore (by decide) dX8_numberAt_1) <| dr_c (dg_no) <| dr_c (dg_aload_n (k := 0) rfl dX8_numberAt_3) <| dr_c (dg_iload dX8_numberAt_4) <| dr_c (dg_no) <| dr_c (dg_inv dX8_numberAt_6 mo_75 rfl rfl wd_380 wd_381 wd_382 pd_75) <| dr_c (dg_no) <| dr_c (dg_no) <| dr_c (dg_istore (by decide) dX8_numberAt_9) <| dr_c (dg_no) <| dr_c (dg_iload dX8_numberAt_11) <| dr_c (dg_no) <| dr_c (dg_iconst (by decide) dX8_numberAt_13) <| dr_c (dg_isub dX8_numberAt_14) <| dr_c (dg_istore (by decide) dX8_numberAt_15) <| dr_n
theorem tr_87_1 : dm_AllR (dm_Good dm_tb RX8 cX8_numberAt 9 (some .int) false none) 16 [dm_no, dm_ild 19 7, dm_no, dm_ild 21 4, dm_no, dm_push 23 (.int 60), dm_no, dm_ii 24 (fun x y => x - y), dm_ic_lt 27 98, dm_no, dm_no, dm_ald 28 0, dm_ild 30 5, dm_no, dm_inv 33 77 1 6, dm_no] := dr_c (dg_no) <| dr_c (dg_iload dX8_numberAt_17) <| dr_c (dg_no) <| dr_c (dg_iload dX8_numberAt_19) <| dr_c (dg_no) <| dr_c (dg_bipush (by decide) dX8_numberAt_21) <| dr_c (dg_no) <| dr_c (dg_isub dX8_numberAt_23) <| dr_c (dg_ic_lt (by decide) dX8_numberAt_24) <| dr_c (dg_no) <| dr_c (dg_no) <| dr_c (dg_aload_n (k := 0) rfl dX8_numberAt_27) <| dr_c (dg_iload dX8_numberAt_28) <| dr_c (dg_no) <| dr_c (dg_inv dX8_numberAt_30 mo_77 rfl rfl wd_292 wd_293 wd_294 pd_77) <| dr_c (dg_no) <| dr_n
theorem tr_87_2 : dm_AllR (dm_Good dm_tb RX8 cX8_numberAt 9 (some .int) false none) 32 [dm_no, dm_if_ne 36 98, dm_no, dm_no, dm_ild 38 7, dm_no, dm_if_lt 41 56, dm_no, dm_no, dm_lld 42 2, dm_ild 44 7, dm_no, dm_li 45 (fun x y => x >>> (y.toInt64 &&& 63)), dm_push 46 (.long 1), dm_ll 47 (fun x y => x &&& y), dm_push 48 (.long 1)] := dr_c (dg_no) <| dr_c (dg_if_ne (by decide) dX8_numberAt_33) <| dr_c (dg_no) <| dr_c (dg_no) <| dr_c (dg_iload dX8_numberAt_36) <| dr_c (dg_no) <| dr_c (dg_if_lt (by decide) dX8_numberAt_38) <| dr_c (dg_no) <| dr_c (dg_no) <| dr_c (dg_lload_n (k := 2) rfl dX8_numberAt_41) <| dr_c (dg_iload dX8_numberAt_42) <| dr_c (dg_no) <| dr_c (dg_lshr dX8_numberAt_44) <| dr_c (dg_lconst (by decide) dX8_numberAt_45) <| dr_c (dg_land dX8_numberAt_46) <| dr_c (dg_lconst (by decide) dX8_numberAt_47) <| dr_n
theorem tr_87_3 : dm_AllR (dm_Good dm_tb RX8 cX8_numberAt 9 (some .int) false none) 48 [dm_lc 49, dm_if_ne 52 56, dm_no, dm_no, dm_push 53 (.int 1), dm_goto 57, dm_no, dm_no, dm_push 57 (.int 0), dm_ist 59 8, dm_no, dm_ild 61 8, dm_no, dm_if_eq 64 73, dm_no, dm_no] := dr_c (dg_lcmp dX8_numberAt_48) <| dr_c (dg_if_ne (by decide) dX8_numberAt_49) <| dr_c (dg_no) <| dr_c (dg_no) <| dr_c (dg_iconst (by decide) dX8_numberAt_52) <| dr_c (dg_goto (by decide) dX8_numberAt_53) <| dr_c (dg_no) <| dr_c (dg_no) <| dr_c (dg_iconst (by decide) dX8_numberAt_56) <| dr_c (dg_istore (by decide) dX8_numberAt_57) <| dr_c (dg_no) <| dr_c (dg_iload dX8_numberAt_59) <| dr_c (dg_no) <| dr_c (dg_if_eq (by decide) dX8_numberAt_61) <| dr_c (dg_no) <| dr_c (dg_no) <| dr_n
theorem tr_87_4 : dm_AllR (dm_Good dm_tb RX8 cX8_numberAt 9 (some .int) false none) 64 [dm_ald 65 0, dm_ild 67 5, dm_no, dm_inv 70 80 1 6, dm_no, dm_no, dm_goto 79, dm_no, dm_no, dm_ald 74 0, dm_ild 76 5, dm_no, dm_inv 79 79 1 6, dm_no, dm_no, dm_ist 81 5] := dr_c (dg_aload_n (k := 0) rfl dX8_numberAt_64) <| dr_c (dg_iload dX8_numberAt_65) <| dr_c (dg_no) <| dr_c (dg_inv dX8_numberAt_67 mo_80 rfl rfl wd_475 wd_398 wd_399 pd_80) <| dr_c (dg_no) <| dr_c (dg_no) <| dr_c (dg_goto (by decide) dX8_numberAt_70) <| dr_c (dg_no) <| dr_c (dg_no) <| dr_c (dg_aload_n (k := 0) rfl dX8_numberAt_73) <| dr_c (dg_iload dX8_numberAt_74) <| dr_c (dg_no) <| dr_c (dg_inv dX8_numberAt_76 mo_79 rfl rfl wd_474 wd_393 wd_394 pd_79) <| dr_c (dg_no) <| dr_c (dg_no) <| dr_c (dg_istore (by decide) dX8_numberAt_79) <| dr_n
theorem tr_87_5 : dm_AllR (dm_Good dm_tb RX8 cX8_numberAt 9 (some .int) false none) 80 [dm_no, dm_ild 83 6, dm_no, dm_ald 84 0, dm_ild 86 5, dm_no, dm_inv 89 75 1 6, dm_no, dm_no, dm_ii 90 (fun x y => x + y), dm_ist 92 6, dm_no, dm_iinc 95 7 (-1), dm_no, dm_no, dm_goto 17] := dr_c (dg_no) <| dr_c (dg_iload dX8_numberAt_81) <| dr_c (dg_no) <| dr_c (dg_aload_n (k := 0) rfl dX8_numberAt_83) <| dr_c (dg_iload dX8_numberAt_84) <| dr_c (dg_no) <| dr_c (dg_inv dX8_numberAt_86 mo_75 rfl rfl wd_380 wd_381 wd_382 pd_75) <| dr_c (dg_no) <| dr_c (dg_no) <| dr_c (dg_iadd dX8_numberAt_89) <| dr_c (dg_istore (by decide) dX8_numberAt_90) <| dr_c (dg_no) <| dr_c (dg_iinc (by decide) (by decide) dX8_numberAt_92) <| dr_c (dg_no) <| dr_c (dg_no) <| dr_c (dg_goto (by decide) dX8_numberAt_95) <| dr_n
theorem tr_87_6 : dm_AllR (dm_Good dm_tb RX8 cX8_numberAt 9 (some .int) false none) 96 [dm_no, dm_no, dm_ild 100 6, dm_no, dm_ret .int] := dr_c (dg_no) <| dr_c (dg_no) <| dr_c (dg_iload dX8_numberAt_98) <| dr_c (dg_no) <| dr_c (dg_ret dX8_numberAt_100) <| dr_n
theorem tk_87 : dm_AllC (dm_Good dm_tb RX8 cX8_numberAt 9 (some .int) false none) 0 cd_87 := dc_c (by decide) tr_87_0 <| dc_c (by decide) tr_87_1 <| dc_c (by decide) tr_87_2 <| dc_c (by decide) tr_87_3 <| dc_c (by decide) tr_87_4 <| dc_c (by decide) tr_87_5 <| dc_c (by decide) tr_87_6 <| dc_n
theorem dX8_greatestOf_0 : decode cX8_greatestOf 0 = .ok (.aload_n 0, 1) := by decide +kernel
theorem dX8_greatestOf_1 : decode cX8_greatestOf 1 = .ok (.iload_n 1, 1) := by decide +kernel
theorem dX8_greatestOf_2 : decode cX8_greatestOf 2 = .ok (.iconst 0, 1) := by decide +kernel
theorem dX8_greatestOf_3 : decode cX8_greatestOf 3 = .ok (.invokestatic 65, 3) := by decide +kernel
theorem dX8_greatestOf_6 : decode cX8_greatestOf 6 = .ok (.ireturn, 1) := by decide +kernel
def cd_88 : dm_Code := [[dm_ald 1 0, dm_ild 2 1, dm_push 3 (.int 0), dm_ins 6 89 3, dm_no, dm_no, dm_ret .int]]
theorem tr_88_0 : dm_AllR (dm_Good dm_tb RX8 cX8_greatestOf 2 (some .int) false none) 0 [dm_ald 1 0, dm_ild 2 1, dm_push 3 (.int 0), dm_ins 6 89 3, dm_no, dm_no, dm_ret .int] := dr_c (dg_aload_n (k := 0) rfl dX8_greatestOf_0) <| dr_c (dg_iload_n (k := 1) rfl dX8_greatestOf_1) <| dr_c (dg_iconst (by decide) dX8_greatestOf_2) <| dr_c (dg_ins dX8_greatestOf_3 mo_89 wd_471 wd_472 pd_89) <| dr_c (dg_no) <| dr_c (dg_no) <| dr_c (dg_ret dX8_greatestOf_6) <| dr_n
theorem tk_88 : dm_AllC (dm_Good dm_tb RX8 cX8_greatestOf 2 (some .int) false none) 0 cd_88 := dc_c (by decide) tr_88_0 <| dc_n
theorem dX8_greatest_0 : decode cX8_greatest 0 = .ok (.aload_n 0, 1) := by decide +kernel
theorem dX8_greatest_1 : decode cX8_greatest 1 = .ok (.iload_n 1, 1) := by decide +kernel
theorem dX8_greatest_2 : decode cX8_greatest 2 = .ok (.invokevirtual 39, 3) := by decide +kernel
theorem dX8_greatest_5 : decode cX8_greatest 5 = .ok (.ifCond .ne 9, 3) := by decide +kernel
theorem dX8_greatest_8 : decode cX8_greatest 8 = .ok (.iload_n 2, 1) := by decide +kernel
theorem dX8_greatest_9 : decode cX8_greatest 9 = .ok (.bipush 60, 2) := by decide +kernel
theorem dX8_greatest_11 : decode cX8_greatest 11 = .ok (.if_icmp .lt 9, 3) := by decide +kernel
theorem dX8_greatest_14 : decode cX8_greatest 14 = .ok (.aload_n 0, 1) := by decide +kernel
theorem dX8_greatest_15 : decode cX8_greatest 15 = .ok (.iload_n 1, 1) := by decide +kernel
theorem dX8_greatest_16 : decode cX8_greatest 16 = .ok (.invokevirtual 43, 3) := by decide +kernel
theorem dX8_greatest_19 : decode cX8_greatest 19 = .ok (.ireturn, 1) := by decide +kernel
theorem dX8_greatest_20 : decode cX8_greatest 20 = .ok (.aload_n 0, 1) := by decide +kernel
theorem dX8_greatest_21 : decode cX8_greatest 21 = .ok (.aload_n 0, 1) := by decide +kernel
theorem dX8_greatest_22 : decode cX8_greatest 22 = .ok (.iload_n 1, 1) := by decide +kernel
theorem dX8_greatest_23 : decode cX8_greatest 23 = .ok (.invokevirtual 46, 3) := by decide +kernel
theorem dX8_greatest_26 : decode cX8_greatest 26 = .ok (.iload_n 2, 1) := by decide +kernel
theorem dX8_greatest_27 : decode cX8_greatest 27 = .ok (.iconst 1, 1) := by decide +kernel
theorem dX8_greatest_28 : decode cX8_greatest 28 = .ok (.iadd, 1) := by decide +kernel
theorem dX8_greatest_29 : decode cX8_greatest 29 = .ok (.invokestatic 65, 3) := by decide +kernel
theorem dX8_greatest_32 : decode cX8_greatest 32 = .ok (.istore_n 3, 1) := by decide +kernel
theorem dX8_greatest_33 : decode cX8_greatest 33 = .ok (.aload_n 0, 1) := by decide +kernel
theorem dX8_greatest_34 : decode cX8_greatest 34 = .ok (.aload_n 0, 1) := by decide +kernel
theorem dX8_greatest_35 : decode cX8_greatest 35 = .ok (.iload_n 1, 1) := by decide +kernel
theorem dX8_greatest_36 : decode cX8_greatest 36 = .ok (.invokevirtual 49, 3) := by decide +kernel
theorem dX8_greatest_39 : decode cX8_greatest 39 = .ok (.iload_n 2, 1) := by decide +kernel
theorem dX8_greatest_40 : decode cX8_greatest 40 = .ok (.iconst 1, 1) := by decide +kernel
theorem dX8_greatest_41 : decode cX8_greatest 41 = .ok (.iadd, 1) := by decide +kernel
theorem dX8_greatest_42 : decode cX8_greatest 42 = .ok (.invokestatic 65, 3) := by decide +kernel
theorem dX8_greatest_45 : decode cX8_greatest 45 = .ok (.istore 4, 2) := by decide +kernel
theorem dX8_greatest_47 : decode cX8_greatest 47 = .ok (.aload_n 0, 1) := by decide +kernel
theorem dX8_greatest_48 : decode cX8_greatest 48 = .ok (.iload_n 1, 1) := by decide +kernel
theorem dX8_greatest_49 : decode cX8_greatest 49 = .ok (.invokevirtual 43, 3) := by decide +kernel
theorem dX8_greatest_52 : decode cX8_greatest 52 = .ok (.iload_n 3, 1) := by decide +kernel
theorem dX8_greatest_53 : decode cX8_greatest 53 = .ok (.iload 4, 2) := by decide +kernel
theorem dX8_greatest_55 : decode cX8_greatest 55 = .ok (.invokestatic 69, 3) := by decide +kernel
theorem dX8_greatest_58 : decode cX8_greatest 58 = .ok (.iadd, 1) := by decide +kernel
theorem dX8_greatest_59 : decode cX8_greatest 59 = .ok (.ireturn, 1) := by decide +kernel
def cd_89 : dm_Code := [[dm_ald 1 0, dm_ild 2 1, dm_inv 5 77 1 6, dm_no, dm_no, dm_if_ne 8 14, dm_no, dm_no, dm_ild 9 2, dm_push 11 (.int 60), dm_no, dm_ic_lt 14 20, dm_no, dm_no, dm_ald 15 0, dm_ild 16 1],
  [dm_inv 19 75 1 6, dm_no, dm_no, dm_ret .int, dm_ald 21 0, dm_ald 22 0, dm_ild 23 1, dm_inv 26 79 1 6, dm_no, dm_no, dm_ild 27 2, dm_push 28 (.int 1), dm_ii 29 (fun x y => x + y), dm_ins 32 89 3, dm_no, dm_no],
  [dm_ist 33 3, dm_ald 34 0, dm_ald 35 0, dm_ild 36 1, dm_inv 39 80 1 6, dm_no, dm_no, dm_ild 40 2, dm_push 41 (.int 1), dm_ii 42 (fun x y => x + y), dm_ins 45 89 3, dm_no, dm_no, dm_ist 47 4, dm_no, dm_ald 48 0],
  [dm_ild 49 1, dm_inv 52 75 1 6, dm_no, dm_no, dm_ild 53 3, dm_ild 55 4, dm_no, dm_mx 58, dm_no, dm_no, dm_ii 59 (fun x y => x + y), dm_ret .int]]
theorem tr_89_0 : dm_AllR (dm_Good dm_tb RX8 cX8_greatest 5 (some .int) false none) 0 [dm_ald 1 0, dm_ild 2 1, dm_inv 5 77 1 6, dm_no, dm_no, dm_if_ne 8 14, dm_no, dm_no, dm_ild 9 2, dm_push 11 (.int 60), dm_no, dm_ic_lt 14 20, dm_no, dm_no, dm_ald 15 0, dm_ild 16 1] := dr_c (dg_aload_n (k := 0) rfl dX8_greatest_0) <| dr_c (dg_iload_n (k := 1) rfl dX8_greatest_1) <| dr_c (dg_inv dX8_greatest_2 mo_77 rfl rfl wd_292 wd_293 wd_294 pd_77) <| dr_c (dg_no) <| dr_c (dg_no) <| dr_c (dg_if_ne (by decide) dX8_greatest_5) <| dr_c (dg_no) <| dr_c (dg_no) <| dr_c (dg_iload_n (k := 2) rfl dX8_greatest_8) <| dr_c (dg_bipush (by decide) dX8_greatest_9) <| dr_c (dg_no) <| dr_c (dg_ic_lt (by decide) dX8_greatest_11) <| dr_c (dg_no) <| dr_c (dg_no) <| dr_c (dg_aload_n (k := 0) rfl dX8_greatest_14) <| dr_c (dg_iload_n (k := 1) rfl dX8_greatest_15) <| dr_n
theorem tr_89_1 : dm_AllR (dm_Good dm_tb RX8 cX8_greatest 5 (some .int) false none) 16 [dm_inv 19 75 1 6, dm_no, dm_no, dm_ret .int, dm_ald 21 0, dm_ald 22 0, dm_ild 23 1, dm_inv 26 79 1 6, dm_no, dm_no, dm_ild 27 2, dm_push 28 (.int 1), dm_ii 29 (fun x y => x + y), dm_ins 32 89 3, dm_no, dm_no] := dr_c (dg_inv dX8_greatest_16 mo_75 rfl rfl wd_380 wd_381 wd_382 pd_75) <| dr_c (dg_no) <| dr_c (dg_no) <| dr_c (dg_ret dX8_greatest_19) <| dr_c (dg_aload_n (k := 0) rfl dX8_greatest_20) <| dr_c (dg_aload_n (k := 0) rfl dX8_greatest_21) <| dr_c (dg_iload_n (k := 1) rfl dX8_greatest_22) <| dr_c (dg_inv dX8_greatest_23 mo_79 rfl rfl wd_474 wd_393 wd_394 pd_79) <| dr_c (dg_no) <| dr_c (dg_no) <| dr_c (dg_iload_n (k := 2) rfl dX8_greatest_26) <| dr_c (dg_iconst (by decide) dX8_greatest_27) <| dr_c (dg_iadd dX8_greatest_28) <| dr_c (dg_ins dX8_greatest_29 mo_89 wd_471 wd_472 pd_89) <| dr_c (dg_no) <| dr_c (dg_no) <| dr_n
theorem tr_89_2 : dm_AllR (dm_Good dm_tb RX8 cX8_greatest 5 (some .int) false none) 32 [dm_ist 33 3, dm_ald 34 0, dm_ald 35 0, dm_ild 36 1, dm_inv 39 80 1 6, dm_no, dm_no, dm_ild 40 2, dm_push 41 (.int 1), dm_ii 42 (fun x y => x + y), dm_ins 45 89 3, dm_no, dm_no, dm_ist 47 4, dm_no, dm_ald 48 0] := dr_c (dg_istore_n (k := 3) rfl (by decide) dX8_greatest_32) <| dr_c (dg_aload_n (k := 0) rfl dX8_greatest_33) <| dr_c (dg_aload_n (k := 0) rfl dX8_greatest_34) <| dr_c (dg_iload_n (k := 1) rfl dX8_greatest_35) <| dr_c (dg_inv dX8_greatest_36 mo_80 rfl rfl wd_475 wd_398 wd_399 pd_80) <| dr_c (dg_no) <| dr_c (dg_no) <| dr_c (dg_iload_n (k := 2) rfl dX8_greatest_39) <| dr_c (dg_iconst (by decide) dX8_greatest_40) <| dr_c (dg_iadd dX8_greatest_41) <| dr_c (dg_ins dX8_greatest_42 mo_89 wd_471 wd_472 pd_89) <| dr_c (dg_no) <| dr_c (dg_no) <| dr_c (dg_istore (by decide) dX8_greatest_45) <| dr_c (dg_no) <| dr_c (dg_aload_n (k := 0) rfl dX8_greatest_47) <| dr_n
theorem tr_89_3 : dm_AllR (dm_Good dm_tb RX8 cX8_greatest 5 (some .int) false none) 48 [dm_ild 49 1, dm_inv 52 75 1 6, dm_no, dm_no, dm_ild 53 3, dm_ild 55 4, dm_no, dm_mx 58, dm_no, dm_no, dm_ii 59 (fun x y => x + y), dm_ret .int] := dr_c (dg_iload_n (k := 1) rfl dX8_greatest_48) <| dr_c (dg_inv dX8_greatest_49 mo_75 rfl rfl wd_380 wd_381 wd_382 pd_75) <| dr_c (dg_no) <| dr_c (dg_no) <| dr_c (dg_iload_n (k := 3) rfl dX8_greatest_52) <| dr_c (dg_iload dX8_greatest_53) <| dr_c (dg_no) <| dr_c (dg_mx dX8_greatest_55 wd_476 wd_108 wd_64 wd_109) <| dr_c (dg_no) <| dr_c (dg_no) <| dr_c (dg_iadd dX8_greatest_58) <| dr_c (dg_ret dX8_greatest_59) <| dr_n
theorem tk_89 : dm_AllC (dm_Good dm_tb RX8 cX8_greatest 5 (some .int) false none) 0 cd_89 := dc_c (by decide) tr_89_0 <| dc_c (by decide) tr_89_1 <| dc_c (by decide) tr_89_2 <| dc_c (by decide) tr_89_3 <| dc_n
theorem dX8_copyFrom_0 : decode cX8_copyFrom 0 = .ok (.aload_n 0, 1) := by decide +kernel
theorem dX8_copyFrom_1 : decode cX8_copyFrom 1 = .ok (.aload_n 1, 1) := by decide +kernel
theorem dX8_copyFrom_2 : decode cX8_copyFrom 2 = .ok (.getfield 24, 3) := by decide +kernel
theorem dX8_copyFrom_5 : decode cX8_copyFrom 5 = .ok (.putfield 24, 3) := by decide +kernel
theorem dX8_copyFrom_8 : decode cX8_copyFrom 8 = .ok (.aload_n 0, 1) := by decide +kernel
theorem dX8_copyFrom_9 : decode cX8_copyFrom 9 = .ok (.getfield 17, 3) := by decide +kernel
theorem dX8_copyFrom_12 : decode cX8_copyFrom 12 = .ok (.aload_n 1, 1) := by decide +kernel
theorem dX8_copyFrom_13 : decode cX8_copyFrom 13 = .ok (.getfield 17, 3) := by decide +kernel
theorem dX8_copyFrom_16 : decode cX8_copyFrom 16 = .ok (.aload_n 0, 1) := by decide +kernel
theorem dX8_copyFrom_17 : decode cX8_copyFrom 17 = .ok (.getfield 24, 3) := by decide +kernel
theorem dX8_copyFrom_20 : decode cX8_copyFrom 20 = .ok (.invokevirtual 72, 3) := by decide +kernel
theorem dX8_copyFrom_23 : decode cX8_copyFrom 23 = .ok (.aload_n 0, 1) := by decide +kernel
theorem dX8_copyFrom_24 : decode cX8_copyFrom 24 = .ok (.getfield 21, 3) := by decide +kernel
theorem dX8_copyFrom_27 : decode cX8_copyFrom 27 = .ok (.aload_n 1, 1) := by decide +kernel
theorem dX8_copyFrom_28 : decode cX8_copyFrom 28 = .ok (.getfield 21, 3) := by decide +kernel
theorem dX8_copyFrom_31 : decode cX8_copyFrom 31 = .ok (.aload_n 0, 1) := by decide +kernel
theorem dX8_copyFrom_32 : decode cX8_copyFrom 32 = .ok (.getfield 24, 3) := by decide +kernel
theorem dX8_copyFrom_35 : decode cX8_copyFrom 35 = .ok (.invokevirtual 72, 3) := by decide +kernel
theorem dX8_copyFrom_38 : decode cX8_copyFrom 38 = .ok (.return_, 1) := by decide +kernel
def cd_90 : dm_Code := [[dm_ald 1 0, dm_ald 2 1, dm_getf 5 6 2, dm_no, dm_no, dm_putf 8 6 2 .int, dm_no, dm_no, dm_ald 9 0, dm_getf 12 6 0, dm_no, dm_no, dm_ald 13 1, dm_getf 16 6 0, dm_no, dm_no],
  [dm_ald 17 0, dm_getf 20 6 2, dm_no, dm_no, dm_inv 23 47 2 3, dm_no, dm_no, dm_ald 24 0, dm_getf 27 6 1, dm_no, dm_no, dm_ald 28 1, dm_getf 31 6 1, dm_no, dm_no, dm_ald 32 0],
  [dm_getf 35 6 2, dm_no, dm_no, dm_inv 38 47 2 3, dm_no, dm_no, dm_vret]]
theorem tr_90_0 : dm_AllR (dm_Good dm_tb RX8 cX8_copyFrom 2 none false none) 0 [dm_ald 1 0, dm_ald 2 1, dm_getf 5 6 2, dm_no, dm_no, dm_putf 8 6 2 .int, dm_no, dm_no, dm_ald 9 0, dm_getf 12 6 0, dm_no, dm_no, dm_ald 13 1, dm_getf 16 6 0, dm_no, dm_no] := dr_c (dg_aload_n (k := 0) rfl dX8_copyFrom_0) <| dr_c (dg_aload_n (k := 1) rfl dX8_copyFrom_1) <| dr_c (dg_getf (T := TX8) (C := RX8) (N := 3) dX8_copyFrom_2 rfl (by decide) iw_X8 wd_120) <| dr_c (dg_no) <| dr_c (dg_no) <| dr_c (dg_putf (T := TX8) (C := RX8) (N := 3) dX8_copyFrom_5 rfl (by decide) iw_X8 tyX8_ok nmX8 wd_120 rfl rfl) <| dr_c (dg_no) <| dr_c (dg_no) <| dr_c (dg_aload_n (k := 0) rfl dX8_copyFrom_8) <| dr_c (dg_getf (T := TX8) (C := RX8) (N := 3) dX8_copyFrom_9 rfl (by decide) iw_X8 wd_118) <| dr_c (dg_no) <| dr_c (dg_no) <| dr_c (dg_aload_n (k := 1) rfl dX8_copyFrom_12) <| dr_c (dg_getf (T := TX8) (C := RX8) (N := 3) dX8_copyFrom_13 rfl (by decide) iw_X8 wd_118) <| dr_c (dg_no) <| dr_c (dg_no) <| dr_n
theorem tr_90_1 : dm_AllR (dm_Good dm_tb RX8 cX8_copyFrom 2 none false none) 16 [dm_ald 17 0, dm_getf 20 6 2, dm_no, dm_no, dm_inv 23 47 2 3, dm_no, dm_no, dm_ald 24 0, dm_getf 27 6 1, dm_no, dm_no, dm_ald 28 1, dm_getf 31 6 1, dm_no, dm_no, dm_ald 32 0] := dr_c (dg_aload_n (k := 0) rfl dX8_copyFrom_16) <| dr_c (dg_getf (T := TX8) (C := RX8) (N := 3) dX8_copyFrom_17 rfl (by decide) iw_X8 wd_120) <| dr_c (dg_no) <| dr_c (dg_no) <| dr_c (dg_inv dX8_copyFrom_20 mo_47 rfl rfl wd_797 wd_708 wd_709 pd_47) <| dr_c (dg_no) <| dr_c (dg_no) <| dr_c (dg_aload_n (k := 0) rfl dX8_copyFrom_23) <| dr_c (dg_getf (T := TX8) (C := RX8) (N := 3) dX8_copyFrom_24 rfl (by decide) iw_X8 wd_119) <| dr_c (dg_no) <| dr_c (dg_no) <| dr_c (dg_aload_n (k := 1) rfl dX8_copyFrom_27) <| dr_c (dg_getf (T := TX8) (C := RX8) (N := 3) dX8_copyFrom_28 rfl (by decide) iw_X8 wd_119) <| dr_c (dg_no) <| dr_c (dg_no) <| dr_c (dg_aload_n (k := 0) rfl dX8_copyFrom_31) <| dr_n
theorem tr_90_2 : dm_AllR (dm_Good dm_tb RX8 cX8_copyFrom 2 none false none) 32 [dm_getf 35 6 2, dm_no, dm_no, dm_inv 38 47 2 3, dm_no, dm_no, dm_vret] := dr_c (dg_getf (T := TX8) (C := RX8) (N := 3) dX8_copyFrom_32 rfl (by decide) iw_X8 wd_120) <| dr_c (dg_no) <| dr_c (dg_no) <| dr_c (dg_inv dX8_copyFrom_35 mo_47 rfl rfl wd_797 wd_708 wd_709 pd_47) <| dr_c (dg_no) <| dr_c (dg_no) <| dr_c (dg_vret dX8_copyFrom_38) <| dr_n
theorem tk_90 : dm_AllC (dm_Good dm_tb RX8 cX8_copyFrom 2 none false none) 0 cd_90 := dc_c (by decide) tr_90_0 <| dc_c (by decide) tr_90_1 <| dc_c (by decide) tr_90_2 <| dc_n
theorem dX9_shareFrom_0 : decode cX9_shareFrom 0 = .ok (.aload_n 0, 1) := by decide +kernel
theorem dX9_shareFrom_1 : decode cX9_shareFrom 1 = .ok (.iload_n 1, 1) := by decide +kernel
theorem dX9_shareFrom_2 : decode cX9_shareFrom 2 = .ok (.invokevirtual 9, 3) := by decide +kernel
theorem dX9_shareFrom_5 : decode cX9_shareFrom 5 = .ok (.ifCond .ne 9, 3) := by decide +kernel
theorem dX9_shareFrom_8 : decode cX9_shareFrom 8 = .ok (.iload_n 3, 1) := by decide +kernel
theorem dX9_shareFrom_9 : decode cX9_shareFrom 9 = .ok (.bipush 60, 2) := by decide +kernel
theorem dX9_shareFrom_11 : decode cX9_shareFrom 11 = .ok (.if_icmp .lt 15, 3) := by decide +kernel
theorem dX9_shareFrom_14 : decode cX9_shareFrom 14 = .ok (.aload_n 2, 1) := by decide +kernel
theorem dX9_shareFrom_15 : decode cX9_shareFrom 15 = .ok (.aload_n 0, 1) := by decide +kernel
theorem dX9_shareFrom_16 : decode cX9_shareFrom 16 = .ok (.iload_n 1, 1) := by decide +kernel
theorem dX9_shareFrom_17 : decode cX9_shareFrom 17 = .ok (.invokevirtual 15, 3) := by decide +kernel
theorem dX9_shareFrom_20 : decode cX9_shareFrom 20 = .ok (.i2l, 1) := by decide +kernel
theorem dX9_shareFrom_21 : decode cX9_shareFrom 21 = .ok (.iconst 3, 1) := by decide +kernel
theorem dX9_shareFrom_22 : decode cX9_shareFrom 22 = .ok (.invokevirtual 19, 3) := by decide +kernel
theorem dX9_shareFrom_25 : decode cX9_shareFrom 25 = .ok (.return_, 1) := by decide +kernel
theorem dX9_shareFrom_26 : decode cX9_shareFrom 26 = .ok (.aload_n 0, 1) := by decide +kernel
theorem dX9_shareFrom_27 : decode cX9_shareFrom 27 = .ok (.aload_n 0, 1) := by decide +kernel
theorem dX9_shareFrom_28 : decode cX9_shareFrom 28 = .ok (.iload_n 1, 1) := by decide +kernel
theorem dX9_shareFrom_29 : decode cX9_shareFrom 29 = .ok (.invokevirtual 25, 3) := by decide +kernel
theorem dX9_shareFrom_32 : decode cX9_shareFrom 32 = .ok (.iconst 0, 1) := by decide +kernel
theorem dX9_shareFrom_33 : decode cX9_shareFrom 33 = .ok (.invokevirtual 28, 3) := by decide +kernel
theorem dX9_shareFrom_36 : decode cX9_shareFrom 36 = .ok (.ifCond .ne 7, 3) := by decide +kernel
theorem dX9_shareFrom_39 : decode cX9_shareFrom 39 = .ok (.iconst 1, 1) := by decide +kernel
theorem dX9_shareFrom_40 : decode cX9_shareFrom 40 = .ok (.goto 4, 3) := by decide +kernel
theorem dX9_shareFrom_43 : decode cX9_shareFrom 43 = .ok (.iconst 0, 1) := by decide +kernel
theorem dX9_shareFrom_44 : decode cX9_shareFrom 44 = .ok (.istore 4, 2) := by decide +kernel
theorem dX9_shareFrom_46 : decode cX9_shareFrom 46 = .ok (.aload_n 0, 1) := by decide +kernel
theorem dX9_shareFrom_47 : decode cX9_shareFrom 47 = .ok (.aload_n 0, 1) := by decide +kernel
theorem dX9_shareFrom_48 : decode cX9_shareFrom 48 = .ok (.iload_n 1, 1) := by decide +kernel
theorem dX9_shareFrom_49 : decode cX9_shareFrom 49 = .ok (.invokevirtual 32, 3) := by decide +kernel
theorem dX9_shareFrom_52 : decode cX9_shareFrom 52 = .ok (.iconst 0, 1) := by decide +kernel
theorem dX9_shareFrom_53 : decode cX9_shareFrom 53 = .ok (.invokevirtual 28, 3) := by decide +kernel
theorem dX9_shareFrom_56 : decode cX9_shareFrom 56 = .ok (.ifCond .ne 7, 3) := by decide +kernel
theorem dX9_shareFrom_59 : decode cX9_shareFrom 59 = .ok (.iconst 1, 1) := by decide +kernel
theorem dX9_shareFrom_60 : decode cX9_shareFrom 60 = .ok (.goto 4, 3) := by decide +kernel
theorem dX9_shareFrom_63 : decode cX9_shareFrom 63 = .ok (.iconst 0, 1) := by decide +kernel
theorem dX9_shareFrom_64 : decode cX9_shareFrom 64 = .ok (.istore 5, 2) := by decide +kernel
theorem dX9_shareFrom_66 : decode cX9_shareFrom 66 = .ok (.aload_n 2, 1) := by decide +kernel
theorem dX9_shareFrom_67 : decode cX9_shareFrom 67 = .ok (.iload 4, 2) := by decide +kernel
theorem dX9_shareFrom_69 : decode cX9_shareFrom 69 = .ok (.ifCond .eq 7, 3) := by decide +kernel
theorem dX9_shareFrom_72 : decode cX9_shareFrom 72 = .ok (.iconst 2, 1) := by decide +kernel
theorem dX9_shareFrom_73 : decode cX9_shareFrom 73 = .ok (.goto 4, 3) := by decide +kernel
theorem dX9_shareFrom_76 : decode cX9_shareFrom 76 = .ok (.iconst 0, 1) := by decide +kernel
theorem dX9_shareFrom_77 : decode cX9_shareFrom 77 = .ok (.iload 5, 2) := by decide +kernel
theorem dX9_shareFrom_79 : decode cX9_shareFrom 79 = .ok (.ifCond .eq 7, 3) := by decide +kernel
theorem dX9_shareFrom_82 : decode cX9_shareFrom 82 = .ok (.iconst 1, 1) := by decide +kernel
theorem dX9_shareFrom_83 : decode cX9_shareFrom 83 = .ok (.goto 4, 3) := by decide +kernel
theorem dX9_shareFrom_86 : decode cX9_shareFrom 86 = .ok (.iconst 0, 1) := by decide +kernel
theorem dX9_shareFrom_87 : decode cX9_shareFrom 87 = .ok (.iadd, 1) := by decide +kernel
theorem dX9_shareFrom_88 : decode cX9_shareFrom 88 = .ok (.i2l, 1) := by decide +kernel
theorem dX9_shareFrom_89 : decode cX9_shareFrom 89 = .ok (.iconst 2, 1) := by decide +kernel
theorem dX9_shareFrom_90 : decode cX9_shareFrom 90 = .ok (.invokevirtual 19, 3) := by decide +kernel
theorem dX9_shareFrom_93 : decode cX9_shareFrom 93 = .ok (.iload 4, 2) := by decide +kernel
theorem dX9_shareFrom_95 : decode cX9_shareFrom 95 = .ok (.ifCond .eq 16, 3) := by decide +kernel
theorem dX9_shareFrom_98 : decode cX9_shareFrom 98 = .ok (.aload_n 0, 1) := by decide +kernel
theorem dX9_shareFrom_99 : decode cX9_shareFrom 99 = .ok (.aload_n 0, 1) := by decide +kernel
theorem dX9_shareFrom_100 : decode cX9_shareFrom 100 = .ok (.iload_n 1, 1) := by decide +kernel
theorem dX9_shareFrom_101 : decode cX9_shareFrom 101 = .ok (.invokevirtual 25, 3) := by decide +kernel
theorem dX9_shareFrom_104 : decode cX9_shareFrom 104 = .ok (.aload_n 2, 1) := by decide +kernel
theorem dX9_shareFrom_105 : decode cX9_shareFrom 105 = .ok (.iload_n 3, 1) := by decide +kernel
theorem dX9_shareFrom_106 : decode cX9_shareFrom 106 = .ok (.iconst 1, 1) := by decide +kernel
theorem dX9_shareFrom_107 : decode cX9_shareFrom 107 = .ok (.iadd, 1) := by decide +kernel
theorem dX9_shareFrom_108 : decode cX9_shareFrom 108 = .ok (.invokestatic 35, 3) := by decide +kernel
theorem dX9_shareFrom_111 : decode cX9_shareFrom 111 = .ok (.iload 5, 2) := by decide +kernel
theorem dX9_shareFrom_113 : decode cX9_shareFrom 113 = .ok (.ifCond .eq 16, 3) := by decide +kernel
theorem dX9_shareFrom_116 : decode cX9_shareFrom 116 = .ok (.aload_n 0, 1) := by decide +kernel
theorem dX9_shareFrom_117 : decode cX9_shareFrom 117 = .ok (.aload_n 0, 1) := by decide +kernel
theorem dX9_shareFrom_118 : decode cX9_shareFrom 118 = .ok (.iload_n 1, 1) := by decide +kernel
theorem dX9_shareFrom_119 : decode cX9_shareFrom 119 = .ok (.invokevirtual 32, 3) := by decide +kernel
theorem dX9_shareFrom_122 : decode cX9_shareFrom 122 = .ok (.aload_n 2, 1) := by decide +kernel
theorem dX9_shareFrom_123 : decode cX9_shareFrom 123 = .ok (.iload_n 3, 1) := by decide +kernel
theorem dX9_shareFrom_124 : decode cX9_shareFrom 124 = .ok (.iconst 1, 1) := by decide +kernel
theorem dX9_shareFrom_125 : decode cX9_shareFrom 125 = .ok (.iadd, 1) := by decide +kernel
theorem dX9_shareFrom_126 : decode cX9_shareFrom 126 = .ok (.invokestatic 35, 3) := by decide +kernel
theorem dX9_shareFrom_129 : decode cX9_shareFrom 129 = .ok (.return_, 1) := by decide +kernel
def cd_91 : dm_Code := [[dm_ald 1 0, dm_ild 2 1, dm_inv 5 77 1 6, dm_no, dm_no, dm_if_ne 8 14, dm_no, dm_no, dm_ild 9 3, dm_push 11 (.int 60), dm_no, dm_ic_lt 14 26, dm_no, dm_no, dm_ald 15 2, dm_ald 16 0],
  [dm_ild 17 1, dm_inv 20 75 1 6, dm_no, dm_no, dm_i1 21 (fun x => .long x.toInt64), dm_push 22 (.int 3), dm_inv 25 8 2 1, dm_no, dm_no, dm_vret, dm_ald 27 0, dm_ald 28 0, dm_ild 29 1, dm_inv 32 79 1 6, dm_no, dm_no],
  [dm_push 33 (.int 0), dm_inv 36 78 2 6, dm_no, dm_no, dm_if_ne 39 43, dm_no, dm_no, dm_push 40 (.int 1), dm_goto 44, dm_no, dm_no, dm_push 44 (.int 0), dm_ist 46 4, dm_no, dm_ald 47 0, dm_ald 48 0],
  [dm_ild 49 1, dm_inv 52 80 1 6, dm_no, dm_no, dm_push 53 (.int 0), dm_inv 56 78 2 6, dm_no, dm_no, dm_if_ne 59 63, dm_no, dm_no, dm_push 60 (.int 1), dm_goto 64, dm_no, dm_no, dm_push 64 (.int 0)],
  [dm_ist 66 5, dm_no, dm_ald 67 2, dm_ild 69 4, dm_no, dm_if_eq 72 76, dm_no, dm_no, dm_push 73 (.int 2), dm_goto 77, dm_no, dm_no, dm_push 77 (.int 0), dm_ild 79 5, dm_no, dm_if_eq 82 86],
  [dm_no, dm_no, dm_push 83 (.int 1), dm_goto 87, dm_no, dm_no, dm_push 87 (.int 0), dm_ii 88 (fun x y => x + y), dm_i1 89 (fun x => .long x.toInt64), dm_push 90 (.int 2), dm_inv 93 8 2 1, dm_no, dm_no, dm_ild 95 4, dm_no, dm_if_eq 98 111],
  [dm_no, dm_no, dm_ald 99 0, dm_ald 100 0, dm_ild 101 1, dm_inv 104 79 1 6, dm_no, dm_no, dm_ald 105 2, dm_ild 106 3, dm_push 107 (.int 1), dm_ii 108 (fun x y => x + y), dm_ins 111 91 4, dm_no, dm_no, dm_ild 113 5],
  [dm_no, dm_if_eq 116 129, dm_no, dm_no, dm_ald 117 0, dm_ald 118 0, dm_ild 119 1, dm_inv 122 80 1 6, dm_no, dm_no, dm_ald 123 2, dm_ild 124 3, dm_push 125 (.int 1), dm_ii 126 (fun x y => x + y), dm_ins 129 91 4, dm_no],
  [dm_no, dm_vret]]
theorem tr_91_0 : dm_AllR (dm_Good dm_tb RX9 cX9_shareFrom 6 none false none) 0 [dm_ald 1 0, dm_ild 2 1, dm_inv 5 77 1 6, dm_no, dm_no, dm_if_ne 8 14, dm_no, dm_no, dm_ild 9 3, dm_push 11 (.int 60), dm_no, dm_ic_lt 14 26, dm_no, dm_no, dm_ald 15 2, dm_ald 16 0] := dr_c (dg_aload_n (k := 0) rfl dX9_shareFrom_0) <| dr_c (dg_iload_n (k := 1) rfl dX9_shareFrom_1) <| dr_c (dg_inv dX9_shareFrom_2 mo_77 rfl rfl wd_635 wd_293 wd_294 pd_77) <| dr_c (dg_no) <| dr_c (dg_no) <| dr_c (dg_if_ne (by decide) dX9_shareFrom_5) <| dr_c (dg_no) <| dr_c (dg_no) <| dr_c (dg_iload_n (k := 3) rfl dX9_shareFrom_8) <| dr_c (dg_bipush (by decide) dX9_shareFrom_9) <| dr_c (dg_no) <| dr_c (dg_ic_lt (by decide) dX9_shareFrom_11) <| dr_c (dg_no) <| dr_c (dg_no) <| dr_c (dg_aload_n (k := 2) rfl dX9_shareFrom_14) <| dr_c (dg_aload_n (k := 0) rfl dX9_shareFrom_15) <| dr_n
theorem tr_91_1 : dm_AllR (dm_Good dm_tb RX9 cX9_shareFrom 6 none false none) 16 [dm_ild 17 1, dm_inv 20 75 1 6, dm_no, dm_no, dm_i1 21 (fun x => .long x.toInt64), dm_push 22 (.int 3), dm_inv 25 8 2 1, dm_no, dm_no, dm_vret, dm_ald 27 0, dm_ald 28 0, dm_ild 29 1, dm_inv 32 79 1 6, dm_no, dm_no] := dr_c (dg_iload_n (k := 1) rfl dX9_shareFrom_16) <| dr_c (dg_inv dX9_shareFrom_17 mo_75 rfl rfl wd_636 wd_381 wd_382 pd_75) <| dr_c (dg_no) <| dr_c (dg_no) <| dr_c (dg_i2l dX9_shareFrom_20) <| dr_c (dg_iconst (by decide) dX9_shareFrom_21) <| dr_c (dg_inv dX9_shareFrom_22 mo_8 rfl rfl wd_637 wd_638 wd_639 pd_8) <| dr_c (dg_no) <| dr_c (dg_no) <| dr_c (dg_vret dX9_shareFrom_25) <| dr_c (dg_aload_n (k := 0) rfl dX9_shareFrom_26) <| dr_c (dg_aload_n (k := 0) rfl dX9_shareFrom_27) <| dr_c (dg_iload_n (k := 1) rfl dX9_shareFrom_28) <| dr_c (dg_inv dX9_shareFrom_29 mo_79 rfl rfl wd_642 wd_393 wd_394 pd_79) <| dr_c (dg_no) <| dr_c (dg_no) <| dr_n
theorem tr_91_2 : dm_AllR (dm_Good dm_tb RX9 cX9_shareFrom 6 none false none) 32 [dm_push 33 (.int 0), dm_inv 36 78 2 6, dm_no, dm_no, dm_if_ne 39 43, dm_no, dm_no, dm_push 40 (.int 1), dm_goto 44, dm_no, dm_no, dm_push 44 (.int 0), dm_ist 46 4, dm_no, dm_ald 47 0, dm_ald 48 0] := dr_c (dg_iconst (by decide) dX9_shareFrom_32) <| dr_c (dg_inv dX9_shareFrom_33 mo_78 rfl rfl wd_643 wd_377 wd_378 pd_78) <| dr_c (dg_no) <| dr_c (dg_no) <| dr_c (dg_if_ne (by decide) dX9_shareFrom_36) <| dr_c (dg_no) <| dr_c (dg_no) <| dr_c (dg_iconst (by decide) dX9_shareFrom_39) <| dr_c (dg_goto (by decide) dX9_shareFrom_40) <| dr_c (dg_no) <| dr_c (dg_no) <| dr_c (dg_iconst (by decide) dX9_shareFrom_43) <| dr_c (dg_istore (by decide) dX9_shareFrom_44) <| dr_c (dg_no) <| dr_c (dg_aload_n (k := 0) rfl dX9_shareFrom_46) <| dr_c (dg_aload_n (k := 0) rfl dX9_shareFrom_47) <| dr_n
theorem tr_91_3 : dm_AllR (dm_Good dm_tb RX9 cX9_shareFrom 6 none false none) 48 [dm_ild 49 1, dm_inv 52 80 1 6, dm_no, dm_no, dm_push 53 (.int 0), dm_inv 56 78 2 6, dm_no, dm_no, dm_if_ne 59 63, dm_no, dm_no, dm_push 60 (.int 1), dm_goto 64, dm_no, dm_no, dm_push 64 (.int 0)] := dr_c (dg_iload_n (k := 1) rfl dX9_shareFrom_48) <| dr_c (dg_inv dX9_shareFrom_49 mo_80 rfl rfl wd_644 wd_398 wd_399 pd_80) <| dr_c (dg_no) <| dr_c (dg_no) <| dr_c (dg_iconst (by decide) dX9_shareFrom_52) <| dr_c (dg_inv dX9_shareFrom_53 mo_78 rfl rfl wd_643 wd_377 wd_378 pd_78) <| dr_c (dg_no) <| dr_c (dg_no) <| dr_c (dg_if_ne (by decide) dX9_shareFrom_56) <| dr_c (dg_no) <| dr_c (dg_no) <| dr_c (dg_iconst (by decide) dX9_shareFrom_59) <| dr_c (dg_goto (by decide) dX9_shareFrom_60) <| dr_c (dg_no) <| dr_c (dg_no) <| dr_c (dg_iconst (by decide) dX9_shareFrom_63) <| dr_n
theorem tr_91_4 : dm_AllR (dm_Good dm_tb RX9 cX9_shareFrom 6 none false none) 64 [dm_ist 66 5, dm_no, dm_ald 67 2, dm_ild 69 4, dm_no, dm_if_eq 72 76, dm_no, dm_no, dm_push 73 (.int 2), dm_goto 77, dm_no, dm_no, dm_push 77 (.int 0), dm_ild 79 5, dm_no, dm_if_eq 82 86] := dr_c (dg_istore (by decide) dX9_shareFrom_64) <| dr_c (dg_no) <| dr_c (dg_aload_n (k := 2) rfl dX9_shareFrom_66) <| dr_c (dg_iload dX9_shareFrom_67) <| dr_c (dg_no) <| dr_c (dg_if_eq (by decide) dX9_shareFrom_69) <| dr_c (dg_no) <| dr_c (dg_no) <| dr_c (dg_iconst (by decide) dX9_shareFrom_72) <| dr_c (dg_goto (by decide) dX9_shareFrom_73) <| dr_c (dg_no) <| dr_c (dg_no) <| dr_c (dg_iconst (by decide) dX9_shareFrom_76) <| dr_c (dg_iload dX9_shareFrom_77) <| dr_c (dg_no) <| dr_c (dg_if_eq (by decide) dX9_shareFrom_79) <| dr_n
theorem tr_91_5 : dm_AllR (dm_Good dm_tb RX9 cX9_shareFrom 6 none false none) 80 [dm_no, dm_no, dm_push 83 (.int 1), dm_goto 87, dm_no, dm_no, dm_push 87 (.int 0), dm_ii 88 (fun x y => x + y), dm_i1 89 (fun x => .long x.toInt64), dm_push 90 (.int 2), dm_inv 93 8 2 1, dm_no, dm_no, dm_ild 95 4, dm_no, dm_if_eq 98 111] := dr_c (dg_no) <| dr_c (dg_no) <| dr_c (dg_iconst (by decide) dX9_shareFrom_82) <| dr_c (dg_goto (by decide) dX9_shareFrom_83) <| dr_c (dg_no) <| dr_c (dg_no) <| dr_c (dg_iconst (by decide) dX9_shareFrom_86) <| dr_c (dg_iadd dX9_shareFrom_87) <| dr_c (dg_i2l dX9_shareFrom_88) <| dr_c (dg_iconst (by decide) dX9_shareFrom_89) <| dr_c (dg_inv dX9_shareFrom_90 mo_8 rfl rfl wd_637 wd_638 wd_639 pd_8) <| dr_c (dg_no) <| dr_c (dg_no) <| dr_c (dg_iload dX9_shareFrom_93) <| dr_c (dg_no) <| dr_c (dg_if_eq (by decide) dX9_shareFrom_95) <| dr_n
theorem tr_91_6 : dm_AllR (dm_Good dm_tb RX9 cX9_shareFrom 6 none false none) 96 [dm_no, dm_no, dm_ald 99 0, dm_ald 100 0, dm_ild 101 1, dm_inv 104 79 1 6, dm_no, dm_no, dm_ald 105 2, dm_ild 106 3, dm_push 107 (.int 1), dm_ii 108 (fun x y => x + y), dm_ins 111 91 4, dm_no, dm_no, dm_ild 113 5] := dr_c (dg_no) <| dr_c (dg_no) <| dr_c (dg_aload_n (k := 0) rfl dX9_shareFrom_98) <| dr_c (dg_aload_n (k := 0) rfl dX9_shareFrom_99) <| dr_c (dg_iload_n (k := 1) rfl dX9_shareFrom_100) <| dr_c (dg_inv dX9_shareFrom_101 mo_79 rfl rfl wd_642 wd_393 wd_394 pd_79) <| dr_c (dg_no) <| dr_c (dg_no) <| dr_c (dg_aload_n (k := 2) rfl dX9_shareFrom_104) <| dr_c (dg_iload_n (k := 3) rfl dX9_shareFrom_105) <| dr_c (dg_iconst (by decide) dX9_shareFrom_106) <| dr_c (dg_iadd dX9_shareFrom_107) <| dr_c (dg_ins dX9_shareFrom_108 mo_91 wd_645 wd_633 pd_91) <| dr_c (dg_no) <| dr_c (dg_no) <| dr_c (dg_iload dX9_shareFrom_111) <| dr_n
theorem tr_91_7 : dm_AllR (dm_Good dm_tb RX9 cX9_shareFrom 6 none false none) 112 [dm_no, dm_if_eq 116 129, dm_no, dm_no, dm_ald 117 0, dm_ald 118 0, dm_ild 119 1, dm_inv 122 80 1 6, dm_no, dm_no, dm_ald 123 2, dm_ild 124 3, dm_push 125 (.int 1), dm_ii 126 (fun x y => x + y), dm_ins 129 91 4, dm_no] := dr_c (dg_no) <| dr_c (dg_if_eq (by decide) dX9_shareFrom_113) <| dr_c (dg_no) <| dr_c (dg_no) <| dr_c (dg_aload_n (k := 0) rfl dX9_shareFrom_116) <| dr_c (dg_aload_n (k := 0) rfl dX9_shareFrom_117) <| dr_c (dg_iload_n (k := 1) rfl dX9_shareFrom_118) <| dr_c (dg_inv dX9_shareFrom_119 mo_80 rfl rfl wd_644 wd_398 wd_399 pd_80) <| dr_c (dg_no) <| dr_c (dg_no) <| dr_c (dg_aload_n (k := 2) rfl dX9_shareFrom_122) <| dr_c (dg_iload_n (k := 3) rfl dX9_shareFrom_123) <| dr_c (dg_iconst (by decide) dX9_shareFrom_124) <| dr_c (dg_iadd dX9_shareFrom_125) <| dr_c (dg_ins dX9_shareFrom_126 mo_91 wd_645 wd_633 pd_91) <| dr_c (dg_no) <| dr_n
theorem tr_91_8 : dm_AllR (dm_Good dm_tb RX9 cX9_shareFrom 6 none false none) 128 [dm_no, dm_vret] := dr_c (dg_no) <| dr_c (dg_vret dX9_shareFrom_129) <| dr_n
theorem tk_91 : dm_AllC (dm_Good dm_tb RX9 cX9_shareFrom 6 none false none) 0 cd_91 := dc_c (by decide) tr_91_0 <| dc_c (by decide) tr_91_1 <| dc_c (by decide) tr_91_2 <| dc_c (by decide) tr_91_3 <| dc_c (by decide) tr_91_4 <| dc_c (by decide) tr_91_5 <| dc_c (by decide) tr_91_6 <| dc_c (by decide) tr_91_7 <| dc_c (by decide) tr_91_8 <| dc_n
