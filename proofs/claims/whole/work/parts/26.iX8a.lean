theorem d104_0 : decode prog_10_method_2_code 0 = .ok (.lload_n 0, 1) := by decide +kernel
theorem s104_0 {v1 v2 v3 v4 v5 : Value} {l1 : Int64} {st : List Value} {im : IM} {rm : RM}  : ev 104 0 [.long l1, v1, v2, v3, v4, v5] st im rm = ev 104 1 [.long l1, v1, v2, v3, v4, v5] (.long l1 :: st) (im) (rm) := ev_lload_n pm_m104 d104_0 rfl rfl
theorem d104_1 : decode prog_10_method_2_code 1 = .ok (.lload_n 2, 1) := by decide +kernel
theorem s104_1 {v0 v1 v3 v4 v5 : Value} {l1 : Int64} {st : List Value} {im : IM} {rm : RM}  : ev 104 1 [v0, v1, .long l1, v3, v4, v5] st im rm = ev 104 2 [v0, v1, .long l1, v3, v4, v5] (.long l1 :: st) (im) (rm) := ev_lload_n pm_m104 d104_1 rfl rfl
theorem d104_2 : decode prog_10_method_2_code 2 = .ok (.lcmp, 1) := by decide +kernel
theorem s104_2 {v0 v1 v2 v3 v4 v5 : Value} {x : Int64} {y : Int64} {st : List Value} {im : IM} {rm : RM}  : ev 104 2 [v0, v1, v2, v3, v4, v5] (.long y :: .long x :: st) im rm = ev 104 3 [v0, v1, v2, v3, v4, v5] (.int (lg_cmp x y) :: st) (im) (rm) := ev_lcmp pm_m104 d104_2 rfl
theorem d104_3 : decode prog_10_method_2_code 3 = .ok (.ifCond .lt 14, 3) := by decide +kernel
theorem s104_3 {v0 v1 v2 v3 v4 v5 : Value} {x : Int32} {st : List Value} {im : IM} {rm : RM} : ev 104 3 [v0, v1, v2, v3, v4, v5] (.int x :: st) im rm = if x < nI 0 then ev 104 17 [pm_u, pm_u, pm_u, pm_u, pm_u, pm_u] st im rm else ev 104 6 [v0, v1, v2, v3, v4, v5] st im rm := ev_if_lt (y := 0) pm_m104 d104_3 rfl rfl rfl
theorem d104_6 : decode prog_10_method_2_code 6 = .ok (.lload_n 0, 1) := by decide +kernel
theorem s104_6 {v1 v2 v3 v4 v5 : Value} {l1 : Int64} {st : List Value} {im : IM} {rm : RM}  : ev 104 6 [.long l1, v1, v2, v3, v4, v5] st im rm = ev 104 7 [.long l1, v1, v2, v3, v4, v5] (.long l1 :: st) (im) (rm) := ev_lload_n pm_m104 d104_6 rfl rfl
theorem d104_7 : decode prog_10_method_2_code 7 = .ok (.lload 4, 2) := by decide +kernel
theorem s104_7 {v0 v1 v2 v3 v5 : Value} {l1 : Int64} {st : List Value} {im : IM} {rm : RM}  : ev 104 7 [v0, v1, v2, v3, .long l1, v5] st im rm = ev 104 9 [v0, v1, v2, v3, .long l1, v5] (.long l1 :: st) (im) (rm) := ev_lload pm_m104 d104_7 rfl rfl
theorem d104_9 : decode prog_10_method_2_code 9 = .ok (.lcmp, 1) := by decide +kernel
theorem s104_9 {v0 v1 v2 v3 v4 v5 : Value} {x : Int64} {y : Int64} {st : List Value} {im : IM} {rm : RM}  : ev 104 9 [v0, v1, v2, v3, v4, v5] (.long y :: .long x :: st) im rm = ev 104 10 [v0, v1, v2, v3, v4, v5] (.int (lg_cmp x y) :: st) (im) (rm) := ev_lcmp pm_m104 d104_9 rfl
theorem d104_10 : decode prog_10_method_2_code 10 = .ok (.ifCond .gt 7, 3) := by decide +kernel
theorem s104_10 {v0 v1 v2 v3 v4 v5 : Value} {x : Int32} {st : List Value} {im : IM} {rm : RM} : ev 104 10 [v0, v1, v2, v3, v4, v5] (.int x :: st) im rm = if nI 0 < x then ev 104 17 [pm_u, pm_u, pm_u, pm_u, pm_u, pm_u] st im rm else ev 104 13 [v0, v1, v2, v3, v4, v5] st im rm := ev_if_gt (y := 0) pm_m104 d104_10 rfl rfl rfl
theorem d104_13 : decode prog_10_method_2_code 13 = .ok (.iconst 1, 1) := by decide +kernel
theorem s104_13 {v0 v1 v2 v3 v4 v5 : Value}  {st : List Value} {im : IM} {rm : RM}  : ev 104 13 [v0, v1, v2, v3, v4, v5] st im rm = ev 104 14 [v0, v1, v2, v3, v4, v5] (.int (nI 1) :: st) (im) (rm) := ev_iconst pm_m104 d104_13 rfl rfl
theorem d104_14 : decode prog_10_method_2_code 14 = .ok (.goto 4, 3) := by decide +kernel
theorem s104_14 {v0 v1 v2 v3 v4 v5 : Value}  {st : List Value} {im : IM} {rm : RM}  : ev 104 14 [v0, v1, v2, v3, v4, v5] st im rm = ev 104 18 [pm_u, pm_u, pm_u, pm_u, pm_u, pm_u] st (im) (rm) := ev_goto pm_m104 d104_14 rfl rfl
theorem d104_17 : decode prog_10_method_2_code 17 = .ok (.iconst 0, 1) := by decide +kernel
theorem s104_17 {v0 v1 v2 v3 v4 v5 : Value}  {st : List Value} {im : IM} {rm : RM}  : ev 104 17 [v0, v1, v2, v3, v4, v5] st im rm = ev 104 18 [pm_u, pm_u, pm_u, pm_u, pm_u, pm_u] (.int (nI 0) :: st) (im) (rm) := ev_iconst pm_m104 d104_17 rfl rfl
theorem d104_18 : decode prog_10_method_2_code 18 = .ok (.ireturn, 1) := by decide +kernel
theorem s104_18 {v0 v1 v2 v3 v4 v5 : Value} {x : Int32} {im : IM} {rm : RM} (hx : x = 0 ∨ x = 1) : ev 104 18 [v0, v1, v2, v3, v4, v5] [.int x] im rm = some (some (.int x), im, rm) := ev_zreturn pm_m104 d104_18 rfl hx
theorem d105_0 : decode prog_10_method_3_code 0 = .ok (.iload_n 0, 1) := by decide +kernel
theorem s105_0 {l1 : Int32} {st : List Value} {im : IM} {rm : RM}  : ev 105 0 [.int l1] st im rm = ev 105 1 [.int l1] (.int l1 :: st) (im) (rm) := ev_iload_n pm_m105 d105_0 rfl rfl
theorem d105_1 : decode prog_10_method_3_code 1 = .ok (.i2l, 1) := by decide +kernel
theorem s105_1 {v0 : Value} {x : Int32} {st : List Value} {im : IM} {rm : RM}  : ev 105 1 [v0] (.int x :: st) im rm = ev 105 2 [v0] (.long x.toInt64 :: st) (im) (rm) := ev_i2l pm_m105 d105_1 rfl
theorem d105_2 : decode prog_10_method_3_code 2 = .ok (.lconst 0, 1) := by decide +kernel
theorem s105_2 {v0 : Value}  {st : List Value} {im : IM} {rm : RM}  : ev 105 2 [v0] st im rm = ev 105 3 [v0] (.long (lN 0) :: st) (im) (rm) := ev_lconst pm_m105 d105_2 rfl rfl
theorem d105_3 : decode prog_10_method_3_code 3 = .ok (.ldc2_w 118, 3) := by decide +kernel
theorem s105_3 {v0 : Value}  {st : List Value} {im : IM} {rm : RM}  : ev 105 3 [v0] st im rm = ev 105 6 [v0] (.long (lN 5) :: st) (im) (rm) := ev_ldc2 pm_m105 d105_3 (by decide +kernel) rfl
theorem d105_6 : decode prog_10_method_3_code 6 = .ok (.invokestatic 120, 3) := by decide +kernel
theorem s105_6 {v0 : Value} {p1 : Int64} {p2 : Int64} {p3 : Int64} {im : IM} {rm : RM}  : ev 105 6 [v0] [.long p3, .long p2, .long p1] im rm = (ev 104 0 [.long p1, pm_u, .long p2, pm_u, .long p3, pm_u] [] im rm).bind (fun r => ev 105 9 [v0] (r.1.toList ++ []) r.2.1 r.2.2) := ev_callS pm_m105 d105_6 (by decide) l8_120 rfl pm_m104 rfl ⟨rfl, rfl⟩ rfl rfl
theorem d105_9 : decode prog_10_method_3_code 9 = .ok (.ireturn, 1) := by decide +kernel
theorem s105_9 {v0 : Value} {x : Int32} {im : IM} {rm : RM} (hx : x = 0 ∨ x = 1) : ev 105 9 [v0] [.int x] im rm = some (some (.int x), im, rm) := ev_zreturn pm_m105 d105_9 rfl hx
theorem d106_0 : decode prog_10_method_4_code 0 = .ok (.iload_n 0, 1) := by decide +kernel
theorem s106_0 {l1 : Int32} {st : List Value} {im : IM} {rm : RM}  : ev 106 0 [.int l1] st im rm = ev 106 1 [.int l1] (.int l1 :: st) (im) (rm) := ev_iload_n pm_m106 d106_0 rfl rfl
theorem d106_1 : decode prog_10_method_4_code 1 = .ok (.i2l, 1) := by decide +kernel
theorem s106_1 {v0 : Value} {x : Int32} {st : List Value} {im : IM} {rm : RM}  : ev 106 1 [v0] (.int x :: st) im rm = ev 106 2 [v0] (.long x.toInt64 :: st) (im) (rm) := ev_i2l pm_m106 d106_1 rfl
theorem d106_2 : decode prog_10_method_4_code 2 = .ok (.lconst 0, 1) := by decide +kernel
theorem s106_2 {v0 : Value}  {st : List Value} {im : IM} {rm : RM}  : ev 106 2 [v0] st im rm = ev 106 3 [v0] (.long (lN 0) :: st) (im) (rm) := ev_lconst pm_m106 d106_2 rfl rfl
theorem d106_3 : decode prog_10_method_4_code 3 = .ok (.ldc2_w 124, 3) := by decide +kernel
theorem s106_3 {v0 : Value}  {st : List Value} {im : IM} {rm : RM}  : ev 106 3 [v0] st im rm = ev 106 6 [v0] (.long (lN 3) :: st) (im) (rm) := ev_ldc2 pm_m106 d106_3 (by decide +kernel) rfl
theorem d106_6 : decode prog_10_method_4_code 6 = .ok (.invokestatic 120, 3) := by decide +kernel
theorem s106_6 {v0 : Value} {p1 : Int64} {p2 : Int64} {p3 : Int64} {im : IM} {rm : RM}  : ev 106 6 [v0] [.long p3, .long p2, .long p1] im rm = (ev 104 0 [.long p1, pm_u, .long p2, pm_u, .long p3, pm_u] [] im rm).bind (fun r => ev 106 9 [v0] (r.1.toList ++ []) r.2.1 r.2.2) := ev_callS pm_m106 d106_6 (by decide) l8_120 rfl pm_m104 rfl ⟨rfl, rfl⟩ rfl rfl
theorem d106_9 : decode prog_10_method_4_code 9 = .ok (.ireturn, 1) := by decide +kernel
theorem s106_9 {v0 : Value} {x : Int32} {im : IM} {rm : RM} (hx : x = 0 ∨ x = 1) : ev 106 9 [v0] [.int x] im rm = some (some (.int x), im, rm) := ev_zreturn pm_m106 d106_9 rfl hx
theorem d107_0 : decode prog_10_method_5_code 0 = .ok (.iload_n 0, 1) := by decide +kernel
theorem s107_0 {l1 : Int32} {st : List Value} {im : IM} {rm : RM}  : ev 107 0 [.int l1] st im rm = ev 107 1 [.int l1] (.int l1 :: st) (im) (rm) := ev_iload_n pm_m107 d107_0 rfl rfl
theorem d107_1 : decode prog_10_method_5_code 1 = .ok (.i2l, 1) := by decide +kernel
theorem s107_1 {v0 : Value} {x : Int32} {st : List Value} {im : IM} {rm : RM}  : ev 107 1 [v0] (.int x :: st) im rm = ev 107 2 [v0] (.long x.toInt64 :: st) (im) (rm) := ev_i2l pm_m107 d107_1 rfl
theorem d107_2 : decode prog_10_method_5_code 2 = .ok (.lconst 0, 1) := by decide +kernel
theorem s107_2 {v0 : Value}  {st : List Value} {im : IM} {rm : RM}  : ev 107 2 [v0] st im rm = ev 107 3 [v0] (.long (lN 0) :: st) (im) (rm) := ev_lconst pm_m107 d107_2 rfl rfl
theorem d107_3 : decode prog_10_method_5_code 3 = .ok (.lconst 1, 1) := by decide +kernel
theorem s107_3 {v0 : Value}  {st : List Value} {im : IM} {rm : RM}  : ev 107 3 [v0] st im rm = ev 107 4 [v0] (.long (lN 1) :: st) (im) (rm) := ev_lconst pm_m107 d107_3 rfl rfl
theorem d107_4 : decode prog_10_method_5_code 4 = .ok (.invokestatic 120, 3) := by decide +kernel
theorem s107_4 {v0 : Value} {p1 : Int64} {p2 : Int64} {p3 : Int64} {im : IM} {rm : RM}  : ev 107 4 [v0] [.long p3, .long p2, .long p1] im rm = (ev 104 0 [.long p1, pm_u, .long p2, pm_u, .long p3, pm_u] [] im rm).bind (fun r => ev 107 7 [v0] (r.1.toList ++ []) r.2.1 r.2.2) := ev_callS pm_m107 d107_4 (by decide) l8_120 rfl pm_m104 rfl ⟨rfl, rfl⟩ rfl rfl
theorem d107_7 : decode prog_10_method_5_code 7 = .ok (.ireturn, 1) := by decide +kernel
theorem s107_7 {v0 : Value} {x : Int32} {im : IM} {rm : RM} (hx : x = 0 ∨ x = 1) : ev 107 7 [v0] [.int x] im rm = some (some (.int x), im, rm) := ev_zreturn pm_m107 d107_7 rfl hx
theorem d108_0 : decode prog_10_method_6_code 0 = .ok (.iload_n 1, 1) := by decide +kernel
theorem s108_0 {v0 v2 : Value} {l1 : Int32} {st : List Value} {im : IM} {rm : RM}  : ev 108 0 [v0, .int l1, v2] st im rm = ev 108 1 [v0, .int l1, v2] (.int l1 :: st) (im) (rm) := ev_iload_n pm_m108 d108_0 rfl rfl
theorem d108_1 : decode prog_10_method_6_code 1 = .ok (.invokestatic 126, 3) := by decide +kernel
theorem s108_1 {v0 v1 v2 : Value} {p1 : Int32} {im : IM} {rm : RM}  : ev 108 1 [v0, v1, v2] [.int p1] im rm = (ev 105 0 [.int p1] [] im rm).bind (fun r => ev 108 4 [v0, v1, v2] (r.1.toList ++ []) r.2.1 r.2.2) := ev_callS pm_m108 d108_1 (by decide) l8_126 rfl pm_m105 rfl ⟨rfl, rfl⟩ rfl rfl
theorem d108_4 : decode prog_10_method_6_code 4 = .ok (.ifCond .eq 25, 3) := by decide +kernel
theorem s108_4 {v0 v1 v2 : Value} {x : Int32} {st : List Value} {im : IM} {rm : RM} : ev 108 4 [v0, v1, v2] (.int x :: st) im rm = if x = nI 0 then ev 108 29 [pm_u, pm_u, pm_u] st im rm else ev 108 7 [v0, v1, v2] st im rm := ev_if_eq (y := 0) pm_m108 d108_4 rfl rfl rfl
theorem d108_7 : decode prog_10_method_6_code 7 = .ok (.iload_n 2, 1) := by decide +kernel
theorem s108_7 {v0 v1 : Value} {l1 : Int32} {st : List Value} {im : IM} {rm : RM}  : ev 108 7 [v0, v1, .int l1] st im rm = ev 108 8 [v0, v1, .int l1] (.int l1 :: st) (im) (rm) := ev_iload_n pm_m108 d108_7 rfl rfl
theorem d108_8 : decode prog_10_method_6_code 8 = .ok (.i2l, 1) := by decide +kernel
theorem s108_8 {v0 v1 v2 : Value} {x : Int32} {st : List Value} {im : IM} {rm : RM}  : ev 108 8 [v0, v1, v2] (.int x :: st) im rm = ev 108 9 [v0, v1, v2] (.long x.toInt64 :: st) (im) (rm) := ev_i2l pm_m108 d108_8 rfl
theorem d108_9 : decode prog_10_method_6_code 9 = .ok (.lconst 0, 1) := by decide +kernel
theorem s108_9 {v0 v1 v2 : Value}  {st : List Value} {im : IM} {rm : RM}  : ev 108 9 [v0, v1, v2] st im rm = ev 108 10 [v0, v1, v2] (.long (lN 0) :: st) (im) (rm) := ev_lconst pm_m108 d108_9 rfl rfl
theorem d108_10 : decode prog_10_method_6_code 10 = .ok (.aload_n 0, 1) := by decide +kernel
theorem s108_10 {v1 v2 : Value} {l1 : Nat} {st : List Value} {im : IM} {rm : RM}  : ev 108 10 [.ref l1, v1, v2] st im rm = ev 108 11 [.ref l1, v1, v2] (.ref l1 :: st) (im) (rm) := ev_aload_n pm_m108 d108_10 rfl rfl
theorem d108_11 : decode prog_10_method_6_code 11 = .ok (.getfield 16, 3) := by decide +kernel
theorem s108_11 {v0 v1 v2 : Value} {a : Nat} {st : List Value} {im : IM} {rm : RM} (hk : kd a = 18) : ev 108 11 [v0, v1, v2] (.ref a :: st) im rm = ev 108 14 [v0, v1, v2] (pm_ro (rm a 2) :: st) (im) (rm) := ev_getR pm_m108 d108_11 f8_16 rfl hk rfl
theorem d108_14 : decode prog_10_method_6_code 14 = .ok (.iload_n 1, 1) := by decide +kernel
theorem s108_14 {v0 v2 : Value} {l1 : Int32} {st : List Value} {im : IM} {rm : RM}  : ev 108 14 [v0, .int l1, v2] st im rm = ev 108 15 [v0, .int l1, v2] (.int l1 :: st) (im) (rm) := ev_iload_n pm_m108 d108_14 rfl rfl
theorem d108_15 : decode prog_10_method_6_code 15 = .ok (.iaload, 1) := by decide +kernel
theorem s108_15 {v0 v1 v2 : Value} {a : Nat} {i : Int32} {st : List Value} {im : IM} {rm : RM} (hk : kd a = 0) (hi : pm_in i (ln a) = true) : ev 108 15 [v0, v1, v2] (.int i :: .ref a :: st) im rm = ev 108 16 [v0, v1, v2] (.int (im a i.toNatClampNeg) :: st) (im) (rm) := ev_iald pm_m108 d108_15 hk hi rfl
theorem d108_16 : decode prog_10_method_6_code 16 = .ok (.iconst 1, 1) := by decide +kernel
theorem s108_16 {v0 v1 v2 : Value}  {st : List Value} {im : IM} {rm : RM}  : ev 108 16 [v0, v1, v2] st im rm = ev 108 17 [v0, v1, v2] (.int (nI 1) :: st) (im) (rm) := ev_iconst pm_m108 d108_16 rfl rfl
theorem d108_17 : decode prog_10_method_6_code 17 = .ok (.isub, 1) := by decide +kernel
theorem s108_17 {v0 v1 v2 : Value} {x : Int32} {y : Int32} {st : List Value} {im : IM} {rm : RM}  : ev 108 17 [v0, v1, v2] (.int y :: .int x :: st) im rm = ev 108 18 [v0, v1, v2] (.int (x - y) :: st) (im) (rm) := ev_isub pm_m108 d108_17 rfl
theorem d108_18 : decode prog_10_method_6_code 18 = .ok (.i2l, 1) := by decide +kernel
theorem s108_18 {v0 v1 v2 : Value} {x : Int32} {st : List Value} {im : IM} {rm : RM}  : ev 108 18 [v0, v1, v2] (.int x :: st) im rm = ev 108 19 [v0, v1, v2] (.long x.toInt64 :: st) (im) (rm) := ev_i2l pm_m108 d108_18 rfl
theorem d108_19 : decode prog_10_method_6_code 19 = .ok (.invokestatic 120, 3) := by decide +kernel
theorem s108_19 {v0 v1 v2 : Value} {p1 : Int64} {p2 : Int64} {p3 : Int64} {im : IM} {rm : RM}  : ev 108 19 [v0, v1, v2] [.long p3, .long p2, .long p1] im rm = (ev 104 0 [.long p1, pm_u, .long p2, pm_u, .long p3, pm_u] [] im rm).bind (fun r => ev 108 22 [v0, v1, v2] (r.1.toList ++ []) r.2.1 r.2.2) := ev_callS pm_m108 d108_19 (by decide) l8_120 rfl pm_m104 rfl ⟨rfl, rfl⟩ rfl rfl
theorem d108_22 : decode prog_10_method_6_code 22 = .ok (.ifCond .eq 7, 3) := by decide +kernel
theorem s108_22 {v0 v1 v2 : Value} {x : Int32} {st : List Value} {im : IM} {rm : RM} : ev 108 22 [v0, v1, v2] (.int x :: st) im rm = if x = nI 0 then ev 108 29 [pm_u, pm_u, pm_u] st im rm else ev 108 25 [v0, v1, v2] st im rm := ev_if_eq (y := 0) pm_m108 d108_22 rfl rfl rfl
theorem d108_25 : decode prog_10_method_6_code 25 = .ok (.iconst 1, 1) := by decide +kernel
theorem s108_25 {v0 v1 v2 : Value}  {st : List Value} {im : IM} {rm : RM}  : ev 108 25 [v0, v1, v2] st im rm = ev 108 26 [v0, v1, v2] (.int (nI 1) :: st) (im) (rm) := ev_iconst pm_m108 d108_25 rfl rfl
theorem d108_26 : decode prog_10_method_6_code 26 = .ok (.goto 4, 3) := by decide +kernel
theorem s108_26 {v0 v1 v2 : Value}  {st : List Value} {im : IM} {rm : RM}  : ev 108 26 [v0, v1, v2] st im rm = ev 108 30 [pm_u, pm_u, pm_u] st (im) (rm) := ev_goto pm_m108 d108_26 rfl rfl
theorem d108_29 : decode prog_10_method_6_code 29 = .ok (.iconst 0, 1) := by decide +kernel
theorem s108_29 {v0 v1 v2 : Value}  {st : List Value} {im : IM} {rm : RM}  : ev 108 29 [v0, v1, v2] st im rm = ev 108 30 [pm_u, pm_u, pm_u] (.int (nI 0) :: st) (im) (rm) := ev_iconst pm_m108 d108_29 rfl rfl
theorem d108_30 : decode prog_10_method_6_code 30 = .ok (.ireturn, 1) := by decide +kernel
theorem s108_30 {v0 v1 v2 : Value} {x : Int32} {im : IM} {rm : RM} (hx : x = 0 ∨ x = 1) : ev 108 30 [v0, v1, v2] [.int x] im rm = some (some (.int x), im, rm) := ev_zreturn pm_m108 d108_30 rfl hx
theorem d109_0 : decode prog_10_method_7_code 0 = .ok (.iload_n 1, 1) := by decide +kernel
theorem s109_0 {v0 v2 v3 : Value} {l1 : Int32} {st : List Value} {im : IM} {rm : RM}  : ev 109 0 [v0, .int l1, v2, v3] st im rm = ev 109 1 [v0, .int l1, v2, v3] (.int l1 :: st) (im) (rm) := ev_iload_n pm_m109 d109_0 rfl rfl
theorem d109_1 : decode prog_10_method_7_code 1 = .ok (.invokestatic 126, 3) := by decide +kernel
theorem s109_1 {v0 v1 v2 v3 : Value} {p1 : Int32} {im : IM} {rm : RM}  : ev 109 1 [v0, v1, v2, v3] [.int p1] im rm = (ev 105 0 [.int p1] [] im rm).bind (fun r => ev 109 4 [v0, v1, v2, v3] (r.1.toList ++ []) r.2.1 r.2.2) := ev_callS pm_m109 d109_1 (by decide) l8_126 rfl pm_m105 rfl ⟨rfl, rfl⟩ rfl rfl
theorem d109_4 : decode prog_10_method_7_code 4 = .ok (.ifCond .eq 10, 3) := by decide +kernel
theorem s109_4 {v0 v1 v2 v3 : Value} {x : Int32} {st : List Value} {im : IM} {rm : RM} : ev 109 4 [v0, v1, v2, v3] (.int x :: st) im rm = if x = nI 0 then ev 109 14 [pm_u, pm_u, pm_u, pm_u] st im rm else ev 109 7 [v0, v1, v2, v3] st im rm := ev_if_eq (y := 0) pm_m109 d109_4 rfl rfl rfl
theorem d109_7 : decode prog_10_method_7_code 7 = .ok (.iload_n 3, 1) := by decide +kernel
theorem s109_7 {v0 v1 v2 : Value} {l1 : Int32} {st : List Value} {im : IM} {rm : RM}  : ev 109 7 [v0, v1, v2, .int l1] st im rm = ev 109 8 [v0, v1, v2, .int l1] (.int l1 :: st) (im) (rm) := ev_iload_n pm_m109 d109_7 rfl rfl
theorem d109_8 : decode prog_10_method_7_code 8 = .ok (.invokestatic 130, 3) := by decide +kernel
theorem s109_8 {v0 v1 v2 v3 : Value} {p1 : Int32} {im : IM} {rm : RM}  : ev 109 8 [v0, v1, v2, v3] [.int p1] im rm = (ev 106 0 [.int p1] [] im rm).bind (fun r => ev 109 11 [v0, v1, v2, v3] (r.1.toList ++ []) r.2.1 r.2.2) := ev_callS pm_m109 d109_8 (by decide) l8_130 rfl pm_m106 rfl ⟨rfl, rfl⟩ rfl rfl
theorem d109_11 : decode prog_10_method_7_code 11 = .ok (.ifCond .ne 6, 3) := by decide +kernel
theorem s109_11 {v0 v1 v2 v3 : Value} {x : Int32} {st : List Value} {im : IM} {rm : RM} : ev 109 11 [v0, v1, v2, v3] (.int x :: st) im rm = if x = nI 0 then ev 109 14 [pm_u, pm_u, pm_u, pm_u] st im rm else ev 109 17 [v0, v1, v2, v3] st im rm := ev_if_ne (y := 0) pm_m109 d109_11 rfl rfl rfl
theorem d109_14 : decode prog_10_method_7_code 14 = .ok (.bipush (-2), 2) := by decide +kernel
theorem s109_14 {v0 v1 v2 v3 : Value}  {st : List Value} {im : IM} {rm : RM}  : ev 109 14 [v0, v1, v2, v3] st im rm = ev 109 16 [v0, v1, v2, v3] (.int ((-2 : Int32)) :: st) (im) (rm) := ev_bipush pm_m109 d109_14 rfl rfl
theorem d109_16 : decode prog_10_method_7_code 16 = .ok (.ireturn, 1) := by decide +kernel
theorem s109_16 {v0 v1 v2 v3 : Value} {x : Int32} {im : IM} {rm : RM} : ev 109 16 [v0, v1, v2, v3] [.int x] im rm = some (some (.int x), im, rm) := ev_ireturn pm_m109 d109_16 rfl
theorem d109_17 : decode prog_10_method_7_code 17 = .ok (.iload_n 2, 1) := by decide +kernel
theorem s109_17 {v0 v1 v3 : Value} {l1 : Int32} {st : List Value} {im : IM} {rm : RM}  : ev 109 17 [v0, v1, .int l1, v3] st im rm = ev 109 18 [v0, v1, .int l1, v3] (.int l1 :: st) (im) (rm) := ev_iload_n pm_m109 d109_17 rfl rfl
theorem d109_18 : decode prog_10_method_7_code 18 = .ok (.i2l, 1) := by decide +kernel
theorem s109_18 {v0 v1 v2 v3 : Value} {x : Int32} {st : List Value} {im : IM} {rm : RM}  : ev 109 18 [v0, v1, v2, v3] (.int x :: st) im rm = ev 109 19 [v0, v1, v2, v3] (.long x.toInt64 :: st) (im) (rm) := ev_i2l pm_m109 d109_18 rfl
theorem d109_19 : decode prog_10_method_7_code 19 = .ok (.lconst 0, 1) := by decide +kernel
theorem s109_19 {v0 v1 v2 v3 : Value}  {st : List Value} {im : IM} {rm : RM}  : ev 109 19 [v0, v1, v2, v3] st im rm = ev 109 20 [v0, v1, v2, v3] (.long (lN 0) :: st) (im) (rm) := ev_lconst pm_m109 d109_19 rfl rfl
theorem d109_20 : decode prog_10_method_7_code 20 = .ok (.lconst 1, 1) := by decide +kernel
theorem s109_20 {v0 v1 v2 v3 : Value}  {st : List Value} {im : IM} {rm : RM}  : ev 109 20 [v0, v1, v2, v3] st im rm = ev 109 21 [v0, v1, v2, v3] (.long (lN 1) :: st) (im) (rm) := ev_lconst pm_m109 d109_20 rfl rfl
theorem d109_21 : decode prog_10_method_7_code 21 = .ok (.invokestatic 120, 3) := by decide +kernel
theorem s109_21 {v0 v1 v2 v3 : Value} {p1 : Int64} {p2 : Int64} {p3 : Int64} {im : IM} {rm : RM}  : ev 109 21 [v0, v1, v2, v3] [.long p3, .long p2, .long p1] im rm = (ev 104 0 [.long p1, pm_u, .long p2, pm_u, .long p3, pm_u] [] im rm).bind (fun r => ev 109 24 [v0, v1, v2, v3] (r.1.toList ++ []) r.2.1 r.2.2) := ev_callS pm_m109 d109_21 (by decide) l8_120 rfl pm_m104 rfl ⟨rfl, rfl⟩ rfl rfl
theorem d109_24 : decode prog_10_method_7_code 24 = .ok (.ifCond .ne 6, 3) := by decide +kernel
theorem s109_24 {v0 v1 v2 v3 : Value} {x : Int32} {st : List Value} {im : IM} {rm : RM} : ev 109 24 [v0, v1, v2, v3] (.int x :: st) im rm = if x = nI 0 then ev 109 27 [v0, v1, v2, v3] st im rm else ev 109 30 [v0, v1, v2, v3] st im rm := ev_if_ne (y := 0) pm_m109 d109_24 rfl rfl rfl
theorem d109_27 : decode prog_10_method_7_code 27 = .ok (.bipush (-3), 2) := by decide +kernel
theorem s109_27 {v0 v1 v2 v3 : Value}  {st : List Value} {im : IM} {rm : RM}  : ev 109 27 [v0, v1, v2, v3] st im rm = ev 109 29 [v0, v1, v2, v3] (.int ((-3 : Int32)) :: st) (im) (rm) := ev_bipush pm_m109 d109_27 rfl rfl
theorem d109_29 : decode prog_10_method_7_code 29 = .ok (.ireturn, 1) := by decide +kernel
theorem s109_29 {v0 v1 v2 v3 : Value} {x : Int32} {im : IM} {rm : RM} : ev 109 29 [v0, v1, v2, v3] [.int x] im rm = some (some (.int x), im, rm) := ev_ireturn pm_m109 d109_29 rfl
theorem d109_30 : decode prog_10_method_7_code 30 = .ok (.aload_n 0, 1) := by decide +kernel
theorem s109_30 {v1 v2 v3 : Value} {l1 : Nat} {st : List Value} {im : IM} {rm : RM}  : ev 109 30 [.ref l1, v1, v2, v3] st im rm = ev 109 31 [.ref l1, v1, v2, v3] (.ref l1 :: st) (im) (rm) := ev_aload_n pm_m109 d109_30 rfl rfl
theorem d109_31 : decode prog_10_method_7_code 31 = .ok (.getfield 7, 3) := by decide +kernel
theorem s109_31 {v0 v1 v2 v3 : Value} {a : Nat} {st : List Value} {im : IM} {rm : RM} (hk : kd a = 18) : ev 109 31 [v0, v1, v2, v3] (.ref a :: st) im rm = ev 109 34 [v0, v1, v2, v3] (pm_ro (rm a 0) :: st) (im) (rm) := ev_getR pm_m109 d109_31 f8_7 rfl hk rfl
theorem d109_34 : decode prog_10_method_7_code 34 = .ok (.iload_n 1, 1) := by decide +kernel
theorem s109_34 {v0 v2 v3 : Value} {l1 : Int32} {st : List Value} {im : IM} {rm : RM}  : ev 109 34 [v0, .int l1, v2, v3] st im rm = ev 109 35 [v0, .int l1, v2, v3] (.int l1 :: st) (im) (rm) := ev_iload_n pm_m109 d109_34 rfl rfl
theorem d109_35 : decode prog_10_method_7_code 35 = .ok (.iload_n 2, 1) := by decide +kernel
theorem s109_35 {v0 v1 v3 : Value} {l1 : Int32} {st : List Value} {im : IM} {rm : RM}  : ev 109 35 [v0, v1, .int l1, v3] st im rm = ev 109 36 [v0, v1, .int l1, v3] (.int l1 :: st) (im) (rm) := ev_iload_n pm_m109 d109_35 rfl rfl
theorem d109_36 : decode prog_10_method_7_code 36 = .ok (.iastore, 1) := by decide +kernel
theorem s109_36 {v0 v1 v2 v3 : Value} {a : Nat} {i : Int32} {v : Int32} {st : List Value} {im : IM} {rm : RM} (hk : kd a = 0) (hi : pm_in i (ln a) = true) : ev 109 36 [v0, v1, v2, v3] (.int v :: .int i :: .ref a :: st) im rm = ev 109 37 [v0, v1, v2, v3] st (pm_w2 im a i.toNatClampNeg v) (rm) := ev_iast pm_m109 d109_36 hk hi rfl
theorem d109_37 : decode prog_10_method_7_code 37 = .ok (.aload_n 0, 1) := by decide +kernel
theorem s109_37 {v1 v2 v3 : Value} {l1 : Nat} {st : List Value} {im : IM} {rm : RM}  : ev 109 37 [.ref l1, v1, v2, v3] st im rm = ev 109 38 [.ref l1, v1, v2, v3] (.ref l1 :: st) (im) (rm) := ev_aload_n pm_m109 d109_37 rfl rfl
theorem d109_38 : decode prog_10_method_7_code 38 = .ok (.getfield 13, 3) := by decide +kernel
theorem s109_38 {v0 v1 v2 v3 : Value} {a : Nat} {st : List Value} {im : IM} {rm : RM} (hk : kd a = 18) : ev 109 38 [v0, v1, v2, v3] (.ref a :: st) im rm = ev 109 41 [v0, v1, v2, v3] (pm_ro (rm a 1) :: st) (im) (rm) := ev_getR pm_m109 d109_38 f8_13 rfl hk rfl
theorem d109_41 : decode prog_10_method_7_code 41 = .ok (.iload_n 1, 1) := by decide +kernel
theorem s109_41 {v0 v2 v3 : Value} {l1 : Int32} {st : List Value} {im : IM} {rm : RM}  : ev 109 41 [v0, .int l1, v2, v3] st im rm = ev 109 42 [v0, .int l1, v2, v3] (.int l1 :: st) (im) (rm) := ev_iload_n pm_m109 d109_41 rfl rfl
theorem d109_42 : decode prog_10_method_7_code 42 = .ok (.iload_n 3, 1) := by decide +kernel
theorem s109_42 {v0 v1 v2 : Value} {l1 : Int32} {st : List Value} {im : IM} {rm : RM}  : ev 109 42 [v0, v1, v2, .int l1] st im rm = ev 109 43 [v0, v1, v2, .int l1] (.int l1 :: st) (im) (rm) := ev_iload_n pm_m109 d109_42 rfl rfl
theorem d109_43 : decode prog_10_method_7_code 43 = .ok (.iastore, 1) := by decide +kernel
theorem s109_43 {v0 v1 v2 v3 : Value} {a : Nat} {i : Int32} {v : Int32} {st : List Value} {im : IM} {rm : RM} (hk : kd a = 0) (hi : pm_in i (ln a) = true) : ev 109 43 [v0, v1, v2, v3] (.int v :: .int i :: .ref a :: st) im rm = ev 109 44 [v0, v1, v2, v3] st (pm_w2 im a i.toNatClampNeg v) (rm) := ev_iast pm_m109 d109_43 hk hi rfl
theorem d109_44 : decode prog_10_method_7_code 44 = .ok (.aload_n 0, 1) := by decide +kernel
theorem s109_44 {v1 v2 v3 : Value} {l1 : Nat} {st : List Value} {im : IM} {rm : RM}  : ev 109 44 [.ref l1, v1, v2, v3] st im rm = ev 109 45 [.ref l1, v1, v2, v3] (.ref l1 :: st) (im) (rm) := ev_aload_n pm_m109 d109_44 rfl rfl
theorem d109_45 : decode prog_10_method_7_code 45 = .ok (.getfield 16, 3) := by decide +kernel
theorem s109_45 {v0 v1 v2 v3 : Value} {a : Nat} {st : List Value} {im : IM} {rm : RM} (hk : kd a = 18) : ev 109 45 [v0, v1, v2, v3] (.ref a :: st) im rm = ev 109 48 [v0, v1, v2, v3] (pm_ro (rm a 2) :: st) (im) (rm) := ev_getR pm_m109 d109_45 f8_16 rfl hk rfl
theorem d109_48 : decode prog_10_method_7_code 48 = .ok (.iload_n 1, 1) := by decide +kernel
theorem s109_48 {v0 v2 v3 : Value} {l1 : Int32} {st : List Value} {im : IM} {rm : RM}  : ev 109 48 [v0, .int l1, v2, v3] st im rm = ev 109 49 [v0, .int l1, v2, v3] (.int l1 :: st) (im) (rm) := ev_iload_n pm_m109 d109_48 rfl rfl
theorem d109_49 : decode prog_10_method_7_code 49 = .ok (.iconst 0, 1) := by decide +kernel
theorem s109_49 {v0 v1 v2 v3 : Value}  {st : List Value} {im : IM} {rm : RM}  : ev 109 49 [v0, v1, v2, v3] st im rm = ev 109 50 [v0, v1, v2, v3] (.int (nI 0) :: st) (im) (rm) := ev_iconst pm_m109 d109_49 rfl rfl
theorem d109_50 : decode prog_10_method_7_code 50 = .ok (.iastore, 1) := by decide +kernel
theorem s109_50 {v0 v1 v2 v3 : Value} {a : Nat} {i : Int32} {v : Int32} {st : List Value} {im : IM} {rm : RM} (hk : kd a = 0) (hi : pm_in i (ln a) = true) : ev 109 50 [v0, v1, v2, v3] (.int v :: .int i :: .ref a :: st) im rm = ev 109 51 [v0, v1, v2, v3] st (pm_w2 im a i.toNatClampNeg v) (rm) := ev_iast pm_m109 d109_50 hk hi rfl
theorem d109_51 : decode prog_10_method_7_code 51 = .ok (.iconst 1, 1) := by decide +kernel
theorem s109_51 {v0 v1 v2 v3 : Value}  {st : List Value} {im : IM} {rm : RM}  : ev 109 51 [v0, v1, v2, v3] st im rm = ev 109 52 [v0, v1, v2, v3] (.int (nI 1) :: st) (im) (rm) := ev_iconst pm_m109 d109_51 rfl rfl
theorem d109_52 : decode prog_10_method_7_code 52 = .ok (.ireturn, 1) := by decide +kernel
theorem s109_52 {v0 v1 v2 v3 : Value} {x : Int32} {im : IM} {rm : RM} : ev 109 52 [v0, v1, v2, v3] [.int x] im rm = some (some (.int x), im, rm) := ev_ireturn pm_m109 d109_52 rfl
theorem d110_0 : decode prog_10_method_8_code 0 = .ok (.iload_n 1, 1) := by decide +kernel
theorem s110_0 {v0 v2 v3 v4 v5 v6 v7 : Value} {l1 : Int32} {st : List Value} {im : IM} {rm : RM}  : ev 110 0 [v0, .int l1, v2, v3, v4, v5, v6, v7] st im rm = ev 110 1 [v0, .int l1, v2, v3, v4, v5, v6, v7] (.int l1 :: st) (im) (rm) := ev_iload_n pm_m110 d110_0 rfl rfl
theorem d110_1 : decode prog_10_method_8_code 1 = .ok (.invokestatic 126, 3) := by decide +kernel
theorem s110_1 {v0 v1 v2 v3 v4 v5 v6 v7 : Value} {p1 : Int32} {im : IM} {rm : RM}  : ev 110 1 [v0, v1, v2, v3, v4, v5, v6, v7] [.int p1] im rm = (ev 105 0 [.int p1] [] im rm).bind (fun r => ev 110 4 [v0, v1, v2, v3, v4, v5, v6, v7] (r.1.toList ++ []) r.2.1 r.2.2) := ev_callS pm_m110 d110_1 (by decide) l8_126 rfl pm_m105 rfl ⟨rfl, rfl⟩ rfl rfl
theorem d110_4 : decode prog_10_method_8_code 4 = .ok (.ifCond .ne 6, 3) := by decide +kernel
theorem s110_4 {v0 v1 v2 v3 v4 v5 v6 v7 : Value} {x : Int32} {st : List Value} {im : IM} {rm : RM} : ev 110 4 [v0, v1, v2, v3, v4, v5, v6, v7] (.int x :: st) im rm = if x = nI 0 then ev 110 7 [v0, v1, v2, v3, v4, v5, v6, v7] st im rm else ev 110 10 [v0, v1, v2, v3, v4, v5, v6, pm_u] st im rm := ev_if_ne (y := 0) pm_m110 d110_4 rfl rfl rfl
theorem d110_7 : decode prog_10_method_8_code 7 = .ok (.bipush (-2), 2) := by decide +kernel
theorem s110_7 {v0 v1 v2 v3 v4 v5 v6 v7 : Value}  {st : List Value} {im : IM} {rm : RM}  : ev 110 7 [v0, v1, v2, v3, v4, v5, v6, v7] st im rm = ev 110 9 [v0, v1, v2, v3, v4, v5, v6, v7] (.int ((-2 : Int32)) :: st) (im) (rm) := ev_bipush pm_m110 d110_7 rfl rfl
theorem d110_9 : decode prog_10_method_8_code 9 = .ok (.ireturn, 1) := by decide +kernel
theorem s110_9 {v0 v1 v2 v3 v4 v5 v6 v7 : Value} {x : Int32} {im : IM} {rm : RM} : ev 110 9 [v0, v1, v2, v3, v4, v5, v6, v7] [.int x] im rm = some (some (.int x), im, rm) := ev_ireturn pm_m110 d110_9 rfl
theorem d110_10 : decode prog_10_method_8_code 10 = .ok (.iload_n 2, 1) := by decide +kernel
theorem s110_10 {v0 v1 v3 v4 v5 v6 v7 : Value} {l1 : Int32} {st : List Value} {im : IM} {rm : RM}  : ev 110 10 [v0, v1, .int l1, v3, v4, v5, v6, v7] st im rm = ev 110 11 [v0, v1, .int l1, v3, v4, v5, v6, v7] (.int l1 :: st) (im) (rm) := ev_iload_n pm_m110 d110_10 rfl rfl
theorem d110_11 : decode prog_10_method_8_code 11 = .ok (.i2l, 1) := by decide +kernel
theorem s110_11 {v0 v1 v2 v3 v4 v5 v6 v7 : Value} {x : Int32} {st : List Value} {im : IM} {rm : RM}  : ev 110 11 [v0, v1, v2, v3, v4, v5, v6, v7] (.int x :: st) im rm = ev 110 12 [v0, v1, v2, v3, v4, v5, v6, v7] (.long x.toInt64 :: st) (im) (rm) := ev_i2l pm_m110 d110_11 rfl
theorem d110_12 : decode prog_10_method_8_code 12 = .ok (.lconst 0, 1) := by decide +kernel
theorem s110_12 {v0 v1 v2 v3 v4 v5 v6 v7 : Value}  {st : List Value} {im : IM} {rm : RM}  : ev 110 12 [v0, v1, v2, v3, v4, v5, v6, v7] st im rm = ev 110 13 [v0, v1, v2, v3, v4, v5, v6, v7] (.long (lN 0) :: st) (im) (rm) := ev_lconst pm_m110 d110_12 rfl rfl
theorem d110_13 : decode prog_10_method_8_code 13 = .ok (.ldc2_w 133, 3) := by decide +kernel
theorem s110_13 {v0 v1 v2 v3 v4 v5 v6 v7 : Value}  {st : List Value} {im : IM} {rm : RM}  : ev 110 13 [v0, v1, v2, v3, v4, v5, v6, v7] st im rm = ev 110 16 [v0, v1, v2, v3, v4, v5, v6, v7] (.long (lN 159) :: st) (im) (rm) := ev_ldc2 pm_m110 d110_13 (by decide +kernel) rfl
theorem d110_16 : decode prog_10_method_8_code 16 = .ok (.invokestatic 120, 3) := by decide +kernel
theorem s110_16 {v0 v1 v2 v3 v4 v5 v6 v7 : Value} {p1 : Int64} {p2 : Int64} {p3 : Int64} {im : IM} {rm : RM}  : ev 110 16 [v0, v1, v2, v3, v4, v5, v6, v7] [.long p3, .long p2, .long p1] im rm = (ev 104 0 [.long p1, pm_u, .long p2, pm_u, .long p3, pm_u] [] im rm).bind (fun r => ev 110 19 [v0, v1, v2, v3, v4, v5, v6, v7] (r.1.toList ++ []) r.2.1 r.2.2) := ev_callS pm_m110 d110_16 (by decide) l8_120 rfl pm_m104 rfl ⟨rfl, rfl⟩ rfl rfl
theorem d110_19 : decode prog_10_method_8_code 19 = .ok (.ifCond .eq 56, 3) := by decide +kernel
theorem s110_19 {v0 v1 v2 v3 v4 v5 v6 v7 : Value} {x : Int32} {st : List Value} {im : IM} {rm : RM} : ev 110 19 [v0, v1, v2, v3, v4, v5, v6, v7] (.int x :: st) im rm = if x = nI 0 then ev 110 75 [pm_u, pm_u, pm_u, pm_u, pm_u, pm_u, pm_u, pm_u] st im rm else ev 110 22 [v0, v1, v2, v3, v4, v5, v6, v7] st im rm := ev_if_eq (y := 0) pm_m110 d110_19 rfl rfl rfl
theorem d110_22 : decode prog_10_method_8_code 22 = .ok (.iload_n 3, 1) := by decide +kernel
theorem s110_22 {v0 v1 v2 v4 v5 v6 v7 : Value} {l1 : Int32} {st : List Value} {im : IM} {rm : RM}  : ev 110 22 [v0, v1, v2, .int l1, v4, v5, v6, v7] st im rm = ev 110 23 [v0, v1, v2, .int l1, v4, v5, v6, v7] (.int l1 :: st) (im) (rm) := ev_iload_n pm_m110 d110_22 rfl rfl
theorem d110_23 : decode prog_10_method_8_code 23 = .ok (.i2l, 1) := by decide +kernel
theorem s110_23 {v0 v1 v2 v3 v4 v5 v6 v7 : Value} {x : Int32} {st : List Value} {im : IM} {rm : RM}  : ev 110 23 [v0, v1, v2, v3, v4, v5, v6, v7] (.int x :: st) im rm = ev 110 24 [v0, v1, v2, v3, v4, v5, v6, v7] (.long x.toInt64 :: st) (im) (rm) := ev_i2l pm_m110 d110_23 rfl
theorem d110_24 : decode prog_10_method_8_code 24 = .ok (.lconst 0, 1) := by decide +kernel
theorem s110_24 {v0 v1 v2 v3 v4 v5 v6 v7 : Value}  {st : List Value} {im : IM} {rm : RM}  : ev 110 24 [v0, v1, v2, v3, v4, v5, v6, v7] st im rm = ev 110 25 [v0, v1, v2, v3, v4, v5, v6, v7] (.long (lN 0) :: st) (im) (rm) := ev_lconst pm_m110 d110_24 rfl rfl
theorem d110_25 : decode prog_10_method_8_code 25 = .ok (.ldc2_w 135, 3) := by decide +kernel
theorem s110_25 {v0 v1 v2 v3 v4 v5 v6 v7 : Value}  {st : List Value} {im : IM} {rm : RM}  : ev 110 25 [v0, v1, v2, v3, v4, v5, v6, v7] st im rm = ev 110 28 [v0, v1, v2, v3, v4, v5, v6, v7] (.long (lN 99) :: st) (im) (rm) := ev_ldc2 pm_m110 d110_25 (by decide +kernel) rfl
theorem d110_28 : decode prog_10_method_8_code 28 = .ok (.invokestatic 120, 3) := by decide +kernel
theorem s110_28 {v0 v1 v2 v3 v4 v5 v6 v7 : Value} {p1 : Int64} {p2 : Int64} {p3 : Int64} {im : IM} {rm : RM}  : ev 110 28 [v0, v1, v2, v3, v4, v5, v6, v7] [.long p3, .long p2, .long p1] im rm = (ev 104 0 [.long p1, pm_u, .long p2, pm_u, .long p3, pm_u] [] im rm).bind (fun r => ev 110 31 [v0, v1, v2, v3, v4, v5, v6, v7] (r.1.toList ++ []) r.2.1 r.2.2) := ev_callS pm_m110 d110_28 (by decide) l8_120 rfl pm_m104 rfl ⟨rfl, rfl⟩ rfl rfl
theorem d110_31 : decode prog_10_method_8_code 31 = .ok (.ifCond .eq 44, 3) := by decide +kernel
theorem s110_31 {v0 v1 v2 v3 v4 v5 v6 v7 : Value} {x : Int32} {st : List Value} {im : IM} {rm : RM} : ev 110 31 [v0, v1, v2, v3, v4, v5, v6, v7] (.int x :: st) im rm = if x = nI 0 then ev 110 75 [pm_u, pm_u, pm_u, pm_u, pm_u, pm_u, pm_u, pm_u] st im rm else ev 110 34 [v0, v1, v2, v3, v4, v5, v6, v7] st im rm := ev_if_eq (y := 0) pm_m110 d110_31 rfl rfl rfl
theorem d110_34 : decode prog_10_method_8_code 34 = .ok (.iload 4, 2) := by decide +kernel
theorem s110_34 {v0 v1 v2 v3 v5 v6 v7 : Value} {l1 : Int32} {st : List Value} {im : IM} {rm : RM}  : ev 110 34 [v0, v1, v2, v3, .int l1, v5, v6, v7] st im rm = ev 110 36 [v0, v1, v2, v3, .int l1, v5, v6, v7] (.int l1 :: st) (im) (rm) := ev_iload pm_m110 d110_34 rfl rfl
theorem d110_36 : decode prog_10_method_8_code 36 = .ok (.i2l, 1) := by decide +kernel
theorem s110_36 {v0 v1 v2 v3 v4 v5 v6 v7 : Value} {x : Int32} {st : List Value} {im : IM} {rm : RM}  : ev 110 36 [v0, v1, v2, v3, v4, v5, v6, v7] (.int x :: st) im rm = ev 110 37 [v0, v1, v2, v3, v4, v5, v6, v7] (.long x.toInt64 :: st) (im) (rm) := ev_i2l pm_m110 d110_36 rfl
theorem d110_37 : decode prog_10_method_8_code 37 = .ok (.ldc2_w 137, 3) := by decide +kernel
theorem s110_37 {v0 v1 v2 v3 v4 v5 v6 v7 : Value}  {st : List Value} {im : IM} {rm : RM}  : ev 110 37 [v0, v1, v2, v3, v4, v5, v6, v7] st im rm = ev 110 40 [v0, v1, v2, v3, v4, v5, v6, v7] (.long ((-9 : Int64)) :: st) (im) (rm) := ev_ldc2 pm_m110 d110_37 (by decide +kernel) rfl
theorem d110_40 : decode prog_10_method_8_code 40 = .ok (.ldc2_w 139, 3) := by decide +kernel
theorem s110_40 {v0 v1 v2 v3 v4 v5 v6 v7 : Value}  {st : List Value} {im : IM} {rm : RM}  : ev 110 40 [v0, v1, v2, v3, v4, v5, v6, v7] st im rm = ev 110 43 [v0, v1, v2, v3, v4, v5, v6, v7] (.long (lN 9) :: st) (im) (rm) := ev_ldc2 pm_m110 d110_40 (by decide +kernel) rfl
theorem d110_43 : decode prog_10_method_8_code 43 = .ok (.invokestatic 120, 3) := by decide +kernel
theorem s110_43 {v0 v1 v2 v3 v4 v5 v6 v7 : Value} {p1 : Int64} {p2 : Int64} {p3 : Int64} {im : IM} {rm : RM}  : ev 110 43 [v0, v1, v2, v3, v4, v5, v6, v7] [.long p3, .long p2, .long p1] im rm = (ev 104 0 [.long p1, pm_u, .long p2, pm_u, .long p3, pm_u] [] im rm).bind (fun r => ev 110 46 [v0, v1, v2, v3, v4, v5, v6, v7] (r.1.toList ++ []) r.2.1 r.2.2) := ev_callS pm_m110 d110_43 (by decide) l8_120 rfl pm_m104 rfl ⟨rfl, rfl⟩ rfl rfl
theorem d110_46 : decode prog_10_method_8_code 46 = .ok (.ifCond .eq 29, 3) := by decide +kernel
theorem s110_46 {v0 v1 v2 v3 v4 v5 v6 v7 : Value} {x : Int32} {st : List Value} {im : IM} {rm : RM} : ev 110 46 [v0, v1, v2, v3, v4, v5, v6, v7] (.int x :: st) im rm = if x = nI 0 then ev 110 75 [pm_u, pm_u, pm_u, pm_u, pm_u, pm_u, pm_u, pm_u] st im rm else ev 110 49 [v0, v1, v2, v3, v4, v5, v6, v7] st im rm := ev_if_eq (y := 0) pm_m110 d110_46 rfl rfl rfl
theorem d110_49 : decode prog_10_method_8_code 49 = .ok (.iload 5, 2) := by decide +kernel
theorem s110_49 {v0 v1 v2 v3 v4 v6 v7 : Value} {l1 : Int32} {st : List Value} {im : IM} {rm : RM}  : ev 110 49 [v0, v1, v2, v3, v4, .int l1, v6, v7] st im rm = ev 110 51 [v0, v1, v2, v3, v4, .int l1, v6, v7] (.int l1 :: st) (im) (rm) := ev_iload pm_m110 d110_49 rfl rfl
theorem d110_51 : decode prog_10_method_8_code 51 = .ok (.i2l, 1) := by decide +kernel
theorem s110_51 {v0 v1 v2 v3 v4 v5 v6 v7 : Value} {x : Int32} {st : List Value} {im : IM} {rm : RM}  : ev 110 51 [v0, v1, v2, v3, v4, v5, v6, v7] (.int x :: st) im rm = ev 110 52 [v0, v1, v2, v3, v4, v5, v6, v7] (.long x.toInt64 :: st) (im) (rm) := ev_i2l pm_m110 d110_51 rfl
theorem d110_52 : decode prog_10_method_8_code 52 = .ok (.lconst 0, 1) := by decide +kernel
theorem s110_52 {v0 v1 v2 v3 v4 v5 v6 v7 : Value}  {st : List Value} {im : IM} {rm : RM}  : ev 110 52 [v0, v1, v2, v3, v4, v5, v6, v7] st im rm = ev 110 53 [v0, v1, v2, v3, v4, v5, v6, v7] (.long (lN 0) :: st) (im) (rm) := ev_lconst pm_m110 d110_52 rfl rfl
theorem d110_53 : decode prog_10_method_8_code 53 = .ok (.ldc2_w 141, 3) := by decide +kernel
theorem s110_53 {v0 v1 v2 v3 v4 v5 v6 v7 : Value}  {st : List Value} {im : IM} {rm : RM}  : ev 110 53 [v0, v1, v2, v3, v4, v5, v6, v7] st im rm = ev 110 56 [v0, v1, v2, v3, v4, v5, v6, v7] (.long (lN 30) :: st) (im) (rm) := ev_ldc2 pm_m110 d110_53 (by decide +kernel) rfl
theorem d110_56 : decode prog_10_method_8_code 56 = .ok (.invokestatic 120, 3) := by decide +kernel
theorem s110_56 {v0 v1 v2 v3 v4 v5 v6 v7 : Value} {p1 : Int64} {p2 : Int64} {p3 : Int64} {im : IM} {rm : RM}  : ev 110 56 [v0, v1, v2, v3, v4, v5, v6, v7] [.long p3, .long p2, .long p1] im rm = (ev 104 0 [.long p1, pm_u, .long p2, pm_u, .long p3, pm_u] [] im rm).bind (fun r => ev 110 59 [v0, v1, v2, v3, v4, v5, v6, v7] (r.1.toList ++ []) r.2.1 r.2.2) := ev_callS pm_m110 d110_56 (by decide) l8_120 rfl pm_m104 rfl ⟨rfl, rfl⟩ rfl rfl
theorem d110_59 : decode prog_10_method_8_code 59 = .ok (.ifCond .eq 16, 3) := by decide +kernel
theorem s110_59 {v0 v1 v2 v3 v4 v5 v6 v7 : Value} {x : Int32} {st : List Value} {im : IM} {rm : RM} : ev 110 59 [v0, v1, v2, v3, v4, v5, v6, v7] (.int x :: st) im rm = if x = nI 0 then ev 110 75 [pm_u, pm_u, pm_u, pm_u, pm_u, pm_u, pm_u, pm_u] st im rm else ev 110 62 [v0, v1, v2, v3, v4, v5, v6, v7] st im rm := ev_if_eq (y := 0) pm_m110 d110_59 rfl rfl rfl
theorem d110_62 : decode prog_10_method_8_code 62 = .ok (.iload 6, 2) := by decide +kernel
theorem s110_62 {v0 v1 v2 v3 v4 v5 v7 : Value} {l1 : Int32} {st : List Value} {im : IM} {rm : RM}  : ev 110 62 [v0, v1, v2, v3, v4, v5, .int l1, v7] st im rm = ev 110 64 [v0, v1, v2, v3, v4, v5, .int l1, v7] (.int l1 :: st) (im) (rm) := ev_iload pm_m110 d110_62 rfl rfl
theorem d110_64 : decode prog_10_method_8_code 64 = .ok (.i2l, 1) := by decide +kernel
theorem s110_64 {v0 v1 v2 v3 v4 v5 v6 v7 : Value} {x : Int32} {st : List Value} {im : IM} {rm : RM}  : ev 110 64 [v0, v1, v2, v3, v4, v5, v6, v7] (.int x :: st) im rm = ev 110 65 [v0, v1, v2, v3, v4, v5, v6, v7] (.long x.toInt64 :: st) (im) (rm) := ev_i2l pm_m110 d110_64 rfl
theorem d110_65 : decode prog_10_method_8_code 65 = .ok (.lconst 0, 1) := by decide +kernel
theorem s110_65 {v0 v1 v2 v3 v4 v5 v6 v7 : Value}  {st : List Value} {im : IM} {rm : RM}  : ev 110 65 [v0, v1, v2, v3, v4, v5, v6, v7] st im rm = ev 110 66 [v0, v1, v2, v3, v4, v5, v6, v7] (.long (lN 0) :: st) (im) (rm) := ev_lconst pm_m110 d110_65 rfl rfl
theorem d110_66 : decode prog_10_method_8_code 66 = .ok (.ldc2_w 143, 3) := by decide +kernel
theorem s110_66 {v0 v1 v2 v3 v4 v5 v6 v7 : Value}  {st : List Value} {im : IM} {rm : RM}  : ev 110 66 [v0, v1, v2, v3, v4, v5, v6, v7] st im rm = ev 110 69 [v0, v1, v2, v3, v4, v5, v6, v7] (.long (lN 60) :: st) (im) (rm) := ev_ldc2 pm_m110 d110_66 (by decide +kernel) rfl
theorem d110_69 : decode prog_10_method_8_code 69 = .ok (.invokestatic 120, 3) := by decide +kernel
theorem s110_69 {v0 v1 v2 v3 v4 v5 v6 v7 : Value} {p1 : Int64} {p2 : Int64} {p3 : Int64} {im : IM} {rm : RM}  : ev 110 69 [v0, v1, v2, v3, v4, v5, v6, v7] [.long p3, .long p2, .long p1] im rm = (ev 104 0 [.long p1, pm_u, .long p2, pm_u, .long p3, pm_u] [] im rm).bind (fun r => ev 110 72 [v0, v1, v2, v3, v4, v5, v6, v7] (r.1.toList ++ []) r.2.1 r.2.2) := ev_callS pm_m110 d110_69 (by decide) l8_120 rfl pm_m104 rfl ⟨rfl, rfl⟩ rfl rfl
theorem d110_72 : decode prog_10_method_8_code 72 = .ok (.ifCond .ne 6, 3) := by decide +kernel
theorem s110_72 {v0 v1 v2 v3 v4 v5 v6 v7 : Value} {x : Int32} {st : List Value} {im : IM} {rm : RM} : ev 110 72 [v0, v1, v2, v3, v4, v5, v6, v7] (.int x :: st) im rm = if x = nI 0 then ev 110 75 [pm_u, pm_u, pm_u, pm_u, pm_u, pm_u, pm_u, pm_u] st im rm else ev 110 78 [v0, v1, v2, v3, v4, v5, v6, pm_u] st im rm := ev_if_ne (y := 0) pm_m110 d110_72 rfl rfl rfl
theorem d110_75 : decode prog_10_method_8_code 75 = .ok (.bipush (-3), 2) := by decide +kernel
theorem s110_75 {v0 v1 v2 v3 v4 v5 v6 v7 : Value}  {st : List Value} {im : IM} {rm : RM}  : ev 110 75 [v0, v1, v2, v3, v4, v5, v6, v7] st im rm = ev 110 77 [v0, v1, v2, v3, v4, v5, v6, v7] (.int ((-3 : Int32)) :: st) (im) (rm) := ev_bipush pm_m110 d110_75 rfl rfl
theorem d110_77 : decode prog_10_method_8_code 77 = .ok (.ireturn, 1) := by decide +kernel
theorem s110_77 {v0 v1 v2 v3 v4 v5 v6 v7 : Value} {x : Int32} {im : IM} {rm : RM} : ev 110 77 [v0, v1, v2, v3, v4, v5, v6, v7] [.int x] im rm = some (some (.int x), im, rm) := ev_ireturn pm_m110 d110_77 rfl
theorem d110_78 : decode prog_10_method_8_code 78 = .ok (.aload_n 0, 1) := by decide +kernel
theorem s110_78 {v1 v2 v3 v4 v5 v6 v7 : Value} {l1 : Nat} {st : List Value} {im : IM} {rm : RM}  : ev 110 78 [.ref l1, v1, v2, v3, v4, v5, v6, v7] st im rm = ev 110 79 [.ref l1, v1, v2, v3, v4, v5, v6, v7] (.ref l1 :: st) (im) (rm) := ev_aload_n pm_m110 d110_78 rfl rfl
theorem d110_79 : decode prog_10_method_8_code 79 = .ok (.getfield 16, 3) := by decide +kernel
theorem s110_79 {v0 v1 v2 v3 v4 v5 v6 v7 : Value} {a : Nat} {st : List Value} {im : IM} {rm : RM} (hk : kd a = 18) : ev 110 79 [v0, v1, v2, v3, v4, v5, v6, v7] (.ref a :: st) im rm = ev 110 82 [v0, v1, v2, v3, v4, v5, v6, v7] (pm_ro (rm a 2) :: st) (im) (rm) := ev_getR pm_m110 d110_79 f8_16 rfl hk rfl
theorem d110_82 : decode prog_10_method_8_code 82 = .ok (.iload_n 1, 1) := by decide +kernel
theorem s110_82 {v0 v2 v3 v4 v5 v6 v7 : Value} {l1 : Int32} {st : List Value} {im : IM} {rm : RM}  : ev 110 82 [v0, .int l1, v2, v3, v4, v5, v6, v7] st im rm = ev 110 83 [v0, .int l1, v2, v3, v4, v5, v6, v7] (.int l1 :: st) (im) (rm) := ev_iload_n pm_m110 d110_82 rfl rfl
theorem d110_83 : decode prog_10_method_8_code 83 = .ok (.iaload, 1) := by decide +kernel
theorem s110_83 {v0 v1 v2 v3 v4 v5 v6 v7 : Value} {a : Nat} {i : Int32} {st : List Value} {im : IM} {rm : RM} (hk : kd a = 0) (hi : pm_in i (ln a) = true) : ev 110 83 [v0, v1, v2, v3, v4, v5, v6, v7] (.int i :: .ref a :: st) im rm = ev 110 84 [v0, v1, v2, v3, v4, v5, v6, v7] (.int (im a i.toNatClampNeg) :: st) (im) (rm) := ev_iald pm_m110 d110_83 hk hi rfl
theorem d110_84 : decode prog_10_method_8_code 84 = .ok (.bipush 40, 2) := by decide +kernel
theorem s110_84 {v0 v1 v2 v3 v4 v5 v6 v7 : Value}  {st : List Value} {im : IM} {rm : RM}  : ev 110 84 [v0, v1, v2, v3, v4, v5, v6, v7] st im rm = ev 110 86 [v0, v1, v2, v3, v4, v5, v6, v7] (.int (nI 40) :: st) (im) (rm) := ev_bipush pm_m110 d110_84 rfl rfl
theorem d110_86 : decode prog_10_method_8_code 86 = .ok (.if_icmp .ne 6, 3) := by decide +kernel
theorem s110_86 {v0 v1 v2 v3 v4 v5 v6 v7 : Value} {x : Int32} {y : Int32} {st : List Value} {im : IM} {rm : RM} : ev 110 86 [v0, v1, v2, v3, v4, v5, v6, v7] (.int y :: .int x :: st) im rm = if x = y then ev 110 89 [v0, v1, v2, v3, v4, v5, v6, v7] st im rm else ev 110 92 [v0, v1, v2, v3, v4, v5, v6, pm_u] st im rm := ev_icmp_ne pm_m110 d110_86 rfl rfl rfl
theorem d110_89 : decode prog_10_method_8_code 89 = .ok (.bipush (-5), 2) := by decide +kernel
theorem s110_89 {v0 v1 v2 v3 v4 v5 v6 v7 : Value}  {st : List Value} {im : IM} {rm : RM}  : ev 110 89 [v0, v1, v2, v3, v4, v5, v6, v7] st im rm = ev 110 91 [v0, v1, v2, v3, v4, v5, v6, v7] (.int ((-5 : Int32)) :: st) (im) (rm) := ev_bipush pm_m110 d110_89 rfl rfl
theorem d110_91 : decode prog_10_method_8_code 91 = .ok (.ireturn, 1) := by decide +kernel
theorem s110_91 {v0 v1 v2 v3 v4 v5 v6 v7 : Value} {x : Int32} {im : IM} {rm : RM} : ev 110 91 [v0, v1, v2, v3, v4, v5, v6, v7] [.int x] im rm = some (some (.int x), im, rm) := ev_ireturn pm_m110 d110_91 rfl
theorem d110_92 : decode prog_10_method_8_code 92 = .ok (.bipush 40, 2) := by decide +kernel
theorem s110_92 {v0 v1 v2 v3 v4 v5 v6 v7 : Value}  {st : List Value} {im : IM} {rm : RM}  : ev 110 92 [v0, v1, v2, v3, v4, v5, v6, v7] st im rm = ev 110 94 [v0, v1, v2, v3, v4, v5, v6, v7] (.int (nI 40) :: st) (im) (rm) := ev_bipush pm_m110 d110_92 rfl rfl
theorem d110_94 : decode prog_10_method_8_code 94 = .ok (.iload_n 1, 1) := by decide +kernel
theorem s110_94 {v0 v2 v3 v4 v5 v6 v7 : Value} {l1 : Int32} {st : List Value} {im : IM} {rm : RM}  : ev 110 94 [v0, .int l1, v2, v3, v4, v5, v6, v7] st im rm = ev 110 95 [v0, .int l1, v2, v3, v4, v5, v6, v7] (.int l1 :: st) (im) (rm) := ev_iload_n pm_m110 d110_94 rfl rfl
theorem d110_95 : decode prog_10_method_8_code 95 = .ok (.imul, 1) := by decide +kernel
theorem s110_95 {v0 v1 v2 v3 v4 v5 v6 v7 : Value} {x : Int32} {y : Int32} {st : List Value} {im : IM} {rm : RM}  : ev 110 95 [v0, v1, v2, v3, v4, v5, v6, v7] (.int y :: .int x :: st) im rm = ev 110 96 [v0, v1, v2, v3, v4, v5, v6, v7] (.int (x * y) :: st) (im) (rm) := ev_imul pm_m110 d110_95 rfl
theorem d110_96 : decode prog_10_method_8_code 96 = .ok (.aload_n 0, 1) := by decide +kernel
theorem s110_96 {v1 v2 v3 v4 v5 v6 v7 : Value} {l1 : Nat} {st : List Value} {im : IM} {rm : RM}  : ev 110 96 [.ref l1, v1, v2, v3, v4, v5, v6, v7] st im rm = ev 110 97 [.ref l1, v1, v2, v3, v4, v5, v6, v7] (.ref l1 :: st) (im) (rm) := ev_aload_n pm_m110 d110_96 rfl rfl
theorem d110_97 : decode prog_10_method_8_code 97 = .ok (.getfield 16, 3) := by decide +kernel
theorem s110_97 {v0 v1 v2 v3 v4 v5 v6 v7 : Value} {a : Nat} {st : List Value} {im : IM} {rm : RM} (hk : kd a = 18) : ev 110 97 [v0, v1, v2, v3, v4, v5, v6, v7] (.ref a :: st) im rm = ev 110 100 [v0, v1, v2, v3, v4, v5, v6, v7] (pm_ro (rm a 2) :: st) (im) (rm) := ev_getR pm_m110 d110_97 f8_16 rfl hk rfl
theorem d110_100 : decode prog_10_method_8_code 100 = .ok (.iload_n 1, 1) := by decide +kernel
theorem s110_100 {v0 v2 v3 v4 v5 v6 v7 : Value} {l1 : Int32} {st : List Value} {im : IM} {rm : RM}  : ev 110 100 [v0, .int l1, v2, v3, v4, v5, v6, v7] st im rm = ev 110 101 [v0, .int l1, v2, v3, v4, v5, v6, v7] (.int l1 :: st) (im) (rm) := ev_iload_n pm_m110 d110_100 rfl rfl
theorem d110_101 : decode prog_10_method_8_code 101 = .ok (.iaload, 1) := by decide +kernel
theorem s110_101 {v0 v1 v2 v3 v4 v5 v6 v7 : Value} {a : Nat} {i : Int32} {st : List Value} {im : IM} {rm : RM} (hk : kd a = 0) (hi : pm_in i (ln a) = true) : ev 110 101 [v0, v1, v2, v3, v4, v5, v6, v7] (.int i :: .ref a :: st) im rm = ev 110 102 [v0, v1, v2, v3, v4, v5, v6, v7] (.int (im a i.toNatClampNeg) :: st) (im) (rm) := ev_iald pm_m110 d110_101 hk hi rfl
theorem d110_102 : decode prog_10_method_8_code 102 = .ok (.iadd, 1) := by decide +kernel
theorem s110_102 {v0 v1 v2 v3 v4 v5 v6 v7 : Value} {x : Int32} {y : Int32} {st : List Value} {im : IM} {rm : RM}  : ev 110 102 [v0, v1, v2, v3, v4, v5, v6, v7] (.int y :: .int x :: st) im rm = ev 110 103 [v0, v1, v2, v3, v4, v5, v6, v7] (.int (x + y) :: st) (im) (rm) := ev_iadd pm_m110 d110_102 rfl
theorem d110_103 : decode prog_10_method_8_code 103 = .ok (.istore 7, 2) := by decide +kernel
theorem s110_103 {v0 v1 v2 v3 v4 v5 v7 : Value} {l1 : Int32} {x2 : Int32} {st : List Value} {im : IM} {rm : RM}  : ev 110 103 [v0, v1, v2, v3, v4, v5, .int l1, v7] (.int x2 :: st) im rm = ev 110 105 [v0, v1, v2, v3, v4, v5, .int l1, .int x2] st (im) (rm) := ev_istore pm_m110 d110_103 (Nat.le_of_ble_eq_true rfl) rfl rfl
theorem d110_105 : decode prog_10_method_8_code 105 = .ok (.aload_n 0, 1) := by decide +kernel
theorem s110_105 {v1 v2 v3 v4 v5 v6 v7 : Value} {l1 : Nat} {st : List Value} {im : IM} {rm : RM}  : ev 110 105 [.ref l1, v1, v2, v3, v4, v5, v6, v7] st im rm = ev 110 106 [.ref l1, v1, v2, v3, v4, v5, v6, v7] (.ref l1 :: st) (im) (rm) := ev_aload_n pm_m110 d110_105 rfl rfl
theorem d110_106 : decode prog_10_method_8_code 106 = .ok (.getfield 19, 3) := by decide +kernel
theorem s110_106 {v0 v1 v2 v3 v4 v5 v6 v7 : Value} {a : Nat} {st : List Value} {im : IM} {rm : RM} (hk : kd a = 18) : ev 110 106 [v0, v1, v2, v3, v4, v5, v6, v7] (.ref a :: st) im rm = ev 110 109 [v0, v1, v2, v3, v4, v5, v6, v7] (pm_ro (rm a 3) :: st) (im) (rm) := ev_getR pm_m110 d110_106 f8_19 rfl hk rfl
theorem d110_109 : decode prog_10_method_8_code 109 = .ok (.iload 7, 2) := by decide +kernel
theorem s110_109 {v0 v1 v2 v3 v4 v5 v6 : Value} {l1 : Int32} {st : List Value} {im : IM} {rm : RM}  : ev 110 109 [v0, v1, v2, v3, v4, v5, v6, .int l1] st im rm = ev 110 111 [v0, v1, v2, v3, v4, v5, v6, .int l1] (.int l1 :: st) (im) (rm) := ev_iload pm_m110 d110_109 rfl rfl
theorem d110_111 : decode prog_10_method_8_code 111 = .ok (.iload_n 2, 1) := by decide +kernel
theorem s110_111 {v0 v1 v3 v4 v5 v6 v7 : Value} {l1 : Int32} {st : List Value} {im : IM} {rm : RM}  : ev 110 111 [v0, v1, .int l1, v3, v4, v5, v6, v7] st im rm = ev 110 112 [v0, v1, .int l1, v3, v4, v5, v6, v7] (.int l1 :: st) (im) (rm) := ev_iload_n pm_m110 d110_111 rfl rfl
theorem d110_112 : decode prog_10_method_8_code 112 = .ok (.iastore, 1) := by decide +kernel
theorem s110_112 {v0 v1 v2 v3 v4 v5 v6 v7 : Value} {a : Nat} {i : Int32} {v : Int32} {st : List Value} {im : IM} {rm : RM} (hk : kd a = 0) (hi : pm_in i (ln a) = true) : ev 110 112 [v0, v1, v2, v3, v4, v5, v6, v7] (.int v :: .int i :: .ref a :: st) im rm = ev 110 113 [v0, v1, v2, v3, v4, v5, v6, v7] st (pm_w2 im a i.toNatClampNeg v) (rm) := ev_iast pm_m110 d110_112 hk hi rfl
theorem d110_113 : decode prog_10_method_8_code 113 = .ok (.aload_n 0, 1) := by decide +kernel
theorem s110_113 {v1 v2 v3 v4 v5 v6 v7 : Value} {l1 : Nat} {st : List Value} {im : IM} {rm : RM}  : ev 110 113 [.ref l1, v1, v2, v3, v4, v5, v6, v7] st im rm = ev 110 114 [.ref l1, v1, v2, v3, v4, v5, v6, v7] (.ref l1 :: st) (im) (rm) := ev_aload_n pm_m110 d110_113 rfl rfl
theorem d110_114 : decode prog_10_method_8_code 114 = .ok (.getfield 22, 3) := by decide +kernel
theorem s110_114 {v0 v1 v2 v3 v4 v5 v6 v7 : Value} {a : Nat} {st : List Value} {im : IM} {rm : RM} (hk : kd a = 18) : ev 110 114 [v0, v1, v2, v3, v4, v5, v6, v7] (.ref a :: st) im rm = ev 110 117 [v0, v1, v2, v3, v4, v5, v6, v7] (pm_ro (rm a 4) :: st) (im) (rm) := ev_getR pm_m110 d110_114 f8_22 rfl hk rfl
theorem d110_117 : decode prog_10_method_8_code 117 = .ok (.iload 7, 2) := by decide +kernel
theorem s110_117 {v0 v1 v2 v3 v4 v5 v6 : Value} {l1 : Int32} {st : List Value} {im : IM} {rm : RM}  : ev 110 117 [v0, v1, v2, v3, v4, v5, v6, .int l1] st im rm = ev 110 119 [v0, v1, v2, v3, v4, v5, v6, .int l1] (.int l1 :: st) (im) (rm) := ev_iload pm_m110 d110_117 rfl rfl
theorem d110_119 : decode prog_10_method_8_code 119 = .ok (.iload_n 3, 1) := by decide +kernel
theorem s110_119 {v0 v1 v2 v4 v5 v6 v7 : Value} {l1 : Int32} {st : List Value} {im : IM} {rm : RM}  : ev 110 119 [v0, v1, v2, .int l1, v4, v5, v6, v7] st im rm = ev 110 120 [v0, v1, v2, .int l1, v4, v5, v6, v7] (.int l1 :: st) (im) (rm) := ev_iload_n pm_m110 d110_119 rfl rfl
theorem d110_120 : decode prog_10_method_8_code 120 = .ok (.iastore, 1) := by decide +kernel
theorem s110_120 {v0 v1 v2 v3 v4 v5 v6 v7 : Value} {a : Nat} {i : Int32} {v : Int32} {st : List Value} {im : IM} {rm : RM} (hk : kd a = 0) (hi : pm_in i (ln a) = true) : ev 110 120 [v0, v1, v2, v3, v4, v5, v6, v7] (.int v :: .int i :: .ref a :: st) im rm = ev 110 121 [v0, v1, v2, v3, v4, v5, v6, v7] st (pm_w2 im a i.toNatClampNeg v) (rm) := ev_iast pm_m110 d110_120 hk hi rfl
theorem d110_121 : decode prog_10_method_8_code 121 = .ok (.aload_n 0, 1) := by decide +kernel
theorem s110_121 {v1 v2 v3 v4 v5 v6 v7 : Value} {l1 : Nat} {st : List Value} {im : IM} {rm : RM}  : ev 110 121 [.ref l1, v1, v2, v3, v4, v5, v6, v7] st im rm = ev 110 122 [.ref l1, v1, v2, v3, v4, v5, v6, v7] (.ref l1 :: st) (im) (rm) := ev_aload_n pm_m110 d110_121 rfl rfl
theorem d110_122 : decode prog_10_method_8_code 122 = .ok (.getfield 25, 3) := by decide +kernel
theorem s110_122 {v0 v1 v2 v3 v4 v5 v6 v7 : Value} {a : Nat} {st : List Value} {im : IM} {rm : RM} (hk : kd a = 18) : ev 110 122 [v0, v1, v2, v3, v4, v5, v6, v7] (.ref a :: st) im rm = ev 110 125 [v0, v1, v2, v3, v4, v5, v6, v7] (pm_ro (rm a 5) :: st) (im) (rm) := ev_getR pm_m110 d110_122 f8_25 rfl hk rfl
theorem d110_125 : decode prog_10_method_8_code 125 = .ok (.iload 7, 2) := by decide +kernel
theorem s110_125 {v0 v1 v2 v3 v4 v5 v6 : Value} {l1 : Int32} {st : List Value} {im : IM} {rm : RM}  : ev 110 125 [v0, v1, v2, v3, v4, v5, v6, .int l1] st im rm = ev 110 127 [v0, v1, v2, v3, v4, v5, v6, .int l1] (.int l1 :: st) (im) (rm) := ev_iload pm_m110 d110_125 rfl rfl
theorem d110_127 : decode prog_10_method_8_code 127 = .ok (.iload 4, 2) := by decide +kernel
theorem s110_127 {v0 v1 v2 v3 v5 v6 v7 : Value} {l1 : Int32} {st : List Value} {im : IM} {rm : RM}  : ev 110 127 [v0, v1, v2, v3, .int l1, v5, v6, v7] st im rm = ev 110 129 [v0, v1, v2, v3, .int l1, v5, v6, v7] (.int l1 :: st) (im) (rm) := ev_iload pm_m110 d110_127 rfl rfl
theorem d110_129 : decode prog_10_method_8_code 129 = .ok (.iastore, 1) := by decide +kernel
theorem s110_129 {v0 v1 v2 v3 v4 v5 v6 v7 : Value} {a : Nat} {i : Int32} {v : Int32} {st : List Value} {im : IM} {rm : RM} (hk : kd a = 0) (hi : pm_in i (ln a) = true) : ev 110 129 [v0, v1, v2, v3, v4, v5, v6, v7] (.int v :: .int i :: .ref a :: st) im rm = ev 110 130 [v0, v1, v2, v3, v4, v5, v6, v7] st (pm_w2 im a i.toNatClampNeg v) (rm) := ev_iast pm_m110 d110_129 hk hi rfl
theorem d110_130 : decode prog_10_method_8_code 130 = .ok (.aload_n 0, 1) := by decide +kernel
theorem s110_130 {v1 v2 v3 v4 v5 v6 v7 : Value} {l1 : Nat} {st : List Value} {im : IM} {rm : RM}  : ev 110 130 [.ref l1, v1, v2, v3, v4, v5, v6, v7] st im rm = ev 110 131 [.ref l1, v1, v2, v3, v4, v5, v6, v7] (.ref l1 :: st) (im) (rm) := ev_aload_n pm_m110 d110_130 rfl rfl
theorem d110_131 : decode prog_10_method_8_code 131 = .ok (.getfield 28, 3) := by decide +kernel
theorem s110_131 {v0 v1 v2 v3 v4 v5 v6 v7 : Value} {a : Nat} {st : List Value} {im : IM} {rm : RM} (hk : kd a = 18) : ev 110 131 [v0, v1, v2, v3, v4, v5, v6, v7] (.ref a :: st) im rm = ev 110 134 [v0, v1, v2, v3, v4, v5, v6, v7] (pm_ro (rm a 6) :: st) (im) (rm) := ev_getR pm_m110 d110_131 f8_28 rfl hk rfl
theorem d110_134 : decode prog_10_method_8_code 134 = .ok (.iload 7, 2) := by decide +kernel
theorem s110_134 {v0 v1 v2 v3 v4 v5 v6 : Value} {l1 : Int32} {st : List Value} {im : IM} {rm : RM}  : ev 110 134 [v0, v1, v2, v3, v4, v5, v6, .int l1] st im rm = ev 110 136 [v0, v1, v2, v3, v4, v5, v6, .int l1] (.int l1 :: st) (im) (rm) := ev_iload pm_m110 d110_134 rfl rfl
theorem d110_136 : decode prog_10_method_8_code 136 = .ok (.iload 5, 2) := by decide +kernel
theorem s110_136 {v0 v1 v2 v3 v4 v6 v7 : Value} {l1 : Int32} {st : List Value} {im : IM} {rm : RM}  : ev 110 136 [v0, v1, v2, v3, v4, .int l1, v6, v7] st im rm = ev 110 138 [v0, v1, v2, v3, v4, .int l1, v6, v7] (.int l1 :: st) (im) (rm) := ev_iload pm_m110 d110_136 rfl rfl
theorem d110_138 : decode prog_10_method_8_code 138 = .ok (.iastore, 1) := by decide +kernel
theorem s110_138 {v0 v1 v2 v3 v4 v5 v6 v7 : Value} {a : Nat} {i : Int32} {v : Int32} {st : List Value} {im : IM} {rm : RM} (hk : kd a = 0) (hi : pm_in i (ln a) = true) : ev 110 138 [v0, v1, v2, v3, v4, v5, v6, v7] (.int v :: .int i :: .ref a :: st) im rm = ev 110 139 [v0, v1, v2, v3, v4, v5, v6, v7] st (pm_w2 im a i.toNatClampNeg v) (rm) := ev_iast pm_m110 d110_138 hk hi rfl
theorem d110_139 : decode prog_10_method_8_code 139 = .ok (.aload_n 0, 1) := by decide +kernel
theorem s110_139 {v1 v2 v3 v4 v5 v6 v7 : Value} {l1 : Nat} {st : List Value} {im : IM} {rm : RM}  : ev 110 139 [.ref l1, v1, v2, v3, v4, v5, v6, v7] st im rm = ev 110 140 [.ref l1, v1, v2, v3, v4, v5, v6, v7] (.ref l1 :: st) (im) (rm) := ev_aload_n pm_m110 d110_139 rfl rfl
theorem d110_140 : decode prog_10_method_8_code 140 = .ok (.getfield 31, 3) := by decide +kernel
theorem s110_140 {v0 v1 v2 v3 v4 v5 v6 v7 : Value} {a : Nat} {st : List Value} {im : IM} {rm : RM} (hk : kd a = 18) : ev 110 140 [v0, v1, v2, v3, v4, v5, v6, v7] (.ref a :: st) im rm = ev 110 143 [v0, v1, v2, v3, v4, v5, v6, v7] (pm_ro (rm a 7) :: st) (im) (rm) := ev_getR pm_m110 d110_140 f8_31 rfl hk rfl
theorem d110_143 : decode prog_10_method_8_code 143 = .ok (.iload 7, 2) := by decide +kernel
theorem s110_143 {v0 v1 v2 v3 v4 v5 v6 : Value} {l1 : Int32} {st : List Value} {im : IM} {rm : RM}  : ev 110 143 [v0, v1, v2, v3, v4, v5, v6, .int l1] st im rm = ev 110 145 [v0, v1, v2, v3, v4, v5, v6, .int l1] (.int l1 :: st) (im) (rm) := ev_iload pm_m110 d110_143 rfl rfl
theorem d110_145 : decode prog_10_method_8_code 145 = .ok (.iload 6, 2) := by decide +kernel
theorem s110_145 {v0 v1 v2 v3 v4 v5 v7 : Value} {l1 : Int32} {st : List Value} {im : IM} {rm : RM}  : ev 110 145 [v0, v1, v2, v3, v4, v5, .int l1, v7] st im rm = ev 110 147 [v0, v1, v2, v3, v4, v5, .int l1, v7] (.int l1 :: st) (im) (rm) := ev_iload pm_m110 d110_145 rfl rfl
theorem d110_147 : decode prog_10_method_8_code 147 = .ok (.iastore, 1) := by decide +kernel
theorem s110_147 {v0 v1 v2 v3 v4 v5 v6 v7 : Value} {a : Nat} {i : Int32} {v : Int32} {st : List Value} {im : IM} {rm : RM} (hk : kd a = 0) (hi : pm_in i (ln a) = true) : ev 110 147 [v0, v1, v2, v3, v4, v5, v6, v7] (.int v :: .int i :: .ref a :: st) im rm = ev 110 148 [v0, v1, v2, v3, v4, v5, v6, v7] st (pm_w2 im a i.toNatClampNeg v) (rm) := ev_iast pm_m110 d110_147 hk hi rfl
theorem d110_148 : decode prog_10_method_8_code 148 = .ok (.aload_n 0, 1) := by decide +kernel
theorem s110_148 {v1 v2 v3 v4 v5 v6 v7 : Value} {l1 : Nat} {st : List Value} {im : IM} {rm : RM}  : ev 110 148 [.ref l1, v1, v2, v3, v4, v5, v6, v7] st im rm = ev 110 149 [.ref l1, v1, v2, v3, v4, v5, v6, v7] (.ref l1 :: st) (im) (rm) := ev_aload_n pm_m110 d110_148 rfl rfl
theorem d110_149 : decode prog_10_method_8_code 149 = .ok (.getfield 16, 3) := by decide +kernel
theorem s110_149 {v0 v1 v2 v3 v4 v5 v6 v7 : Value} {a : Nat} {st : List Value} {im : IM} {rm : RM} (hk : kd a = 18) : ev 110 149 [v0, v1, v2, v3, v4, v5, v6, v7] (.ref a :: st) im rm = ev 110 152 [v0, v1, v2, v3, v4, v5, v6, v7] (pm_ro (rm a 2) :: st) (im) (rm) := ev_getR pm_m110 d110_149 f8_16 rfl hk rfl
theorem d110_152 : decode prog_10_method_8_code 152 = .ok (.iload_n 1, 1) := by decide +kernel
theorem s110_152 {v0 v2 v3 v4 v5 v6 v7 : Value} {l1 : Int32} {st : List Value} {im : IM} {rm : RM}  : ev 110 152 [v0, .int l1, v2, v3, v4, v5, v6, v7] st im rm = ev 110 153 [v0, .int l1, v2, v3, v4, v5, v6, v7] (.int l1 :: st) (im) (rm) := ev_iload_n pm_m110 d110_152 rfl rfl
theorem d110_153 : decode prog_10_method_8_code 153 = .ok (.dup2, 1) := by decide +kernel
theorem s110_153 {v0 v1 v2 v3 v4 v5 v6 v7 : Value} {y : Int32} {x : Nat} {st : List Value} {im : IM} {rm : RM}  : ev 110 153 [v0, v1, v2, v3, v4, v5, v6, v7] (.int y :: .ref x :: st) im rm = ev 110 154 [v0, v1, v2, v3, v4, v5, v6, v7] (.int y :: .ref x :: .int y :: .ref x :: st) (im) (rm) := ev_dup2 pm_m110 d110_153 rfl
theorem d110_154 : decode prog_10_method_8_code 154 = .ok (.iaload, 1) := by decide +kernel
theorem s110_154 {v0 v1 v2 v3 v4 v5 v6 v7 : Value} {a : Nat} {i : Int32} {st : List Value} {im : IM} {rm : RM} (hk : kd a = 0) (hi : pm_in i (ln a) = true) : ev 110 154 [v0, v1, v2, v3, v4, v5, v6, v7] (.int i :: .ref a :: st) im rm = ev 110 155 [v0, v1, v2, v3, v4, v5, v6, v7] (.int (im a i.toNatClampNeg) :: st) (im) (rm) := ev_iald pm_m110 d110_154 hk hi rfl
theorem d110_155 : decode prog_10_method_8_code 155 = .ok (.iconst 1, 1) := by decide +kernel
theorem s110_155 {v0 v1 v2 v3 v4 v5 v6 v7 : Value}  {st : List Value} {im : IM} {rm : RM}  : ev 110 155 [v0, v1, v2, v3, v4, v5, v6, v7] st im rm = ev 110 156 [v0, v1, v2, v3, v4, v5, v6, v7] (.int (nI 1) :: st) (im) (rm) := ev_iconst pm_m110 d110_155 rfl rfl
theorem d110_156 : decode prog_10_method_8_code 156 = .ok (.iadd, 1) := by decide +kernel
theorem s110_156 {v0 v1 v2 v3 v4 v5 v6 v7 : Value} {x : Int32} {y : Int32} {st : List Value} {im : IM} {rm : RM}  : ev 110 156 [v0, v1, v2, v3, v4, v5, v6, v7] (.int y :: .int x :: st) im rm = ev 110 157 [v0, v1, v2, v3, v4, v5, v6, v7] (.int (x + y) :: st) (im) (rm) := ev_iadd pm_m110 d110_156 rfl
theorem d110_157 : decode prog_10_method_8_code 157 = .ok (.iastore, 1) := by decide +kernel
theorem s110_157 {v0 v1 v2 v3 v4 v5 v6 v7 : Value} {a : Nat} {i : Int32} {v : Int32} {st : List Value} {im : IM} {rm : RM} (hk : kd a = 0) (hi : pm_in i (ln a) = true) : ev 110 157 [v0, v1, v2, v3, v4, v5, v6, v7] (.int v :: .int i :: .ref a :: st) im rm = ev 110 158 [v0, v1, v2, v3, v4, v5, v6, v7] st (pm_w2 im a i.toNatClampNeg v) (rm) := ev_iast pm_m110 d110_157 hk hi rfl
theorem d110_158 : decode prog_10_method_8_code 158 = .ok (.aload_n 0, 1) := by decide +kernel
theorem s110_158 {v1 v2 v3 v4 v5 v6 v7 : Value} {l1 : Nat} {st : List Value} {im : IM} {rm : RM}  : ev 110 158 [.ref l1, v1, v2, v3, v4, v5, v6, v7] st im rm = ev 110 159 [.ref l1, v1, v2, v3, v4, v5, v6, v7] (.ref l1 :: st) (im) (rm) := ev_aload_n pm_m110 d110_158 rfl rfl
theorem d110_159 : decode prog_10_method_8_code 159 = .ok (.getfield 16, 3) := by decide +kernel
theorem s110_159 {v0 v1 v2 v3 v4 v5 v6 v7 : Value} {a : Nat} {st : List Value} {im : IM} {rm : RM} (hk : kd a = 18) : ev 110 159 [v0, v1, v2, v3, v4, v5, v6, v7] (.ref a :: st) im rm = ev 110 162 [v0, v1, v2, v3, v4, v5, v6, v7] (pm_ro (rm a 2) :: st) (im) (rm) := ev_getR pm_m110 d110_159 f8_16 rfl hk rfl
theorem d110_162 : decode prog_10_method_8_code 162 = .ok (.iload_n 1, 1) := by decide +kernel
theorem s110_162 {v0 v2 v3 v4 v5 v6 v7 : Value} {l1 : Int32} {st : List Value} {im : IM} {rm : RM}  : ev 110 162 [v0, .int l1, v2, v3, v4, v5, v6, v7] st im rm = ev 110 163 [v0, .int l1, v2, v3, v4, v5, v6, v7] (.int l1 :: st) (im) (rm) := ev_iload_n pm_m110 d110_162 rfl rfl
theorem d110_163 : decode prog_10_method_8_code 163 = .ok (.iaload, 1) := by decide +kernel
theorem s110_163 {v0 v1 v2 v3 v4 v5 v6 v7 : Value} {a : Nat} {i : Int32} {st : List Value} {im : IM} {rm : RM} (hk : kd a = 0) (hi : pm_in i (ln a) = true) : ev 110 163 [v0, v1, v2, v3, v4, v5, v6, v7] (.int i :: .ref a :: st) im rm = ev 110 164 [v0, v1, v2, v3, v4, v5, v6, v7] (.int (im a i.toNatClampNeg) :: st) (im) (rm) := ev_iald pm_m110 d110_163 hk hi rfl
theorem d110_164 : decode prog_10_method_8_code 164 = .ok (.ireturn, 1) := by decide +kernel
theorem s110_164 {v0 v1 v2 v3 v4 v5 v6 v7 : Value} {x : Int32} {im : IM} {rm : RM} : ev 110 164 [v0, v1, v2, v3, v4, v5, v6, v7] [.int x] im rm = some (some (.int x), im, rm) := ev_ireturn pm_m110 d110_164 rfl
theorem d111_0 : decode prog_10_method_9_code 0 = .ok (.iload_n 1, 1) := by decide +kernel
theorem s111_0 {v0 v2 v3 v4 : Value} {l1 : Int32} {st : List Value} {im : IM} {rm : RM}  : ev 111 0 [v0, .int l1, v2, v3, v4] st im rm = ev 111 1 [v0, .int l1, v2, v3, v4] (.int l1 :: st) (im) (rm) := ev_iload_n pm_m111 d111_0 rfl rfl
theorem d111_1 : decode prog_10_method_9_code 1 = .ok (.invokestatic 130, 3) := by decide +kernel
theorem s111_1 {v0 v1 v2 v3 v4 : Value} {p1 : Int32} {im : IM} {rm : RM}  : ev 111 1 [v0, v1, v2, v3, v4] [.int p1] im rm = (ev 106 0 [.int p1] [] im rm).bind (fun r => ev 111 4 [v0, v1, v2, v3, v4] (r.1.toList ++ []) r.2.1 r.2.2) := ev_callS pm_m111 d111_1 (by decide) l8_130 rfl pm_m106 rfl ⟨rfl, rfl⟩ rfl rfl
theorem d111_4 : decode prog_10_method_9_code 4 = .ok (.ifCond .ne 6, 3) := by decide +kernel
theorem s111_4 {v0 v1 v2 v3 v4 : Value} {x : Int32} {st : List Value} {im : IM} {rm : RM} : ev 111 4 [v0, v1, v2, v3, v4] (.int x :: st) im rm = if x = nI 0 then ev 111 7 [v0, v1, v2, v3, v4] st im rm else ev 111 10 [v0, v1, v2, v3, pm_u] st im rm := ev_if_ne (y := 0) pm_m111 d111_4 rfl rfl rfl
theorem d111_7 : decode prog_10_method_9_code 7 = .ok (.bipush (-2), 2) := by decide +kernel
theorem s111_7 {v0 v1 v2 v3 v4 : Value}  {st : List Value} {im : IM} {rm : RM}  : ev 111 7 [v0, v1, v2, v3, v4] st im rm = ev 111 9 [v0, v1, v2, v3, v4] (.int ((-2 : Int32)) :: st) (im) (rm) := ev_bipush pm_m111 d111_7 rfl rfl
theorem d111_9 : decode prog_10_method_9_code 9 = .ok (.ireturn, 1) := by decide +kernel
theorem s111_9 {v0 v1 v2 v3 v4 : Value} {x : Int32} {im : IM} {rm : RM} : ev 111 9 [v0, v1, v2, v3, v4] [.int x] im rm = some (some (.int x), im, rm) := ev_ireturn pm_m111 d111_9 rfl
theorem d111_10 : decode prog_10_method_9_code 10 = .ok (.iload_n 2, 1) := by decide +kernel
theorem s111_10 {v0 v1 v3 v4 : Value} {l1 : Int32} {st : List Value} {im : IM} {rm : RM}  : ev 111 10 [v0, v1, .int l1, v3, v4] st im rm = ev 111 11 [v0, v1, .int l1, v3, v4] (.int l1 :: st) (im) (rm) := ev_iload_n pm_m111 d111_10 rfl rfl
theorem d111_11 : decode prog_10_method_9_code 11 = .ok (.invokestatic 130, 3) := by decide +kernel
theorem s111_11 {v0 v1 v2 v3 v4 : Value} {p1 : Int32} {im : IM} {rm : RM}  : ev 111 11 [v0, v1, v2, v3, v4] [.int p1] im rm = (ev 106 0 [.int p1] [] im rm).bind (fun r => ev 111 14 [v0, v1, v2, v3, v4] (r.1.toList ++ []) r.2.1 r.2.2) := ev_callS pm_m111 d111_11 (by decide) l8_130 rfl pm_m106 rfl ⟨rfl, rfl⟩ rfl rfl
theorem d111_14 : decode prog_10_method_9_code 14 = .ok (.ifCond .eq 15, 3) := by decide +kernel
theorem s111_14 {v0 v1 v2 v3 v4 : Value} {x : Int32} {st : List Value} {im : IM} {rm : RM} : ev 111 14 [v0, v1, v2, v3, v4] (.int x :: st) im rm = if x = nI 0 then ev 111 29 [pm_u, pm_u, pm_u, pm_u, pm_u] st im rm else ev 111 17 [v0, v1, v2, v3, v4] st im rm := ev_if_eq (y := 0) pm_m111 d111_14 rfl rfl rfl
theorem d111_17 : decode prog_10_method_9_code 17 = .ok (.iload_n 3, 1) := by decide +kernel
theorem s111_17 {v0 v1 v2 v4 : Value} {l1 : Int32} {st : List Value} {im : IM} {rm : RM}  : ev 111 17 [v0, v1, v2, .int l1, v4] st im rm = ev 111 18 [v0, v1, v2, .int l1, v4] (.int l1 :: st) (im) (rm) := ev_iload_n pm_m111 d111_17 rfl rfl
theorem d111_18 : decode prog_10_method_9_code 18 = .ok (.i2l, 1) := by decide +kernel
theorem s111_18 {v0 v1 v2 v3 v4 : Value} {x : Int32} {st : List Value} {im : IM} {rm : RM}  : ev 111 18 [v0, v1, v2, v3, v4] (.int x :: st) im rm = ev 111 19 [v0, v1, v2, v3, v4] (.long x.toInt64 :: st) (im) (rm) := ev_i2l pm_m111 d111_18 rfl
theorem d111_19 : decode prog_10_method_9_code 19 = .ok (.lconst 0, 1) := by decide +kernel
theorem s111_19 {v0 v1 v2 v3 v4 : Value}  {st : List Value} {im : IM} {rm : RM}  : ev 111 19 [v0, v1, v2, v3, v4] st im rm = ev 111 20 [v0, v1, v2, v3, v4] (.long (lN 0) :: st) (im) (rm) := ev_lconst pm_m111 d111_19 rfl rfl
theorem d111_20 : decode prog_10_method_9_code 20 = .ok (.ldc2_w 143, 3) := by decide +kernel
theorem s111_20 {v0 v1 v2 v3 v4 : Value}  {st : List Value} {im : IM} {rm : RM}  : ev 111 20 [v0, v1, v2, v3, v4] st im rm = ev 111 23 [v0, v1, v2, v3, v4] (.long (lN 60) :: st) (im) (rm) := ev_ldc2 pm_m111 d111_20 (by decide +kernel) rfl
theorem d111_23 : decode prog_10_method_9_code 23 = .ok (.invokestatic 120, 3) := by decide +kernel
theorem s111_23 {v0 v1 v2 v3 v4 : Value} {p1 : Int64} {p2 : Int64} {p3 : Int64} {im : IM} {rm : RM}  : ev 111 23 [v0, v1, v2, v3, v4] [.long p3, .long p2, .long p1] im rm = (ev 104 0 [.long p1, pm_u, .long p2, pm_u, .long p3, pm_u] [] im rm).bind (fun r => ev 111 26 [v0, v1, v2, v3, v4] (r.1.toList ++ []) r.2.1 r.2.2) := ev_callS pm_m111 d111_23 (by decide) l8_120 rfl pm_m104 rfl ⟨rfl, rfl⟩ rfl rfl
theorem d111_26 : decode prog_10_method_9_code 26 = .ok (.ifCond .ne 6, 3) := by decide +kernel
theorem s111_26 {v0 v1 v2 v3 v4 : Value} {x : Int32} {st : List Value} {im : IM} {rm : RM} : ev 111 26 [v0, v1, v2, v3, v4] (.int x :: st) im rm = if x = nI 0 then ev 111 29 [pm_u, pm_u, pm_u, pm_u, pm_u] st im rm else ev 111 32 [v0, v1, v2, v3, pm_u] st im rm := ev_if_ne (y := 0) pm_m111 d111_26 rfl rfl rfl
theorem d111_29 : decode prog_10_method_9_code 29 = .ok (.bipush (-3), 2) := by decide +kernel
theorem s111_29 {v0 v1 v2 v3 v4 : Value}  {st : List Value} {im : IM} {rm : RM}  : ev 111 29 [v0, v1, v2, v3, v4] st im rm = ev 111 31 [v0, v1, v2, v3, v4] (.int ((-3 : Int32)) :: st) (im) (rm) := ev_bipush pm_m111 d111_29 rfl rfl
theorem d111_31 : decode prog_10_method_9_code 31 = .ok (.ireturn, 1) := by decide +kernel
theorem s111_31 {v0 v1 v2 v3 v4 : Value} {x : Int32} {im : IM} {rm : RM} : ev 111 31 [v0, v1, v2, v3, v4] [.int x] im rm = some (some (.int x), im, rm) := ev_ireturn pm_m111 d111_31 rfl
theorem d111_32 : decode prog_10_method_9_code 32 = .ok (.aload_n 0, 1) := by decide +kernel
theorem s111_32 {v1 v2 v3 v4 : Value} {l1 : Nat} {st : List Value} {im : IM} {rm : RM}  : ev 111 32 [.ref l1, v1, v2, v3, v4] st im rm = ev 111 33 [.ref l1, v1, v2, v3, v4] (.ref l1 :: st) (im) (rm) := ev_aload_n pm_m111 d111_32 rfl rfl
theorem d111_33 : decode prog_10_method_9_code 33 = .ok (.getfield 34, 3) := by decide +kernel
theorem s111_33 {v0 v1 v2 v3 v4 : Value} {a : Nat} {st : List Value} {im : IM} {rm : RM} (hk : kd a = 18) : ev 111 33 [v0, v1, v2, v3, v4] (.ref a :: st) im rm = ev 111 36 [v0, v1, v2, v3, v4] (pm_ro (rm a 8) :: st) (im) (rm) := ev_getR pm_m111 d111_33 f8_34 rfl hk rfl
theorem d111_36 : decode prog_10_method_9_code 36 = .ok (.iconst 4, 1) := by decide +kernel
theorem s111_36 {v0 v1 v2 v3 v4 : Value}  {st : List Value} {im : IM} {rm : RM}  : ev 111 36 [v0, v1, v2, v3, v4] st im rm = ev 111 37 [v0, v1, v2, v3, v4] (.int (nI 4) :: st) (im) (rm) := ev_iconst pm_m111 d111_36 rfl rfl
theorem d111_37 : decode prog_10_method_9_code 37 = .ok (.iload_n 1, 1) := by decide +kernel
theorem s111_37 {v0 v2 v3 v4 : Value} {l1 : Int32} {st : List Value} {im : IM} {rm : RM}  : ev 111 37 [v0, .int l1, v2, v3, v4] st im rm = ev 111 38 [v0, .int l1, v2, v3, v4] (.int l1 :: st) (im) (rm) := ev_iload_n pm_m111 d111_37 rfl rfl
theorem d111_38 : decode prog_10_method_9_code 38 = .ok (.imul, 1) := by decide +kernel
theorem s111_38 {v0 v1 v2 v3 v4 : Value} {x : Int32} {y : Int32} {st : List Value} {im : IM} {rm : RM}  : ev 111 38 [v0, v1, v2, v3, v4] (.int y :: .int x :: st) im rm = ev 111 39 [v0, v1, v2, v3, v4] (.int (x * y) :: st) (im) (rm) := ev_imul pm_m111 d111_38 rfl
theorem d111_39 : decode prog_10_method_9_code 39 = .ok (.iload_n 2, 1) := by decide +kernel
theorem s111_39 {v0 v1 v3 v4 : Value} {l1 : Int32} {st : List Value} {im : IM} {rm : RM}  : ev 111 39 [v0, v1, .int l1, v3, v4] st im rm = ev 111 40 [v0, v1, .int l1, v3, v4] (.int l1 :: st) (im) (rm) := ev_iload_n pm_m111 d111_39 rfl rfl
theorem d111_40 : decode prog_10_method_9_code 40 = .ok (.iadd, 1) := by decide +kernel
theorem s111_40 {v0 v1 v2 v3 v4 : Value} {x : Int32} {y : Int32} {st : List Value} {im : IM} {rm : RM}  : ev 111 40 [v0, v1, v2, v3, v4] (.int y :: .int x :: st) im rm = ev 111 41 [v0, v1, v2, v3, v4] (.int (x + y) :: st) (im) (rm) := ev_iadd pm_m111 d111_40 rfl
theorem d111_41 : decode prog_10_method_9_code 41 = .ok (.iaload, 1) := by decide +kernel
theorem s111_41 {v0 v1 v2 v3 v4 : Value} {a : Nat} {i : Int32} {st : List Value} {im : IM} {rm : RM} (hk : kd a = 0) (hi : pm_in i (ln a) = true) : ev 111 41 [v0, v1, v2, v3, v4] (.int i :: .ref a :: st) im rm = ev 111 42 [v0, v1, v2, v3, v4] (.int (im a i.toNatClampNeg) :: st) (im) (rm) := ev_iald pm_m111 d111_41 hk hi rfl
theorem d111_42 : decode prog_10_method_9_code 42 = .ok (.istore 4, 2) := by decide +kernel
theorem s111_42 {v0 v1 v2 v4 : Value} {l1 : Int32} {x2 : Int32} {st : List Value} {im : IM} {rm : RM}  : ev 111 42 [v0, v1, v2, .int l1, v4] (.int x2 :: st) im rm = ev 111 44 [v0, v1, v2, .int l1, .int x2] st (im) (rm) := ev_istore pm_m111 d111_42 (Nat.le_of_ble_eq_true rfl) rfl rfl
theorem d111_44 : decode prog_10_method_9_code 44 = .ok (.aload_n 0, 1) := by decide +kernel
theorem s111_44 {v1 v2 v3 v4 : Value} {l1 : Nat} {st : List Value} {im : IM} {rm : RM}  : ev 111 44 [.ref l1, v1, v2, v3, v4] st im rm = ev 111 45 [.ref l1, v1, v2, v3, v4] (.ref l1 :: st) (im) (rm) := ev_aload_n pm_m111 d111_44 rfl rfl
theorem d111_45 : decode prog_10_method_9_code 45 = .ok (.getfield 34, 3) := by decide +kernel
theorem s111_45 {v0 v1 v2 v3 v4 : Value} {a : Nat} {st : List Value} {im : IM} {rm : RM} (hk : kd a = 18) : ev 111 45 [v0, v1, v2, v3, v4] (.ref a :: st) im rm = ev 111 48 [v0, v1, v2, v3, v4] (pm_ro (rm a 8) :: st) (im) (rm) := ev_getR pm_m111 d111_45 f8_34 rfl hk rfl
theorem d111_48 : decode prog_10_method_9_code 48 = .ok (.iconst 4, 1) := by decide +kernel
theorem s111_48 {v0 v1 v2 v3 v4 : Value}  {st : List Value} {im : IM} {rm : RM}  : ev 111 48 [v0, v1, v2, v3, v4] st im rm = ev 111 49 [v0, v1, v2, v3, v4] (.int (nI 4) :: st) (im) (rm) := ev_iconst pm_m111 d111_48 rfl rfl
theorem d111_49 : decode prog_10_method_9_code 49 = .ok (.iload_n 1, 1) := by decide +kernel
theorem s111_49 {v0 v2 v3 v4 : Value} {l1 : Int32} {st : List Value} {im : IM} {rm : RM}  : ev 111 49 [v0, .int l1, v2, v3, v4] st im rm = ev 111 50 [v0, .int l1, v2, v3, v4] (.int l1 :: st) (im) (rm) := ev_iload_n pm_m111 d111_49 rfl rfl
theorem d111_50 : decode prog_10_method_9_code 50 = .ok (.imul, 1) := by decide +kernel
theorem s111_50 {v0 v1 v2 v3 v4 : Value} {x : Int32} {y : Int32} {st : List Value} {im : IM} {rm : RM}  : ev 111 50 [v0, v1, v2, v3, v4] (.int y :: .int x :: st) im rm = ev 111 51 [v0, v1, v2, v3, v4] (.int (x * y) :: st) (im) (rm) := ev_imul pm_m111 d111_50 rfl
theorem d111_51 : decode prog_10_method_9_code 51 = .ok (.iload_n 2, 1) := by decide +kernel
theorem s111_51 {v0 v1 v3 v4 : Value} {l1 : Int32} {st : List Value} {im : IM} {rm : RM}  : ev 111 51 [v0, v1, .int l1, v3, v4] st im rm = ev 111 52 [v0, v1, .int l1, v3, v4] (.int l1 :: st) (im) (rm) := ev_iload_n pm_m111 d111_51 rfl rfl
theorem d111_52 : decode prog_10_method_9_code 52 = .ok (.iadd, 1) := by decide +kernel
theorem s111_52 {v0 v1 v2 v3 v4 : Value} {x : Int32} {y : Int32} {st : List Value} {im : IM} {rm : RM}  : ev 111 52 [v0, v1, v2, v3, v4] (.int y :: .int x :: st) im rm = ev 111 53 [v0, v1, v2, v3, v4] (.int (x + y) :: st) (im) (rm) := ev_iadd pm_m111 d111_52 rfl
theorem d111_53 : decode prog_10_method_9_code 53 = .ok (.iload_n 3, 1) := by decide +kernel
theorem s111_53 {v0 v1 v2 v4 : Value} {l1 : Int32} {st : List Value} {im : IM} {rm : RM}  : ev 111 53 [v0, v1, v2, .int l1, v4] st im rm = ev 111 54 [v0, v1, v2, .int l1, v4] (.int l1 :: st) (im) (rm) := ev_iload_n pm_m111 d111_53 rfl rfl
theorem d111_54 : decode prog_10_method_9_code 54 = .ok (.iastore, 1) := by decide +kernel
theorem s111_54 {v0 v1 v2 v3 v4 : Value} {a : Nat} {i : Int32} {v : Int32} {st : List Value} {im : IM} {rm : RM} (hk : kd a = 0) (hi : pm_in i (ln a) = true) : ev 111 54 [v0, v1, v2, v3, v4] (.int v :: .int i :: .ref a :: st) im rm = ev 111 55 [v0, v1, v2, v3, v4] st (pm_w2 im a i.toNatClampNeg v) (rm) := ev_iast pm_m111 d111_54 hk hi rfl
theorem d111_55 : decode prog_10_method_9_code 55 = .ok (.iload 4, 2) := by decide +kernel
theorem s111_55 {v0 v1 v2 v3 : Value} {l1 : Int32} {st : List Value} {im : IM} {rm : RM}  : ev 111 55 [v0, v1, v2, v3, .int l1] st im rm = ev 111 57 [v0, v1, v2, v3, .int l1] (.int l1 :: st) (im) (rm) := ev_iload pm_m111 d111_55 rfl rfl
theorem d111_57 : decode prog_10_method_9_code 57 = .ok (.ireturn, 1) := by decide +kernel
theorem s111_57 {v0 v1 v2 v3 v4 : Value} {x : Int32} {im : IM} {rm : RM} : ev 111 57 [v0, v1, v2, v3, v4] [.int x] im rm = some (some (.int x), im, rm) := ev_ireturn pm_m111 d111_57 rfl
theorem d112_0 : decode prog_10_method_10_code 0 = .ok (.iload_n 1, 1) := by decide +kernel
theorem s112_0 {v0 v2 v3 : Value} {l1 : Int32} {st : List Value} {im : IM} {rm : RM}  : ev 112 0 [v0, .int l1, v2, v3] st im rm = ev 112 1 [v0, .int l1, v2, v3] (.int l1 :: st) (im) (rm) := ev_iload_n pm_m112 d112_0 rfl rfl
theorem d112_1 : decode prog_10_method_10_code 1 = .ok (.invokestatic 130, 3) := by decide +kernel
theorem s112_1 {v0 v1 v2 v3 : Value} {p1 : Int32} {im : IM} {rm : RM}  : ev 112 1 [v0, v1, v2, v3] [.int p1] im rm = (ev 106 0 [.int p1] [] im rm).bind (fun r => ev 112 4 [v0, v1, v2, v3] (r.1.toList ++ []) r.2.1 r.2.2) := ev_callS pm_m112 d112_1 (by decide) l8_130 rfl pm_m106 rfl ⟨rfl, rfl⟩ rfl rfl
theorem d112_4 : decode prog_10_method_10_code 4 = .ok (.ifCond .eq 58, 3) := by decide +kernel
theorem s112_4 {v0 v1 v2 v3 : Value} {x : Int32} {st : List Value} {im : IM} {rm : RM} : ev 112 4 [v0, v1, v2, v3] (.int x :: st) im rm = if x = nI 0 then ev 112 62 [pm_u, pm_u, pm_u, pm_u] st im rm else ev 112 7 [v0, v1, v2, v3] st im rm := ev_if_eq (y := 0) pm_m112 d112_4 rfl rfl rfl
theorem d112_7 : decode prog_10_method_10_code 7 = .ok (.iload_n 2, 1) := by decide +kernel
theorem s112_7 {v0 v1 v3 : Value} {l1 : Int32} {st : List Value} {im : IM} {rm : RM}  : ev 112 7 [v0, v1, .int l1, v3] st im rm = ev 112 8 [v0, v1, .int l1, v3] (.int l1 :: st) (im) (rm) := ev_iload_n pm_m112 d112_7 rfl rfl
theorem d112_8 : decode prog_10_method_10_code 8 = .ok (.i2l, 1) := by decide +kernel
theorem s112_8 {v0 v1 v2 v3 : Value} {x : Int32} {st : List Value} {im : IM} {rm : RM}  : ev 112 8 [v0, v1, v2, v3] (.int x :: st) im rm = ev 112 9 [v0, v1, v2, v3] (.long x.toInt64 :: st) (im) (rm) := ev_i2l pm_m112 d112_8 rfl
theorem d112_9 : decode prog_10_method_10_code 9 = .ok (.iload_n 1, 1) := by decide +kernel
theorem s112_9 {v0 v2 v3 : Value} {l1 : Int32} {st : List Value} {im : IM} {rm : RM}  : ev 112 9 [v0, .int l1, v2, v3] st im rm = ev 112 10 [v0, .int l1, v2, v3] (.int l1 :: st) (im) (rm) := ev_iload_n pm_m112 d112_9 rfl rfl
theorem d112_10 : decode prog_10_method_10_code 10 = .ok (.iconst 1, 1) := by decide +kernel
theorem s112_10 {v0 v1 v2 v3 : Value}  {st : List Value} {im : IM} {rm : RM}  : ev 112 10 [v0, v1, v2, v3] st im rm = ev 112 11 [v0, v1, v2, v3] (.int (nI 1) :: st) (im) (rm) := ev_iconst pm_m112 d112_10 rfl rfl
theorem d112_11 : decode prog_10_method_10_code 11 = .ok (.if_icmp .ne 9, 3) := by decide +kernel
theorem s112_11 {v0 v1 v2 v3 : Value} {x : Int32} {y : Int32} {st : List Value} {im : IM} {rm : RM} : ev 112 11 [v0, v1, v2, v3] (.int y :: .int x :: st) im rm = if x = y then ev 112 14 [v0, v1, v2, v3] st im rm else ev 112 20 [v0, v1, v2, pm_u] st im rm := ev_icmp_ne pm_m112 d112_11 rfl rfl rfl
theorem d112_14 : decode prog_10_method_10_code 14 = .ok (.ldc2_w 145, 3) := by decide +kernel
theorem s112_14 {v0 v1 v2 v3 : Value}  {st : List Value} {im : IM} {rm : RM}  : ev 112 14 [v0, v1, v2, v3] st im rm = ev 112 17 [v0, v1, v2, v3] (.long (lN 20) :: st) (im) (rm) := ev_ldc2 pm_m112 d112_14 (by decide +kernel) rfl
theorem d112_17 : decode prog_10_method_10_code 17 = .ok (.goto 4, 3) := by decide +kernel
theorem s112_17 {v0 v1 v2 v3 : Value}  {st : List Value} {im : IM} {rm : RM}  : ev 112 17 [v0, v1, v2, v3] st im rm = ev 112 21 [v0, v1, v2, pm_u] st (im) (rm) := ev_goto pm_m112 d112_17 rfl rfl
theorem d112_20 : decode prog_10_method_10_code 20 = .ok (.lconst 0, 1) := by decide +kernel
theorem s112_20 {v0 v1 v2 v3 : Value}  {st : List Value} {im : IM} {rm : RM}  : ev 112 20 [v0, v1, v2, v3] st im rm = ev 112 21 [v0, v1, v2, pm_u] (.long (lN 0) :: st) (im) (rm) := ev_lconst pm_m112 d112_20 rfl rfl
theorem d112_21 : decode prog_10_method_10_code 21 = .ok (.iload_n 1, 1) := by decide +kernel
theorem s112_21 {v0 v2 v3 : Value} {l1 : Int32} {st : List Value} {im : IM} {rm : RM}  : ev 112 21 [v0, .int l1, v2, v3] st im rm = ev 112 22 [v0, .int l1, v2, v3] (.int l1 :: st) (im) (rm) := ev_iload_n pm_m112 d112_21 rfl rfl
theorem d112_22 : decode prog_10_method_10_code 22 = .ok (.ifCond .ne 9, 3) := by decide +kernel
theorem s112_22 {v0 v1 v2 v3 : Value} {x : Int32} {st : List Value} {im : IM} {rm : RM} : ev 112 22 [v0, v1, v2, v3] (.int x :: st) im rm = if x = nI 0 then ev 112 25 [v0, v1, v2, v3] st im rm else ev 112 31 [v0, v1, v2, pm_u] st im rm := ev_if_ne (y := 0) pm_m112 d112_22 rfl rfl rfl
theorem d112_25 : decode prog_10_method_10_code 25 = .ok (.ldc2_w 147, 3) := by decide +kernel
theorem s112_25 {v0 v1 v2 v3 : Value}  {st : List Value} {im : IM} {rm : RM}  : ev 112 25 [v0, v1, v2, v3] st im rm = ev 112 28 [v0, v1, v2, v3] (.long (lN 9999) :: st) (im) (rm) := ev_ldc2 pm_m112 d112_25 (by decide +kernel) rfl
theorem d112_28 : decode prog_10_method_10_code 28 = .ok (.goto 28, 3) := by decide +kernel
theorem s112_28 {v0 v1 v2 v3 : Value}  {st : List Value} {im : IM} {rm : RM}  : ev 112 28 [v0, v1, v2, v3] st im rm = ev 112 56 [v0, v1, v2, pm_u] st (im) (rm) := ev_goto pm_m112 d112_28 rfl rfl
theorem d112_31 : decode prog_10_method_10_code 31 = .ok (.iload_n 1, 1) := by decide +kernel
theorem s112_31 {v0 v2 v3 : Value} {l1 : Int32} {st : List Value} {im : IM} {rm : RM}  : ev 112 31 [v0, .int l1, v2, v3] st im rm = ev 112 32 [v0, .int l1, v2, v3] (.int l1 :: st) (im) (rm) := ev_iload_n pm_m112 d112_31 rfl rfl
theorem d112_32 : decode prog_10_method_10_code 32 = .ok (.iconst 1, 1) := by decide +kernel
theorem s112_32 {v0 v1 v2 v3 : Value}  {st : List Value} {im : IM} {rm : RM}  : ev 112 32 [v0, v1, v2, v3] st im rm = ev 112 33 [v0, v1, v2, v3] (.int (nI 1) :: st) (im) (rm) := ev_iconst pm_m112 d112_32 rfl rfl
theorem d112_33 : decode prog_10_method_10_code 33 = .ok (.if_icmp .ne 9, 3) := by decide +kernel
theorem s112_33 {v0 v1 v2 v3 : Value} {x : Int32} {y : Int32} {st : List Value} {im : IM} {rm : RM} : ev 112 33 [v0, v1, v2, v3] (.int y :: .int x :: st) im rm = if x = y then ev 112 36 [v0, v1, v2, v3] st im rm else ev 112 42 [v0, v1, v2, pm_u] st im rm := ev_icmp_ne pm_m112 d112_33 rfl rfl rfl
theorem d112_36 : decode prog_10_method_10_code 36 = .ok (.ldc2_w 149, 3) := by decide +kernel
theorem s112_36 {v0 v1 v2 v3 : Value}  {st : List Value} {im : IM} {rm : RM}  : ev 112 36 [v0, v1, v2, v3] st im rm = ev 112 39 [v0, v1, v2, v3] (.long (lN 999) :: st) (im) (rm) := ev_ldc2 pm_m112 d112_36 (by decide +kernel) rfl
theorem d112_39 : decode prog_10_method_10_code 39 = .ok (.goto 17, 3) := by decide +kernel
theorem s112_39 {v0 v1 v2 v3 : Value}  {st : List Value} {im : IM} {rm : RM}  : ev 112 39 [v0, v1, v2, v3] st im rm = ev 112 56 [v0, v1, v2, pm_u] st (im) (rm) := ev_goto pm_m112 d112_39 rfl rfl
theorem d112_42 : decode prog_10_method_10_code 42 = .ok (.iload_n 1, 1) := by decide +kernel
theorem s112_42 {v0 v2 v3 : Value} {l1 : Int32} {st : List Value} {im : IM} {rm : RM}  : ev 112 42 [v0, .int l1, v2, v3] st im rm = ev 112 43 [v0, .int l1, v2, v3] (.int l1 :: st) (im) (rm) := ev_iload_n pm_m112 d112_42 rfl rfl
theorem d112_43 : decode prog_10_method_10_code 43 = .ok (.iconst 2, 1) := by decide +kernel
theorem s112_43 {v0 v1 v2 v3 : Value}  {st : List Value} {im : IM} {rm : RM}  : ev 112 43 [v0, v1, v2, v3] st im rm = ev 112 44 [v0, v1, v2, v3] (.int (nI 2) :: st) (im) (rm) := ev_iconst pm_m112 d112_43 rfl rfl
theorem d112_44 : decode prog_10_method_10_code 44 = .ok (.if_icmp .ne 9, 3) := by decide +kernel
theorem s112_44 {v0 v1 v2 v3 : Value} {x : Int32} {y : Int32} {st : List Value} {im : IM} {rm : RM} : ev 112 44 [v0, v1, v2, v3] (.int y :: .int x :: st) im rm = if x = y then ev 112 47 [v0, v1, v2, v3] st im rm else ev 112 53 [v0, v1, v2, pm_u] st im rm := ev_icmp_ne pm_m112 d112_44 rfl rfl rfl
theorem d112_47 : decode prog_10_method_10_code 47 = .ok (.ldc2_w 151, 3) := by decide +kernel
theorem s112_47 {v0 v1 v2 v3 : Value}  {st : List Value} {im : IM} {rm : RM}  : ev 112 47 [v0, v1, v2, v3] st im rm = ev 112 50 [v0, v1, v2, v3] (.long (lN 99999) :: st) (im) (rm) := ev_ldc2 pm_m112 d112_47 (by decide +kernel) rfl
theorem d112_50 : decode prog_10_method_10_code 50 = .ok (.goto 6, 3) := by decide +kernel
theorem s112_50 {v0 v1 v2 v3 : Value}  {st : List Value} {im : IM} {rm : RM}  : ev 112 50 [v0, v1, v2, v3] st im rm = ev 112 56 [v0, v1, v2, pm_u] st (im) (rm) := ev_goto pm_m112 d112_50 rfl rfl
theorem d112_53 : decode prog_10_method_10_code 53 = .ok (.ldc2_w 153, 3) := by decide +kernel
theorem s112_53 {v0 v1 v2 v3 : Value}  {st : List Value} {im : IM} {rm : RM}  : ev 112 53 [v0, v1, v2, v3] st im rm = ev 112 56 [v0, v1, v2, pm_u] (.long (lN 100) :: st) (im) (rm) := ev_ldc2 pm_m112 d112_53 (by decide +kernel) rfl
theorem d112_56 : decode prog_10_method_10_code 56 = .ok (.invokestatic 120, 3) := by decide +kernel
theorem s112_56 {v0 v1 v2 v3 : Value} {p1 : Int64} {p2 : Int64} {p3 : Int64} {im : IM} {rm : RM}  : ev 112 56 [v0, v1, v2, v3] [.long p3, .long p2, .long p1] im rm = (ev 104 0 [.long p1, pm_u, .long p2, pm_u, .long p3, pm_u] [] im rm).bind (fun r => ev 112 59 [v0, v1, v2, v3] (r.1.toList ++ []) r.2.1 r.2.2) := ev_callS pm_m112 d112_56 (by decide) l8_120 rfl pm_m104 rfl ⟨rfl, rfl⟩ rfl rfl
theorem d112_59 : decode prog_10_method_10_code 59 = .ok (.ifCond .ne 6, 3) := by decide +kernel
theorem s112_59 {v0 v1 v2 v3 : Value} {x : Int32} {st : List Value} {im : IM} {rm : RM} : ev 112 59 [v0, v1, v2, v3] (.int x :: st) im rm = if x = nI 0 then ev 112 62 [pm_u, pm_u, pm_u, pm_u] st im rm else ev 112 65 [v0, v1, v2, pm_u] st im rm := ev_if_ne (y := 0) pm_m112 d112_59 rfl rfl rfl
theorem d112_62 : decode prog_10_method_10_code 62 = .ok (.bipush (-3), 2) := by decide +kernel
theorem s112_62 {v0 v1 v2 v3 : Value}  {st : List Value} {im : IM} {rm : RM}  : ev 112 62 [v0, v1, v2, v3] st im rm = ev 112 64 [v0, v1, v2, v3] (.int ((-3 : Int32)) :: st) (im) (rm) := ev_bipush pm_m112 d112_62 rfl rfl
theorem d112_64 : decode prog_10_method_10_code 64 = .ok (.ireturn, 1) := by decide +kernel
theorem s112_64 {v0 v1 v2 v3 : Value} {x : Int32} {im : IM} {rm : RM} : ev 112 64 [v0, v1, v2, v3] [.int x] im rm = some (some (.int x), im, rm) := ev_ireturn pm_m112 d112_64 rfl
theorem d112_65 : decode prog_10_method_10_code 65 = .ok (.aload_n 0, 1) := by decide +kernel
theorem s112_65 {v1 v2 v3 : Value} {l1 : Nat} {st : List Value} {im : IM} {rm : RM}  : ev 112 65 [.ref l1, v1, v2, v3] st im rm = ev 112 66 [.ref l1, v1, v2, v3] (.ref l1 :: st) (im) (rm) := ev_aload_n pm_m112 d112_65 rfl rfl
theorem d112_66 : decode prog_10_method_10_code 66 = .ok (.getfield 37, 3) := by decide +kernel
theorem s112_66 {v0 v1 v2 v3 : Value} {a : Nat} {st : List Value} {im : IM} {rm : RM} (hk : kd a = 18) : ev 112 66 [v0, v1, v2, v3] (.ref a :: st) im rm = ev 112 69 [v0, v1, v2, v3] (pm_ro (rm a 9) :: st) (im) (rm) := ev_getR pm_m112 d112_66 f8_37 rfl hk rfl
theorem d112_69 : decode prog_10_method_10_code 69 = .ok (.iload_n 1, 1) := by decide +kernel
theorem s112_69 {v0 v2 v3 : Value} {l1 : Int32} {st : List Value} {im : IM} {rm : RM}  : ev 112 69 [v0, .int l1, v2, v3] st im rm = ev 112 70 [v0, .int l1, v2, v3] (.int l1 :: st) (im) (rm) := ev_iload_n pm_m112 d112_69 rfl rfl
theorem d112_70 : decode prog_10_method_10_code 70 = .ok (.iaload, 1) := by decide +kernel
theorem s112_70 {v0 v1 v2 v3 : Value} {a : Nat} {i : Int32} {st : List Value} {im : IM} {rm : RM} (hk : kd a = 0) (hi : pm_in i (ln a) = true) : ev 112 70 [v0, v1, v2, v3] (.int i :: .ref a :: st) im rm = ev 112 71 [v0, v1, v2, v3] (.int (im a i.toNatClampNeg) :: st) (im) (rm) := ev_iald pm_m112 d112_70 hk hi rfl
theorem d112_71 : decode prog_10_method_10_code 71 = .ok (.istore_n 3, 1) := by decide +kernel
theorem s112_71 {v0 v1 v3 : Value} {l1 : Int32} {x2 : Int32} {st : List Value} {im : IM} {rm : RM}  : ev 112 71 [v0, v1, .int l1, v3] (.int x2 :: st) im rm = ev 112 72 [v0, v1, .int l1, .int x2] st (im) (rm) := ev_istore_n pm_m112 d112_71 (Nat.le_of_ble_eq_true rfl) rfl rfl
theorem d112_72 : decode prog_10_method_10_code 72 = .ok (.aload_n 0, 1) := by decide +kernel
theorem s112_72 {v1 v2 v3 : Value} {l1 : Nat} {st : List Value} {im : IM} {rm : RM}  : ev 112 72 [.ref l1, v1, v2, v3] st im rm = ev 112 73 [.ref l1, v1, v2, v3] (.ref l1 :: st) (im) (rm) := ev_aload_n pm_m112 d112_72 rfl rfl
theorem d112_73 : decode prog_10_method_10_code 73 = .ok (.getfield 37, 3) := by decide +kernel
theorem s112_73 {v0 v1 v2 v3 : Value} {a : Nat} {st : List Value} {im : IM} {rm : RM} (hk : kd a = 18) : ev 112 73 [v0, v1, v2, v3] (.ref a :: st) im rm = ev 112 76 [v0, v1, v2, v3] (pm_ro (rm a 9) :: st) (im) (rm) := ev_getR pm_m112 d112_73 f8_37 rfl hk rfl
theorem d112_76 : decode prog_10_method_10_code 76 = .ok (.iload_n 1, 1) := by decide +kernel
theorem s112_76 {v0 v2 v3 : Value} {l1 : Int32} {st : List Value} {im : IM} {rm : RM}  : ev 112 76 [v0, .int l1, v2, v3] st im rm = ev 112 77 [v0, .int l1, v2, v3] (.int l1 :: st) (im) (rm) := ev_iload_n pm_m112 d112_76 rfl rfl
theorem d112_77 : decode prog_10_method_10_code 77 = .ok (.iload_n 2, 1) := by decide +kernel
theorem s112_77 {v0 v1 v3 : Value} {l1 : Int32} {st : List Value} {im : IM} {rm : RM}  : ev 112 77 [v0, v1, .int l1, v3] st im rm = ev 112 78 [v0, v1, .int l1, v3] (.int l1 :: st) (im) (rm) := ev_iload_n pm_m112 d112_77 rfl rfl
theorem d112_78 : decode prog_10_method_10_code 78 = .ok (.iastore, 1) := by decide +kernel
theorem s112_78 {v0 v1 v2 v3 : Value} {a : Nat} {i : Int32} {v : Int32} {st : List Value} {im : IM} {rm : RM} (hk : kd a = 0) (hi : pm_in i (ln a) = true) : ev 112 78 [v0, v1, v2, v3] (.int v :: .int i :: .ref a :: st) im rm = ev 112 79 [v0, v1, v2, v3] st (pm_w2 im a i.toNatClampNeg v) (rm) := ev_iast pm_m112 d112_78 hk hi rfl
theorem d112_79 : decode prog_10_method_10_code 79 = .ok (.iload_n 3, 1) := by decide +kernel
theorem s112_79 {v0 v1 v2 : Value} {l1 : Int32} {st : List Value} {im : IM} {rm : RM}  : ev 112 79 [v0, v1, v2, .int l1] st im rm = ev 112 80 [v0, v1, v2, .int l1] (.int l1 :: st) (im) (rm) := ev_iload_n pm_m112 d112_79 rfl rfl
theorem d112_80 : decode prog_10_method_10_code 80 = .ok (.ireturn, 1) := by decide +kernel
theorem s112_80 {v0 v1 v2 v3 : Value} {x : Int32} {im : IM} {rm : RM} : ev 112 80 [v0, v1, v2, v3] [.int x] im rm = some (some (.int x), im, rm) := ev_ireturn pm_m112 d112_80 rfl
theorem d113_0 : decode prog_10_method_11_code 0 = .ok (.aload_n 0, 1) := by decide +kernel
theorem s113_0 {v1 v2 v3 : Value} {l1 : Nat} {st : List Value} {im : IM} {rm : RM}  : ev 113 0 [.ref l1, v1, v2, v3] st im rm = ev 113 1 [.ref l1, v1, v2, v3] (.ref l1 :: st) (im) (rm) := ev_aload_n pm_m113 d113_0 rfl rfl
theorem d113_1 : decode prog_10_method_11_code 1 = .ok (.getfield 25, 3) := by decide +kernel
theorem s113_1 {v0 v1 v2 v3 : Value} {a : Nat} {st : List Value} {im : IM} {rm : RM} (hk : kd a = 18) : ev 113 1 [v0, v1, v2, v3] (.ref a :: st) im rm = ev 113 4 [v0, v1, v2, v3] (pm_ro (rm a 5) :: st) (im) (rm) := ev_getR pm_m113 d113_1 f8_25 rfl hk rfl
theorem d113_4 : decode prog_10_method_11_code 4 = .ok (.bipush 40, 2) := by decide +kernel
theorem s113_4 {v0 v1 v2 v3 : Value}  {st : List Value} {im : IM} {rm : RM}  : ev 113 4 [v0, v1, v2, v3] st im rm = ev 113 6 [v0, v1, v2, v3] (.int (nI 40) :: st) (im) (rm) := ev_bipush pm_m113 d113_4 rfl rfl
theorem d113_6 : decode prog_10_method_11_code 6 = .ok (.iload_n 1, 1) := by decide +kernel
theorem s113_6 {v0 v2 v3 : Value} {l1 : Int32} {st : List Value} {im : IM} {rm : RM}  : ev 113 6 [v0, .int l1, v2, v3] st im rm = ev 113 7 [v0, .int l1, v2, v3] (.int l1 :: st) (im) (rm) := ev_iload_n pm_m113 d113_6 rfl rfl
theorem d113_7 : decode prog_10_method_11_code 7 = .ok (.imul, 1) := by decide +kernel
theorem s113_7 {v0 v1 v2 v3 : Value} {x : Int32} {y : Int32} {st : List Value} {im : IM} {rm : RM}  : ev 113 7 [v0, v1, v2, v3] (.int y :: .int x :: st) im rm = ev 113 8 [v0, v1, v2, v3] (.int (x * y) :: st) (im) (rm) := ev_imul pm_m113 d113_7 rfl
theorem d113_8 : decode prog_10_method_11_code 8 = .ok (.iload_n 2, 1) := by decide +kernel
theorem s113_8 {v0 v1 v3 : Value} {l1 : Int32} {st : List Value} {im : IM} {rm : RM}  : ev 113 8 [v0, v1, .int l1, v3] st im rm = ev 113 9 [v0, v1, .int l1, v3] (.int l1 :: st) (im) (rm) := ev_iload_n pm_m113 d113_8 rfl rfl
theorem d113_9 : decode prog_10_method_11_code 9 = .ok (.iadd, 1) := by decide +kernel
theorem s113_9 {v0 v1 v2 v3 : Value} {x : Int32} {y : Int32} {st : List Value} {im : IM} {rm : RM}  : ev 113 9 [v0, v1, v2, v3] (.int y :: .int x :: st) im rm = ev 113 10 [v0, v1, v2, v3] (.int (x + y) :: st) (im) (rm) := ev_iadd pm_m113 d113_9 rfl
theorem d113_10 : decode prog_10_method_11_code 10 = .ok (.iaload, 1) := by decide +kernel
theorem s113_10 {v0 v1 v2 v3 : Value} {a : Nat} {i : Int32} {st : List Value} {im : IM} {rm : RM} (hk : kd a = 0) (hi : pm_in i (ln a) = true) : ev 113 10 [v0, v1, v2, v3] (.int i :: .ref a :: st) im rm = ev 113 11 [v0, v1, v2, v3] (.int (im a i.toNatClampNeg) :: st) (im) (rm) := ev_iald pm_m113 d113_10 hk hi rfl
theorem d113_11 : decode prog_10_method_11_code 11 = .ok (.istore_n 3, 1) := by decide +kernel
theorem s113_11 {v0 v1 v3 : Value} {l1 : Int32} {x2 : Int32} {st : List Value} {im : IM} {rm : RM}  : ev 113 11 [v0, v1, .int l1, v3] (.int x2 :: st) im rm = ev 113 12 [v0, v1, .int l1, .int x2] st (im) (rm) := ev_istore_n pm_m113 d113_11 (Nat.le_of_ble_eq_true rfl) rfl rfl
theorem d113_12 : decode prog_10_method_11_code 12 = .ok (.iload_n 3, 1) := by decide +kernel
theorem s113_12 {v0 v1 v2 : Value} {l1 : Int32} {st : List Value} {im : IM} {rm : RM}  : ev 113 12 [v0, v1, v2, .int l1] st im rm = ev 113 13 [v0, v1, v2, .int l1] (.int l1 :: st) (im) (rm) := ev_iload_n pm_m113 d113_12 rfl rfl
theorem d113_13 : decode prog_10_method_11_code 13 = .ok (.ifCond .ge 8, 3) := by decide +kernel
theorem s113_13 {v0 v1 v2 v3 : Value} {x : Int32} {st : List Value} {im : IM} {rm : RM} : ev 113 13 [v0, v1, v2, v3] (.int x :: st) im rm = if nI 0 ≤ x then ev 113 21 [pm_u, pm_u, pm_u, v3] st im rm else ev 113 16 [v0, v1, v2, v3] st im rm := ev_if_ge (y := 0) pm_m113 d113_13 rfl rfl rfl
theorem d113_16 : decode prog_10_method_11_code 16 = .ok (.iload_n 3, 1) := by decide +kernel
theorem s113_16 {v0 v1 v2 : Value} {l1 : Int32} {st : List Value} {im : IM} {rm : RM}  : ev 113 16 [v0, v1, v2, .int l1] st im rm = ev 113 17 [v0, v1, v2, .int l1] (.int l1 :: st) (im) (rm) := ev_iload_n pm_m113 d113_16 rfl rfl
theorem d113_17 : decode prog_10_method_11_code 17 = .ok (.ineg, 1) := by decide +kernel
theorem s113_17 {v0 v1 v2 v3 : Value} {x : Int32} {st : List Value} {im : IM} {rm : RM}  : ev 113 17 [v0, v1, v2, v3] (.int x :: st) im rm = ev 113 18 [v0, v1, v2, v3] (.int (-x) :: st) (im) (rm) := ev_ineg pm_m113 d113_17 rfl
theorem d113_18 : decode prog_10_method_11_code 18 = .ok (.goto 4, 3) := by decide +kernel
theorem s113_18 {v0 v1 v2 v3 : Value}  {st : List Value} {im : IM} {rm : RM}  : ev 113 18 [v0, v1, v2, v3] st im rm = ev 113 22 [pm_u, pm_u, pm_u, pm_u] st (im) (rm) := ev_goto pm_m113 d113_18 rfl rfl
theorem d113_21 : decode prog_10_method_11_code 21 = .ok (.iload_n 3, 1) := by decide +kernel
theorem s113_21 {v0 v1 v2 : Value} {l1 : Int32} {st : List Value} {im : IM} {rm : RM}  : ev 113 21 [v0, v1, v2, .int l1] st im rm = ev 113 22 [pm_u, pm_u, pm_u, pm_u] (.int l1 :: st) (im) (rm) := ev_iload_n pm_m113 d113_21 rfl rfl
theorem d113_22 : decode prog_10_method_11_code 22 = .ok (.ireturn, 1) := by decide +kernel
theorem s113_22 {v0 v1 v2 v3 : Value} {x : Int32} {im : IM} {rm : RM} : ev 113 22 [v0, v1, v2, v3] [.int x] im rm = some (some (.int x), im, rm) := ev_ireturn pm_m113 d113_22 rfl
theorem d114_0 : decode prog_10_method_12_code 0 = .ok (.iconst 0, 1) := by decide +kernel
theorem s114_0 {v0 v1 v2 v3 v4 : Value}  {st : List Value} {im : IM} {rm : RM}  : ev 114 0 [v0, v1, v2, v3, v4] st im rm = ev 114 1 [v0, v1, v2, v3, v4] (.int (nI 0) :: st) (im) (rm) := ev_iconst pm_m114 d114_0 rfl rfl
theorem d114_1 : decode prog_10_method_12_code 1 = .ok (.istore_n 3, 1) := by decide +kernel
theorem s114_1 {v0 v1 v3 v4 : Value} {l1 : Int32} {x2 : Int32} {st : List Value} {im : IM} {rm : RM}  : ev 114 1 [v0, v1, .int l1, v3, v4] (.int x2 :: st) im rm = ev 114 2 [v0, v1, .int l1, .int x2, v4] st (im) (rm) := ev_istore_n pm_m114 d114_1 (Nat.le_of_ble_eq_true rfl) rfl rfl
theorem d114_2 : decode prog_10_method_12_code 2 = .ok (.iconst 0, 1) := by decide +kernel
theorem s114_2 {v0 v1 v2 v3 v4 : Value}  {st : List Value} {im : IM} {rm : RM}  : ev 114 2 [v0, v1, v2, v3, v4] st im rm = ev 114 3 [v0, v1, v2, v3, v4] (.int (nI 0) :: st) (im) (rm) := ev_iconst pm_m114 d114_2 rfl rfl
theorem d114_3 : decode prog_10_method_12_code 3 = .ok (.istore 4, 2) := by decide +kernel
theorem s114_3 {v0 v1 v2 v4 : Value} {l1 : Int32} {x2 : Int32} {st : List Value} {im : IM} {rm : RM}  : ev 114 3 [v0, v1, v2, .int l1, v4] (.int x2 :: st) im rm = ev 114 5 [v0, v1, v2, .int l1, .int x2] st (im) (rm) := ev_istore pm_m114 d114_3 (Nat.le_of_ble_eq_true rfl) rfl rfl
theorem d114_5 : decode prog_10_method_12_code 5 = .ok (.iload 4, 2) := by decide +kernel
theorem s114_5 {v0 v1 v2 v3 : Value} {l1 : Int32} {st : List Value} {im : IM} {rm : RM}  : ev 114 5 [v0, v1, v2, v3, .int l1] st im rm = ev 114 7 [v0, v1, v2, v3, .int l1] (.int l1 :: st) (im) (rm) := ev_iload pm_m114 d114_5 rfl rfl
theorem d114_7 : decode prog_10_method_12_code 7 = .ok (.iload_n 2, 1) := by decide +kernel
theorem s114_7 {v0 v1 v3 v4 : Value} {l1 : Int32} {st : List Value} {im : IM} {rm : RM}  : ev 114 7 [v0, v1, .int l1, v3, v4] st im rm = ev 114 8 [v0, v1, .int l1, v3, v4] (.int l1 :: st) (im) (rm) := ev_iload_n pm_m114 d114_7 rfl rfl
theorem d114_8 : decode prog_10_method_12_code 8 = .ok (.if_icmp .ge 43, 3) := by decide +kernel
theorem s114_8 {v0 v1 v2 v3 v4 : Value} {x : Int32} {y : Int32} {st : List Value} {im : IM} {rm : RM} : ev 114 8 [v0, v1, v2, v3, v4] (.int y :: .int x :: st) im rm = if y ≤ x then ev 114 51 [pm_u, pm_u, pm_u, v3, pm_u] st im rm else ev 114 11 [v0, v1, v2, v3, v4] st im rm := ev_icmp_ge pm_m114 d114_8 rfl rfl rfl
theorem d114_11 : decode prog_10_method_12_code 11 = .ok (.iload_n 3, 1) := by decide +kernel
theorem s114_11 {v0 v1 v2 v4 : Value} {l1 : Int32} {st : List Value} {im : IM} {rm : RM}  : ev 114 11 [v0, v1, v2, .int l1, v4] st im rm = ev 114 12 [v0, v1, v2, .int l1, v4] (.int l1 :: st) (im) (rm) := ev_iload_n pm_m114 d114_11 rfl rfl
theorem d114_12 : decode prog_10_method_12_code 12 = .ok (.aload_n 0, 1) := by decide +kernel
theorem s114_12 {v1 v2 v3 v4 : Value} {l1 : Nat} {st : List Value} {im : IM} {rm : RM}  : ev 114 12 [.ref l1, v1, v2, v3, v4] st im rm = ev 114 13 [.ref l1, v1, v2, v3, v4] (.ref l1 :: st) (im) (rm) := ev_aload_n pm_m114 d114_12 rfl rfl
theorem d114_13 : decode prog_10_method_12_code 13 = .ok (.getfield 22, 3) := by decide +kernel
theorem s114_13 {v0 v1 v2 v3 v4 : Value} {a : Nat} {st : List Value} {im : IM} {rm : RM} (hk : kd a = 18) : ev 114 13 [v0, v1, v2, v3, v4] (.ref a :: st) im rm = ev 114 16 [v0, v1, v2, v3, v4] (pm_ro (rm a 4) :: st) (im) (rm) := ev_getR pm_m114 d114_13 f8_22 rfl hk rfl
theorem d114_16 : decode prog_10_method_12_code 16 = .ok (.bipush 40, 2) := by decide +kernel
theorem s114_16 {v0 v1 v2 v3 v4 : Value}  {st : List Value} {im : IM} {rm : RM}  : ev 114 16 [v0, v1, v2, v3, v4] st im rm = ev 114 18 [v0, v1, v2, v3, v4] (.int (nI 40) :: st) (im) (rm) := ev_bipush pm_m114 d114_16 rfl rfl
theorem d114_18 : decode prog_10_method_12_code 18 = .ok (.iload_n 1, 1) := by decide +kernel
theorem s114_18 {v0 v2 v3 v4 : Value} {l1 : Int32} {st : List Value} {im : IM} {rm : RM}  : ev 114 18 [v0, .int l1, v2, v3, v4] st im rm = ev 114 19 [v0, .int l1, v2, v3, v4] (.int l1 :: st) (im) (rm) := ev_iload_n pm_m114 d114_18 rfl rfl
theorem d114_19 : decode prog_10_method_12_code 19 = .ok (.imul, 1) := by decide +kernel
theorem s114_19 {v0 v1 v2 v3 v4 : Value} {x : Int32} {y : Int32} {st : List Value} {im : IM} {rm : RM}  : ev 114 19 [v0, v1, v2, v3, v4] (.int y :: .int x :: st) im rm = ev 114 20 [v0, v1, v2, v3, v4] (.int (x * y) :: st) (im) (rm) := ev_imul pm_m114 d114_19 rfl
theorem d114_20 : decode prog_10_method_12_code 20 = .ok (.iload 4, 2) := by decide +kernel
theorem s114_20 {v0 v1 v2 v3 : Value} {l1 : Int32} {st : List Value} {im : IM} {rm : RM}  : ev 114 20 [v0, v1, v2, v3, .int l1] st im rm = ev 114 22 [v0, v1, v2, v3, .int l1] (.int l1 :: st) (im) (rm) := ev_iload pm_m114 d114_20 rfl rfl
theorem d114_22 : decode prog_10_method_12_code 22 = .ok (.iadd, 1) := by decide +kernel
theorem s114_22 {v0 v1 v2 v3 v4 : Value} {x : Int32} {y : Int32} {st : List Value} {im : IM} {rm : RM}  : ev 114 22 [v0, v1, v2, v3, v4] (.int y :: .int x :: st) im rm = ev 114 23 [v0, v1, v2, v3, v4] (.int (x + y) :: st) (im) (rm) := ev_iadd pm_m114 d114_22 rfl
theorem d114_23 : decode prog_10_method_12_code 23 = .ok (.iaload, 1) := by decide +kernel
theorem s114_23 {v0 v1 v2 v3 v4 : Value} {a : Nat} {i : Int32} {st : List Value} {im : IM} {rm : RM} (hk : kd a = 0) (hi : pm_in i (ln a) = true) : ev 114 23 [v0, v1, v2, v3, v4] (.int i :: .ref a :: st) im rm = ev 114 24 [v0, v1, v2, v3, v4] (.int (im a i.toNatClampNeg) :: st) (im) (rm) := ev_iald pm_m114 d114_23 hk hi rfl
theorem d114_24 : decode prog_10_method_12_code 24 = .ok (.bipush 8, 2) := by decide +kernel
theorem s114_24 {v0 v1 v2 v3 v4 : Value}  {st : List Value} {im : IM} {rm : RM}  : ev 114 24 [v0, v1, v2, v3, v4] st im rm = ev 114 26 [v0, v1, v2, v3, v4] (.int (nI 8) :: st) (im) (rm) := ev_bipush pm_m114 d114_24 rfl rfl
theorem d114_26 : decode prog_10_method_12_code 26 = .ok (.idiv, 1) := by decide +kernel
theorem s114_26 {v0 v1 v2 v3 v4 : Value} {x : Int32} {y : Int32} {st : List Value} {im : IM} {rm : RM} (h0 : ¬ y = 0) : ev 114 26 [v0, v1, v2, v3, v4] (.int y :: .int x :: st) im rm = ev 114 27 [v0, v1, v2, v3, v4] (.int (x / y) :: st) (im) (rm) := ev_idiv pm_m114 d114_26 h0 rfl
theorem d114_27 : decode prog_10_method_12_code 27 = .ok (.iadd, 1) := by decide +kernel
theorem s114_27 {v0 v1 v2 v3 v4 : Value} {x : Int32} {y : Int32} {st : List Value} {im : IM} {rm : RM}  : ev 114 27 [v0, v1, v2, v3, v4] (.int y :: .int x :: st) im rm = ev 114 28 [v0, v1, v2, v3, v4] (.int (x + y) :: st) (im) (rm) := ev_iadd pm_m114 d114_27 rfl
theorem d114_28 : decode prog_10_method_12_code 28 = .ok (.istore_n 3, 1) := by decide +kernel
theorem s114_28 {v0 v1 v3 v4 : Value} {l1 : Int32} {x2 : Int32} {st : List Value} {im : IM} {rm : RM}  : ev 114 28 [v0, v1, .int l1, v3, v4] (.int x2 :: st) im rm = ev 114 29 [v0, v1, .int l1, .int x2, v4] st (im) (rm) := ev_istore_n pm_m114 d114_28 (Nat.le_of_ble_eq_true rfl) rfl rfl
theorem d114_29 : decode prog_10_method_12_code 29 = .ok (.iload_n 3, 1) := by decide +kernel
theorem s114_29 {v0 v1 v2 v4 : Value} {l1 : Int32} {st : List Value} {im : IM} {rm : RM}  : ev 114 29 [v0, v1, v2, .int l1, v4] st im rm = ev 114 30 [v0, v1, v2, .int l1, v4] (.int l1 :: st) (im) (rm) := ev_iload_n pm_m114 d114_29 rfl rfl
theorem d114_30 : decode prog_10_method_12_code 30 = .ok (.aload_n 0, 1) := by decide +kernel
theorem s114_30 {v1 v2 v3 v4 : Value} {l1 : Nat} {st : List Value} {im : IM} {rm : RM}  : ev 114 30 [.ref l1, v1, v2, v3, v4] st im rm = ev 114 31 [.ref l1, v1, v2, v3, v4] (.ref l1 :: st) (im) (rm) := ev_aload_n pm_m114 d114_30 rfl rfl
theorem d114_31 : decode prog_10_method_12_code 31 = .ok (.getfield 37, 3) := by decide +kernel
theorem s114_31 {v0 v1 v2 v3 v4 : Value} {a : Nat} {st : List Value} {im : IM} {rm : RM} (hk : kd a = 18) : ev 114 31 [v0, v1, v2, v3, v4] (.ref a :: st) im rm = ev 114 34 [v0, v1, v2, v3, v4] (pm_ro (rm a 9) :: st) (im) (rm) := ev_getR pm_m114 d114_31 f8_37 rfl hk rfl
theorem d114_34 : decode prog_10_method_12_code 34 = .ok (.iconst 1, 1) := by decide +kernel
theorem s114_34 {v0 v1 v2 v3 v4 : Value}  {st : List Value} {im : IM} {rm : RM}  : ev 114 34 [v0, v1, v2, v3, v4] st im rm = ev 114 35 [v0, v1, v2, v3, v4] (.int (nI 1) :: st) (im) (rm) := ev_iconst pm_m114 d114_34 rfl rfl
theorem d114_35 : decode prog_10_method_12_code 35 = .ok (.iaload, 1) := by decide +kernel
theorem s114_35 {v0 v1 v2 v3 v4 : Value} {a : Nat} {i : Int32} {st : List Value} {im : IM} {rm : RM} (hk : kd a = 0) (hi : pm_in i (ln a) = true) : ev 114 35 [v0, v1, v2, v3, v4] (.int i :: .ref a :: st) im rm = ev 114 36 [v0, v1, v2, v3, v4] (.int (im a i.toNatClampNeg) :: st) (im) (rm) := ev_iald pm_m114 d114_35 hk hi rfl
theorem d114_36 : decode prog_10_method_12_code 36 = .ok (.if_icmp .le 7, 3) := by decide +kernel
theorem s114_36 {v0 v1 v2 v3 v4 : Value} {x : Int32} {y : Int32} {st : List Value} {im : IM} {rm : RM} : ev 114 36 [v0, v1, v2, v3, v4] (.int y :: .int x :: st) im rm = if x ≤ y then ev 114 43 [v0, v1, v2, v3, v4] st im rm else ev 114 39 [v0, v1, v2, v3, v4] st im rm := ev_icmp_le pm_m114 d114_36 rfl rfl rfl
theorem d114_39 : decode prog_10_method_12_code 39 = .ok (.iconst 0, 1) := by decide +kernel
theorem s114_39 {v0 v1 v2 v3 v4 : Value}  {st : List Value} {im : IM} {rm : RM}  : ev 114 39 [v0, v1, v2, v3, v4] st im rm = ev 114 40 [v0, v1, v2, v3, v4] (.int (nI 0) :: st) (im) (rm) := ev_iconst pm_m114 d114_39 rfl rfl
theorem d114_40 : decode prog_10_method_12_code 40 = .ok (.goto 4, 3) := by decide +kernel
theorem s114_40 {v0 v1 v2 v3 v4 : Value}  {st : List Value} {im : IM} {rm : RM}  : ev 114 40 [v0, v1, v2, v3, v4] st im rm = ev 114 44 [v0, v1, v2, pm_u, v4] st (im) (rm) := ev_goto pm_m114 d114_40 rfl rfl
theorem d114_43 : decode prog_10_method_12_code 43 = .ok (.iload_n 3, 1) := by decide +kernel
theorem s114_43 {v0 v1 v2 v4 : Value} {l1 : Int32} {st : List Value} {im : IM} {rm : RM}  : ev 114 43 [v0, v1, v2, .int l1, v4] st im rm = ev 114 44 [v0, v1, v2, pm_u, v4] (.int l1 :: st) (im) (rm) := ev_iload_n pm_m114 d114_43 rfl rfl
theorem d114_44 : decode prog_10_method_12_code 44 = .ok (.istore_n 3, 1) := by decide +kernel
theorem s114_44 {v0 v1 v3 v4 : Value} {l1 : Int32} {x2 : Int32} {st : List Value} {im : IM} {rm : RM}  : ev 114 44 [v0, v1, .int l1, v3, v4] (.int x2 :: st) im rm = ev 114 45 [v0, v1, .int l1, .int x2, v4] st (im) (rm) := ev_istore_n pm_m114 d114_44 (Nat.le_of_ble_eq_true rfl) rfl rfl
theorem d114_45 : decode prog_10_method_12_code 45 = .ok (.iinc 4 1, 3) := by decide +kernel
theorem s114_45 {v0 v1 v2 : Value} {l1 : Int32} {l2 : Int32} {st : List Value} {im : IM} {rm : RM}  : ev 114 45 [v0, v1, v2, .int l1, .int l2] st im rm = ev 114 48 [v0, v1, v2, .int l1, .int (l2 + nI 1)] st (im) (rm) := ev_iinc pm_m114 d114_45 rfl rfl rfl rfl
theorem d114_48 : decode prog_10_method_12_code 48 = .ok (.goto (-43), 3) := by decide +kernel
theorem s114_48 {v0 v1 v2 v3 v4 : Value}  {st : List Value} {im : IM} {rm : RM}  : ev 114 48 [v0, v1, v2, v3, v4] st im rm = ev 114 5 [v0, v1, v2, v3, v4] st (im) (rm) := ev_goto pm_m114 d114_48 rfl rfl
theorem d114_51 : decode prog_10_method_12_code 51 = .ok (.iload_n 3, 1) := by decide +kernel
theorem s114_51 {v0 v1 v2 v4 : Value} {l1 : Int32} {st : List Value} {im : IM} {rm : RM}  : ev 114 51 [v0, v1, v2, .int l1, v4] st im rm = ev 114 52 [v0, v1, v2, .int l1, v4] (.int l1 :: st) (im) (rm) := ev_iload_n pm_m114 d114_51 rfl rfl
theorem d114_52 : decode prog_10_method_12_code 52 = .ok (.ireturn, 1) := by decide +kernel
theorem s114_52 {v0 v1 v2 v3 v4 : Value} {x : Int32} {im : IM} {rm : RM} : ev 114 52 [v0, v1, v2, v3, v4] [.int x] im rm = some (some (.int x), im, rm) := ev_ireturn pm_m114 d114_52 rfl
theorem d115_0 : decode prog_10_method_13_code 0 = .ok (.bipush 40, 2) := by decide +kernel
theorem s115_0 {v0 v1 v2 v3 v4 v5 v6 : Value}  {st : List Value} {im : IM} {rm : RM}  : ev 115 0 [v0, v1, v2, v3, v4, v5, v6] st im rm = ev 115 2 [v0, v1, v2, v3, v4, v5, v6] (.int (nI 40) :: st) (im) (rm) := ev_bipush pm_m115 d115_0 rfl rfl
theorem d115_2 : decode prog_10_method_13_code 2 = .ok (.iload_n 1, 1) := by decide +kernel
theorem s115_2 {v0 v2 v3 v4 v5 v6 : Value} {l1 : Int32} {st : List Value} {im : IM} {rm : RM}  : ev 115 2 [v0, .int l1, v2, v3, v4, v5, v6] st im rm = ev 115 3 [v0, .int l1, v2, v3, v4, v5, v6] (.int l1 :: st) (im) (rm) := ev_iload_n pm_m115 d115_2 rfl rfl
theorem d115_3 : decode prog_10_method_13_code 3 = .ok (.imul, 1) := by decide +kernel
theorem s115_3 {v0 v1 v2 v3 v4 v5 v6 : Value} {x : Int32} {y : Int32} {st : List Value} {im : IM} {rm : RM}  : ev 115 3 [v0, v1, v2, v3, v4, v5, v6] (.int y :: .int x :: st) im rm = ev 115 4 [v0, v1, v2, v3, v4, v5, v6] (.int (x * y) :: st) (im) (rm) := ev_imul pm_m115 d115_3 rfl
theorem d115_4 : decode prog_10_method_13_code 4 = .ok (.iload_n 2, 1) := by decide +kernel
theorem s115_4 {v0 v1 v3 v4 v5 v6 : Value} {l1 : Int32} {st : List Value} {im : IM} {rm : RM}  : ev 115 4 [v0, v1, .int l1, v3, v4, v5, v6] st im rm = ev 115 5 [v0, v1, .int l1, v3, v4, v5, v6] (.int l1 :: st) (im) (rm) := ev_iload_n pm_m115 d115_4 rfl rfl
theorem d115_5 : decode prog_10_method_13_code 5 = .ok (.iadd, 1) := by decide +kernel
theorem s115_5 {v0 v1 v2 v3 v4 v5 v6 : Value} {x : Int32} {y : Int32} {st : List Value} {im : IM} {rm : RM}  : ev 115 5 [v0, v1, v2, v3, v4, v5, v6] (.int y :: .int x :: st) im rm = ev 115 6 [v0, v1, v2, v3, v4, v5, v6] (.int (x + y) :: st) (im) (rm) := ev_iadd pm_m115 d115_5 rfl
theorem d115_6 : decode prog_10_method_13_code 6 = .ok (.istore 4, 2) := by decide +kernel
theorem s115_6 {v0 v1 v2 v4 v5 v6 : Value} {l1 : Int32} {x2 : Int32} {st : List Value} {im : IM} {rm : RM}  : ev 115 6 [v0, v1, v2, .int l1, v4, v5, v6] (.int x2 :: st) im rm = ev 115 8 [v0, v1, v2, .int l1, .int x2, v5, v6] st (im) (rm) := ev_istore pm_m115 d115_6 (Nat.le_of_ble_eq_true rfl) rfl rfl
theorem d115_8 : decode prog_10_method_13_code 8 = .ok (.iconst 0, 1) := by decide +kernel
theorem s115_8 {v0 v1 v2 v3 v4 v5 v6 : Value}  {st : List Value} {im : IM} {rm : RM}  : ev 115 8 [v0, v1, v2, v3, v4, v5, v6] st im rm = ev 115 9 [v0, v1, v2, v3, v4, v5, v6] (.int (nI 0) :: st) (im) (rm) := ev_iconst pm_m115 d115_8 rfl rfl
theorem d115_9 : decode prog_10_method_13_code 9 = .ok (.istore 5, 2) := by decide +kernel
theorem s115_9 {v0 v1 v2 v3 v5 v6 : Value} {l1 : Int32} {x2 : Int32} {st : List Value} {im : IM} {rm : RM}  : ev 115 9 [v0, v1, v2, v3, .int l1, v5, v6] (.int x2 :: st) im rm = ev 115 11 [v0, v1, v2, v3, .int l1, .int x2, v6] st (im) (rm) := ev_istore pm_m115 d115_9 (Nat.le_of_ble_eq_true rfl) rfl rfl
theorem d115_11 : decode prog_10_method_13_code 11 = .ok (.iload_n 3, 1) := by decide +kernel
theorem s115_11 {v0 v1 v2 v4 v5 v6 : Value} {l1 : Int32} {st : List Value} {im : IM} {rm : RM}  : ev 115 11 [v0, v1, v2, .int l1, v4, v5, v6] st im rm = ev 115 12 [v0, v1, v2, .int l1, v4, v5, v6] (.int l1 :: st) (im) (rm) := ev_iload_n pm_m115 d115_11 rfl rfl
theorem d115_12 : decode prog_10_method_13_code 12 = .ok (.tableswitch 115 0 6 #[44, 46, 53, 83, 91, 99, 107], 44) := by decide +kernel
theorem s115_12_0 {v0 v1 v2 v3 v4 v5 v6 : Value}  {st : List Value} {im : IM} {rm : RM}  : ev 115 12 [v0, v1, v2, v3, v4, v5, v6] (.int (nI 0) :: st) im rm = ev 115 56 [pm_u, pm_u, v2, pm_u, pm_u, pm_u, pm_u] st (im) (rm) := ev_swI pm_m115 d115_12 (by decide) rfl rfl rfl
theorem s115_12_1 {v0 v1 v2 v3 v4 v5 v6 : Value}  {st : List Value} {im : IM} {rm : RM}  : ev 115 12 [v0, v1, v2, v3, v4, v5, v6] (.int (nI 1) :: st) im rm = ev 115 58 [v0, v1, v2, pm_u, pm_u, pm_u, pm_u] st (im) (rm) := ev_swI pm_m115 d115_12 (by decide) rfl rfl rfl
theorem s115_12_2 {v0 v1 v2 v3 v4 v5 v6 : Value}  {st : List Value} {im : IM} {rm : RM}  : ev 115 12 [v0, v1, v2, v3, v4, v5, v6] (.int (nI 2) :: st) im rm = ev 115 65 [v0, v1, v2, pm_u, pm_u, v5, pm_u] st (im) (rm) := ev_swI pm_m115 d115_12 (by decide) rfl rfl rfl
theorem s115_12_3 {v0 v1 v2 v3 v4 v5 v6 : Value}  {st : List Value} {im : IM} {rm : RM}  : ev 115 12 [v0, v1, v2, v3, v4, v5, v6] (.int (nI 3) :: st) im rm = ev 115 95 [v0, pm_u, pm_u, pm_u, v4, pm_u, pm_u] st (im) (rm) := ev_swI pm_m115 d115_12 (by decide) rfl rfl rfl
theorem s115_12_4 {v0 v1 v2 v3 v4 v5 v6 : Value}  {st : List Value} {im : IM} {rm : RM}  : ev 115 12 [v0, v1, v2, v3, v4, v5, v6] (.int (nI 4) :: st) im rm = ev 115 103 [v0, pm_u, pm_u, pm_u, v4, pm_u, pm_u] st (im) (rm) := ev_swI pm_m115 d115_12 (by decide) rfl rfl rfl
theorem s115_12_5 {v0 v1 v2 v3 v4 v5 v6 : Value}  {st : List Value} {im : IM} {rm : RM}  : ev 115 12 [v0, v1, v2, v3, v4, v5, v6] (.int (nI 5) :: st) im rm = ev 115 111 [v0, pm_u, pm_u, pm_u, v4, pm_u, pm_u] st (im) (rm) := ev_swI pm_m115 d115_12 (by decide) rfl rfl rfl
theorem s115_12_6 {v0 v1 v2 v3 v4 v5 v6 : Value}  {st : List Value} {im : IM} {rm : RM}  : ev 115 12 [v0, v1, v2, v3, v4, v5, v6] (.int (nI 6) :: st) im rm = ev 115 119 [v0, pm_u, pm_u, pm_u, v4, pm_u, pm_u] st (im) (rm) := ev_swI pm_m115 d115_12 (by decide) rfl rfl rfl
theorem s115_12_o {v0 v1 v2 v3 v4 v5 v6 : Value} {x : Int32} {st : List Value} {im : IM} {rm : RM} (h1 : x.toInt < 0 ∨ 6 < x.toInt) : ev 115 12 [v0, v1, v2, v3, v4, v5, v6] (.int x :: st) im rm = ev 115 127 [v0, v1, v2, pm_u, pm_u, pm_u, pm_u] st (im) (rm) := ev_swO pm_m115 d115_12 h1 rfl rfl
theorem d115_56 : decode prog_10_method_13_code 56 = .ok (.iload_n 2, 1) := by decide +kernel
theorem s115_56 {v0 v1 v3 v4 v5 v6 : Value} {l1 : Int32} {st : List Value} {im : IM} {rm : RM}  : ev 115 56 [v0, v1, .int l1, v3, v4, v5, v6] st im rm = ev 115 57 [v0, v1, .int l1, v3, v4, v5, v6] (.int l1 :: st) (im) (rm) := ev_iload_n pm_m115 d115_56 rfl rfl
theorem d115_57 : decode prog_10_method_13_code 57 = .ok (.ireturn, 1) := by decide +kernel
theorem s115_57 {v0 v1 v2 v3 v4 v5 v6 : Value} {x : Int32} {im : IM} {rm : RM} : ev 115 57 [v0, v1, v2, v3, v4, v5, v6] [.int x] im rm = some (some (.int x), im, rm) := ev_ireturn pm_m115 d115_57 rfl
theorem d115_58 : decode prog_10_method_13_code 58 = .ok (.aload_n 0, 1) := by decide +kernel
theorem s115_58 {v1 v2 v3 v4 v5 v6 : Value} {l1 : Nat} {st : List Value} {im : IM} {rm : RM}  : ev 115 58 [.ref l1, v1, v2, v3, v4, v5, v6] st im rm = ev 115 59 [.ref l1, v1, v2, v3, v4, v5, v6] (.ref l1 :: st) (im) (rm) := ev_aload_n pm_m115 d115_58 rfl rfl
theorem d115_59 : decode prog_10_method_13_code 59 = .ok (.iload_n 1, 1) := by decide +kernel
theorem s115_59 {v0 v2 v3 v4 v5 v6 : Value} {l1 : Int32} {st : List Value} {im : IM} {rm : RM}  : ev 115 59 [v0, .int l1, v2, v3, v4, v5, v6] st im rm = ev 115 60 [v0, .int l1, v2, v3, v4, v5, v6] (.int l1 :: st) (im) (rm) := ev_iload_n pm_m115 d115_59 rfl rfl
theorem d115_60 : decode prog_10_method_13_code 60 = .ok (.iload_n 2, 1) := by decide +kernel
theorem s115_60 {v0 v1 v3 v4 v5 v6 : Value} {l1 : Int32} {st : List Value} {im : IM} {rm : RM}  : ev 115 60 [v0, v1, .int l1, v3, v4, v5, v6] st im rm = ev 115 61 [v0, v1, .int l1, v3, v4, v5, v6] (.int l1 :: st) (im) (rm) := ev_iload_n pm_m115 d115_60 rfl rfl
theorem d115_61 : decode prog_10_method_13_code 61 = .ok (.invokevirtual 155, 3) := by decide +kernel
theorem s115_61 {v0 v1 v2 v3 v4 v5 v6 : Value} {a : Nat} {p1 : Int32} {p2 : Int32} {im : IM} {rm : RM} (hk : kd a = 18) : ev 115 61 [v0, v1, v2, v3, v4, v5, v6] [.int p2, .int p1, .ref a] im rm = (ev 113 0 [.ref a, .int p1, .int p2, pm_u] [] im rm).bind (fun r => ev 115 64 [v0, v1, v2, v3, v4, v5, v6] (r.1.toList ++ []) r.2.1 r.2.2) := ev_callV pm_m115 d115_61 l8_155 rfl pm_m113 (by decide) hk rfl ⟨rfl, rfl⟩ rfl rfl
theorem d115_64 : decode prog_10_method_13_code 64 = .ok (.ireturn, 1) := by decide +kernel
theorem s115_64 {v0 v1 v2 v3 v4 v5 v6 : Value} {x : Int32} {im : IM} {rm : RM} : ev 115 64 [v0, v1, v2, v3, v4, v5, v6] [.int x] im rm = some (some (.int x), im, rm) := ev_ireturn pm_m115 d115_64 rfl
theorem d115_65 : decode prog_10_method_13_code 65 = .ok (.iconst 0, 1) := by decide +kernel
theorem s115_65 {v0 v1 v2 v3 v4 v5 v6 : Value}  {st : List Value} {im : IM} {rm : RM}  : ev 115 65 [v0, v1, v2, v3, v4, v5, v6] st im rm = ev 115 66 [v0, v1, v2, v3, v4, v5, v6] (.int (nI 0) :: st) (im) (rm) := ev_iconst pm_m115 d115_65 rfl rfl
theorem d115_66 : decode prog_10_method_13_code 66 = .ok (.istore 6, 2) := by decide +kernel
theorem s115_66 {v0 v1 v2 v3 v4 v6 : Value} {l1 : Int32} {x2 : Int32} {st : List Value} {im : IM} {rm : RM}  : ev 115 66 [v0, v1, v2, v3, v4, .int l1, v6] (.int x2 :: st) im rm = ev 115 68 [v0, v1, v2, pm_u, pm_u, .int l1, .int x2] st (im) (rm) := ev_istore pm_m115 d115_66 (Nat.le_of_ble_eq_true rfl) rfl rfl
theorem d115_68 : decode prog_10_method_13_code 68 = .ok (.iload 6, 2) := by decide +kernel
theorem s115_68 {v0 v1 v2 v3 v4 v5 : Value} {l1 : Int32} {st : List Value} {im : IM} {rm : RM}  : ev 115 68 [v0, v1, v2, v3, v4, v5, .int l1] st im rm = ev 115 70 [v0, v1, v2, v3, v4, v5, .int l1] (.int l1 :: st) (im) (rm) := ev_iload pm_m115 d115_68 rfl rfl
theorem d115_70 : decode prog_10_method_13_code 70 = .ok (.iload_n 2, 1) := by decide +kernel
theorem s115_70 {v0 v1 v3 v4 v5 v6 : Value} {l1 : Int32} {st : List Value} {im : IM} {rm : RM}  : ev 115 70 [v0, v1, .int l1, v3, v4, v5, v6] st im rm = ev 115 71 [v0, v1, .int l1, v3, v4, v5, v6] (.int l1 :: st) (im) (rm) := ev_iload_n pm_m115 d115_70 rfl rfl
theorem d115_71 : decode prog_10_method_13_code 71 = .ok (.if_icmp .gt 21, 3) := by decide +kernel
theorem s115_71 {v0 v1 v2 v3 v4 v5 v6 : Value} {x : Int32} {y : Int32} {st : List Value} {im : IM} {rm : RM} : ev 115 71 [v0, v1, v2, v3, v4, v5, v6] (.int y :: .int x :: st) im rm = if y < x then ev 115 92 [pm_u, pm_u, pm_u, pm_u, pm_u, v5, pm_u] st im rm else ev 115 74 [v0, v1, v2, v3, v4, v5, v6] st im rm := ev_icmp_gt pm_m115 d115_71 rfl rfl rfl
theorem d115_74 : decode prog_10_method_13_code 74 = .ok (.iload 5, 2) := by decide +kernel
theorem s115_74 {v0 v1 v2 v3 v4 v6 : Value} {l1 : Int32} {st : List Value} {im : IM} {rm : RM}  : ev 115 74 [v0, v1, v2, v3, v4, .int l1, v6] st im rm = ev 115 76 [v0, v1, v2, v3, v4, .int l1, v6] (.int l1 :: st) (im) (rm) := ev_iload pm_m115 d115_74 rfl rfl
theorem d115_76 : decode prog_10_method_13_code 76 = .ok (.aload_n 0, 1) := by decide +kernel
theorem s115_76 {v1 v2 v3 v4 v5 v6 : Value} {l1 : Nat} {st : List Value} {im : IM} {rm : RM}  : ev 115 76 [.ref l1, v1, v2, v3, v4, v5, v6] st im rm = ev 115 77 [.ref l1, v1, v2, v3, v4, v5, v6] (.ref l1 :: st) (im) (rm) := ev_aload_n pm_m115 d115_76 rfl rfl
theorem d115_77 : decode prog_10_method_13_code 77 = .ok (.iload_n 1, 1) := by decide +kernel
theorem s115_77 {v0 v2 v3 v4 v5 v6 : Value} {l1 : Int32} {st : List Value} {im : IM} {rm : RM}  : ev 115 77 [v0, .int l1, v2, v3, v4, v5, v6] st im rm = ev 115 78 [v0, .int l1, v2, v3, v4, v5, v6] (.int l1 :: st) (im) (rm) := ev_iload_n pm_m115 d115_77 rfl rfl
theorem d115_78 : decode prog_10_method_13_code 78 = .ok (.iload 6, 2) := by decide +kernel
theorem s115_78 {v0 v1 v2 v3 v4 v5 : Value} {l1 : Int32} {st : List Value} {im : IM} {rm : RM}  : ev 115 78 [v0, v1, v2, v3, v4, v5, .int l1] st im rm = ev 115 80 [v0, v1, v2, v3, v4, v5, .int l1] (.int l1 :: st) (im) (rm) := ev_iload pm_m115 d115_78 rfl rfl
theorem d115_80 : decode prog_10_method_13_code 80 = .ok (.invokevirtual 155, 3) := by decide +kernel
theorem s115_80 {v0 v1 v2 v3 v4 v5 v6 : Value} {a : Nat} {p1 : Int32} {p2 : Int32} {r3 : Int32} {im : IM} {rm : RM} (hk : kd a = 18) : ev 115 80 [v0, v1, v2, v3, v4, v5, v6] [.int p2, .int p1, .ref a, .int r3] im rm = (ev 113 0 [.ref a, .int p1, .int p2, pm_u] [] im rm).bind (fun r => ev 115 83 [v0, v1, v2, v3, v4, v5, v6] (r.1.toList ++ [.int r3]) r.2.1 r.2.2) := ev_callV pm_m115 d115_80 l8_155 rfl pm_m113 (by decide) hk rfl ⟨rfl, rfl⟩ rfl rfl
theorem d115_83 : decode prog_10_method_13_code 83 = .ok (.iadd, 1) := by decide +kernel
theorem s115_83 {v0 v1 v2 v3 v4 v5 v6 : Value} {x : Int32} {y : Int32} {st : List Value} {im : IM} {rm : RM}  : ev 115 83 [v0, v1, v2, v3, v4, v5, v6] (.int y :: .int x :: st) im rm = ev 115 84 [v0, v1, v2, v3, v4, v5, v6] (.int (x + y) :: st) (im) (rm) := ev_iadd pm_m115 d115_83 rfl
theorem d115_84 : decode prog_10_method_13_code 84 = .ok (.istore 5, 2) := by decide +kernel
theorem s115_84 {v0 v1 v2 v3 v5 v6 : Value} {x1 : Int32} {st : List Value} {im : IM} {rm : RM}  : ev 115 84 [v0, v1, v2, v3, pm_u, v5, v6] (.int x1 :: st) im rm = ev 115 86 [v0, v1, v2, v3, pm_u, .int x1, v6] st (im) (rm) := ev_istore pm_m115 d115_84 (Nat.le_of_ble_eq_true rfl) rfl rfl
theorem d115_86 : decode prog_10_method_13_code 86 = .ok (.iinc 6 1, 3) := by decide +kernel
theorem s115_86 {v0 v1 v2 v3 v4 : Value} {l1 : Int32} {l2 : Int32} {st : List Value} {im : IM} {rm : RM}  : ev 115 86 [v0, v1, v2, v3, v4, .int l1, .int l2] st im rm = ev 115 89 [v0, v1, v2, v3, v4, .int l1, .int (l2 + nI 1)] st (im) (rm) := ev_iinc pm_m115 d115_86 rfl rfl rfl rfl
theorem d115_89 : decode prog_10_method_13_code 89 = .ok (.goto (-21), 3) := by decide +kernel
theorem s115_89 {v0 v1 v2 v3 v4 v5 v6 : Value}  {st : List Value} {im : IM} {rm : RM}  : ev 115 89 [v0, v1, v2, v3, v4, v5, v6] st im rm = ev 115 68 [v0, v1, v2, pm_u, pm_u, v5, v6] st (im) (rm) := ev_goto pm_m115 d115_89 rfl rfl
theorem d115_92 : decode prog_10_method_13_code 92 = .ok (.iload 5, 2) := by decide +kernel
theorem s115_92 {v0 v1 v2 v3 v4 v6 : Value} {l1 : Int32} {st : List Value} {im : IM} {rm : RM}  : ev 115 92 [v0, v1, v2, v3, v4, .int l1, v6] st im rm = ev 115 94 [v0, v1, v2, v3, v4, .int l1, v6] (.int l1 :: st) (im) (rm) := ev_iload pm_m115 d115_92 rfl rfl
theorem d115_94 : decode prog_10_method_13_code 94 = .ok (.ireturn, 1) := by decide +kernel
theorem s115_94 {v0 v1 v2 v3 v4 v5 v6 : Value} {x : Int32} {im : IM} {rm : RM} : ev 115 94 [v0, v1, v2, v3, v4, v5, v6] [.int x] im rm = some (some (.int x), im, rm) := ev_ireturn pm_m115 d115_94 rfl
theorem d115_95 : decode prog_10_method_13_code 95 = .ok (.aload_n 0, 1) := by decide +kernel
theorem s115_95 {v1 v2 v3 v4 v5 v6 : Value} {l1 : Nat} {st : List Value} {im : IM} {rm : RM}  : ev 115 95 [.ref l1, v1, v2, v3, v4, v5, v6] st im rm = ev 115 96 [.ref l1, v1, v2, v3, v4, v5, v6] (.ref l1 :: st) (im) (rm) := ev_aload_n pm_m115 d115_95 rfl rfl
theorem d115_96 : decode prog_10_method_13_code 96 = .ok (.getfield 28, 3) := by decide +kernel
theorem s115_96 {v0 v1 v2 v3 v4 v5 v6 : Value} {a : Nat} {st : List Value} {im : IM} {rm : RM} (hk : kd a = 18) : ev 115 96 [v0, v1, v2, v3, v4, v5, v6] (.ref a :: st) im rm = ev 115 99 [v0, v1, v2, v3, v4, v5, v6] (pm_ro (rm a 6) :: st) (im) (rm) := ev_getR pm_m115 d115_96 f8_28 rfl hk rfl
theorem d115_99 : decode prog_10_method_13_code 99 = .ok (.iload 4, 2) := by decide +kernel
theorem s115_99 {v0 v1 v2 v3 v5 v6 : Value} {l1 : Int32} {st : List Value} {im : IM} {rm : RM}  : ev 115 99 [v0, v1, v2, v3, .int l1, v5, v6] st im rm = ev 115 101 [v0, v1, v2, v3, .int l1, v5, v6] (.int l1 :: st) (im) (rm) := ev_iload pm_m115 d115_99 rfl rfl
theorem d115_101 : decode prog_10_method_13_code 101 = .ok (.iaload, 1) := by decide +kernel
theorem s115_101 {v0 v1 v2 v3 v4 v5 v6 : Value} {a : Nat} {i : Int32} {st : List Value} {im : IM} {rm : RM} (hk : kd a = 0) (hi : pm_in i (ln a) = true) : ev 115 101 [v0, v1, v2, v3, v4, v5, v6] (.int i :: .ref a :: st) im rm = ev 115 102 [v0, v1, v2, v3, v4, v5, v6] (.int (im a i.toNatClampNeg) :: st) (im) (rm) := ev_iald pm_m115 d115_101 hk hi rfl
theorem d115_102 : decode prog_10_method_13_code 102 = .ok (.ireturn, 1) := by decide +kernel
theorem s115_102 {v0 v1 v2 v3 v4 v5 v6 : Value} {x : Int32} {im : IM} {rm : RM} : ev 115 102 [v0, v1, v2, v3, v4, v5, v6] [.int x] im rm = some (some (.int x), im, rm) := ev_ireturn pm_m115 d115_102 rfl
theorem d115_103 : decode prog_10_method_13_code 103 = .ok (.aload_n 0, 1) := by decide +kernel
theorem s115_103 {v1 v2 v3 v4 v5 v6 : Value} {l1 : Nat} {st : List Value} {im : IM} {rm : RM}  : ev 115 103 [.ref l1, v1, v2, v3, v4, v5, v6] st im rm = ev 115 104 [.ref l1, v1, v2, v3, v4, v5, v6] (.ref l1 :: st) (im) (rm) := ev_aload_n pm_m115 d115_103 rfl rfl
theorem d115_104 : decode prog_10_method_13_code 104 = .ok (.getfield 31, 3) := by decide +kernel
theorem s115_104 {v0 v1 v2 v3 v4 v5 v6 : Value} {a : Nat} {st : List Value} {im : IM} {rm : RM} (hk : kd a = 18) : ev 115 104 [v0, v1, v2, v3, v4, v5, v6] (.ref a :: st) im rm = ev 115 107 [v0, v1, v2, v3, v4, v5, v6] (pm_ro (rm a 7) :: st) (im) (rm) := ev_getR pm_m115 d115_104 f8_31 rfl hk rfl
theorem d115_107 : decode prog_10_method_13_code 107 = .ok (.iload 4, 2) := by decide +kernel
theorem s115_107 {v0 v1 v2 v3 v5 v6 : Value} {l1 : Int32} {st : List Value} {im : IM} {rm : RM}  : ev 115 107 [v0, v1, v2, v3, .int l1, v5, v6] st im rm = ev 115 109 [v0, v1, v2, v3, .int l1, v5, v6] (.int l1 :: st) (im) (rm) := ev_iload pm_m115 d115_107 rfl rfl
theorem d115_109 : decode prog_10_method_13_code 109 = .ok (.iaload, 1) := by decide +kernel
theorem s115_109 {v0 v1 v2 v3 v4 v5 v6 : Value} {a : Nat} {i : Int32} {st : List Value} {im : IM} {rm : RM} (hk : kd a = 0) (hi : pm_in i (ln a) = true) : ev 115 109 [v0, v1, v2, v3, v4, v5, v6] (.int i :: .ref a :: st) im rm = ev 115 110 [v0, v1, v2, v3, v4, v5, v6] (.int (im a i.toNatClampNeg) :: st) (im) (rm) := ev_iald pm_m115 d115_109 hk hi rfl
theorem d115_110 : decode prog_10_method_13_code 110 = .ok (.ireturn, 1) := by decide +kernel
theorem s115_110 {v0 v1 v2 v3 v4 v5 v6 : Value} {x : Int32} {im : IM} {rm : RM} : ev 115 110 [v0, v1, v2, v3, v4, v5, v6] [.int x] im rm = some (some (.int x), im, rm) := ev_ireturn pm_m115 d115_110 rfl
theorem d115_111 : decode prog_10_method_13_code 111 = .ok (.aload_n 0, 1) := by decide +kernel
theorem s115_111 {v1 v2 v3 v4 v5 v6 : Value} {l1 : Nat} {st : List Value} {im : IM} {rm : RM}  : ev 115 111 [.ref l1, v1, v2, v3, v4, v5, v6] st im rm = ev 115 112 [.ref l1, v1, v2, v3, v4, v5, v6] (.ref l1 :: st) (im) (rm) := ev_aload_n pm_m115 d115_111 rfl rfl
theorem d115_112 : decode prog_10_method_13_code 112 = .ok (.getfield 19, 3) := by decide +kernel
theorem s115_112 {v0 v1 v2 v3 v4 v5 v6 : Value} {a : Nat} {st : List Value} {im : IM} {rm : RM} (hk : kd a = 18) : ev 115 112 [v0, v1, v2, v3, v4, v5, v6] (.ref a :: st) im rm = ev 115 115 [v0, v1, v2, v3, v4, v5, v6] (pm_ro (rm a 3) :: st) (im) (rm) := ev_getR pm_m115 d115_112 f8_19 rfl hk rfl
theorem d115_115 : decode prog_10_method_13_code 115 = .ok (.iload 4, 2) := by decide +kernel
theorem s115_115 {v0 v1 v2 v3 v5 v6 : Value} {l1 : Int32} {st : List Value} {im : IM} {rm : RM}  : ev 115 115 [v0, v1, v2, v3, .int l1, v5, v6] st im rm = ev 115 117 [v0, v1, v2, v3, .int l1, v5, v6] (.int l1 :: st) (im) (rm) := ev_iload pm_m115 d115_115 rfl rfl
theorem d115_117 : decode prog_10_method_13_code 117 = .ok (.iaload, 1) := by decide +kernel
theorem s115_117 {v0 v1 v2 v3 v4 v5 v6 : Value} {a : Nat} {i : Int32} {st : List Value} {im : IM} {rm : RM} (hk : kd a = 0) (hi : pm_in i (ln a) = true) : ev 115 117 [v0, v1, v2, v3, v4, v5, v6] (.int i :: .ref a :: st) im rm = ev 115 118 [v0, v1, v2, v3, v4, v5, v6] (.int (im a i.toNatClampNeg) :: st) (im) (rm) := ev_iald pm_m115 d115_117 hk hi rfl
theorem d115_118 : decode prog_10_method_13_code 118 = .ok (.ireturn, 1) := by decide +kernel
theorem s115_118 {v0 v1 v2 v3 v4 v5 v6 : Value} {x : Int32} {im : IM} {rm : RM} : ev 115 118 [v0, v1, v2, v3, v4, v5, v6] [.int x] im rm = some (some (.int x), im, rm) := ev_ireturn pm_m115 d115_118 rfl
theorem d115_119 : decode prog_10_method_13_code 119 = .ok (.aload_n 0, 1) := by decide +kernel
theorem s115_119 {v1 v2 v3 v4 v5 v6 : Value} {l1 : Nat} {st : List Value} {im : IM} {rm : RM}  : ev 115 119 [.ref l1, v1, v2, v3, v4, v5, v6] st im rm = ev 115 120 [.ref l1, v1, v2, v3, v4, v5, v6] (.ref l1 :: st) (im) (rm) := ev_aload_n pm_m115 d115_119 rfl rfl
theorem d115_120 : decode prog_10_method_13_code 120 = .ok (.getfield 22, 3) := by decide +kernel
theorem s115_120 {v0 v1 v2 v3 v4 v5 v6 : Value} {a : Nat} {st : List Value} {im : IM} {rm : RM} (hk : kd a = 18) : ev 115 120 [v0, v1, v2, v3, v4, v5, v6] (.ref a :: st) im rm = ev 115 123 [v0, v1, v2, v3, v4, v5, v6] (pm_ro (rm a 4) :: st) (im) (rm) := ev_getR pm_m115 d115_120 f8_22 rfl hk rfl
theorem d115_123 : decode prog_10_method_13_code 123 = .ok (.iload 4, 2) := by decide +kernel
theorem s115_123 {v0 v1 v2 v3 v5 v6 : Value} {l1 : Int32} {st : List Value} {im : IM} {rm : RM}  : ev 115 123 [v0, v1, v2, v3, .int l1, v5, v6] st im rm = ev 115 125 [v0, v1, v2, v3, .int l1, v5, v6] (.int l1 :: st) (im) (rm) := ev_iload pm_m115 d115_123 rfl rfl
theorem d115_125 : decode prog_10_method_13_code 125 = .ok (.iaload, 1) := by decide +kernel
theorem s115_125 {v0 v1 v2 v3 v4 v5 v6 : Value} {a : Nat} {i : Int32} {st : List Value} {im : IM} {rm : RM} (hk : kd a = 0) (hi : pm_in i (ln a) = true) : ev 115 125 [v0, v1, v2, v3, v4, v5, v6] (.int i :: .ref a :: st) im rm = ev 115 126 [v0, v1, v2, v3, v4, v5, v6] (.int (im a i.toNatClampNeg) :: st) (im) (rm) := ev_iald pm_m115 d115_125 hk hi rfl
theorem d115_126 : decode prog_10_method_13_code 126 = .ok (.ireturn, 1) := by decide +kernel
theorem s115_126 {v0 v1 v2 v3 v4 v5 v6 : Value} {x : Int32} {im : IM} {rm : RM} : ev 115 126 [v0, v1, v2, v3, v4, v5, v6] [.int x] im rm = some (some (.int x), im, rm) := ev_ireturn pm_m115 d115_126 rfl
theorem d115_127 : decode prog_10_method_13_code 127 = .ok (.aload_n 0, 1) := by decide +kernel
theorem s115_127 {v1 v2 v3 v4 v5 v6 : Value} {l1 : Nat} {st : List Value} {im : IM} {rm : RM}  : ev 115 127 [.ref l1, v1, v2, v3, v4, v5, v6] st im rm = ev 115 128 [.ref l1, v1, v2, v3, v4, v5, v6] (.ref l1 :: st) (im) (rm) := ev_aload_n pm_m115 d115_127 rfl rfl
theorem d115_128 : decode prog_10_method_13_code 128 = .ok (.iload_n 1, 1) := by decide +kernel
theorem s115_128 {v0 v2 v3 v4 v5 v6 : Value} {l1 : Int32} {st : List Value} {im : IM} {rm : RM}  : ev 115 128 [v0, .int l1, v2, v3, v4, v5, v6] st im rm = ev 115 129 [v0, .int l1, v2, v3, v4, v5, v6] (.int l1 :: st) (im) (rm) := ev_iload_n pm_m115 d115_128 rfl rfl
theorem d115_129 : decode prog_10_method_13_code 129 = .ok (.iload_n 2, 1) := by decide +kernel
theorem s115_129 {v0 v1 v3 v4 v5 v6 : Value} {l1 : Int32} {st : List Value} {im : IM} {rm : RM}  : ev 115 129 [v0, v1, .int l1, v3, v4, v5, v6] st im rm = ev 115 130 [v0, v1, .int l1, v3, v4, v5, v6] (.int l1 :: st) (im) (rm) := ev_iload_n pm_m115 d115_129 rfl rfl
theorem d115_130 : decode prog_10_method_13_code 130 = .ok (.invokevirtual 159, 3) := by decide +kernel
theorem s115_130 {v0 v1 v2 v3 v4 v5 v6 : Value} {a : Nat} {p1 : Int32} {p2 : Int32} {im : IM} {rm : RM} (hk : kd a = 18) : ev 115 130 [v0, v1, v2, v3, v4, v5, v6] [.int p2, .int p1, .ref a] im rm = (ev 114 0 [.ref a, .int p1, .int p2, pm_u, pm_u] [] im rm).bind (fun r => ev 115 133 [v0, v1, v2, v3, v4, v5, v6] (r.1.toList ++ []) r.2.1 r.2.2) := ev_callV pm_m115 d115_130 l8_159 rfl pm_m114 (by decide) hk rfl ⟨rfl, rfl⟩ rfl rfl
theorem d115_133 : decode prog_10_method_13_code 133 = .ok (.ireturn, 1) := by decide +kernel
theorem s115_133 {v0 v1 v2 v3 v4 v5 v6 : Value} {x : Int32} {im : IM} {rm : RM} : ev 115 133 [v0, v1, v2, v3, v4, v5, v6] [.int x] im rm = some (some (.int x), im, rm) := ev_ireturn pm_m115 d115_133 rfl
theorem d116_0 : decode prog_10_method_14_code 0 = .ok (.aload_n 0, 1) := by decide +kernel
theorem s116_0 {v1 v2 v3 : Value} {l1 : Nat} {st : List Value} {im : IM} {rm : RM}  : ev 116 0 [.ref l1, v1, v2, v3] st im rm = ev 116 1 [.ref l1, v1, v2, v3] (.ref l1 :: st) (im) (rm) := ev_aload_n pm_m116 d116_0 rfl rfl
theorem d116_1 : decode prog_10_method_14_code 1 = .ok (.iload_n 1, 1) := by decide +kernel
theorem s116_1 {v0 v2 v3 : Value} {l1 : Int32} {st : List Value} {im : IM} {rm : RM}  : ev 116 1 [v0, .int l1, v2, v3] st im rm = ev 116 2 [v0, .int l1, v2, v3] (.int l1 :: st) (im) (rm) := ev_iload_n pm_m116 d116_1 rfl rfl
theorem d116_2 : decode prog_10_method_14_code 2 = .ok (.iload_n 2, 1) := by decide +kernel
theorem s116_2 {v0 v1 v3 : Value} {l1 : Int32} {st : List Value} {im : IM} {rm : RM}  : ev 116 2 [v0, v1, .int l1, v3] st im rm = ev 116 3 [v0, v1, .int l1, v3] (.int l1 :: st) (im) (rm) := ev_iload_n pm_m116 d116_2 rfl rfl
theorem d116_3 : decode prog_10_method_14_code 3 = .ok (.invokevirtual 162, 3) := by decide +kernel
theorem s116_3 {v0 v1 v2 v3 : Value} {a : Nat} {p1 : Int32} {p2 : Int32} {im : IM} {rm : RM} (hk : kd a = 18) : ev 116 3 [v0, v1, v2, v3] [.int p2, .int p1, .ref a] im rm = (ev 108 0 [.ref a, .int p1, .int p2] [] im rm).bind (fun r => ev 116 6 [v0, v1, v2, v3] (r.1.toList ++ []) r.2.1 r.2.2) := ev_callV pm_m116 d116_3 l8_162 rfl pm_m108 (by decide) hk rfl ⟨rfl, rfl⟩ rfl rfl
theorem d116_6 : decode prog_10_method_14_code 6 = .ok (.ifCond .ne 6, 3) := by decide +kernel
theorem s116_6 {v0 v1 v2 v3 : Value} {x : Int32} {st : List Value} {im : IM} {rm : RM} : ev 116 6 [v0, v1, v2, v3] (.int x :: st) im rm = if x = nI 0 then ev 116 9 [v0, v1, v2, v3] st im rm else ev 116 12 [v0, v1, v2, v3] st im rm := ev_if_ne (y := 0) pm_m116 d116_6 rfl rfl rfl
theorem d116_9 : decode prog_10_method_14_code 9 = .ok (.bipush (-2), 2) := by decide +kernel
theorem s116_9 {v0 v1 v2 v3 : Value}  {st : List Value} {im : IM} {rm : RM}  : ev 116 9 [v0, v1, v2, v3] st im rm = ev 116 11 [v0, v1, v2, v3] (.int ((-2 : Int32)) :: st) (im) (rm) := ev_bipush pm_m116 d116_9 rfl rfl
theorem d116_11 : decode prog_10_method_14_code 11 = .ok (.ireturn, 1) := by decide +kernel
theorem s116_11 {v0 v1 v2 v3 : Value} {x : Int32} {im : IM} {rm : RM} : ev 116 11 [v0, v1, v2, v3] [.int x] im rm = some (some (.int x), im, rm) := ev_ireturn pm_m116 d116_11 rfl
theorem d116_12 : decode prog_10_method_14_code 12 = .ok (.iload_n 3, 1) := by decide +kernel
theorem s116_12 {v0 v1 v2 : Value} {l1 : Int32} {st : List Value} {im : IM} {rm : RM}  : ev 116 12 [v0, v1, v2, .int l1] st im rm = ev 116 13 [v0, v1, v2, .int l1] (.int l1 :: st) (im) (rm) := ev_iload_n pm_m116 d116_12 rfl rfl
theorem d116_13 : decode prog_10_method_14_code 13 = .ok (.i2l, 1) := by decide +kernel
theorem s116_13 {v0 v1 v2 v3 : Value} {x : Int32} {st : List Value} {im : IM} {rm : RM}  : ev 116 13 [v0, v1, v2, v3] (.int x :: st) im rm = ev 116 14 [v0, v1, v2, v3] (.long x.toInt64 :: st) (im) (rm) := ev_i2l pm_m116 d116_13 rfl
theorem d116_14 : decode prog_10_method_14_code 14 = .ok (.lconst 0, 1) := by decide +kernel
theorem s116_14 {v0 v1 v2 v3 : Value}  {st : List Value} {im : IM} {rm : RM}  : ev 116 14 [v0, v1, v2, v3] st im rm = ev 116 15 [v0, v1, v2, v3] (.long (lN 0) :: st) (im) (rm) := ev_lconst pm_m116 d116_14 rfl rfl
theorem d116_15 : decode prog_10_method_14_code 15 = .ok (.ldc2_w 166, 3) := by decide +kernel
theorem s116_15 {v0 v1 v2 v3 : Value}  {st : List Value} {im : IM} {rm : RM}  : ev 116 15 [v0, v1, v2, v3] st im rm = ev 116 18 [v0, v1, v2, v3] (.long (lN 7) :: st) (im) (rm) := ev_ldc2 pm_m116 d116_15 (by decide +kernel) rfl
theorem d116_18 : decode prog_10_method_14_code 18 = .ok (.invokestatic 120, 3) := by decide +kernel
theorem s116_18 {v0 v1 v2 v3 : Value} {p1 : Int64} {p2 : Int64} {p3 : Int64} {im : IM} {rm : RM}  : ev 116 18 [v0, v1, v2, v3] [.long p3, .long p2, .long p1] im rm = (ev 104 0 [.long p1, pm_u, .long p2, pm_u, .long p3, pm_u] [] im rm).bind (fun r => ev 116 21 [v0, v1, v2, v3] (r.1.toList ++ []) r.2.1 r.2.2) := ev_callS pm_m116 d116_18 (by decide) l8_120 rfl pm_m104 rfl ⟨rfl, rfl⟩ rfl rfl
theorem d116_21 : decode prog_10_method_14_code 21 = .ok (.ifCond .eq 13, 3) := by decide +kernel
theorem s116_21 {v0 v1 v2 v3 : Value} {x : Int32} {st : List Value} {im : IM} {rm : RM} : ev 116 21 [v0, v1, v2, v3] (.int x :: st) im rm = if x = nI 0 then ev 116 34 [pm_u, pm_u, pm_u, pm_u] st im rm else ev 116 24 [v0, v1, v2, v3] st im rm := ev_if_eq (y := 0) pm_m116 d116_21 rfl rfl rfl
theorem d116_24 : decode prog_10_method_14_code 24 = .ok (.aload_n 0, 1) := by decide +kernel
theorem s116_24 {v1 v2 v3 : Value} {l1 : Nat} {st : List Value} {im : IM} {rm : RM}  : ev 116 24 [.ref l1, v1, v2, v3] st im rm = ev 116 25 [.ref l1, v1, v2, v3] (.ref l1 :: st) (im) (rm) := ev_aload_n pm_m116 d116_24 rfl rfl
theorem d116_25 : decode prog_10_method_14_code 25 = .ok (.iload_n 1, 1) := by decide +kernel
theorem s116_25 {v0 v2 v3 : Value} {l1 : Int32} {st : List Value} {im : IM} {rm : RM}  : ev 116 25 [v0, .int l1, v2, v3] st im rm = ev 116 26 [v0, .int l1, v2, v3] (.int l1 :: st) (im) (rm) := ev_iload_n pm_m116 d116_25 rfl rfl
theorem d116_26 : decode prog_10_method_14_code 26 = .ok (.iload_n 2, 1) := by decide +kernel
theorem s116_26 {v0 v1 v3 : Value} {l1 : Int32} {st : List Value} {im : IM} {rm : RM}  : ev 116 26 [v0, v1, .int l1, v3] st im rm = ev 116 27 [v0, v1, .int l1, v3] (.int l1 :: st) (im) (rm) := ev_iload_n pm_m116 d116_26 rfl rfl
theorem d116_27 : decode prog_10_method_14_code 27 = .ok (.iload_n 3, 1) := by decide +kernel
theorem s116_27 {v0 v1 v2 : Value} {l1 : Int32} {st : List Value} {im : IM} {rm : RM}  : ev 116 27 [v0, v1, v2, .int l1] st im rm = ev 116 28 [v0, v1, v2, .int l1] (.int l1 :: st) (im) (rm) := ev_iload_n pm_m116 d116_27 rfl rfl
theorem d116_28 : decode prog_10_method_14_code 28 = .ok (.invokevirtual 168, 3) := by decide +kernel
theorem s116_28 {v0 v1 v2 v3 : Value} {a : Nat} {p1 : Int32} {p2 : Int32} {p3 : Int32} {im : IM} {rm : RM} (hk : kd a = 18) : ev 116 28 [v0, v1, v2, v3] [.int p3, .int p2, .int p1, .ref a] im rm = (ev 115 0 [.ref a, .int p1, .int p2, .int p3, pm_u, pm_u, pm_u] [] im rm).bind (fun r => ev 116 31 [v0, v1, v2, v3] (r.1.toList ++ []) r.2.1 r.2.2) := ev_callV pm_m116 d116_28 l8_168 rfl pm_m115 (by decide) hk rfl ⟨rfl, rfl⟩ rfl rfl
theorem d116_31 : decode prog_10_method_14_code 31 = .ok (.goto 5, 3) := by decide +kernel
theorem s116_31 {v0 v1 v2 v3 : Value}  {st : List Value} {im : IM} {rm : RM}  : ev 116 31 [v0, v1, v2, v3] st im rm = ev 116 36 [pm_u, pm_u, pm_u, pm_u] st (im) (rm) := ev_goto pm_m116 d116_31 rfl rfl
theorem d116_34 : decode prog_10_method_14_code 34 = .ok (.bipush (-3), 2) := by decide +kernel
theorem s116_34 {v0 v1 v2 v3 : Value}  {st : List Value} {im : IM} {rm : RM}  : ev 116 34 [v0, v1, v2, v3] st im rm = ev 116 36 [pm_u, pm_u, pm_u, pm_u] (.int ((-3 : Int32)) :: st) (im) (rm) := ev_bipush pm_m116 d116_34 rfl rfl
theorem d116_36 : decode prog_10_method_14_code 36 = .ok (.ireturn, 1) := by decide +kernel
theorem s116_36 {v0 v1 v2 v3 : Value} {x : Int32} {im : IM} {rm : RM} : ev 116 36 [v0, v1, v2, v3] [.int x] im rm = some (some (.int x), im, rm) := ev_ireturn pm_m116 d116_36 rfl
theorem d117_0 : decode prog_10_method_15_code 0 = .ok (.iload_n 3, 1) := by decide +kernel
theorem s117_0 {v0 v1 v2 v4 : Value} {l1 : Int32} {st : List Value} {im : IM} {rm : RM}  : ev 117 0 [v0, v1, v2, .int l1, v4] st im rm = ev 117 1 [v0, v1, v2, .int l1, v4] (.int l1 :: st) (im) (rm) := ev_iload_n pm_m117 d117_0 rfl rfl
theorem d117_1 : decode prog_10_method_15_code 1 = .ok (.i2l, 1) := by decide +kernel
theorem s117_1 {v0 v1 v2 v3 v4 : Value} {x : Int32} {st : List Value} {im : IM} {rm : RM}  : ev 117 1 [v0, v1, v2, v3, v4] (.int x :: st) im rm = ev 117 2 [v0, v1, v2, v3, v4] (.long x.toInt64 :: st) (im) (rm) := ev_i2l pm_m117 d117_1 rfl
theorem d117_2 : decode prog_10_method_15_code 2 = .ok (.lconst 1, 1) := by decide +kernel
theorem s117_2 {v0 v1 v2 v3 v4 : Value}  {st : List Value} {im : IM} {rm : RM}  : ev 117 2 [v0, v1, v2, v3, v4] st im rm = ev 117 3 [v0, v1, v2, v3, v4] (.long (lN 1) :: st) (im) (rm) := ev_lconst pm_m117 d117_2 rfl rfl
theorem d117_3 : decode prog_10_method_15_code 3 = .ok (.ldc2_w 172, 3) := by decide +kernel
theorem s117_3 {v0 v1 v2 v3 v4 : Value}  {st : List Value} {im : IM} {rm : RM}  : ev 117 3 [v0, v1, v2, v3, v4] st im rm = ev 117 6 [v0, v1, v2, v3, v4] (.long (lN 8) :: st) (im) (rm) := ev_ldc2 pm_m117 d117_3 (by decide +kernel) rfl
theorem d117_6 : decode prog_10_method_15_code 6 = .ok (.invokestatic 120, 3) := by decide +kernel
theorem s117_6 {v0 v1 v2 v3 v4 : Value} {p1 : Int64} {p2 : Int64} {p3 : Int64} {im : IM} {rm : RM}  : ev 117 6 [v0, v1, v2, v3, v4] [.long p3, .long p2, .long p1] im rm = (ev 104 0 [.long p1, pm_u, .long p2, pm_u, .long p3, pm_u] [] im rm).bind (fun r => ev 117 9 [v0, v1, v2, v3, v4] (r.1.toList ++ []) r.2.1 r.2.2) := ev_callS pm_m117 d117_6 (by decide) l8_120 rfl pm_m104 rfl ⟨rfl, rfl⟩ rfl rfl
theorem d117_9 : decode prog_10_method_15_code 9 = .ok (.ifCond .ne 6, 3) := by decide +kernel
theorem s117_9 {v0 v1 v2 v3 v4 : Value} {x : Int32} {st : List Value} {im : IM} {rm : RM} : ev 117 9 [v0, v1, v2, v3, v4] (.int x :: st) im rm = if x = nI 0 then ev 117 12 [v0, v1, v2, v3, v4] st im rm else ev 117 15 [v0, v1, pm_u, v3, pm_u] st im rm := ev_if_ne (y := 0) pm_m117 d117_9 rfl rfl rfl
theorem d117_12 : decode prog_10_method_15_code 12 = .ok (.bipush (-3), 2) := by decide +kernel
theorem s117_12 {v0 v1 v2 v3 v4 : Value}  {st : List Value} {im : IM} {rm : RM}  : ev 117 12 [v0, v1, v2, v3, v4] st im rm = ev 117 14 [v0, v1, v2, v3, v4] (.int ((-3 : Int32)) :: st) (im) (rm) := ev_bipush pm_m117 d117_12 rfl rfl
theorem d117_14 : decode prog_10_method_15_code 14 = .ok (.ireturn, 1) := by decide +kernel
theorem s117_14 {v0 v1 v2 v3 v4 : Value} {x : Int32} {im : IM} {rm : RM} : ev 117 14 [v0, v1, v2, v3, v4] [.int x] im rm = some (some (.int x), im, rm) := ev_ireturn pm_m117 d117_14 rfl
theorem d117_15 : decode prog_10_method_15_code 15 = .ok (.aload_n 0, 1) := by decide +kernel
theorem s117_15 {v1 v2 v3 v4 : Value} {l1 : Nat} {st : List Value} {im : IM} {rm : RM}  : ev 117 15 [.ref l1, v1, v2, v3, v4] st im rm = ev 117 16 [.ref l1, v1, v2, v3, v4] (.ref l1 :: st) (im) (rm) := ev_aload_n pm_m117 d117_15 rfl rfl
theorem d117_16 : decode prog_10_method_15_code 16 = .ok (.getfield 174, 3) := by decide +kernel
theorem s117_16 {v0 v1 v2 v3 v4 : Value} {a : Nat} {st : List Value} {im : IM} {rm : RM} (hk : kd a = 18) : ev 117 16 [v0, v1, v2, v3, v4] (.ref a :: st) im rm = ev 117 19 [v0, v1, v2, v3, v4] (.int (im a 11) :: st) (im) (rm) := ev_getI pm_m117 d117_16 f8_174 rfl hk rfl
theorem d117_19 : decode prog_10_method_15_code 19 = .ok (.iload_n 3, 1) := by decide +kernel
theorem s117_19 {v0 v1 v2 v4 : Value} {l1 : Int32} {st : List Value} {im : IM} {rm : RM}  : ev 117 19 [v0, v1, v2, .int l1, v4] st im rm = ev 117 20 [v0, v1, v2, .int l1, v4] (.int l1 :: st) (im) (rm) := ev_iload_n pm_m117 d117_19 rfl rfl
theorem d117_20 : decode prog_10_method_15_code 20 = .ok (.iadd, 1) := by decide +kernel
theorem s117_20 {v0 v1 v2 v3 v4 : Value} {x : Int32} {y : Int32} {st : List Value} {im : IM} {rm : RM}  : ev 117 20 [v0, v1, v2, v3, v4] (.int y :: .int x :: st) im rm = ev 117 21 [v0, v1, v2, v3, v4] (.int (x + y) :: st) (im) (rm) := ev_iadd pm_m117 d117_20 rfl
theorem d117_21 : decode prog_10_method_15_code 21 = .ok (.sipush 160, 3) := by decide +kernel
theorem s117_21 {v0 v1 v2 v3 v4 : Value}  {st : List Value} {im : IM} {rm : RM}  : ev 117 21 [v0, v1, v2, v3, v4] st im rm = ev 117 24 [v0, v1, v2, v3, v4] (.int (nI 160) :: st) (im) (rm) := ev_sipush pm_m117 d117_21 rfl rfl
theorem d117_24 : decode prog_10_method_15_code 24 = .ok (.if_icmp .le 6, 3) := by decide +kernel
theorem s117_24 {v0 v1 v2 v3 v4 : Value} {x : Int32} {y : Int32} {st : List Value} {im : IM} {rm : RM} : ev 117 24 [v0, v1, v2, v3, v4] (.int y :: .int x :: st) im rm = if x ≤ y then ev 117 30 [v0, v1, pm_u, v3, pm_u] st im rm else ev 117 27 [v0, v1, v2, v3, v4] st im rm := ev_icmp_le pm_m117 d117_24 rfl rfl rfl
theorem d117_27 : decode prog_10_method_15_code 27 = .ok (.bipush (-5), 2) := by decide +kernel
theorem s117_27 {v0 v1 v2 v3 v4 : Value}  {st : List Value} {im : IM} {rm : RM}  : ev 117 27 [v0, v1, v2, v3, v4] st im rm = ev 117 29 [v0, v1, v2, v3, v4] (.int ((-5 : Int32)) :: st) (im) (rm) := ev_bipush pm_m117 d117_27 rfl rfl
theorem d117_29 : decode prog_10_method_15_code 29 = .ok (.ireturn, 1) := by decide +kernel
theorem s117_29 {v0 v1 v2 v3 v4 : Value} {x : Int32} {im : IM} {rm : RM} : ev 117 29 [v0, v1, v2, v3, v4] [.int x] im rm = some (some (.int x), im, rm) := ev_ireturn pm_m117 d117_29 rfl
theorem d117_30 : decode prog_10_method_15_code 30 = .ok (.iconst 0, 1) := by decide +kernel
theorem s117_30 {v0 v1 v2 v3 v4 : Value}  {st : List Value} {im : IM} {rm : RM}  : ev 117 30 [v0, v1, v2, v3, v4] st im rm = ev 117 31 [v0, v1, v2, v3, v4] (.int (nI 0) :: st) (im) (rm) := ev_iconst pm_m117 d117_30 rfl rfl
theorem d117_31 : decode prog_10_method_15_code 31 = .ok (.istore 4, 2) := by decide +kernel
theorem s117_31 {v0 v1 v2 v4 : Value} {l1 : Int32} {x2 : Int32} {st : List Value} {im : IM} {rm : RM}  : ev 117 31 [v0, v1, v2, .int l1, v4] (.int x2 :: st) im rm = ev 117 33 [v0, v1, pm_u, .int l1, .int x2] st (im) (rm) := ev_istore pm_m117 d117_31 (Nat.le_of_ble_eq_true rfl) rfl rfl
theorem d117_33 : decode prog_10_method_15_code 33 = .ok (.iload 4, 2) := by decide +kernel
theorem s117_33 {v0 v1 v2 v3 : Value} {l1 : Int32} {st : List Value} {im : IM} {rm : RM}  : ev 117 33 [v0, v1, v2, v3, .int l1] st im rm = ev 117 35 [v0, v1, v2, v3, .int l1] (.int l1 :: st) (im) (rm) := ev_iload pm_m117 d117_33 rfl rfl
theorem d117_35 : decode prog_10_method_15_code 35 = .ok (.iload_n 3, 1) := by decide +kernel
theorem s117_35 {v0 v1 v2 v4 : Value} {l1 : Int32} {st : List Value} {im : IM} {rm : RM}  : ev 117 35 [v0, v1, v2, .int l1, v4] st im rm = ev 117 36 [v0, v1, v2, .int l1, v4] (.int l1 :: st) (im) (rm) := ev_iload_n pm_m117 d117_35 rfl rfl
theorem d117_36 : decode prog_10_method_15_code 36 = .ok (.if_icmp .ge 40, 3) := by decide +kernel
theorem s117_36 {v0 v1 v2 v3 v4 : Value} {x : Int32} {y : Int32} {st : List Value} {im : IM} {rm : RM} : ev 117 36 [v0, v1, v2, v3, v4] (.int y :: .int x :: st) im rm = if y ≤ x then ev 117 76 [v0, pm_u, pm_u, pm_u, pm_u] st im rm else ev 117 39 [v0, v1, v2, v3, v4] st im rm := ev_icmp_ge pm_m117 d117_36 rfl rfl rfl
theorem d117_39 : decode prog_10_method_15_code 39 = .ok (.aload_n 0, 1) := by decide +kernel
theorem s117_39 {v1 v2 v3 v4 : Value} {l1 : Nat} {st : List Value} {im : IM} {rm : RM}  : ev 117 39 [.ref l1, v1, v2, v3, v4] st im rm = ev 117 40 [.ref l1, v1, v2, v3, v4] (.ref l1 :: st) (im) (rm) := ev_aload_n pm_m117 d117_39 rfl rfl
theorem d117_40 : decode prog_10_method_15_code 40 = .ok (.getfield 40, 3) := by decide +kernel
theorem s117_40 {v0 v1 v2 v3 v4 : Value} {a : Nat} {st : List Value} {im : IM} {rm : RM} (hk : kd a = 18) : ev 117 40 [v0, v1, v2, v3, v4] (.ref a :: st) im rm = ev 117 43 [v0, v1, v2, v3, v4] (pm_ro (rm a 10) :: st) (im) (rm) := ev_getR pm_m117 d117_40 f8_40 rfl hk rfl
theorem d117_43 : decode prog_10_method_15_code 43 = .ok (.aload_n 0, 1) := by decide +kernel
theorem s117_43 {v1 v2 v3 v4 : Value} {l1 : Nat} {st : List Value} {im : IM} {rm : RM}  : ev 117 43 [.ref l1, v1, v2, v3, v4] st im rm = ev 117 44 [.ref l1, v1, v2, v3, v4] (.ref l1 :: st) (im) (rm) := ev_aload_n pm_m117 d117_43 rfl rfl
theorem d117_44 : decode prog_10_method_15_code 44 = .ok (.getfield 174, 3) := by decide +kernel
theorem s117_44 {v0 v1 v2 v3 v4 : Value} {a : Nat} {st : List Value} {im : IM} {rm : RM} (hk : kd a = 18) : ev 117 44 [v0, v1, v2, v3, v4] (.ref a :: st) im rm = ev 117 47 [v0, v1, v2, v3, v4] (.int (im a 11) :: st) (im) (rm) := ev_getI pm_m117 d117_44 f8_174 rfl hk rfl
theorem d117_47 : decode prog_10_method_15_code 47 = .ok (.lload_n 1, 1) := by decide +kernel
theorem s117_47 {v0 v2 v3 v4 : Value} {l1 : Int64} {st : List Value} {im : IM} {rm : RM}  : ev 117 47 [v0, .long l1, v2, v3, v4] st im rm = ev 117 48 [v0, .long l1, v2, v3, v4] (.long l1 :: st) (im) (rm) := ev_lload_n pm_m117 d117_47 rfl rfl
theorem d117_48 : decode prog_10_method_15_code 48 = .ok (.bipush 8, 2) := by decide +kernel
theorem s117_48 {v0 v1 v2 v3 v4 : Value}  {st : List Value} {im : IM} {rm : RM}  : ev 117 48 [v0, v1, v2, v3, v4] st im rm = ev 117 50 [v0, v1, v2, v3, v4] (.int (nI 8) :: st) (im) (rm) := ev_bipush pm_m117 d117_48 rfl rfl
theorem d117_50 : decode prog_10_method_15_code 50 = .ok (.iload 4, 2) := by decide +kernel
theorem s117_50 {v0 v1 v2 v3 : Value} {l1 : Int32} {st : List Value} {im : IM} {rm : RM}  : ev 117 50 [v0, v1, v2, v3, .int l1] st im rm = ev 117 52 [v0, v1, v2, v3, .int l1] (.int l1 :: st) (im) (rm) := ev_iload pm_m117 d117_50 rfl rfl
theorem d117_52 : decode prog_10_method_15_code 52 = .ok (.imul, 1) := by decide +kernel
theorem s117_52 {v0 v1 v2 v3 v4 : Value} {x : Int32} {y : Int32} {st : List Value} {im : IM} {rm : RM}  : ev 117 52 [v0, v1, v2, v3, v4] (.int y :: .int x :: st) im rm = ev 117 53 [v0, v1, v2, v3, v4] (.int (x * y) :: st) (im) (rm) := ev_imul pm_m117 d117_52 rfl
theorem d117_53 : decode prog_10_method_15_code 53 = .ok (.lshr, 1) := by decide +kernel
theorem s117_53 {v0 v1 v2 v3 v4 : Value} {x : Int64} {y : Int32} {st : List Value} {im : IM} {rm : RM}  : ev 117 53 [v0, v1, v2, v3, v4] (.int y :: .long x :: st) im rm = ev 117 54 [v0, v1, v2, v3, v4] (.long (x >>> (y.toInt64 &&& 63)) :: st) (im) (rm) := ev_lshr pm_m117 d117_53 rfl
theorem d117_54 : decode prog_10_method_15_code 54 = .ok (.ldc2_w 178, 3) := by decide +kernel
theorem s117_54 {v0 v1 v2 v3 v4 : Value}  {st : List Value} {im : IM} {rm : RM}  : ev 117 54 [v0, v1, v2, v3, v4] st im rm = ev 117 57 [v0, v1, v2, v3, v4] (.long (lN 255) :: st) (im) (rm) := ev_ldc2 pm_m117 d117_54 (by decide +kernel) rfl
theorem d117_57 : decode prog_10_method_15_code 57 = .ok (.land, 1) := by decide +kernel
theorem s117_57 {v0 v1 v2 v3 v4 : Value} {x : Int64} {y : Int64} {st : List Value} {im : IM} {rm : RM}  : ev 117 57 [v0, v1, v2, v3, v4] (.long y :: .long x :: st) im rm = ev 117 58 [v0, v1, v2, v3, v4] (.long (x &&& y) :: st) (im) (rm) := ev_land pm_m117 d117_57 rfl
theorem d117_58 : decode prog_10_method_15_code 58 = .ok (.l2i, 1) := by decide +kernel
theorem s117_58 {v0 v1 v2 v3 v4 : Value} {x : Int64} {st : List Value} {im : IM} {rm : RM}  : ev 117 58 [v0, v1, v2, v3, v4] (.long x :: st) im rm = ev 117 59 [v0, v1, v2, v3, v4] (.int x.toInt32 :: st) (im) (rm) := ev_l2i pm_m117 d117_58 rfl
theorem d117_59 : decode prog_10_method_15_code 59 = .ok (.iastore, 1) := by decide +kernel
theorem s117_59 {v0 v1 v2 v3 v4 : Value} {a : Nat} {i : Int32} {v : Int32} {st : List Value} {im : IM} {rm : RM} (hk : kd a = 0) (hi : pm_in i (ln a) = true) : ev 117 59 [v0, v1, v2, v3, v4] (.int v :: .int i :: .ref a :: st) im rm = ev 117 60 [v0, v1, v2, v3, v4] st (pm_w2 im a i.toNatClampNeg v) (rm) := ev_iast pm_m117 d117_59 hk hi rfl
theorem d117_60 : decode prog_10_method_15_code 60 = .ok (.aload_n 0, 1) := by decide +kernel
theorem s117_60 {v1 v2 v3 v4 : Value} {l1 : Nat} {st : List Value} {im : IM} {rm : RM}  : ev 117 60 [.ref l1, v1, v2, v3, v4] st im rm = ev 117 61 [.ref l1, v1, v2, v3, v4] (.ref l1 :: st) (im) (rm) := ev_aload_n pm_m117 d117_60 rfl rfl
theorem d117_61 : decode prog_10_method_15_code 61 = .ok (.dup, 1) := by decide +kernel
theorem s117_61 {v0 v1 v2 v3 v4 : Value} {x1 : Nat} {st : List Value} {im : IM} {rm : RM}  : ev 117 61 [v0, v1, v2, v3, v4] (.ref x1 :: st) im rm = ev 117 62 [v0, v1, v2, v3, v4] (.ref x1 :: .ref x1 :: st) (im) (rm) := ev_dupA pm_m117 d117_61 rfl
theorem d117_62 : decode prog_10_method_15_code 62 = .ok (.getfield 174, 3) := by decide +kernel
theorem s117_62 {v0 v1 v2 v3 v4 : Value} {a : Nat} {st : List Value} {im : IM} {rm : RM} (hk : kd a = 18) : ev 117 62 [v0, v1, v2, v3, v4] (.ref a :: st) im rm = ev 117 65 [v0, v1, v2, v3, v4] (.int (im a 11) :: st) (im) (rm) := ev_getI pm_m117 d117_62 f8_174 rfl hk rfl
theorem d117_65 : decode prog_10_method_15_code 65 = .ok (.iconst 1, 1) := by decide +kernel
theorem s117_65 {v0 v1 v2 v3 v4 : Value}  {st : List Value} {im : IM} {rm : RM}  : ev 117 65 [v0, v1, v2, v3, v4] st im rm = ev 117 66 [v0, v1, v2, v3, v4] (.int (nI 1) :: st) (im) (rm) := ev_iconst pm_m117 d117_65 rfl rfl
theorem d117_66 : decode prog_10_method_15_code 66 = .ok (.iadd, 1) := by decide +kernel
theorem s117_66 {v0 v1 v2 v3 v4 : Value} {x : Int32} {y : Int32} {st : List Value} {im : IM} {rm : RM}  : ev 117 66 [v0, v1, v2, v3, v4] (.int y :: .int x :: st) im rm = ev 117 67 [v0, v1, v2, v3, v4] (.int (x + y) :: st) (im) (rm) := ev_iadd pm_m117 d117_66 rfl
theorem d117_67 : decode prog_10_method_15_code 67 = .ok (.putfield 174, 3) := by decide +kernel
theorem s117_67 {v0 v1 v2 v3 v4 : Value} {a : Nat} {v : Int32} {st : List Value} {im : IM} {rm : RM} (hk : kd a = 18) : ev 117 67 [v0, v1, v2, v3, v4] (.int v :: .ref a :: st) im rm = ev 117 70 [v0, v1, v2, v3, v4] st (pm_w2 im a 11 v) (rm) := ev_putI pm_m117 d117_67 f8_174 rfl rfl hk rfl
theorem d117_70 : decode prog_10_method_15_code 70 = .ok (.iinc 4 1, 3) := by decide +kernel
theorem s117_70 {v0 v1 v2 : Value} {l1 : Int32} {l2 : Int32} {st : List Value} {im : IM} {rm : RM}  : ev 117 70 [v0, v1, v2, .int l1, .int l2] st im rm = ev 117 73 [v0, v1, v2, .int l1, .int (l2 + nI 1)] st (im) (rm) := ev_iinc pm_m117 d117_70 rfl rfl rfl rfl
theorem d117_73 : decode prog_10_method_15_code 73 = .ok (.goto (-40), 3) := by decide +kernel
theorem s117_73 {v0 v1 v2 v3 v4 : Value}  {st : List Value} {im : IM} {rm : RM}  : ev 117 73 [v0, v1, v2, v3, v4] st im rm = ev 117 33 [v0, v1, pm_u, v3, v4] st (im) (rm) := ev_goto pm_m117 d117_73 rfl rfl
theorem d117_76 : decode prog_10_method_15_code 76 = .ok (.aload_n 0, 1) := by decide +kernel
theorem s117_76 {v1 v2 v3 v4 : Value} {l1 : Nat} {st : List Value} {im : IM} {rm : RM}  : ev 117 76 [.ref l1, v1, v2, v3, v4] st im rm = ev 117 77 [.ref l1, v1, v2, v3, v4] (.ref l1 :: st) (im) (rm) := ev_aload_n pm_m117 d117_76 rfl rfl
theorem d117_77 : decode prog_10_method_15_code 77 = .ok (.getfield 174, 3) := by decide +kernel
theorem s117_77 {v0 v1 v2 v3 v4 : Value} {a : Nat} {st : List Value} {im : IM} {rm : RM} (hk : kd a = 18) : ev 117 77 [v0, v1, v2, v3, v4] (.ref a :: st) im rm = ev 117 80 [v0, v1, v2, v3, v4] (.int (im a 11) :: st) (im) (rm) := ev_getI pm_m117 d117_77 f8_174 rfl hk rfl
theorem d117_80 : decode prog_10_method_15_code 80 = .ok (.ireturn, 1) := by decide +kernel
theorem s117_80 {v0 v1 v2 v3 v4 : Value} {x : Int32} {im : IM} {rm : RM} : ev 117 80 [v0, v1, v2, v3, v4] [.int x] im rm = some (some (.int x), im, rm) := ev_ireturn pm_m117 d117_80 rfl
theorem d118_0 : decode prog_10_method_16_code 0 = .ok (.aload_n 0, 1) := by decide +kernel
theorem s118_0 {v1 : Value} {l1 : Nat} {st : List Value} {im : IM} {rm : RM}  : ev 118 0 [.ref l1, v1] st im rm = ev 118 1 [.ref l1, v1] (.ref l1 :: st) (im) (rm) := ev_aload_n pm_m118 d118_0 rfl rfl
theorem d118_1 : decode prog_10_method_16_code 1 = .ok (.getfield 174, 3) := by decide +kernel
theorem s118_1 {v0 v1 : Value} {a : Nat} {st : List Value} {im : IM} {rm : RM} (hk : kd a = 18) : ev 118 1 [v0, v1] (.ref a :: st) im rm = ev 118 4 [v0, v1] (.int (im a 11) :: st) (im) (rm) := ev_getI pm_m118 d118_1 f8_174 rfl hk rfl
theorem d118_4 : decode prog_10_method_16_code 4 = .ok (.istore_n 1, 1) := by decide +kernel
theorem s118_4 {v1 : Value} {l1 : Nat} {x2 : Int32} {st : List Value} {im : IM} {rm : RM}  : ev 118 4 [.ref l1, v1] (.int x2 :: st) im rm = ev 118 5 [.ref l1, .int x2] st (im) (rm) := ev_istore_n pm_m118 d118_4 (Nat.le_of_ble_eq_true rfl) rfl rfl
theorem d118_5 : decode prog_10_method_16_code 5 = .ok (.aload_n 0, 1) := by decide +kernel
theorem s118_5 {v1 : Value} {l1 : Nat} {st : List Value} {im : IM} {rm : RM}  : ev 118 5 [.ref l1, v1] st im rm = ev 118 6 [.ref l1, v1] (.ref l1 :: st) (im) (rm) := ev_aload_n pm_m118 d118_5 rfl rfl
theorem d118_6 : decode prog_10_method_16_code 6 = .ok (.iconst 0, 1) := by decide +kernel
theorem s118_6 {v0 v1 : Value}  {st : List Value} {im : IM} {rm : RM}  : ev 118 6 [v0, v1] st im rm = ev 118 7 [v0, v1] (.int (nI 0) :: st) (im) (rm) := ev_iconst pm_m118 d118_6 rfl rfl
theorem d118_7 : decode prog_10_method_16_code 7 = .ok (.putfield 174, 3) := by decide +kernel
theorem s118_7 {v0 v1 : Value} {a : Nat} {v : Int32} {st : List Value} {im : IM} {rm : RM} (hk : kd a = 18) : ev 118 7 [v0, v1] (.int v :: .ref a :: st) im rm = ev 118 10 [v0, v1] st (pm_w2 im a 11 v) (rm) := ev_putI pm_m118 d118_7 f8_174 rfl rfl hk rfl
theorem d118_10 : decode prog_10_method_16_code 10 = .ok (.iload_n 1, 1) := by decide +kernel
theorem s118_10 {v0 : Value} {l1 : Int32} {st : List Value} {im : IM} {rm : RM}  : ev 118 10 [v0, .int l1] st im rm = ev 118 11 [v0, .int l1] (.int l1 :: st) (im) (rm) := ev_iload_n pm_m118 d118_10 rfl rfl
theorem d118_11 : decode prog_10_method_16_code 11 = .ok (.ireturn, 1) := by decide +kernel
theorem s118_11 {v0 v1 : Value} {x : Int32} {im : IM} {rm : RM} : ev 118 11 [v0, v1] [.int x] im rm = some (some (.int x), im, rm) := ev_ireturn pm_m118 d118_11 rfl
theorem d119_0 : decode prog_10_method_17_code 0 = .ok (.iload_n 0, 1) := by decide +kernel
theorem s119_0 {l1 : Int32} {st : List Value} {im : IM} {rm : RM}  : ev 119 0 [.int l1] st im rm = ev 119 1 [.int l1] (.int l1 :: st) (im) (rm) := ev_iload_n pm_m119 d119_0 rfl rfl
theorem d119_1 : decode prog_10_method_17_code 1 = .ok (.bipush 97, 2) := by decide +kernel
theorem s119_1 {v0 : Value}  {st : List Value} {im : IM} {rm : RM}  : ev 119 1 [v0] st im rm = ev 119 3 [v0] (.int (nI 97) :: st) (im) (rm) := ev_bipush pm_m119 d119_1 rfl rfl
theorem d119_3 : decode prog_10_method_17_code 3 = .ok (.if_icmp .lt 13, 3) := by decide +kernel
theorem s119_3 {v0 : Value} {x : Int32} {y : Int32} {st : List Value} {im : IM} {rm : RM} : ev 119 3 [v0] (.int y :: .int x :: st) im rm = if x < y then ev 119 16 [v0] st im rm else ev 119 6 [v0] st im rm := ev_icmp_lt pm_m119 d119_3 rfl rfl rfl
theorem d119_6 : decode prog_10_method_17_code 6 = .ok (.iload_n 0, 1) := by decide +kernel
theorem s119_6 {l1 : Int32} {st : List Value} {im : IM} {rm : RM}  : ev 119 6 [.int l1] st im rm = ev 119 7 [.int l1] (.int l1 :: st) (im) (rm) := ev_iload_n pm_m119 d119_6 rfl rfl
theorem d119_7 : decode prog_10_method_17_code 7 = .ok (.bipush 122, 2) := by decide +kernel
theorem s119_7 {v0 : Value}  {st : List Value} {im : IM} {rm : RM}  : ev 119 7 [v0] st im rm = ev 119 9 [v0] (.int (nI 122) :: st) (im) (rm) := ev_bipush pm_m119 d119_7 rfl rfl
theorem d119_9 : decode prog_10_method_17_code 9 = .ok (.if_icmp .gt 7, 3) := by decide +kernel
theorem s119_9 {v0 : Value} {x : Int32} {y : Int32} {st : List Value} {im : IM} {rm : RM} : ev 119 9 [v0] (.int y :: .int x :: st) im rm = if y < x then ev 119 16 [v0] st im rm else ev 119 12 [v0] st im rm := ev_icmp_gt pm_m119 d119_9 rfl rfl rfl
theorem d119_12 : decode prog_10_method_17_code 12 = .ok (.iconst 1, 1) := by decide +kernel
theorem s119_12 {v0 : Value}  {st : List Value} {im : IM} {rm : RM}  : ev 119 12 [v0] st im rm = ev 119 13 [v0] (.int (nI 1) :: st) (im) (rm) := ev_iconst pm_m119 d119_12 rfl rfl
theorem d119_13 : decode prog_10_method_17_code 13 = .ok (.goto 20, 3) := by decide +kernel
theorem s119_13 {v0 : Value}  {st : List Value} {im : IM} {rm : RM}  : ev 119 13 [v0] st im rm = ev 119 33 [pm_u] st (im) (rm) := ev_goto pm_m119 d119_13 rfl rfl
theorem d119_16 : decode prog_10_method_17_code 16 = .ok (.iload_n 0, 1) := by decide +kernel
theorem s119_16 {l1 : Int32} {st : List Value} {im : IM} {rm : RM}  : ev 119 16 [.int l1] st im rm = ev 119 17 [.int l1] (.int l1 :: st) (im) (rm) := ev_iload_n pm_m119 d119_16 rfl rfl
theorem d119_17 : decode prog_10_method_17_code 17 = .ok (.bipush 48, 2) := by decide +kernel
theorem s119_17 {v0 : Value}  {st : List Value} {im : IM} {rm : RM}  : ev 119 17 [v0] st im rm = ev 119 19 [v0] (.int (nI 48) :: st) (im) (rm) := ev_bipush pm_m119 d119_17 rfl rfl
theorem d119_19 : decode prog_10_method_17_code 19 = .ok (.if_icmp .lt 13, 3) := by decide +kernel
theorem s119_19 {v0 : Value} {x : Int32} {y : Int32} {st : List Value} {im : IM} {rm : RM} : ev 119 19 [v0] (.int y :: .int x :: st) im rm = if x < y then ev 119 32 [pm_u] st im rm else ev 119 22 [v0] st im rm := ev_icmp_lt pm_m119 d119_19 rfl rfl rfl
theorem d119_22 : decode prog_10_method_17_code 22 = .ok (.iload_n 0, 1) := by decide +kernel
theorem s119_22 {l1 : Int32} {st : List Value} {im : IM} {rm : RM}  : ev 119 22 [.int l1] st im rm = ev 119 23 [.int l1] (.int l1 :: st) (im) (rm) := ev_iload_n pm_m119 d119_22 rfl rfl
theorem d119_23 : decode prog_10_method_17_code 23 = .ok (.bipush 57, 2) := by decide +kernel
theorem s119_23 {v0 : Value}  {st : List Value} {im : IM} {rm : RM}  : ev 119 23 [v0] st im rm = ev 119 25 [v0] (.int (nI 57) :: st) (im) (rm) := ev_bipush pm_m119 d119_23 rfl rfl
theorem d119_25 : decode prog_10_method_17_code 25 = .ok (.if_icmp .gt 7, 3) := by decide +kernel
theorem s119_25 {v0 : Value} {x : Int32} {y : Int32} {st : List Value} {im : IM} {rm : RM} : ev 119 25 [v0] (.int y :: .int x :: st) im rm = if y < x then ev 119 32 [pm_u] st im rm else ev 119 28 [v0] st im rm := ev_icmp_gt pm_m119 d119_25 rfl rfl rfl
theorem d119_28 : decode prog_10_method_17_code 28 = .ok (.iconst 2, 1) := by decide +kernel
theorem s119_28 {v0 : Value}  {st : List Value} {im : IM} {rm : RM}  : ev 119 28 [v0] st im rm = ev 119 29 [v0] (.int (nI 2) :: st) (im) (rm) := ev_iconst pm_m119 d119_28 rfl rfl
theorem d119_29 : decode prog_10_method_17_code 29 = .ok (.goto 4, 3) := by decide +kernel
theorem s119_29 {v0 : Value}  {st : List Value} {im : IM} {rm : RM}  : ev 119 29 [v0] st im rm = ev 119 33 [pm_u] st (im) (rm) := ev_goto pm_m119 d119_29 rfl rfl
theorem d119_32 : decode prog_10_method_17_code 32 = .ok (.iconst 0, 1) := by decide +kernel
theorem s119_32 {v0 : Value}  {st : List Value} {im : IM} {rm : RM}  : ev 119 32 [v0] st im rm = ev 119 33 [pm_u] (.int (nI 0) :: st) (im) (rm) := ev_iconst pm_m119 d119_32 rfl rfl
theorem d119_33 : decode prog_10_method_17_code 33 = .ok (.ireturn, 1) := by decide +kernel
theorem s119_33 {v0 : Value} {x : Int32} {im : IM} {rm : RM} : ev 119 33 [v0] [.int x] im rm = some (some (.int x), im, rm) := ev_ireturn pm_m119 d119_33 rfl
theorem d120_0 : decode prog_10_method_18_code 0 = .ok (.aload_n 0, 1) := by decide +kernel
theorem s120_0 {l1 : Nat} {st : List Value} {im : IM} {rm : RM}  : ev 120 0 [.ref l1] st im rm = ev 120 1 [.ref l1] (.ref l1 :: st) (im) (rm) := ev_aload_n pm_m120 d120_0 rfl rfl
theorem d120_1 : decode prog_10_method_18_code 1 = .ok (.getfield 180, 3) := by decide +kernel
theorem s120_1 {v0 : Value} {a : Nat} {st : List Value} {im : IM} {rm : RM} (hk : kd a = 18) : ev 120 1 [v0] (.ref a :: st) im rm = ev 120 4 [v0] (.int (im a 34) :: st) (im) (rm) := ev_getI pm_m120 d120_1 f8_180 rfl hk rfl
theorem d120_4 : decode prog_10_method_18_code 4 = .ok (.aload_n 0, 1) := by decide +kernel
theorem s120_4 {l1 : Nat} {st : List Value} {im : IM} {rm : RM}  : ev 120 4 [.ref l1] st im rm = ev 120 5 [.ref l1] (.ref l1 :: st) (im) (rm) := ev_aload_n pm_m120 d120_4 rfl rfl
theorem d120_5 : decode prog_10_method_18_code 5 = .ok (.getfield 174, 3) := by decide +kernel
theorem s120_5 {v0 : Value} {a : Nat} {st : List Value} {im : IM} {rm : RM} (hk : kd a = 18) : ev 120 5 [v0] (.ref a :: st) im rm = ev 120 8 [v0] (.int (im a 11) :: st) (im) (rm) := ev_getI pm_m120 d120_5 f8_174 rfl hk rfl
theorem d120_8 : decode prog_10_method_18_code 8 = .ok (.if_icmp .ge 30, 3) := by decide +kernel
theorem s120_8 {v0 : Value} {x : Int32} {y : Int32} {st : List Value} {im : IM} {rm : RM} : ev 120 8 [v0] (.int y :: .int x :: st) im rm = if y ≤ x then ev 120 38 [v0] st im rm else ev 120 11 [v0] st im rm := ev_icmp_ge pm_m120 d120_8 rfl rfl rfl
theorem d120_11 : decode prog_10_method_18_code 11 = .ok (.aload_n 0, 1) := by decide +kernel
theorem s120_11 {l1 : Nat} {st : List Value} {im : IM} {rm : RM}  : ev 120 11 [.ref l1] st im rm = ev 120 12 [.ref l1] (.ref l1 :: st) (im) (rm) := ev_aload_n pm_m120 d120_11 rfl rfl
theorem d120_12 : decode prog_10_method_18_code 12 = .ok (.getfield 40, 3) := by decide +kernel
theorem s120_12 {v0 : Value} {a : Nat} {st : List Value} {im : IM} {rm : RM} (hk : kd a = 18) : ev 120 12 [v0] (.ref a :: st) im rm = ev 120 15 [v0] (pm_ro (rm a 10) :: st) (im) (rm) := ev_getR pm_m120 d120_12 f8_40 rfl hk rfl
theorem d120_15 : decode prog_10_method_18_code 15 = .ok (.aload_n 0, 1) := by decide +kernel
theorem s120_15 {l1 : Nat} {st : List Value} {im : IM} {rm : RM}  : ev 120 15 [.ref l1] st im rm = ev 120 16 [.ref l1] (.ref l1 :: st) (im) (rm) := ev_aload_n pm_m120 d120_15 rfl rfl
theorem d120_16 : decode prog_10_method_18_code 16 = .ok (.getfield 180, 3) := by decide +kernel
theorem s120_16 {v0 : Value} {a : Nat} {st : List Value} {im : IM} {rm : RM} (hk : kd a = 18) : ev 120 16 [v0] (.ref a :: st) im rm = ev 120 19 [v0] (.int (im a 34) :: st) (im) (rm) := ev_getI pm_m120 d120_16 f8_180 rfl hk rfl
theorem d120_19 : decode prog_10_method_18_code 19 = .ok (.iaload, 1) := by decide +kernel
theorem s120_19 {v0 : Value} {a : Nat} {i : Int32} {st : List Value} {im : IM} {rm : RM} (hk : kd a = 0) (hi : pm_in i (ln a) = true) : ev 120 19 [v0] (.int i :: .ref a :: st) im rm = ev 120 20 [v0] (.int (im a i.toNatClampNeg) :: st) (im) (rm) := ev_iald pm_m120 d120_19 hk hi rfl
theorem d120_20 : decode prog_10_method_18_code 20 = .ok (.bipush 32, 2) := by decide +kernel
theorem s120_20 {v0 : Value}  {st : List Value} {im : IM} {rm : RM}  : ev 120 20 [v0] st im rm = ev 120 22 [v0] (.int (nI 32) :: st) (im) (rm) := ev_bipush pm_m120 d120_20 rfl rfl
theorem d120_22 : decode prog_10_method_18_code 22 = .ok (.if_icmp .ne 16, 3) := by decide +kernel
theorem s120_22 {v0 : Value} {x : Int32} {y : Int32} {st : List Value} {im : IM} {rm : RM} : ev 120 22 [v0] (.int y :: .int x :: st) im rm = if x = y then ev 120 25 [v0] st im rm else ev 120 38 [v0] st im rm := ev_icmp_ne pm_m120 d120_22 rfl rfl rfl
theorem d120_25 : decode prog_10_method_18_code 25 = .ok (.aload_n 0, 1) := by decide +kernel
theorem s120_25 {l1 : Nat} {st : List Value} {im : IM} {rm : RM}  : ev 120 25 [.ref l1] st im rm = ev 120 26 [.ref l1] (.ref l1 :: st) (im) (rm) := ev_aload_n pm_m120 d120_25 rfl rfl
theorem d120_26 : decode prog_10_method_18_code 26 = .ok (.dup, 1) := by decide +kernel
theorem s120_26 {v0 : Value} {x1 : Nat} {st : List Value} {im : IM} {rm : RM}  : ev 120 26 [v0] (.ref x1 :: st) im rm = ev 120 27 [v0] (.ref x1 :: .ref x1 :: st) (im) (rm) := ev_dupA pm_m120 d120_26 rfl
theorem d120_27 : decode prog_10_method_18_code 27 = .ok (.getfield 180, 3) := by decide +kernel
theorem s120_27 {v0 : Value} {a : Nat} {st : List Value} {im : IM} {rm : RM} (hk : kd a = 18) : ev 120 27 [v0] (.ref a :: st) im rm = ev 120 30 [v0] (.int (im a 34) :: st) (im) (rm) := ev_getI pm_m120 d120_27 f8_180 rfl hk rfl
theorem d120_30 : decode prog_10_method_18_code 30 = .ok (.iconst 1, 1) := by decide +kernel
theorem s120_30 {v0 : Value}  {st : List Value} {im : IM} {rm : RM}  : ev 120 30 [v0] st im rm = ev 120 31 [v0] (.int (nI 1) :: st) (im) (rm) := ev_iconst pm_m120 d120_30 rfl rfl
theorem d120_31 : decode prog_10_method_18_code 31 = .ok (.iadd, 1) := by decide +kernel
theorem s120_31 {v0 : Value} {x : Int32} {y : Int32} {st : List Value} {im : IM} {rm : RM}  : ev 120 31 [v0] (.int y :: .int x :: st) im rm = ev 120 32 [v0] (.int (x + y) :: st) (im) (rm) := ev_iadd pm_m120 d120_31 rfl
theorem d120_32 : decode prog_10_method_18_code 32 = .ok (.putfield 180, 3) := by decide +kernel
theorem s120_32 {v0 : Value} {a : Nat} {v : Int32} {st : List Value} {im : IM} {rm : RM} (hk : kd a = 18) : ev 120 32 [v0] (.int v :: .ref a :: st) im rm = ev 120 35 [v0] st (pm_w2 im a 34 v) (rm) := ev_putI pm_m120 d120_32 f8_180 rfl rfl hk rfl
theorem d120_35 : decode prog_10_method_18_code 35 = .ok (.goto (-35), 3) := by decide +kernel
theorem s120_35 {v0 : Value}  {st : List Value} {im : IM} {rm : RM}  : ev 120 35 [v0] st im rm = ev 120 0 [v0] st (im) (rm) := ev_goto pm_m120 d120_35 rfl rfl
theorem d120_38 : decode prog_10_method_18_code 38 = .ok (.aload_n 0, 1) := by decide +kernel
theorem s120_38 {l1 : Nat} {st : List Value} {im : IM} {rm : RM}  : ev 120 38 [.ref l1] st im rm = ev 120 39 [.ref l1] (.ref l1 :: st) (im) (rm) := ev_aload_n pm_m120 d120_38 rfl rfl
theorem d120_39 : decode prog_10_method_18_code 39 = .ok (.aload_n 0, 1) := by decide +kernel
theorem s120_39 {l1 : Nat} {st : List Value} {im : IM} {rm : RM}  : ev 120 39 [.ref l1] st im rm = ev 120 40 [.ref l1] (.ref l1 :: st) (im) (rm) := ev_aload_n pm_m120 d120_39 rfl rfl
theorem d120_40 : decode prog_10_method_18_code 40 = .ok (.getfield 180, 3) := by decide +kernel
theorem s120_40 {v0 : Value} {a : Nat} {st : List Value} {im : IM} {rm : RM} (hk : kd a = 18) : ev 120 40 [v0] (.ref a :: st) im rm = ev 120 43 [v0] (.int (im a 34) :: st) (im) (rm) := ev_getI pm_m120 d120_40 f8_180 rfl hk rfl
theorem d120_43 : decode prog_10_method_18_code 43 = .ok (.putfield 183, 3) := by decide +kernel
theorem s120_43 {v0 : Value} {a : Nat} {v : Int32} {st : List Value} {im : IM} {rm : RM} (hk : kd a = 18) : ev 120 43 [v0] (.int v :: .ref a :: st) im rm = ev 120 46 [v0] st (pm_w2 im a 35 v) (rm) := ev_putI pm_m120 d120_43 f8_183 rfl rfl hk rfl
theorem d120_46 : decode prog_10_method_18_code 46 = .ok (.aload_n 0, 1) := by decide +kernel
theorem s120_46 {l1 : Nat} {st : List Value} {im : IM} {rm : RM}  : ev 120 46 [.ref l1] st im rm = ev 120 47 [.ref l1] (.ref l1 :: st) (im) (rm) := ev_aload_n pm_m120 d120_46 rfl rfl
theorem d120_47 : decode prog_10_method_18_code 47 = .ok (.dup, 1) := by decide +kernel
theorem s120_47 {v0 : Value} {x1 : Nat} {st : List Value} {im : IM} {rm : RM}  : ev 120 47 [v0] (.ref x1 :: st) im rm = ev 120 48 [v0] (.ref x1 :: .ref x1 :: st) (im) (rm) := ev_dupA pm_m120 d120_47 rfl
theorem d120_48 : decode prog_10_method_18_code 48 = .ok (.getfield 180, 3) := by decide +kernel
theorem s120_48 {v0 : Value} {a : Nat} {st : List Value} {im : IM} {rm : RM} (hk : kd a = 18) : ev 120 48 [v0] (.ref a :: st) im rm = ev 120 51 [v0] (.int (im a 34) :: st) (im) (rm) := ev_getI pm_m120 d120_48 f8_180 rfl hk rfl
theorem d120_51 : decode prog_10_method_18_code 51 = .ok (.aload_n 0, 1) := by decide +kernel
theorem s120_51 {l1 : Nat} {st : List Value} {im : IM} {rm : RM}  : ev 120 51 [.ref l1] st im rm = ev 120 52 [.ref l1] (.ref l1 :: st) (im) (rm) := ev_aload_n pm_m120 d120_51 rfl rfl
theorem d120_52 : decode prog_10_method_18_code 52 = .ok (.getfield 180, 3) := by decide +kernel
theorem s120_52 {v0 : Value} {a : Nat} {st : List Value} {im : IM} {rm : RM} (hk : kd a = 18) : ev 120 52 [v0] (.ref a :: st) im rm = ev 120 55 [v0] (.int (im a 34) :: st) (im) (rm) := ev_getI pm_m120 d120_52 f8_180 rfl hk rfl
theorem d120_55 : decode prog_10_method_18_code 55 = .ok (.aload_n 0, 1) := by decide +kernel
theorem s120_55 {l1 : Nat} {st : List Value} {im : IM} {rm : RM}  : ev 120 55 [.ref l1] st im rm = ev 120 56 [.ref l1] (.ref l1 :: st) (im) (rm) := ev_aload_n pm_m120 d120_55 rfl rfl
theorem d120_56 : decode prog_10_method_18_code 56 = .ok (.getfield 174, 3) := by decide +kernel
theorem s120_56 {v0 : Value} {a : Nat} {st : List Value} {im : IM} {rm : RM} (hk : kd a = 18) : ev 120 56 [v0] (.ref a :: st) im rm = ev 120 59 [v0] (.int (im a 11) :: st) (im) (rm) := ev_getI pm_m120 d120_56 f8_174 rfl hk rfl
theorem d120_59 : decode prog_10_method_18_code 59 = .ok (.if_icmp .ge 7, 3) := by decide +kernel
theorem s120_59 {v0 : Value} {x : Int32} {y : Int32} {st : List Value} {im : IM} {rm : RM} : ev 120 59 [v0] (.int y :: .int x :: st) im rm = if y ≤ x then ev 120 66 [v0] st im rm else ev 120 62 [v0] st im rm := ev_icmp_ge pm_m120 d120_59 rfl rfl rfl
theorem d120_62 : decode prog_10_method_18_code 62 = .ok (.iconst 1, 1) := by decide +kernel
theorem s120_62 {v0 : Value}  {st : List Value} {im : IM} {rm : RM}  : ev 120 62 [v0] st im rm = ev 120 63 [v0] (.int (nI 1) :: st) (im) (rm) := ev_iconst pm_m120 d120_62 rfl rfl
theorem d120_63 : decode prog_10_method_18_code 63 = .ok (.goto 4, 3) := by decide +kernel
theorem s120_63 {v0 : Value}  {st : List Value} {im : IM} {rm : RM}  : ev 120 63 [v0] st im rm = ev 120 67 [v0] st (im) (rm) := ev_goto pm_m120 d120_63 rfl rfl
theorem d120_66 : decode prog_10_method_18_code 66 = .ok (.iconst 0, 1) := by decide +kernel
theorem s120_66 {v0 : Value}  {st : List Value} {im : IM} {rm : RM}  : ev 120 66 [v0] st im rm = ev 120 67 [v0] (.int (nI 0) :: st) (im) (rm) := ev_iconst pm_m120 d120_66 rfl rfl
theorem d120_67 : decode prog_10_method_18_code 67 = .ok (.iadd, 1) := by decide +kernel
theorem s120_67 {v0 : Value} {x : Int32} {y : Int32} {st : List Value} {im : IM} {rm : RM}  : ev 120 67 [v0] (.int y :: .int x :: st) im rm = ev 120 68 [v0] (.int (x + y) :: st) (im) (rm) := ev_iadd pm_m120 d120_67 rfl
theorem d120_68 : decode prog_10_method_18_code 68 = .ok (.putfield 180, 3) := by decide +kernel
theorem s120_68 {v0 : Value} {a : Nat} {v : Int32} {st : List Value} {im : IM} {rm : RM} (hk : kd a = 18) : ev 120 68 [v0] (.int v :: .ref a :: st) im rm = ev 120 71 [v0] st (pm_w2 im a 34 v) (rm) := ev_putI pm_m120 d120_68 f8_180 rfl rfl hk rfl
theorem d120_71 : decode prog_10_method_18_code 71 = .ok (.aload_n 0, 1) := by decide +kernel
theorem s120_71 {l1 : Nat} {st : List Value} {im : IM} {rm : RM}  : ev 120 71 [.ref l1] st im rm = ev 120 72 [.ref l1] (.ref l1 :: st) (im) (rm) := ev_aload_n pm_m120 d120_71 rfl rfl
theorem d120_72 : decode prog_10_method_18_code 72 = .ok (.getfield 180, 3) := by decide +kernel
theorem s120_72 {v0 : Value} {a : Nat} {st : List Value} {im : IM} {rm : RM} (hk : kd a = 18) : ev 120 72 [v0] (.ref a :: st) im rm = ev 120 75 [v0] (.int (im a 34) :: st) (im) (rm) := ev_getI pm_m120 d120_72 f8_180 rfl hk rfl
theorem d120_75 : decode prog_10_method_18_code 75 = .ok (.aload_n 0, 1) := by decide +kernel
theorem s120_75 {l1 : Nat} {st : List Value} {im : IM} {rm : RM}  : ev 120 75 [.ref l1] st im rm = ev 120 76 [.ref l1] (.ref l1 :: st) (im) (rm) := ev_aload_n pm_m120 d120_75 rfl rfl
theorem d120_76 : decode prog_10_method_18_code 76 = .ok (.getfield 174, 3) := by decide +kernel
theorem s120_76 {v0 : Value} {a : Nat} {st : List Value} {im : IM} {rm : RM} (hk : kd a = 18) : ev 120 76 [v0] (.ref a :: st) im rm = ev 120 79 [v0] (.int (im a 11) :: st) (im) (rm) := ev_getI pm_m120 d120_76 f8_174 rfl hk rfl
theorem d120_79 : decode prog_10_method_18_code 79 = .ok (.if_icmp .ge 58, 3) := by decide +kernel
theorem s120_79 {v0 : Value} {x : Int32} {y : Int32} {st : List Value} {im : IM} {rm : RM} : ev 120 79 [v0] (.int y :: .int x :: st) im rm = if y ≤ x then ev 120 137 [v0] st im rm else ev 120 82 [v0] st im rm := ev_icmp_ge pm_m120 d120_79 rfl rfl rfl
theorem d120_82 : decode prog_10_method_18_code 82 = .ok (.aload_n 0, 1) := by decide +kernel
theorem s120_82 {l1 : Nat} {st : List Value} {im : IM} {rm : RM}  : ev 120 82 [.ref l1] st im rm = ev 120 83 [.ref l1] (.ref l1 :: st) (im) (rm) := ev_aload_n pm_m120 d120_82 rfl rfl
theorem d120_83 : decode prog_10_method_18_code 83 = .ok (.getfield 40, 3) := by decide +kernel
theorem s120_83 {v0 : Value} {a : Nat} {st : List Value} {im : IM} {rm : RM} (hk : kd a = 18) : ev 120 83 [v0] (.ref a :: st) im rm = ev 120 86 [v0] (pm_ro (rm a 10) :: st) (im) (rm) := ev_getR pm_m120 d120_83 f8_40 rfl hk rfl
theorem d120_86 : decode prog_10_method_18_code 86 = .ok (.aload_n 0, 1) := by decide +kernel
theorem s120_86 {l1 : Nat} {st : List Value} {im : IM} {rm : RM}  : ev 120 86 [.ref l1] st im rm = ev 120 87 [.ref l1] (.ref l1 :: st) (im) (rm) := ev_aload_n pm_m120 d120_86 rfl rfl
theorem d120_87 : decode prog_10_method_18_code 87 = .ok (.getfield 183, 3) := by decide +kernel
theorem s120_87 {v0 : Value} {a : Nat} {st : List Value} {im : IM} {rm : RM} (hk : kd a = 18) : ev 120 87 [v0] (.ref a :: st) im rm = ev 120 90 [v0] (.int (im a 35) :: st) (im) (rm) := ev_getI pm_m120 d120_87 f8_183 rfl hk rfl
theorem d120_90 : decode prog_10_method_18_code 90 = .ok (.iaload, 1) := by decide +kernel
theorem s120_90 {v0 : Value} {a : Nat} {i : Int32} {st : List Value} {im : IM} {rm : RM} (hk : kd a = 0) (hi : pm_in i (ln a) = true) : ev 120 90 [v0] (.int i :: .ref a :: st) im rm = ev 120 91 [v0] (.int (im a i.toNatClampNeg) :: st) (im) (rm) := ev_iald pm_m120 d120_90 hk hi rfl
theorem d120_91 : decode prog_10_method_18_code 91 = .ok (.invokestatic 186, 3) := by decide +kernel
theorem s120_91 {v0 : Value} {p1 : Int32} {im : IM} {rm : RM}  : ev 120 91 [v0] [.int p1] im rm = (ev 119 0 [.int p1] [] im rm).bind (fun r => ev 120 94 [v0] (r.1.toList ++ []) r.2.1 r.2.2) := ev_callS pm_m120 d120_91 (by decide) l8_186 rfl pm_m119 rfl ⟨rfl, rfl⟩ rfl rfl
theorem d120_94 : decode prog_10_method_18_code 94 = .ok (.ifCond .le 43, 3) := by decide +kernel
theorem s120_94 {v0 : Value} {x : Int32} {st : List Value} {im : IM} {rm : RM} : ev 120 94 [v0] (.int x :: st) im rm = if x ≤ nI 0 then ev 120 137 [v0] st im rm else ev 120 97 [v0] st im rm := ev_if_le (y := 0) pm_m120 d120_94 rfl rfl rfl
theorem d120_97 : decode prog_10_method_18_code 97 = .ok (.aload_n 0, 1) := by decide +kernel
theorem s120_97 {l1 : Nat} {st : List Value} {im : IM} {rm : RM}  : ev 120 97 [.ref l1] st im rm = ev 120 98 [.ref l1] (.ref l1 :: st) (im) (rm) := ev_aload_n pm_m120 d120_97 rfl rfl
theorem d120_98 : decode prog_10_method_18_code 98 = .ok (.getfield 40, 3) := by decide +kernel
theorem s120_98 {v0 : Value} {a : Nat} {st : List Value} {im : IM} {rm : RM} (hk : kd a = 18) : ev 120 98 [v0] (.ref a :: st) im rm = ev 120 101 [v0] (pm_ro (rm a 10) :: st) (im) (rm) := ev_getR pm_m120 d120_98 f8_40 rfl hk rfl
theorem d120_101 : decode prog_10_method_18_code 101 = .ok (.aload_n 0, 1) := by decide +kernel
theorem s120_101 {l1 : Nat} {st : List Value} {im : IM} {rm : RM}  : ev 120 101 [.ref l1] st im rm = ev 120 102 [.ref l1] (.ref l1 :: st) (im) (rm) := ev_aload_n pm_m120 d120_101 rfl rfl
theorem d120_102 : decode prog_10_method_18_code 102 = .ok (.getfield 180, 3) := by decide +kernel
theorem s120_102 {v0 : Value} {a : Nat} {st : List Value} {im : IM} {rm : RM} (hk : kd a = 18) : ev 120 102 [v0] (.ref a :: st) im rm = ev 120 105 [v0] (.int (im a 34) :: st) (im) (rm) := ev_getI pm_m120 d120_102 f8_180 rfl hk rfl
theorem d120_105 : decode prog_10_method_18_code 105 = .ok (.iaload, 1) := by decide +kernel
theorem s120_105 {v0 : Value} {a : Nat} {i : Int32} {st : List Value} {im : IM} {rm : RM} (hk : kd a = 0) (hi : pm_in i (ln a) = true) : ev 120 105 [v0] (.int i :: .ref a :: st) im rm = ev 120 106 [v0] (.int (im a i.toNatClampNeg) :: st) (im) (rm) := ev_iald pm_m120 d120_105 hk hi rfl
theorem d120_106 : decode prog_10_method_18_code 106 = .ok (.invokestatic 186, 3) := by decide +kernel
theorem s120_106 {v0 : Value} {p1 : Int32} {im : IM} {rm : RM}  : ev 120 106 [v0] [.int p1] im rm = (ev 119 0 [.int p1] [] im rm).bind (fun r => ev 120 109 [v0] (r.1.toList ++ []) r.2.1 r.2.2) := ev_callS pm_m120 d120_106 (by decide) l8_186 rfl pm_m119 rfl ⟨rfl, rfl⟩ rfl rfl
theorem d120_109 : decode prog_10_method_18_code 109 = .ok (.aload_n 0, 1) := by decide +kernel
theorem s120_109 {l1 : Nat} {st : List Value} {im : IM} {rm : RM}  : ev 120 109 [.ref l1] st im rm = ev 120 110 [.ref l1] (.ref l1 :: st) (im) (rm) := ev_aload_n pm_m120 d120_109 rfl rfl
theorem d120_110 : decode prog_10_method_18_code 110 = .ok (.getfield 40, 3) := by decide +kernel
theorem s120_110 {v0 : Value} {a : Nat} {st : List Value} {im : IM} {rm : RM} (hk : kd a = 18) : ev 120 110 [v0] (.ref a :: st) im rm = ev 120 113 [v0] (pm_ro (rm a 10) :: st) (im) (rm) := ev_getR pm_m120 d120_110 f8_40 rfl hk rfl
theorem d120_113 : decode prog_10_method_18_code 113 = .ok (.aload_n 0, 1) := by decide +kernel
theorem s120_113 {l1 : Nat} {st : List Value} {im : IM} {rm : RM}  : ev 120 113 [.ref l1] st im rm = ev 120 114 [.ref l1] (.ref l1 :: st) (im) (rm) := ev_aload_n pm_m120 d120_113 rfl rfl
theorem d120_114 : decode prog_10_method_18_code 114 = .ok (.getfield 183, 3) := by decide +kernel
theorem s120_114 {v0 : Value} {a : Nat} {st : List Value} {im : IM} {rm : RM} (hk : kd a = 18) : ev 120 114 [v0] (.ref a :: st) im rm = ev 120 117 [v0] (.int (im a 35) :: st) (im) (rm) := ev_getI pm_m120 d120_114 f8_183 rfl hk rfl
theorem d120_117 : decode prog_10_method_18_code 117 = .ok (.iaload, 1) := by decide +kernel
theorem s120_117 {v0 : Value} {a : Nat} {i : Int32} {st : List Value} {im : IM} {rm : RM} (hk : kd a = 0) (hi : pm_in i (ln a) = true) : ev 120 117 [v0] (.int i :: .ref a :: st) im rm = ev 120 118 [v0] (.int (im a i.toNatClampNeg) :: st) (im) (rm) := ev_iald pm_m120 d120_117 hk hi rfl
theorem d120_118 : decode prog_10_method_18_code 118 = .ok (.invokestatic 186, 3) := by decide +kernel
theorem s120_118 {v0 : Value} {p1 : Int32} {r2 : Int32} {im : IM} {rm : RM}  : ev 120 118 [v0] [.int p1, .int r2] im rm = (ev 119 0 [.int p1] [] im rm).bind (fun r => ev 120 121 [v0] (r.1.toList ++ [.int r2]) r.2.1 r.2.2) := ev_callS pm_m120 d120_118 (by decide) l8_186 rfl pm_m119 rfl ⟨rfl, rfl⟩ rfl rfl
theorem d120_121 : decode prog_10_method_18_code 121 = .ok (.if_icmp .ne 16, 3) := by decide +kernel
theorem s120_121 {v0 : Value} {x : Int32} {y : Int32} {st : List Value} {im : IM} {rm : RM} : ev 120 121 [v0] (.int y :: .int x :: st) im rm = if x = y then ev 120 124 [v0] st im rm else ev 120 137 [v0] st im rm := ev_icmp_ne pm_m120 d120_121 rfl rfl rfl
theorem d120_124 : decode prog_10_method_18_code 124 = .ok (.aload_n 0, 1) := by decide +kernel
theorem s120_124 {l1 : Nat} {st : List Value} {im : IM} {rm : RM}  : ev 120 124 [.ref l1] st im rm = ev 120 125 [.ref l1] (.ref l1 :: st) (im) (rm) := ev_aload_n pm_m120 d120_124 rfl rfl
theorem d120_125 : decode prog_10_method_18_code 125 = .ok (.dup, 1) := by decide +kernel
theorem s120_125 {v0 : Value} {x1 : Nat} {st : List Value} {im : IM} {rm : RM}  : ev 120 125 [v0] (.ref x1 :: st) im rm = ev 120 126 [v0] (.ref x1 :: .ref x1 :: st) (im) (rm) := ev_dupA pm_m120 d120_125 rfl
theorem d120_126 : decode prog_10_method_18_code 126 = .ok (.getfield 180, 3) := by decide +kernel
theorem s120_126 {v0 : Value} {a : Nat} {st : List Value} {im : IM} {rm : RM} (hk : kd a = 18) : ev 120 126 [v0] (.ref a :: st) im rm = ev 120 129 [v0] (.int (im a 34) :: st) (im) (rm) := ev_getI pm_m120 d120_126 f8_180 rfl hk rfl
theorem d120_129 : decode prog_10_method_18_code 129 = .ok (.iconst 1, 1) := by decide +kernel
theorem s120_129 {v0 : Value}  {st : List Value} {im : IM} {rm : RM}  : ev 120 129 [v0] st im rm = ev 120 130 [v0] (.int (nI 1) :: st) (im) (rm) := ev_iconst pm_m120 d120_129 rfl rfl
theorem d120_130 : decode prog_10_method_18_code 130 = .ok (.iadd, 1) := by decide +kernel
theorem s120_130 {v0 : Value} {x : Int32} {y : Int32} {st : List Value} {im : IM} {rm : RM}  : ev 120 130 [v0] (.int y :: .int x :: st) im rm = ev 120 131 [v0] (.int (x + y) :: st) (im) (rm) := ev_iadd pm_m120 d120_130 rfl
theorem d120_131 : decode prog_10_method_18_code 131 = .ok (.putfield 180, 3) := by decide +kernel
theorem s120_131 {v0 : Value} {a : Nat} {v : Int32} {st : List Value} {im : IM} {rm : RM} (hk : kd a = 18) : ev 120 131 [v0] (.int v :: .ref a :: st) im rm = ev 120 134 [v0] st (pm_w2 im a 34 v) (rm) := ev_putI pm_m120 d120_131 f8_180 rfl rfl hk rfl
theorem d120_134 : decode prog_10_method_18_code 134 = .ok (.goto (-63), 3) := by decide +kernel
theorem s120_134 {v0 : Value}  {st : List Value} {im : IM} {rm : RM}  : ev 120 134 [v0] st im rm = ev 120 71 [v0] st (im) (rm) := ev_goto pm_m120 d120_134 rfl rfl
theorem d120_137 : decode prog_10_method_18_code 137 = .ok (.aload_n 0, 1) := by decide +kernel
theorem s120_137 {l1 : Nat} {st : List Value} {im : IM} {rm : RM}  : ev 120 137 [.ref l1] st im rm = ev 120 138 [.ref l1] (.ref l1 :: st) (im) (rm) := ev_aload_n pm_m120 d120_137 rfl rfl
theorem d120_138 : decode prog_10_method_18_code 138 = .ok (.aload_n 0, 1) := by decide +kernel
theorem s120_138 {l1 : Nat} {st : List Value} {im : IM} {rm : RM}  : ev 120 138 [.ref l1] st im rm = ev 120 139 [.ref l1] (.ref l1 :: st) (im) (rm) := ev_aload_n pm_m120 d120_138 rfl rfl
theorem d120_139 : decode prog_10_method_18_code 139 = .ok (.getfield 180, 3) := by decide +kernel
theorem s120_139 {v0 : Value} {a : Nat} {st : List Value} {im : IM} {rm : RM} (hk : kd a = 18) : ev 120 139 [v0] (.ref a :: st) im rm = ev 120 142 [v0] (.int (im a 34) :: st) (im) (rm) := ev_getI pm_m120 d120_139 f8_180 rfl hk rfl
theorem d120_142 : decode prog_10_method_18_code 142 = .ok (.putfield 190, 3) := by decide +kernel
theorem s120_142 {v0 : Value} {a : Nat} {v : Int32} {st : List Value} {im : IM} {rm : RM} (hk : kd a = 18) : ev 120 142 [v0] (.int v :: .ref a :: st) im rm = ev 120 145 [v0] st (pm_w2 im a 36 v) (rm) := ev_putI pm_m120 d120_142 f8_190 rfl rfl hk rfl
theorem d120_145 : decode prog_10_method_18_code 145 = .ok (.return_, 1) := by decide +kernel
theorem s120_145 {v0 : Value} {im : IM} {rm : RM} : ev 120 145 [v0] [] im rm = some (none, im, rm) := ev_return pm_m120 d120_145 rfl
theorem d121_0 : decode prog_10_method_19_code 0 = .ok (.aload_n 0, 1) := by decide +kernel
theorem s121_0 {v1 v2 v3 v4 : Value} {l1 : Nat} {st : List Value} {im : IM} {rm : RM}  : ev 121 0 [.ref l1, v1, v2, v3, v4] st im rm = ev 121 1 [.ref l1, v1, v2, v3, v4] (.ref l1 :: st) (im) (rm) := ev_aload_n pm_m121 d121_0 rfl rfl
theorem d121_1 : decode prog_10_method_19_code 1 = .ok (.getfield 190, 3) := by decide +kernel
theorem s121_1 {v0 v1 v2 v3 v4 : Value} {a : Nat} {st : List Value} {im : IM} {rm : RM} (hk : kd a = 18) : ev 121 1 [v0, v1, v2, v3, v4] (.ref a :: st) im rm = ev 121 4 [v0, v1, v2, v3, v4] (.int (im a 36) :: st) (im) (rm) := ev_getI pm_m121 d121_1 f8_190 rfl hk rfl
theorem d121_4 : decode prog_10_method_19_code 4 = .ok (.aload_n 0, 1) := by decide +kernel
theorem s121_4 {v1 v2 v3 v4 : Value} {l1 : Nat} {st : List Value} {im : IM} {rm : RM}  : ev 121 4 [.ref l1, v1, v2, v3, v4] st im rm = ev 121 5 [.ref l1, v1, v2, v3, v4] (.ref l1 :: st) (im) (rm) := ev_aload_n pm_m121 d121_4 rfl rfl
theorem d121_5 : decode prog_10_method_19_code 5 = .ok (.getfield 183, 3) := by decide +kernel
theorem s121_5 {v0 v1 v2 v3 v4 : Value} {a : Nat} {st : List Value} {im : IM} {rm : RM} (hk : kd a = 18) : ev 121 5 [v0, v1, v2, v3, v4] (.ref a :: st) im rm = ev 121 8 [v0, v1, v2, v3, v4] (.int (im a 35) :: st) (im) (rm) := ev_getI pm_m121 d121_5 f8_183 rfl hk rfl
theorem d121_8 : decode prog_10_method_19_code 8 = .ok (.isub, 1) := by decide +kernel
theorem s121_8 {v0 v1 v2 v3 v4 : Value} {x : Int32} {y : Int32} {st : List Value} {im : IM} {rm : RM}  : ev 121 8 [v0, v1, v2, v3, v4] (.int y :: .int x :: st) im rm = ev 121 9 [v0, v1, v2, v3, v4] (.int (x - y) :: st) (im) (rm) := ev_isub pm_m121 d121_8 rfl
theorem d121_9 : decode prog_10_method_19_code 9 = .ok (.iload_n 2, 1) := by decide +kernel
theorem s121_9 {v0 v1 v3 v4 : Value} {l1 : Int32} {st : List Value} {im : IM} {rm : RM}  : ev 121 9 [v0, v1, .int l1, v3, v4] st im rm = ev 121 10 [v0, v1, .int l1, v3, v4] (.int l1 :: st) (im) (rm) := ev_iload_n pm_m121 d121_9 rfl rfl
theorem d121_10 : decode prog_10_method_19_code 10 = .ok (.if_icmp .ne 7, 3) := by decide +kernel
theorem s121_10 {v0 v1 v2 v3 v4 : Value} {x : Int32} {y : Int32} {st : List Value} {im : IM} {rm : RM} : ev 121 10 [v0, v1, v2, v3, v4] (.int y :: .int x :: st) im rm = if x = y then ev 121 13 [v0, v1, v2, v3, v4] st im rm else ev 121 17 [v0, v1, v2, pm_u, pm_u] st im rm := ev_icmp_ne pm_m121 d121_10 rfl rfl rfl
theorem d121_13 : decode prog_10_method_19_code 13 = .ok (.iconst 1, 1) := by decide +kernel
theorem s121_13 {v0 v1 v2 v3 v4 : Value}  {st : List Value} {im : IM} {rm : RM}  : ev 121 13 [v0, v1, v2, v3, v4] st im rm = ev 121 14 [v0, v1, v2, v3, v4] (.int (nI 1) :: st) (im) (rm) := ev_iconst pm_m121 d121_13 rfl rfl
theorem d121_14 : decode prog_10_method_19_code 14 = .ok (.goto 4, 3) := by decide +kernel
theorem s121_14 {v0 v1 v2 v3 v4 : Value}  {st : List Value} {im : IM} {rm : RM}  : ev 121 14 [v0, v1, v2, v3, v4] st im rm = ev 121 18 [v0, v1, v2, pm_u, pm_u] st (im) (rm) := ev_goto pm_m121 d121_14 rfl rfl
theorem d121_17 : decode prog_10_method_19_code 17 = .ok (.iconst 0, 1) := by decide +kernel
theorem s121_17 {v0 v1 v2 v3 v4 : Value}  {st : List Value} {im : IM} {rm : RM}  : ev 121 17 [v0, v1, v2, v3, v4] st im rm = ev 121 18 [v0, v1, v2, pm_u, pm_u] (.int (nI 0) :: st) (im) (rm) := ev_iconst pm_m121 d121_17 rfl rfl
theorem d121_18 : decode prog_10_method_19_code 18 = .ok (.istore_n 3, 1) := by decide +kernel
theorem s121_18 {v0 v1 v3 v4 : Value} {l1 : Int32} {x2 : Int32} {st : List Value} {im : IM} {rm : RM}  : ev 121 18 [v0, v1, .int l1, v3, v4] (.int x2 :: st) im rm = ev 121 19 [v0, v1, .int l1, .int x2, v4] st (im) (rm) := ev_istore_n pm_m121 d121_18 (Nat.le_of_ble_eq_true rfl) rfl rfl
theorem d121_19 : decode prog_10_method_19_code 19 = .ok (.iconst 0, 1) := by decide +kernel
theorem s121_19 {v0 v1 v2 v3 v4 : Value}  {st : List Value} {im : IM} {rm : RM}  : ev 121 19 [v0, v1, v2, v3, v4] st im rm = ev 121 20 [v0, v1, v2, v3, v4] (.int (nI 0) :: st) (im) (rm) := ev_iconst pm_m121 d121_19 rfl rfl
theorem d121_20 : decode prog_10_method_19_code 20 = .ok (.istore 4, 2) := by decide +kernel
theorem s121_20 {v0 v1 v2 v4 : Value} {l1 : Int32} {x2 : Int32} {st : List Value} {im : IM} {rm : RM}  : ev 121 20 [v0, v1, v2, .int l1, v4] (.int x2 :: st) im rm = ev 121 22 [v0, v1, v2, .int l1, .int x2] st (im) (rm) := ev_istore pm_m121 d121_20 (Nat.le_of_ble_eq_true rfl) rfl rfl
theorem d121_22 : decode prog_10_method_19_code 22 = .ok (.iload_n 3, 1) := by decide +kernel
theorem s121_22 {v0 v1 v2 v4 : Value} {l1 : Int32} {st : List Value} {im : IM} {rm : RM}  : ev 121 22 [v0, v1, v2, .int l1, v4] st im rm = ev 121 23 [v0, v1, v2, .int l1, v4] (.int l1 :: st) (im) (rm) := ev_iload_n pm_m121 d121_22 rfl rfl
theorem d121_23 : decode prog_10_method_19_code 23 = .ok (.ifCond .eq 48, 3) := by decide +kernel
theorem s121_23 {v0 v1 v2 v3 v4 : Value} {x : Int32} {st : List Value} {im : IM} {rm : RM} : ev 121 23 [v0, v1, v2, v3, v4] (.int x :: st) im rm = if x = nI 0 then ev 121 71 [pm_u, pm_u, pm_u, v3, pm_u] st im rm else ev 121 26 [v0, v1, v2, v3, v4] st im rm := ev_if_eq (y := 0) pm_m121 d121_23 rfl rfl rfl
theorem d121_26 : decode prog_10_method_19_code 26 = .ok (.iload 4, 2) := by decide +kernel
theorem s121_26 {v0 v1 v2 v3 : Value} {l1 : Int32} {st : List Value} {im : IM} {rm : RM}  : ev 121 26 [v0, v1, v2, v3, .int l1] st im rm = ev 121 28 [v0, v1, v2, v3, .int l1] (.int l1 :: st) (im) (rm) := ev_iload pm_m121 d121_26 rfl rfl
theorem d121_28 : decode prog_10_method_19_code 28 = .ok (.iload_n 2, 1) := by decide +kernel
theorem s121_28 {v0 v1 v3 v4 : Value} {l1 : Int32} {st : List Value} {im : IM} {rm : RM}  : ev 121 28 [v0, v1, .int l1, v3, v4] st im rm = ev 121 29 [v0, v1, .int l1, v3, v4] (.int l1 :: st) (im) (rm) := ev_iload_n pm_m121 d121_28 rfl rfl
theorem d121_29 : decode prog_10_method_19_code 29 = .ok (.if_icmp .ge 42, 3) := by decide +kernel
theorem s121_29 {v0 v1 v2 v3 v4 : Value} {x : Int32} {y : Int32} {st : List Value} {im : IM} {rm : RM} : ev 121 29 [v0, v1, v2, v3, v4] (.int y :: .int x :: st) im rm = if y ≤ x then ev 121 71 [pm_u, pm_u, pm_u, v3, pm_u] st im rm else ev 121 32 [v0, v1, v2, v3, v4] st im rm := ev_icmp_ge pm_m121 d121_29 rfl rfl rfl
theorem d121_32 : decode prog_10_method_19_code 32 = .ok (.aload_n 0, 1) := by decide +kernel
theorem s121_32 {v1 v2 v3 v4 : Value} {l1 : Nat} {st : List Value} {im : IM} {rm : RM}  : ev 121 32 [.ref l1, v1, v2, v3, v4] st im rm = ev 121 33 [.ref l1, v1, v2, v3, v4] (.ref l1 :: st) (im) (rm) := ev_aload_n pm_m121 d121_32 rfl rfl
theorem d121_33 : decode prog_10_method_19_code 33 = .ok (.getfield 40, 3) := by decide +kernel
theorem s121_33 {v0 v1 v2 v3 v4 : Value} {a : Nat} {st : List Value} {im : IM} {rm : RM} (hk : kd a = 18) : ev 121 33 [v0, v1, v2, v3, v4] (.ref a :: st) im rm = ev 121 36 [v0, v1, v2, v3, v4] (pm_ro (rm a 10) :: st) (im) (rm) := ev_getR pm_m121 d121_33 f8_40 rfl hk rfl
theorem d121_36 : decode prog_10_method_19_code 36 = .ok (.aload_n 0, 1) := by decide +kernel
theorem s121_36 {v1 v2 v3 v4 : Value} {l1 : Nat} {st : List Value} {im : IM} {rm : RM}  : ev 121 36 [.ref l1, v1, v2, v3, v4] st im rm = ev 121 37 [.ref l1, v1, v2, v3, v4] (.ref l1 :: st) (im) (rm) := ev_aload_n pm_m121 d121_36 rfl rfl
theorem d121_37 : decode prog_10_method_19_code 37 = .ok (.getfield 183, 3) := by decide +kernel
theorem s121_37 {v0 v1 v2 v3 v4 : Value} {a : Nat} {st : List Value} {im : IM} {rm : RM} (hk : kd a = 18) : ev 121 37 [v0, v1, v2, v3, v4] (.ref a :: st) im rm = ev 121 40 [v0, v1, v2, v3, v4] (.int (im a 35) :: st) (im) (rm) := ev_getI pm_m121 d121_37 f8_183 rfl hk rfl
theorem d121_40 : decode prog_10_method_19_code 40 = .ok (.iload 4, 2) := by decide +kernel
theorem s121_40 {v0 v1 v2 v3 : Value} {l1 : Int32} {st : List Value} {im : IM} {rm : RM}  : ev 121 40 [v0, v1, v2, v3, .int l1] st im rm = ev 121 42 [v0, v1, v2, v3, .int l1] (.int l1 :: st) (im) (rm) := ev_iload pm_m121 d121_40 rfl rfl
theorem d121_42 : decode prog_10_method_19_code 42 = .ok (.iadd, 1) := by decide +kernel
theorem s121_42 {v0 v1 v2 v3 v4 : Value} {x : Int32} {y : Int32} {st : List Value} {im : IM} {rm : RM}  : ev 121 42 [v0, v1, v2, v3, v4] (.int y :: .int x :: st) im rm = ev 121 43 [v0, v1, v2, v3, v4] (.int (x + y) :: st) (im) (rm) := ev_iadd pm_m121 d121_42 rfl
theorem d121_43 : decode prog_10_method_19_code 43 = .ok (.iaload, 1) := by decide +kernel
theorem s121_43 {v0 v1 v2 v3 v4 : Value} {a : Nat} {i : Int32} {st : List Value} {im : IM} {rm : RM} (hk : kd a = 0) (hi : pm_in i (ln a) = true) : ev 121 43 [v0, v1, v2, v3, v4] (.int i :: .ref a :: st) im rm = ev 121 44 [v0, v1, v2, v3, v4] (.int (im a i.toNatClampNeg) :: st) (im) (rm) := ev_iald pm_m121 d121_43 hk hi rfl
theorem d121_44 : decode prog_10_method_19_code 44 = .ok (.bipush 96, 2) := by decide +kernel
theorem s121_44 {v0 v1 v2 v3 v4 : Value}  {st : List Value} {im : IM} {rm : RM}  : ev 121 44 [v0, v1, v2, v3, v4] st im rm = ev 121 46 [v0, v1, v2, v3, v4] (.int (nI 96) :: st) (im) (rm) := ev_bipush pm_m121 d121_44 rfl rfl
theorem d121_46 : decode prog_10_method_19_code 46 = .ok (.iload_n 1, 1) := by decide +kernel
theorem s121_46 {v0 v2 v3 v4 : Value} {l1 : Int32} {st : List Value} {im : IM} {rm : RM}  : ev 121 46 [v0, .int l1, v2, v3, v4] st im rm = ev 121 47 [v0, .int l1, v2, v3, v4] (.int l1 :: st) (im) (rm) := ev_iload_n pm_m121 d121_46 rfl rfl
theorem d121_47 : decode prog_10_method_19_code 47 = .ok (.iconst 5, 1) := by decide +kernel
theorem s121_47 {v0 v1 v2 v3 v4 : Value}  {st : List Value} {im : IM} {rm : RM}  : ev 121 47 [v0, v1, v2, v3, v4] st im rm = ev 121 48 [v0, v1, v2, v3, v4] (.int (nI 5) :: st) (im) (rm) := ev_iconst pm_m121 d121_47 rfl rfl
theorem d121_48 : decode prog_10_method_19_code 48 = .ok (.iload 4, 2) := by decide +kernel
theorem s121_48 {v0 v1 v2 v3 : Value} {l1 : Int32} {st : List Value} {im : IM} {rm : RM}  : ev 121 48 [v0, v1, v2, v3, .int l1] st im rm = ev 121 50 [v0, v1, v2, v3, .int l1] (.int l1 :: st) (im) (rm) := ev_iload pm_m121 d121_48 rfl rfl
theorem d121_50 : decode prog_10_method_19_code 50 = .ok (.imul, 1) := by decide +kernel
theorem s121_50 {v0 v1 v2 v3 v4 : Value} {x : Int32} {y : Int32} {st : List Value} {im : IM} {rm : RM}  : ev 121 50 [v0, v1, v2, v3, v4] (.int y :: .int x :: st) im rm = ev 121 51 [v0, v1, v2, v3, v4] (.int (x * y) :: st) (im) (rm) := ev_imul pm_m121 d121_50 rfl
theorem d121_51 : decode prog_10_method_19_code 51 = .ok (.ishr, 1) := by decide +kernel
theorem s121_51 {v0 v1 v2 v3 v4 : Value} {x : Int32} {y : Int32} {st : List Value} {im : IM} {rm : RM}  : ev 121 51 [v0, v1, v2, v3, v4] (.int y :: .int x :: st) im rm = ev 121 52 [v0, v1, v2, v3, v4] (.int (x >>> (y &&& 31)) :: st) (im) (rm) := ev_ishr pm_m121 d121_51 rfl
theorem d121_52 : decode prog_10_method_19_code 52 = .ok (.bipush 31, 2) := by decide +kernel
theorem s121_52 {v0 v1 v2 v3 v4 : Value}  {st : List Value} {im : IM} {rm : RM}  : ev 121 52 [v0, v1, v2, v3, v4] st im rm = ev 121 54 [v0, v1, v2, v3, v4] (.int (nI 31) :: st) (im) (rm) := ev_bipush pm_m121 d121_52 rfl rfl
theorem d121_54 : decode prog_10_method_19_code 54 = .ok (.iand, 1) := by decide +kernel
theorem s121_54 {v0 v1 v2 v3 v4 : Value} {x : Int32} {y : Int32} {st : List Value} {im : IM} {rm : RM}  : ev 121 54 [v0, v1, v2, v3, v4] (.int y :: .int x :: st) im rm = ev 121 55 [v0, v1, v2, v3, v4] (.int (x &&& y) :: st) (im) (rm) := ev_iand pm_m121 d121_54 rfl
theorem d121_55 : decode prog_10_method_19_code 55 = .ok (.iadd, 1) := by decide +kernel
theorem s121_55 {v0 v1 v2 v3 v4 : Value} {x : Int32} {y : Int32} {st : List Value} {im : IM} {rm : RM}  : ev 121 55 [v0, v1, v2, v3, v4] (.int y :: .int x :: st) im rm = ev 121 56 [v0, v1, v2, v3, v4] (.int (x + y) :: st) (im) (rm) := ev_iadd pm_m121 d121_55 rfl
theorem d121_56 : decode prog_10_method_19_code 56 = .ok (.if_icmp .ne 7, 3) := by decide +kernel
theorem s121_56 {v0 v1 v2 v3 v4 : Value} {x : Int32} {y : Int32} {st : List Value} {im : IM} {rm : RM} : ev 121 56 [v0, v1, v2, v3, v4] (.int y :: .int x :: st) im rm = if x = y then ev 121 59 [v0, v1, v2, v3, v4] st im rm else ev 121 63 [v0, v1, v2, pm_u, v4] st im rm := ev_icmp_ne pm_m121 d121_56 rfl rfl rfl
theorem d121_59 : decode prog_10_method_19_code 59 = .ok (.iconst 1, 1) := by decide +kernel
theorem s121_59 {v0 v1 v2 v3 v4 : Value}  {st : List Value} {im : IM} {rm : RM}  : ev 121 59 [v0, v1, v2, v3, v4] st im rm = ev 121 60 [v0, v1, v2, v3, v4] (.int (nI 1) :: st) (im) (rm) := ev_iconst pm_m121 d121_59 rfl rfl
theorem d121_60 : decode prog_10_method_19_code 60 = .ok (.goto 4, 3) := by decide +kernel
theorem s121_60 {v0 v1 v2 v3 v4 : Value}  {st : List Value} {im : IM} {rm : RM}  : ev 121 60 [v0, v1, v2, v3, v4] st im rm = ev 121 64 [v0, v1, v2, pm_u, v4] st (im) (rm) := ev_goto pm_m121 d121_60 rfl rfl
theorem d121_63 : decode prog_10_method_19_code 63 = .ok (.iconst 0, 1) := by decide +kernel
theorem s121_63 {v0 v1 v2 v3 v4 : Value}  {st : List Value} {im : IM} {rm : RM}  : ev 121 63 [v0, v1, v2, v3, v4] st im rm = ev 121 64 [v0, v1, v2, pm_u, v4] (.int (nI 0) :: st) (im) (rm) := ev_iconst pm_m121 d121_63 rfl rfl
theorem d121_64 : decode prog_10_method_19_code 64 = .ok (.istore_n 3, 1) := by decide +kernel
theorem s121_64 {v0 v1 v3 v4 : Value} {l1 : Int32} {x2 : Int32} {st : List Value} {im : IM} {rm : RM}  : ev 121 64 [v0, v1, .int l1, v3, v4] (.int x2 :: st) im rm = ev 121 65 [v0, v1, .int l1, .int x2, v4] st (im) (rm) := ev_istore_n pm_m121 d121_64 (Nat.le_of_ble_eq_true rfl) rfl rfl
theorem d121_65 : decode prog_10_method_19_code 65 = .ok (.iinc 4 1, 3) := by decide +kernel
theorem s121_65 {v0 v1 v2 : Value} {l1 : Int32} {l2 : Int32} {st : List Value} {im : IM} {rm : RM}  : ev 121 65 [v0, v1, v2, .int l1, .int l2] st im rm = ev 121 68 [v0, v1, v2, .int l1, .int (l2 + nI 1)] st (im) (rm) := ev_iinc pm_m121 d121_65 rfl rfl rfl rfl
theorem d121_68 : decode prog_10_method_19_code 68 = .ok (.goto (-46), 3) := by decide +kernel
theorem s121_68 {v0 v1 v2 v3 v4 : Value}  {st : List Value} {im : IM} {rm : RM}  : ev 121 68 [v0, v1, v2, v3, v4] st im rm = ev 121 22 [v0, v1, v2, v3, v4] st (im) (rm) := ev_goto pm_m121 d121_68 rfl rfl
theorem d121_71 : decode prog_10_method_19_code 71 = .ok (.iload_n 3, 1) := by decide +kernel
theorem s121_71 {v0 v1 v2 v4 : Value} {l1 : Int32} {st : List Value} {im : IM} {rm : RM}  : ev 121 71 [v0, v1, v2, .int l1, v4] st im rm = ev 121 72 [v0, v1, v2, .int l1, v4] (.int l1 :: st) (im) (rm) := ev_iload_n pm_m121 d121_71 rfl rfl
theorem d121_72 : decode prog_10_method_19_code 72 = .ok (.ireturn, 1) := by decide +kernel
theorem s121_72 {v0 v1 v2 v3 v4 : Value} {x : Int32} {im : IM} {rm : RM} (hx : x = 0 ∨ x = 1) : ev 121 72 [v0, v1, v2, v3, v4] [.int x] im rm = some (some (.int x), im, rm) := ev_zreturn pm_m121 d121_72 rfl hx
theorem d122_0 : decode prog_10_method_20_code 0 = .ok (.aload_n 0, 1) := by decide +kernel
theorem s122_0 {v1 v2 v3 : Value} {l1 : Nat} {st : List Value} {im : IM} {rm : RM}  : ev 122 0 [.ref l1, v1, v2, v3] st im rm = ev 122 1 [.ref l1, v1, v2, v3] (.ref l1 :: st) (im) (rm) := ev_aload_n pm_m122 d122_0 rfl rfl
theorem d122_1 : decode prog_10_method_20_code 1 = .ok (.iload_n 1, 1) := by decide +kernel
theorem s122_1 {v0 v2 v3 : Value} {l1 : Int32} {st : List Value} {im : IM} {rm : RM}  : ev 122 1 [v0, .int l1, v2, v3] st im rm = ev 122 2 [v0, .int l1, v2, v3] (.int l1 :: st) (im) (rm) := ev_iload_n pm_m122 d122_1 rfl rfl
theorem d122_2 : decode prog_10_method_20_code 2 = .ok (.iload_n 2, 1) := by decide +kernel
theorem s122_2 {v0 v1 v3 : Value} {l1 : Int32} {st : List Value} {im : IM} {rm : RM}  : ev 122 2 [v0, v1, .int l1, v3] st im rm = ev 122 3 [v0, v1, .int l1, v3] (.int l1 :: st) (im) (rm) := ev_iload_n pm_m122 d122_2 rfl rfl
theorem d122_3 : decode prog_10_method_20_code 3 = .ok (.invokevirtual 193, 3) := by decide +kernel
theorem s122_3 {v0 v1 v2 v3 : Value} {a : Nat} {p1 : Int32} {p2 : Int32} {im : IM} {rm : RM} (hk : kd a = 18) : ev 122 3 [v0, v1, v2, v3] [.int p2, .int p1, .ref a] im rm = (ev 121 0 [.ref a, .int p1, .int p2, pm_u, pm_u] [] im rm).bind (fun r => ev 122 6 [v0, v1, v2, v3] (r.1.toList ++ []) r.2.1 r.2.2) := ev_callV pm_m122 d122_3 l8_193 rfl pm_m121 (by decide) hk rfl ⟨rfl, rfl⟩ rfl rfl
theorem d122_6 : decode prog_10_method_20_code 6 = .ok (.istore_n 3, 1) := by decide +kernel
theorem s122_6 {v0 v1 v3 : Value} {l1 : Int32} {x2 : Int32} {st : List Value} {im : IM} {rm : RM}  : ev 122 6 [v0, v1, .int l1, v3] (.int x2 :: st) im rm = ev 122 7 [v0, v1, .int l1, .int x2] st (im) (rm) := ev_istore_n pm_m122 d122_6 (Nat.le_of_ble_eq_true rfl) rfl rfl
theorem d122_7 : decode prog_10_method_20_code 7 = .ok (.iload_n 3, 1) := by decide +kernel
theorem s122_7 {v0 v1 v2 : Value} {l1 : Int32} {st : List Value} {im : IM} {rm : RM}  : ev 122 7 [v0, v1, v2, .int l1] st im rm = ev 122 8 [v0, v1, v2, .int l1] (.int l1 :: st) (im) (rm) := ev_iload_n pm_m122 d122_7 rfl rfl
theorem d122_8 : decode prog_10_method_20_code 8 = .ok (.ifCond .eq 7, 3) := by decide +kernel
theorem s122_8 {v0 v1 v2 v3 : Value} {x : Int32} {st : List Value} {im : IM} {rm : RM} : ev 122 8 [v0, v1, v2, v3] (.int x :: st) im rm = if x = nI 0 then ev 122 15 [pm_u, pm_u, pm_u, v3] st im rm else ev 122 11 [v0, v1, v2, v3] st im rm := ev_if_eq (y := 0) pm_m122 d122_8 rfl rfl rfl
theorem d122_11 : decode prog_10_method_20_code 11 = .ok (.aload_n 0, 1) := by decide +kernel
theorem s122_11 {v1 v2 v3 : Value} {l1 : Nat} {st : List Value} {im : IM} {rm : RM}  : ev 122 11 [.ref l1, v1, v2, v3] st im rm = ev 122 12 [.ref l1, v1, v2, v3] (.ref l1 :: st) (im) (rm) := ev_aload_n pm_m122 d122_11 rfl rfl
theorem d122_12 : decode prog_10_method_20_code 12 = .ok (.invokevirtual 196, 3) := by decide +kernel
theorem s122_12 {v0 v1 v2 v3 : Value} {a : Nat} {im : IM} {rm : RM} (hk : kd a = 18) : ev 122 12 [v0, v1, v2, v3] [.ref a] im rm = (ev 120 0 [.ref a] [] im rm).bind (fun r => ev 122 15 [pm_u, pm_u, pm_u, v3] (r.1.toList ++ []) r.2.1 r.2.2) := ev_callV pm_m122 d122_12 l8_196 rfl pm_m120 (by decide) hk rfl ⟨rfl, rfl⟩ rfl rfl
theorem d122_15 : decode prog_10_method_20_code 15 = .ok (.iload_n 3, 1) := by decide +kernel
theorem s122_15 {v0 v1 v2 : Value} {l1 : Int32} {st : List Value} {im : IM} {rm : RM}  : ev 122 15 [v0, v1, v2, .int l1] st im rm = ev 122 16 [v0, v1, v2, .int l1] (.int l1 :: st) (im) (rm) := ev_iload_n pm_m122 d122_15 rfl rfl
theorem d122_16 : decode prog_10_method_20_code 16 = .ok (.ireturn, 1) := by decide +kernel
theorem s122_16 {v0 v1 v2 v3 : Value} {x : Int32} {im : IM} {rm : RM} (hx : x = 0 ∨ x = 1) : ev 122 16 [v0, v1, v2, v3] [.int x] im rm = some (some (.int x), im, rm) := ev_zreturn pm_m122 d122_16 rfl hx
theorem d123_0 : decode prog_10_method_21_code 0 = .ok (.aload_n 0, 1) := by decide +kernel
theorem s123_0 {v1 v2 v3 : Value} {l1 : Nat} {st : List Value} {im : IM} {rm : RM}  : ev 123 0 [.ref l1, v1, v2, v3] st im rm = ev 123 1 [.ref l1, v1, v2, v3] (.ref l1 :: st) (im) (rm) := ev_aload_n pm_m123 d123_0 rfl rfl
theorem d123_1 : decode prog_10_method_21_code 1 = .ok (.getfield 183, 3) := by decide +kernel
theorem s123_1 {v0 v1 v2 v3 : Value} {a : Nat} {st : List Value} {im : IM} {rm : RM} (hk : kd a = 18) : ev 123 1 [v0, v1, v2, v3] (.ref a :: st) im rm = ev 123 4 [v0, v1, v2, v3] (.int (im a 35) :: st) (im) (rm) := ev_getI pm_m123 d123_1 f8_183 rfl hk rfl
theorem d123_4 : decode prog_10_method_21_code 4 = .ok (.aload_n 0, 1) := by decide +kernel
theorem s123_4 {v1 v2 v3 : Value} {l1 : Nat} {st : List Value} {im : IM} {rm : RM}  : ev 123 4 [.ref l1, v1, v2, v3] st im rm = ev 123 5 [.ref l1, v1, v2, v3] (.ref l1 :: st) (im) (rm) := ev_aload_n pm_m123 d123_4 rfl rfl
theorem d123_5 : decode prog_10_method_21_code 5 = .ok (.getfield 174, 3) := by decide +kernel
theorem s123_5 {v0 v1 v2 v3 : Value} {a : Nat} {st : List Value} {im : IM} {rm : RM} (hk : kd a = 18) : ev 123 5 [v0, v1, v2, v3] (.ref a :: st) im rm = ev 123 8 [v0, v1, v2, v3] (.int (im a 11) :: st) (im) (rm) := ev_getI pm_m123 d123_5 f8_174 rfl hk rfl
theorem d123_8 : decode prog_10_method_21_code 8 = .ok (.if_icmp .ge 36, 3) := by decide +kernel
theorem s123_8 {v0 v1 v2 v3 : Value} {x : Int32} {y : Int32} {st : List Value} {im : IM} {rm : RM} : ev 123 8 [v0, v1, v2, v3] (.int y :: .int x :: st) im rm = if y ≤ x then ev 123 44 [v0, v1, pm_u, pm_u] st im rm else ev 123 11 [v0, v1, v2, v3] st im rm := ev_icmp_ge pm_m123 d123_8 rfl rfl rfl
theorem d123_11 : decode prog_10_method_21_code 11 = .ok (.aload_n 0, 1) := by decide +kernel
theorem s123_11 {v1 v2 v3 : Value} {l1 : Nat} {st : List Value} {im : IM} {rm : RM}  : ev 123 11 [.ref l1, v1, v2, v3] st im rm = ev 123 12 [.ref l1, v1, v2, v3] (.ref l1 :: st) (im) (rm) := ev_aload_n pm_m123 d123_11 rfl rfl
theorem d123_12 : decode prog_10_method_21_code 12 = .ok (.getfield 40, 3) := by decide +kernel
theorem s123_12 {v0 v1 v2 v3 : Value} {a : Nat} {st : List Value} {im : IM} {rm : RM} (hk : kd a = 18) : ev 123 12 [v0, v1, v2, v3] (.ref a :: st) im rm = ev 123 15 [v0, v1, v2, v3] (pm_ro (rm a 10) :: st) (im) (rm) := ev_getR pm_m123 d123_12 f8_40 rfl hk rfl
theorem d123_15 : decode prog_10_method_21_code 15 = .ok (.aload_n 0, 1) := by decide +kernel
theorem s123_15 {v1 v2 v3 : Value} {l1 : Nat} {st : List Value} {im : IM} {rm : RM}  : ev 123 15 [.ref l1, v1, v2, v3] st im rm = ev 123 16 [.ref l1, v1, v2, v3] (.ref l1 :: st) (im) (rm) := ev_aload_n pm_m123 d123_15 rfl rfl
theorem d123_16 : decode prog_10_method_21_code 16 = .ok (.getfield 183, 3) := by decide +kernel
theorem s123_16 {v0 v1 v2 v3 : Value} {a : Nat} {st : List Value} {im : IM} {rm : RM} (hk : kd a = 18) : ev 123 16 [v0, v1, v2, v3] (.ref a :: st) im rm = ev 123 19 [v0, v1, v2, v3] (.int (im a 35) :: st) (im) (rm) := ev_getI pm_m123 d123_16 f8_183 rfl hk rfl
theorem d123_19 : decode prog_10_method_21_code 19 = .ok (.iaload, 1) := by decide +kernel
theorem s123_19 {v0 v1 v2 v3 : Value} {a : Nat} {i : Int32} {st : List Value} {im : IM} {rm : RM} (hk : kd a = 0) (hi : pm_in i (ln a) = true) : ev 123 19 [v0, v1, v2, v3] (.int i :: .ref a :: st) im rm = ev 123 20 [v0, v1, v2, v3] (.int (im a i.toNatClampNeg) :: st) (im) (rm) := ev_iald pm_m123 d123_19 hk hi rfl
theorem d123_20 : decode prog_10_method_21_code 20 = .ok (.invokestatic 186, 3) := by decide +kernel
theorem s123_20 {v0 v1 v2 v3 : Value} {p1 : Int32} {im : IM} {rm : RM}  : ev 123 20 [v0, v1, v2, v3] [.int p1] im rm = (ev 119 0 [.int p1] [] im rm).bind (fun r => ev 123 23 [v0, v1, v2, v3] (r.1.toList ++ []) r.2.1 r.2.2) := ev_callS pm_m123 d123_20 (by decide) l8_186 rfl pm_m119 rfl ⟨rfl, rfl⟩ rfl rfl
theorem d123_23 : decode prog_10_method_21_code 23 = .ok (.iconst 2, 1) := by decide +kernel
theorem s123_23 {v0 v1 v2 v3 : Value}  {st : List Value} {im : IM} {rm : RM}  : ev 123 23 [v0, v1, v2, v3] st im rm = ev 123 24 [v0, v1, v2, v3] (.int (nI 2) :: st) (im) (rm) := ev_iconst pm_m123 d123_23 rfl rfl
theorem d123_24 : decode prog_10_method_21_code 24 = .ok (.if_icmp .ne 20, 3) := by decide +kernel
theorem s123_24 {v0 v1 v2 v3 : Value} {x : Int32} {y : Int32} {st : List Value} {im : IM} {rm : RM} : ev 123 24 [v0, v1, v2, v3] (.int y :: .int x :: st) im rm = if x = y then ev 123 27 [v0, v1, v2, v3] st im rm else ev 123 44 [v0, v1, pm_u, pm_u] st im rm := ev_icmp_ne pm_m123 d123_24 rfl rfl rfl
theorem d123_27 : decode prog_10_method_21_code 27 = .ok (.aload_n 0, 1) := by decide +kernel
theorem s123_27 {v1 v2 v3 : Value} {l1 : Nat} {st : List Value} {im : IM} {rm : RM}  : ev 123 27 [.ref l1, v1, v2, v3] st im rm = ev 123 28 [.ref l1, v1, v2, v3] (.ref l1 :: st) (im) (rm) := ev_aload_n pm_m123 d123_27 rfl rfl
theorem d123_28 : decode prog_10_method_21_code 28 = .ok (.getfield 190, 3) := by decide +kernel
theorem s123_28 {v0 v1 v2 v3 : Value} {a : Nat} {st : List Value} {im : IM} {rm : RM} (hk : kd a = 18) : ev 123 28 [v0, v1, v2, v3] (.ref a :: st) im rm = ev 123 31 [v0, v1, v2, v3] (.int (im a 36) :: st) (im) (rm) := ev_getI pm_m123 d123_28 f8_190 rfl hk rfl
theorem d123_31 : decode prog_10_method_21_code 31 = .ok (.aload_n 0, 1) := by decide +kernel
theorem s123_31 {v1 v2 v3 : Value} {l1 : Nat} {st : List Value} {im : IM} {rm : RM}  : ev 123 31 [.ref l1, v1, v2, v3] st im rm = ev 123 32 [.ref l1, v1, v2, v3] (.ref l1 :: st) (im) (rm) := ev_aload_n pm_m123 d123_31 rfl rfl
theorem d123_32 : decode prog_10_method_21_code 32 = .ok (.getfield 183, 3) := by decide +kernel
theorem s123_32 {v0 v1 v2 v3 : Value} {a : Nat} {st : List Value} {im : IM} {rm : RM} (hk : kd a = 18) : ev 123 32 [v0, v1, v2, v3] (.ref a :: st) im rm = ev 123 35 [v0, v1, v2, v3] (.int (im a 35) :: st) (im) (rm) := ev_getI pm_m123 d123_32 f8_183 rfl hk rfl
theorem d123_35 : decode prog_10_method_21_code 35 = .ok (.isub, 1) := by decide +kernel
theorem s123_35 {v0 v1 v2 v3 : Value} {x : Int32} {y : Int32} {st : List Value} {im : IM} {rm : RM}  : ev 123 35 [v0, v1, v2, v3] (.int y :: .int x :: st) im rm = ev 123 36 [v0, v1, v2, v3] (.int (x - y) :: st) (im) (rm) := ev_isub pm_m123 d123_35 rfl
theorem d123_36 : decode prog_10_method_21_code 36 = .ok (.iconst 3, 1) := by decide +kernel
theorem s123_36 {v0 v1 v2 v3 : Value}  {st : List Value} {im : IM} {rm : RM}  : ev 123 36 [v0, v1, v2, v3] st im rm = ev 123 37 [v0, v1, v2, v3] (.int (nI 3) :: st) (im) (rm) := ev_iconst pm_m123 d123_36 rfl rfl
theorem d123_37 : decode prog_10_method_21_code 37 = .ok (.if_icmp .gt 7, 3) := by decide +kernel
theorem s123_37 {v0 v1 v2 v3 : Value} {x : Int32} {y : Int32} {st : List Value} {im : IM} {rm : RM} : ev 123 37 [v0, v1, v2, v3] (.int y :: .int x :: st) im rm = if y < x then ev 123 44 [v0, v1, pm_u, pm_u] st im rm else ev 123 40 [v0, v1, v2, v3] st im rm := ev_icmp_gt pm_m123 d123_37 rfl rfl rfl
theorem d123_40 : decode prog_10_method_21_code 40 = .ok (.iconst 1, 1) := by decide +kernel
theorem s123_40 {v0 v1 v2 v3 : Value}  {st : List Value} {im : IM} {rm : RM}  : ev 123 40 [v0, v1, v2, v3] st im rm = ev 123 41 [v0, v1, v2, v3] (.int (nI 1) :: st) (im) (rm) := ev_iconst pm_m123 d123_40 rfl rfl
theorem d123_41 : decode prog_10_method_21_code 41 = .ok (.goto 4, 3) := by decide +kernel
theorem s123_41 {v0 v1 v2 v3 : Value}  {st : List Value} {im : IM} {rm : RM}  : ev 123 41 [v0, v1, v2, v3] st im rm = ev 123 45 [v0, v1, pm_u, pm_u] st (im) (rm) := ev_goto pm_m123 d123_41 rfl rfl
theorem d123_44 : decode prog_10_method_21_code 44 = .ok (.iconst 0, 1) := by decide +kernel
theorem s123_44 {v0 v1 v2 v3 : Value}  {st : List Value} {im : IM} {rm : RM}  : ev 123 44 [v0, v1, v2, v3] st im rm = ev 123 45 [v0, v1, pm_u, pm_u] (.int (nI 0) :: st) (im) (rm) := ev_iconst pm_m123 d123_44 rfl rfl
theorem d123_45 : decode prog_10_method_21_code 45 = .ok (.istore_n 2, 1) := by decide +kernel
theorem s123_45 {v0 v2 v3 : Value} {l1 : Int32} {x2 : Int32} {st : List Value} {im : IM} {rm : RM}  : ev 123 45 [v0, .int l1, v2, v3] (.int x2 :: st) im rm = ev 123 46 [v0, .int l1, .int x2, v3] st (im) (rm) := ev_istore_n pm_m123 d123_45 (Nat.le_of_ble_eq_true rfl) rfl rfl
theorem d123_46 : decode prog_10_method_21_code 46 = .ok (.aload_n 0, 1) := by decide +kernel
theorem s123_46 {v1 v2 v3 : Value} {l1 : Nat} {st : List Value} {im : IM} {rm : RM}  : ev 123 46 [.ref l1, v1, v2, v3] st im rm = ev 123 47 [.ref l1, v1, v2, v3] (.ref l1 :: st) (im) (rm) := ev_aload_n pm_m123 d123_46 rfl rfl
theorem d123_47 : decode prog_10_method_21_code 47 = .ok (.iconst 0, 1) := by decide +kernel
theorem s123_47 {v0 v1 v2 v3 : Value}  {st : List Value} {im : IM} {rm : RM}  : ev 123 47 [v0, v1, v2, v3] st im rm = ev 123 48 [v0, v1, v2, v3] (.int (nI 0) :: st) (im) (rm) := ev_iconst pm_m123 d123_47 rfl rfl
theorem d123_48 : decode prog_10_method_21_code 48 = .ok (.putfield 199, 3) := by decide +kernel
theorem s123_48 {v0 v1 v2 v3 : Value} {a : Nat} {v : Int32} {st : List Value} {im : IM} {rm : RM} (hk : kd a = 18) : ev 123 48 [v0, v1, v2, v3] (.int v :: .ref a :: st) im rm = ev 123 51 [v0, v1, v2, v3] st (pm_w2 im a 37 v) (rm) := ev_putI pm_m123 d123_48 f8_199 rfl rfl hk rfl
theorem d123_51 : decode prog_10_method_21_code 51 = .ok (.aload_n 0, 1) := by decide +kernel
theorem s123_51 {v1 v2 v3 : Value} {l1 : Nat} {st : List Value} {im : IM} {rm : RM}  : ev 123 51 [.ref l1, v1, v2, v3] st im rm = ev 123 52 [.ref l1, v1, v2, v3] (.ref l1 :: st) (im) (rm) := ev_aload_n pm_m123 d123_51 rfl rfl
theorem d123_52 : decode prog_10_method_21_code 52 = .ok (.getfield 183, 3) := by decide +kernel
theorem s123_52 {v0 v1 v2 v3 : Value} {a : Nat} {st : List Value} {im : IM} {rm : RM} (hk : kd a = 18) : ev 123 52 [v0, v1, v2, v3] (.ref a :: st) im rm = ev 123 55 [v0, v1, v2, v3] (.int (im a 35) :: st) (im) (rm) := ev_getI pm_m123 d123_52 f8_183 rfl hk rfl
theorem d123_55 : decode prog_10_method_21_code 55 = .ok (.istore_n 3, 1) := by decide +kernel
theorem s123_55 {v0 v1 v3 : Value} {l1 : Int32} {x2 : Int32} {st : List Value} {im : IM} {rm : RM}  : ev 123 55 [v0, v1, .int l1, v3] (.int x2 :: st) im rm = ev 123 56 [v0, v1, .int l1, .int x2] st (im) (rm) := ev_istore_n pm_m123 d123_55 (Nat.le_of_ble_eq_true rfl) rfl rfl
theorem d123_56 : decode prog_10_method_21_code 56 = .ok (.iload_n 2, 1) := by decide +kernel
theorem s123_56 {v0 v1 v3 : Value} {l1 : Int32} {st : List Value} {im : IM} {rm : RM}  : ev 123 56 [v0, v1, .int l1, v3] st im rm = ev 123 57 [v0, v1, .int l1, v3] (.int l1 :: st) (im) (rm) := ev_iload_n pm_m123 d123_56 rfl rfl
theorem d123_57 : decode prog_10_method_21_code 57 = .ok (.ifCond .eq 38, 3) := by decide +kernel
theorem s123_57 {v0 v1 v2 v3 : Value} {x : Int32} {st : List Value} {im : IM} {rm : RM} : ev 123 57 [v0, v1, v2, v3] (.int x :: st) im rm = if x = nI 0 then ev 123 95 [v0, v1, v2, pm_u] st im rm else ev 123 60 [v0, v1, v2, v3] st im rm := ev_if_eq (y := 0) pm_m123 d123_57 rfl rfl rfl
theorem d123_60 : decode prog_10_method_21_code 60 = .ok (.iload_n 3, 1) := by decide +kernel
theorem s123_60 {v0 v1 v2 : Value} {l1 : Int32} {st : List Value} {im : IM} {rm : RM}  : ev 123 60 [v0, v1, v2, .int l1] st im rm = ev 123 61 [v0, v1, v2, .int l1] (.int l1 :: st) (im) (rm) := ev_iload_n pm_m123 d123_60 rfl rfl
theorem d123_61 : decode prog_10_method_21_code 61 = .ok (.aload_n 0, 1) := by decide +kernel
theorem s123_61 {v1 v2 v3 : Value} {l1 : Nat} {st : List Value} {im : IM} {rm : RM}  : ev 123 61 [.ref l1, v1, v2, v3] st im rm = ev 123 62 [.ref l1, v1, v2, v3] (.ref l1 :: st) (im) (rm) := ev_aload_n pm_m123 d123_61 rfl rfl
theorem d123_62 : decode prog_10_method_21_code 62 = .ok (.getfield 190, 3) := by decide +kernel
theorem s123_62 {v0 v1 v2 v3 : Value} {a : Nat} {st : List Value} {im : IM} {rm : RM} (hk : kd a = 18) : ev 123 62 [v0, v1, v2, v3] (.ref a :: st) im rm = ev 123 65 [v0, v1, v2, v3] (.int (im a 36) :: st) (im) (rm) := ev_getI pm_m123 d123_62 f8_190 rfl hk rfl
theorem d123_65 : decode prog_10_method_21_code 65 = .ok (.if_icmp .ge 30, 3) := by decide +kernel
theorem s123_65 {v0 v1 v2 v3 : Value} {x : Int32} {y : Int32} {st : List Value} {im : IM} {rm : RM} : ev 123 65 [v0, v1, v2, v3] (.int y :: .int x :: st) im rm = if y ≤ x then ev 123 95 [v0, v1, v2, pm_u] st im rm else ev 123 68 [v0, v1, v2, v3] st im rm := ev_icmp_ge pm_m123 d123_65 rfl rfl rfl
theorem d123_68 : decode prog_10_method_21_code 68 = .ok (.aload_n 0, 1) := by decide +kernel
theorem s123_68 {v1 v2 v3 : Value} {l1 : Nat} {st : List Value} {im : IM} {rm : RM}  : ev 123 68 [.ref l1, v1, v2, v3] st im rm = ev 123 69 [.ref l1, v1, v2, v3] (.ref l1 :: st) (im) (rm) := ev_aload_n pm_m123 d123_68 rfl rfl
theorem d123_69 : decode prog_10_method_21_code 69 = .ok (.bipush 10, 2) := by decide +kernel
theorem s123_69 {v0 v1 v2 v3 : Value}  {st : List Value} {im : IM} {rm : RM}  : ev 123 69 [v0, v1, v2, v3] st im rm = ev 123 71 [v0, v1, v2, v3] (.int (nI 10) :: st) (im) (rm) := ev_bipush pm_m123 d123_69 rfl rfl
theorem d123_71 : decode prog_10_method_21_code 71 = .ok (.aload_n 0, 1) := by decide +kernel
theorem s123_71 {v1 v2 v3 : Value} {l1 : Nat} {st : List Value} {im : IM} {rm : RM}  : ev 123 71 [.ref l1, v1, v2, v3] st im rm = ev 123 72 [.ref l1, v1, v2, v3] (.ref l1 :: st) (im) (rm) := ev_aload_n pm_m123 d123_71 rfl rfl
theorem d123_72 : decode prog_10_method_21_code 72 = .ok (.getfield 199, 3) := by decide +kernel
theorem s123_72 {v0 v1 v2 v3 : Value} {a : Nat} {st : List Value} {im : IM} {rm : RM} (hk : kd a = 18) : ev 123 72 [v0, v1, v2, v3] (.ref a :: st) im rm = ev 123 75 [v0, v1, v2, v3] (.int (im a 37) :: st) (im) (rm) := ev_getI pm_m123 d123_72 f8_199 rfl hk rfl
theorem d123_75 : decode prog_10_method_21_code 75 = .ok (.imul, 1) := by decide +kernel
theorem s123_75 {v0 v1 v2 v3 : Value} {x : Int32} {y : Int32} {st : List Value} {im : IM} {rm : RM}  : ev 123 75 [v0, v1, v2, v3] (.int y :: .int x :: st) im rm = ev 123 76 [v0, v1, v2, v3] (.int (x * y) :: st) (im) (rm) := ev_imul pm_m123 d123_75 rfl
theorem d123_76 : decode prog_10_method_21_code 76 = .ok (.aload_n 0, 1) := by decide +kernel
theorem s123_76 {v1 v2 v3 : Value} {l1 : Nat} {st : List Value} {im : IM} {rm : RM}  : ev 123 76 [.ref l1, v1, v2, v3] st im rm = ev 123 77 [.ref l1, v1, v2, v3] (.ref l1 :: st) (im) (rm) := ev_aload_n pm_m123 d123_76 rfl rfl
theorem d123_77 : decode prog_10_method_21_code 77 = .ok (.getfield 40, 3) := by decide +kernel
theorem s123_77 {v0 v1 v2 v3 : Value} {a : Nat} {st : List Value} {im : IM} {rm : RM} (hk : kd a = 18) : ev 123 77 [v0, v1, v2, v3] (.ref a :: st) im rm = ev 123 80 [v0, v1, v2, v3] (pm_ro (rm a 10) :: st) (im) (rm) := ev_getR pm_m123 d123_77 f8_40 rfl hk rfl
theorem d123_80 : decode prog_10_method_21_code 80 = .ok (.iload_n 3, 1) := by decide +kernel
theorem s123_80 {v0 v1 v2 : Value} {l1 : Int32} {st : List Value} {im : IM} {rm : RM}  : ev 123 80 [v0, v1, v2, .int l1] st im rm = ev 123 81 [v0, v1, v2, .int l1] (.int l1 :: st) (im) (rm) := ev_iload_n pm_m123 d123_80 rfl rfl
theorem d123_81 : decode prog_10_method_21_code 81 = .ok (.iaload, 1) := by decide +kernel
theorem s123_81 {v0 v1 v2 v3 : Value} {a : Nat} {i : Int32} {st : List Value} {im : IM} {rm : RM} (hk : kd a = 0) (hi : pm_in i (ln a) = true) : ev 123 81 [v0, v1, v2, v3] (.int i :: .ref a :: st) im rm = ev 123 82 [v0, v1, v2, v3] (.int (im a i.toNatClampNeg) :: st) (im) (rm) := ev_iald pm_m123 d123_81 hk hi rfl
theorem d123_82 : decode prog_10_method_21_code 82 = .ok (.iadd, 1) := by decide +kernel
theorem s123_82 {v0 v1 v2 v3 : Value} {x : Int32} {y : Int32} {st : List Value} {im : IM} {rm : RM}  : ev 123 82 [v0, v1, v2, v3] (.int y :: .int x :: st) im rm = ev 123 83 [v0, v1, v2, v3] (.int (x + y) :: st) (im) (rm) := ev_iadd pm_m123 d123_82 rfl
theorem d123_83 : decode prog_10_method_21_code 83 = .ok (.bipush 48, 2) := by decide +kernel
theorem s123_83 {v0 v1 v2 v3 : Value}  {st : List Value} {im : IM} {rm : RM}  : ev 123 83 [v0, v1, v2, v3] st im rm = ev 123 85 [v0, v1, v2, v3] (.int (nI 48) :: st) (im) (rm) := ev_bipush pm_m123 d123_83 rfl rfl
theorem d123_85 : decode prog_10_method_21_code 85 = .ok (.isub, 1) := by decide +kernel
theorem s123_85 {v0 v1 v2 v3 : Value} {x : Int32} {y : Int32} {st : List Value} {im : IM} {rm : RM}  : ev 123 85 [v0, v1, v2, v3] (.int y :: .int x :: st) im rm = ev 123 86 [v0, v1, v2, v3] (.int (x - y) :: st) (im) (rm) := ev_isub pm_m123 d123_85 rfl
theorem d123_86 : decode prog_10_method_21_code 86 = .ok (.putfield 199, 3) := by decide +kernel
theorem s123_86 {v0 v1 v2 v3 : Value} {a : Nat} {v : Int32} {st : List Value} {im : IM} {rm : RM} (hk : kd a = 18) : ev 123 86 [v0, v1, v2, v3] (.int v :: .ref a :: st) im rm = ev 123 89 [v0, v1, v2, v3] st (pm_w2 im a 37 v) (rm) := ev_putI pm_m123 d123_86 f8_199 rfl rfl hk rfl
theorem d123_89 : decode prog_10_method_21_code 89 = .ok (.iinc 3 1, 3) := by decide +kernel
theorem s123_89 {v0 v1 : Value} {l1 : Int32} {l2 : Int32} {st : List Value} {im : IM} {rm : RM}  : ev 123 89 [v0, v1, .int l1, .int l2] st im rm = ev 123 92 [v0, v1, .int l1, .int (l2 + nI 1)] st (im) (rm) := ev_iinc pm_m123 d123_89 rfl rfl rfl rfl
theorem d123_92 : decode prog_10_method_21_code 92 = .ok (.goto (-36), 3) := by decide +kernel
theorem s123_92 {v0 v1 v2 v3 : Value}  {st : List Value} {im : IM} {rm : RM}  : ev 123 92 [v0, v1, v2, v3] st im rm = ev 123 56 [v0, v1, v2, v3] st (im) (rm) := ev_goto pm_m123 d123_92 rfl rfl
theorem d123_95 : decode prog_10_method_21_code 95 = .ok (.iload_n 2, 1) := by decide +kernel
theorem s123_95 {v0 v1 v3 : Value} {l1 : Int32} {st : List Value} {im : IM} {rm : RM}  : ev 123 95 [v0, v1, .int l1, v3] st im rm = ev 123 96 [v0, v1, .int l1, v3] (.int l1 :: st) (im) (rm) := ev_iload_n pm_m123 d123_95 rfl rfl
theorem d123_96 : decode prog_10_method_21_code 96 = .ok (.ifCond .eq 15, 3) := by decide +kernel
theorem s123_96 {v0 v1 v2 v3 : Value} {x : Int32} {st : List Value} {im : IM} {rm : RM} : ev 123 96 [v0, v1, v2, v3] (.int x :: st) im rm = if x = nI 0 then ev 123 111 [v0, pm_u, pm_u, pm_u] st im rm else ev 123 99 [v0, v1, v2, v3] st im rm := ev_if_eq (y := 0) pm_m123 d123_96 rfl rfl rfl
theorem d123_99 : decode prog_10_method_21_code 99 = .ok (.aload_n 0, 1) := by decide +kernel
theorem s123_99 {v1 v2 v3 : Value} {l1 : Nat} {st : List Value} {im : IM} {rm : RM}  : ev 123 99 [.ref l1, v1, v2, v3] st im rm = ev 123 100 [.ref l1, v1, v2, v3] (.ref l1 :: st) (im) (rm) := ev_aload_n pm_m123 d123_99 rfl rfl
theorem d123_100 : decode prog_10_method_21_code 100 = .ok (.getfield 199, 3) := by decide +kernel
theorem s123_100 {v0 v1 v2 v3 : Value} {a : Nat} {st : List Value} {im : IM} {rm : RM} (hk : kd a = 18) : ev 123 100 [v0, v1, v2, v3] (.ref a :: st) im rm = ev 123 103 [v0, v1, v2, v3] (.int (im a 37) :: st) (im) (rm) := ev_getI pm_m123 d123_100 f8_199 rfl hk rfl
theorem d123_103 : decode prog_10_method_21_code 103 = .ok (.iload_n 1, 1) := by decide +kernel
theorem s123_103 {v0 v2 v3 : Value} {l1 : Int32} {st : List Value} {im : IM} {rm : RM}  : ev 123 103 [v0, .int l1, v2, v3] st im rm = ev 123 104 [v0, .int l1, v2, v3] (.int l1 :: st) (im) (rm) := ev_iload_n pm_m123 d123_103 rfl rfl
theorem d123_104 : decode prog_10_method_21_code 104 = .ok (.if_icmp .gt 7, 3) := by decide +kernel
theorem s123_104 {v0 v1 v2 v3 : Value} {x : Int32} {y : Int32} {st : List Value} {im : IM} {rm : RM} : ev 123 104 [v0, v1, v2, v3] (.int y :: .int x :: st) im rm = if y < x then ev 123 111 [v0, pm_u, pm_u, pm_u] st im rm else ev 123 107 [v0, v1, v2, v3] st im rm := ev_icmp_gt pm_m123 d123_104 rfl rfl rfl
theorem d123_107 : decode prog_10_method_21_code 107 = .ok (.iconst 1, 1) := by decide +kernel
theorem s123_107 {v0 v1 v2 v3 : Value}  {st : List Value} {im : IM} {rm : RM}  : ev 123 107 [v0, v1, v2, v3] st im rm = ev 123 108 [v0, v1, v2, v3] (.int (nI 1) :: st) (im) (rm) := ev_iconst pm_m123 d123_107 rfl rfl
theorem d123_108 : decode prog_10_method_21_code 108 = .ok (.goto 4, 3) := by decide +kernel
theorem s123_108 {v0 v1 v2 v3 : Value}  {st : List Value} {im : IM} {rm : RM}  : ev 123 108 [v0, v1, v2, v3] st im rm = ev 123 112 [v0, pm_u, pm_u, pm_u] st (im) (rm) := ev_goto pm_m123 d123_108 rfl rfl
theorem d123_111 : decode prog_10_method_21_code 111 = .ok (.iconst 0, 1) := by decide +kernel
theorem s123_111 {v0 v1 v2 v3 : Value}  {st : List Value} {im : IM} {rm : RM}  : ev 123 111 [v0, v1, v2, v3] st im rm = ev 123 112 [v0, pm_u, pm_u, pm_u] (.int (nI 0) :: st) (im) (rm) := ev_iconst pm_m123 d123_111 rfl rfl
theorem d123_112 : decode prog_10_method_21_code 112 = .ok (.istore_n 2, 1) := by decide +kernel
theorem s123_112 {v0 v2 v3 : Value} {x1 : Int32} {st : List Value} {im : IM} {rm : RM}  : ev 123 112 [v0, pm_u, v2, v3] (.int x1 :: st) im rm = ev 123 113 [v0, pm_u, .int x1, v3] st (im) (rm) := ev_istore_n pm_m123 d123_112 (Nat.le_of_ble_eq_true rfl) rfl rfl
theorem d123_113 : decode prog_10_method_21_code 113 = .ok (.iload_n 2, 1) := by decide +kernel
theorem s123_113 {v0 v1 v3 : Value} {l1 : Int32} {st : List Value} {im : IM} {rm : RM}  : ev 123 113 [v0, v1, .int l1, v3] st im rm = ev 123 114 [v0, v1, .int l1, v3] (.int l1 :: st) (im) (rm) := ev_iload_n pm_m123 d123_113 rfl rfl
theorem d123_114 : decode prog_10_method_21_code 114 = .ok (.ifCond .eq 7, 3) := by decide +kernel
theorem s123_114 {v0 v1 v2 v3 : Value} {x : Int32} {st : List Value} {im : IM} {rm : RM} : ev 123 114 [v0, v1, v2, v3] (.int x :: st) im rm = if x = nI 0 then ev 123 121 [pm_u, pm_u, v2, pm_u] st im rm else ev 123 117 [v0, v1, v2, v3] st im rm := ev_if_eq (y := 0) pm_m123 d123_114 rfl rfl rfl
theorem d123_117 : decode prog_10_method_21_code 117 = .ok (.aload_n 0, 1) := by decide +kernel
theorem s123_117 {v1 v2 v3 : Value} {l1 : Nat} {st : List Value} {im : IM} {rm : RM}  : ev 123 117 [.ref l1, v1, v2, v3] st im rm = ev 123 118 [.ref l1, v1, v2, v3] (.ref l1 :: st) (im) (rm) := ev_aload_n pm_m123 d123_117 rfl rfl
theorem d123_118 : decode prog_10_method_21_code 118 = .ok (.invokevirtual 196, 3) := by decide +kernel
theorem s123_118 {v0 v1 v2 v3 : Value} {a : Nat} {im : IM} {rm : RM} (hk : kd a = 18) : ev 123 118 [v0, v1, v2, v3] [.ref a] im rm = (ev 120 0 [.ref a] [] im rm).bind (fun r => ev 123 121 [pm_u, pm_u, v2, pm_u] (r.1.toList ++ []) r.2.1 r.2.2) := ev_callV pm_m123 d123_118 l8_196 rfl pm_m120 (by decide) hk rfl ⟨rfl, rfl⟩ rfl rfl
theorem d123_121 : decode prog_10_method_21_code 121 = .ok (.iload_n 2, 1) := by decide +kernel
theorem s123_121 {v0 v1 v3 : Value} {l1 : Int32} {st : List Value} {im : IM} {rm : RM}  : ev 123 121 [v0, v1, .int l1, v3] st im rm = ev 123 122 [v0, v1, .int l1, v3] (.int l1 :: st) (im) (rm) := ev_iload_n pm_m123 d123_121 rfl rfl
theorem d123_122 : decode prog_10_method_21_code 122 = .ok (.ireturn, 1) := by decide +kernel
theorem s123_122 {v0 v1 v2 v3 : Value} {x : Int32} {im : IM} {rm : RM} (hx : x = 0 ∨ x = 1) : ev 123 122 [v0, v1, v2, v3] [.int x] im rm = some (some (.int x), im, rm) := ev_zreturn pm_m123 d123_122 rfl hx
theorem d124_0 : decode prog_10_method_22_code 0 = .ok (.aload_n 0, 1) := by decide +kernel
theorem s124_0 {v1 : Value} {l1 : Nat} {st : List Value} {im : IM} {rm : RM}  : ev 124 0 [.ref l1, v1] st im rm = ev 124 1 [.ref l1, v1] (.ref l1 :: st) (im) (rm) := ev_aload_n pm_m124 d124_0 rfl rfl
theorem d124_1 : decode prog_10_method_22_code 1 = .ok (.ldc 202, 2) := by decide +kernel
theorem s124_1 {v0 v1 : Value}  {st : List Value} {im : IM} {rm : RM}  : ev 124 1 [v0, v1] st im rm = ev 124 3 [v0, v1] (.int (nI 177460) :: st) (im) (rm) := ev_ldc pm_m124 d124_1 (by decide +kernel) rfl
theorem d124_3 : decode prog_10_method_22_code 3 = .ok (.iconst 4, 1) := by decide +kernel
theorem s124_3 {v0 v1 : Value}  {st : List Value} {im : IM} {rm : RM}  : ev 124 3 [v0, v1] st im rm = ev 124 4 [v0, v1] (.int (nI 4) :: st) (im) (rm) := ev_iconst pm_m124 d124_3 rfl rfl
theorem d124_4 : decode prog_10_method_22_code 4 = .ok (.invokevirtual 193, 3) := by decide +kernel
theorem s124_4 {v0 v1 : Value} {a : Nat} {p1 : Int32} {p2 : Int32} {im : IM} {rm : RM} (hk : kd a = 18) : ev 124 4 [v0, v1] [.int p2, .int p1, .ref a] im rm = (ev 121 0 [.ref a, .int p1, .int p2, pm_u, pm_u] [] im rm).bind (fun r => ev 124 7 [v0, v1] (r.1.toList ++ []) r.2.1 r.2.2) := ev_callV pm_m124 d124_4 l8_193 rfl pm_m121 (by decide) hk rfl ⟨rfl, rfl⟩ rfl rfl
theorem d124_7 : decode prog_10_method_22_code 7 = .ok (.ifCond .eq 7, 3) := by decide +kernel
theorem s124_7 {v0 v1 : Value} {x : Int32} {st : List Value} {im : IM} {rm : RM} : ev 124 7 [v0, v1] (.int x :: st) im rm = if x = nI 0 then ev 124 14 [v0, pm_u] st im rm else ev 124 10 [v0, v1] st im rm := ev_if_eq (y := 0) pm_m124 d124_7 rfl rfl rfl
theorem d124_10 : decode prog_10_method_22_code 10 = .ok (.iconst 0, 1) := by decide +kernel
theorem s124_10 {v0 v1 : Value}  {st : List Value} {im : IM} {rm : RM}  : ev 124 10 [v0, v1] st im rm = ev 124 11 [v0, v1] (.int (nI 0) :: st) (im) (rm) := ev_iconst pm_m124 d124_10 rfl rfl
theorem d124_11 : decode prog_10_method_22_code 11 = .ok (.goto 106, 3) := by decide +kernel
theorem s124_11 {v0 v1 : Value}  {st : List Value} {im : IM} {rm : RM}  : ev 124 11 [v0, v1] st im rm = ev 124 117 [v0, pm_u] st (im) (rm) := ev_goto pm_m124 d124_11 rfl rfl
theorem d124_14 : decode prog_10_method_22_code 14 = .ok (.aload_n 0, 1) := by decide +kernel
theorem s124_14 {v1 : Value} {l1 : Nat} {st : List Value} {im : IM} {rm : RM}  : ev 124 14 [.ref l1, v1] st im rm = ev 124 15 [.ref l1, v1] (.ref l1 :: st) (im) (rm) := ev_aload_n pm_m124 d124_14 rfl rfl
theorem d124_15 : decode prog_10_method_22_code 15 = .ok (.ldc 203, 2) := by decide +kernel
theorem s124_15 {v0 v1 : Value}  {st : List Value} {im : IM} {rm : RM}  : ev 124 15 [v0, v1] st im rm = ev 124 17 [v0, v1] (.int (nI 12752151) :: st) (im) (rm) := ev_ldc pm_m124 d124_15 (by decide +kernel) rfl
theorem d124_17 : decode prog_10_method_22_code 17 = .ok (.iconst 5, 1) := by decide +kernel
theorem s124_17 {v0 v1 : Value}  {st : List Value} {im : IM} {rm : RM}  : ev 124 17 [v0, v1] st im rm = ev 124 18 [v0, v1] (.int (nI 5) :: st) (im) (rm) := ev_iconst pm_m124 d124_17 rfl rfl
theorem d124_18 : decode prog_10_method_22_code 18 = .ok (.invokevirtual 193, 3) := by decide +kernel
theorem s124_18 {v0 v1 : Value} {a : Nat} {p1 : Int32} {p2 : Int32} {im : IM} {rm : RM} (hk : kd a = 18) : ev 124 18 [v0, v1] [.int p2, .int p1, .ref a] im rm = (ev 121 0 [.ref a, .int p1, .int p2, pm_u, pm_u] [] im rm).bind (fun r => ev 124 21 [v0, v1] (r.1.toList ++ []) r.2.1 r.2.2) := ev_callV pm_m124 d124_18 l8_193 rfl pm_m121 (by decide) hk rfl ⟨rfl, rfl⟩ rfl rfl
theorem d124_21 : decode prog_10_method_22_code 21 = .ok (.ifCond .eq 7, 3) := by decide +kernel
theorem s124_21 {v0 v1 : Value} {x : Int32} {st : List Value} {im : IM} {rm : RM} : ev 124 21 [v0, v1] (.int x :: st) im rm = if x = nI 0 then ev 124 28 [v0, pm_u] st im rm else ev 124 24 [v0, v1] st im rm := ev_if_eq (y := 0) pm_m124 d124_21 rfl rfl rfl
theorem d124_24 : decode prog_10_method_22_code 24 = .ok (.iconst 1, 1) := by decide +kernel
theorem s124_24 {v0 v1 : Value}  {st : List Value} {im : IM} {rm : RM}  : ev 124 24 [v0, v1] st im rm = ev 124 25 [v0, v1] (.int (nI 1) :: st) (im) (rm) := ev_iconst pm_m124 d124_24 rfl rfl
theorem d124_25 : decode prog_10_method_22_code 25 = .ok (.goto 92, 3) := by decide +kernel
theorem s124_25 {v0 v1 : Value}  {st : List Value} {im : IM} {rm : RM}  : ev 124 25 [v0, v1] st im rm = ev 124 117 [v0, pm_u] st (im) (rm) := ev_goto pm_m124 d124_25 rfl rfl
theorem d124_28 : decode prog_10_method_22_code 28 = .ok (.aload_n 0, 1) := by decide +kernel
theorem s124_28 {v1 : Value} {l1 : Nat} {st : List Value} {im : IM} {rm : RM}  : ev 124 28 [.ref l1, v1] st im rm = ev 124 29 [.ref l1, v1] (.ref l1 :: st) (im) (rm) := ev_aload_n pm_m124 d124_28 rfl rfl
theorem d124_29 : decode prog_10_method_22_code 29 = .ok (.ldc 204, 2) := by decide +kernel
theorem s124_29 {v0 v1 : Value}  {st : List Value} {im : IM} {rm : RM}  : ev 124 29 [v0, v1] st im rm = ev 124 31 [v0, v1] (.int (nI 139938484) :: st) (im) (rm) := ev_ldc pm_m124 d124_29 (by decide +kernel) rfl
theorem d124_31 : decode prog_10_method_22_code 31 = .ok (.bipush 6, 2) := by decide +kernel
theorem s124_31 {v0 v1 : Value}  {st : List Value} {im : IM} {rm : RM}  : ev 124 31 [v0, v1] st im rm = ev 124 33 [v0, v1] (.int (nI 6) :: st) (im) (rm) := ev_bipush pm_m124 d124_31 rfl rfl
theorem d124_33 : decode prog_10_method_22_code 33 = .ok (.invokevirtual 193, 3) := by decide +kernel
theorem s124_33 {v0 v1 : Value} {a : Nat} {p1 : Int32} {p2 : Int32} {im : IM} {rm : RM} (hk : kd a = 18) : ev 124 33 [v0, v1] [.int p2, .int p1, .ref a] im rm = (ev 121 0 [.ref a, .int p1, .int p2, pm_u, pm_u] [] im rm).bind (fun r => ev 124 36 [v0, v1] (r.1.toList ++ []) r.2.1 r.2.2) := ev_callV pm_m124 d124_33 l8_193 rfl pm_m121 (by decide) hk rfl ⟨rfl, rfl⟩ rfl rfl
theorem d124_36 : decode prog_10_method_22_code 36 = .ok (.ifCond .eq 7, 3) := by decide +kernel
theorem s124_36 {v0 v1 : Value} {x : Int32} {st : List Value} {im : IM} {rm : RM} : ev 124 36 [v0, v1] (.int x :: st) im rm = if x = nI 0 then ev 124 43 [v0, pm_u] st im rm else ev 124 39 [v0, v1] st im rm := ev_if_eq (y := 0) pm_m124 d124_36 rfl rfl rfl
theorem d124_39 : decode prog_10_method_22_code 39 = .ok (.iconst 2, 1) := by decide +kernel
theorem s124_39 {v0 v1 : Value}  {st : List Value} {im : IM} {rm : RM}  : ev 124 39 [v0, v1] st im rm = ev 124 40 [v0, v1] (.int (nI 2) :: st) (im) (rm) := ev_iconst pm_m124 d124_39 rfl rfl
theorem d124_40 : decode prog_10_method_22_code 40 = .ok (.goto 77, 3) := by decide +kernel
theorem s124_40 {v0 v1 : Value}  {st : List Value} {im : IM} {rm : RM}  : ev 124 40 [v0, v1] st im rm = ev 124 117 [v0, pm_u] st (im) (rm) := ev_goto pm_m124 d124_40 rfl rfl
theorem d124_43 : decode prog_10_method_22_code 43 = .ok (.aload_n 0, 1) := by decide +kernel
theorem s124_43 {v1 : Value} {l1 : Nat} {st : List Value} {im : IM} {rm : RM}  : ev 124 43 [.ref l1, v1] st im rm = ev 124 44 [.ref l1, v1] (.ref l1 :: st) (im) (rm) := ev_aload_n pm_m124 d124_43 rfl rfl
theorem d124_44 : decode prog_10_method_22_code 44 = .ok (.ldc 205, 2) := by decide +kernel
theorem s124_44 {v0 v1 : Value}  {st : List Value} {im : IM} {rm : RM}  : ev 124 44 [v0, v1] st im rm = ev 124 46 [v0, v1] (.int (nI 679716008) :: st) (im) (rm) := ev_ldc pm_m124 d124_44 (by decide +kernel) rfl
theorem d124_46 : decode prog_10_method_22_code 46 = .ok (.bipush 6, 2) := by decide +kernel
theorem s124_46 {v0 v1 : Value}  {st : List Value} {im : IM} {rm : RM}  : ev 124 46 [v0, v1] st im rm = ev 124 48 [v0, v1] (.int (nI 6) :: st) (im) (rm) := ev_bipush pm_m124 d124_46 rfl rfl
theorem d124_48 : decode prog_10_method_22_code 48 = .ok (.invokevirtual 193, 3) := by decide +kernel
theorem s124_48 {v0 v1 : Value} {a : Nat} {p1 : Int32} {p2 : Int32} {im : IM} {rm : RM} (hk : kd a = 18) : ev 124 48 [v0, v1] [.int p2, .int p1, .ref a] im rm = (ev 121 0 [.ref a, .int p1, .int p2, pm_u, pm_u] [] im rm).bind (fun r => ev 124 51 [v0, v1] (r.1.toList ++ []) r.2.1 r.2.2) := ev_callV pm_m124 d124_48 l8_193 rfl pm_m121 (by decide) hk rfl ⟨rfl, rfl⟩ rfl rfl
theorem d124_51 : decode prog_10_method_22_code 51 = .ok (.ifCond .eq 7, 3) := by decide +kernel
theorem s124_51 {v0 v1 : Value} {x : Int32} {st : List Value} {im : IM} {rm : RM} : ev 124 51 [v0, v1] (.int x :: st) im rm = if x = nI 0 then ev 124 58 [v0, pm_u] st im rm else ev 124 54 [v0, v1] st im rm := ev_if_eq (y := 0) pm_m124 d124_51 rfl rfl rfl
theorem d124_54 : decode prog_10_method_22_code 54 = .ok (.iconst 3, 1) := by decide +kernel
theorem s124_54 {v0 v1 : Value}  {st : List Value} {im : IM} {rm : RM}  : ev 124 54 [v0, v1] st im rm = ev 124 55 [v0, v1] (.int (nI 3) :: st) (im) (rm) := ev_iconst pm_m124 d124_54 rfl rfl
theorem d124_55 : decode prog_10_method_22_code 55 = .ok (.goto 62, 3) := by decide +kernel
theorem s124_55 {v0 v1 : Value}  {st : List Value} {im : IM} {rm : RM}  : ev 124 55 [v0, v1] st im rm = ev 124 117 [v0, pm_u] st (im) (rm) := ev_goto pm_m124 d124_55 rfl rfl
theorem d124_58 : decode prog_10_method_22_code 58 = .ok (.aload_n 0, 1) := by decide +kernel
theorem s124_58 {v1 : Value} {l1 : Nat} {st : List Value} {im : IM} {rm : RM}  : ev 124 58 [.ref l1, v1] st im rm = ev 124 59 [.ref l1, v1] (.ref l1 :: st) (im) (rm) := ev_aload_n pm_m124 d124_58 rfl rfl
theorem d124_59 : decode prog_10_method_22_code 59 = .ok (.ldc 206, 2) := by decide +kernel
theorem s124_59 {v0 v1 : Value}  {st : List Value} {im : IM} {rm : RM}  : ev 124 59 [v0, v1] st im rm = ev 124 61 [v0, v1] (.int (nI 656552) :: st) (im) (rm) := ev_ldc pm_m124 d124_59 (by decide +kernel) rfl
theorem d124_61 : decode prog_10_method_22_code 61 = .ok (.iconst 4, 1) := by decide +kernel
theorem s124_61 {v0 v1 : Value}  {st : List Value} {im : IM} {rm : RM}  : ev 124 61 [v0, v1] st im rm = ev 124 62 [v0, v1] (.int (nI 4) :: st) (im) (rm) := ev_iconst pm_m124 d124_61 rfl rfl
theorem d124_62 : decode prog_10_method_22_code 62 = .ok (.invokevirtual 193, 3) := by decide +kernel
theorem s124_62 {v0 v1 : Value} {a : Nat} {p1 : Int32} {p2 : Int32} {im : IM} {rm : RM} (hk : kd a = 18) : ev 124 62 [v0, v1] [.int p2, .int p1, .ref a] im rm = (ev 121 0 [.ref a, .int p1, .int p2, pm_u, pm_u] [] im rm).bind (fun r => ev 124 65 [v0, v1] (r.1.toList ++ []) r.2.1 r.2.2) := ev_callV pm_m124 d124_62 l8_193 rfl pm_m121 (by decide) hk rfl ⟨rfl, rfl⟩ rfl rfl
theorem d124_65 : decode prog_10_method_22_code 65 = .ok (.ifCond .eq 7, 3) := by decide +kernel
theorem s124_65 {v0 v1 : Value} {x : Int32} {st : List Value} {im : IM} {rm : RM} : ev 124 65 [v0, v1] (.int x :: st) im rm = if x = nI 0 then ev 124 72 [v0, pm_u] st im rm else ev 124 68 [v0, v1] st im rm := ev_if_eq (y := 0) pm_m124 d124_65 rfl rfl rfl
theorem d124_68 : decode prog_10_method_22_code 68 = .ok (.iconst 4, 1) := by decide +kernel
theorem s124_68 {v0 v1 : Value}  {st : List Value} {im : IM} {rm : RM}  : ev 124 68 [v0, v1] st im rm = ev 124 69 [v0, v1] (.int (nI 4) :: st) (im) (rm) := ev_iconst pm_m124 d124_68 rfl rfl
theorem d124_69 : decode prog_10_method_22_code 69 = .ok (.goto 48, 3) := by decide +kernel
theorem s124_69 {v0 v1 : Value}  {st : List Value} {im : IM} {rm : RM}  : ev 124 69 [v0, v1] st im rm = ev 124 117 [v0, pm_u] st (im) (rm) := ev_goto pm_m124 d124_69 rfl rfl
theorem d124_72 : decode prog_10_method_22_code 72 = .ok (.aload_n 0, 1) := by decide +kernel
theorem s124_72 {v1 : Value} {l1 : Nat} {st : List Value} {im : IM} {rm : RM}  : ev 124 72 [.ref l1, v1] st im rm = ev 124 73 [.ref l1, v1] (.ref l1 :: st) (im) (rm) := ev_aload_n pm_m124 d124_72 rfl rfl
theorem d124_73 : decode prog_10_method_22_code 73 = .ok (.ldc 207, 2) := by decide +kernel
theorem s124_73 {v0 v1 : Value}  {st : List Value} {im : IM} {rm : RM}  : ev 124 73 [v0, v1] st im rm = ev 124 75 [v0, v1] (.int (nI 4363795) :: st) (im) (rm) := ev_ldc pm_m124 d124_73 (by decide +kernel) rfl
theorem d124_75 : decode prog_10_method_22_code 75 = .ok (.iconst 5, 1) := by decide +kernel
theorem s124_75 {v0 v1 : Value}  {st : List Value} {im : IM} {rm : RM}  : ev 124 75 [v0, v1] st im rm = ev 124 76 [v0, v1] (.int (nI 5) :: st) (im) (rm) := ev_iconst pm_m124 d124_75 rfl rfl
theorem d124_76 : decode prog_10_method_22_code 76 = .ok (.invokevirtual 193, 3) := by decide +kernel
theorem s124_76 {v0 v1 : Value} {a : Nat} {p1 : Int32} {p2 : Int32} {im : IM} {rm : RM} (hk : kd a = 18) : ev 124 76 [v0, v1] [.int p2, .int p1, .ref a] im rm = (ev 121 0 [.ref a, .int p1, .int p2, pm_u, pm_u] [] im rm).bind (fun r => ev 124 79 [v0, v1] (r.1.toList ++ []) r.2.1 r.2.2) := ev_callV pm_m124 d124_76 l8_193 rfl pm_m121 (by decide) hk rfl ⟨rfl, rfl⟩ rfl rfl
theorem d124_79 : decode prog_10_method_22_code 79 = .ok (.ifCond .eq 7, 3) := by decide +kernel
theorem s124_79 {v0 v1 : Value} {x : Int32} {st : List Value} {im : IM} {rm : RM} : ev 124 79 [v0, v1] (.int x :: st) im rm = if x = nI 0 then ev 124 86 [v0, pm_u] st im rm else ev 124 82 [v0, v1] st im rm := ev_if_eq (y := 0) pm_m124 d124_79 rfl rfl rfl
theorem d124_82 : decode prog_10_method_22_code 82 = .ok (.iconst 5, 1) := by decide +kernel
theorem s124_82 {v0 v1 : Value}  {st : List Value} {im : IM} {rm : RM}  : ev 124 82 [v0, v1] st im rm = ev 124 83 [v0, v1] (.int (nI 5) :: st) (im) (rm) := ev_iconst pm_m124 d124_82 rfl rfl
theorem d124_83 : decode prog_10_method_22_code 83 = .ok (.goto 34, 3) := by decide +kernel
theorem s124_83 {v0 v1 : Value}  {st : List Value} {im : IM} {rm : RM}  : ev 124 83 [v0, v1] st im rm = ev 124 117 [v0, pm_u] st (im) (rm) := ev_goto pm_m124 d124_83 rfl rfl
theorem d124_86 : decode prog_10_method_22_code 86 = .ok (.aload_n 0, 1) := by decide +kernel
theorem s124_86 {v1 : Value} {l1 : Nat} {st : List Value} {im : IM} {rm : RM}  : ev 124 86 [.ref l1, v1] st im rm = ev 124 87 [.ref l1, v1] (.ref l1 :: st) (im) (rm) := ev_aload_n pm_m124 d124_86 rfl rfl
theorem d124_87 : decode prog_10_method_22_code 87 = .ok (.ldc 208, 2) := by decide +kernel
theorem s124_87 {v0 v1 : Value}  {st : List Value} {im : IM} {rm : RM}  : ev 124 87 [v0, v1] st im rm = ev 124 89 [v0, v1] (.int (nI 132588) :: st) (im) (rm) := ev_ldc pm_m124 d124_87 (by decide +kernel) rfl
theorem d124_89 : decode prog_10_method_22_code 89 = .ok (.iconst 4, 1) := by decide +kernel
theorem s124_89 {v0 v1 : Value}  {st : List Value} {im : IM} {rm : RM}  : ev 124 89 [v0, v1] st im rm = ev 124 90 [v0, v1] (.int (nI 4) :: st) (im) (rm) := ev_iconst pm_m124 d124_89 rfl rfl
theorem d124_90 : decode prog_10_method_22_code 90 = .ok (.invokevirtual 193, 3) := by decide +kernel
theorem s124_90 {v0 v1 : Value} {a : Nat} {p1 : Int32} {p2 : Int32} {im : IM} {rm : RM} (hk : kd a = 18) : ev 124 90 [v0, v1] [.int p2, .int p1, .ref a] im rm = (ev 121 0 [.ref a, .int p1, .int p2, pm_u, pm_u] [] im rm).bind (fun r => ev 124 93 [v0, v1] (r.1.toList ++ []) r.2.1 r.2.2) := ev_callV pm_m124 d124_90 l8_193 rfl pm_m121 (by decide) hk rfl ⟨rfl, rfl⟩ rfl rfl
theorem d124_93 : decode prog_10_method_22_code 93 = .ok (.ifCond .eq 8, 3) := by decide +kernel
theorem s124_93 {v0 v1 : Value} {x : Int32} {st : List Value} {im : IM} {rm : RM} : ev 124 93 [v0, v1] (.int x :: st) im rm = if x = nI 0 then ev 124 101 [v0, pm_u] st im rm else ev 124 96 [v0, v1] st im rm := ev_if_eq (y := 0) pm_m124 d124_93 rfl rfl rfl
theorem d124_96 : decode prog_10_method_22_code 96 = .ok (.bipush 6, 2) := by decide +kernel
theorem s124_96 {v0 v1 : Value}  {st : List Value} {im : IM} {rm : RM}  : ev 124 96 [v0, v1] st im rm = ev 124 98 [v0, v1] (.int (nI 6) :: st) (im) (rm) := ev_bipush pm_m124 d124_96 rfl rfl
theorem d124_98 : decode prog_10_method_22_code 98 = .ok (.goto 19, 3) := by decide +kernel
theorem s124_98 {v0 v1 : Value}  {st : List Value} {im : IM} {rm : RM}  : ev 124 98 [v0, v1] st im rm = ev 124 117 [v0, pm_u] st (im) (rm) := ev_goto pm_m124 d124_98 rfl rfl
theorem d124_101 : decode prog_10_method_22_code 101 = .ok (.aload_n 0, 1) := by decide +kernel
theorem s124_101 {v1 : Value} {l1 : Nat} {st : List Value} {im : IM} {rm : RM}  : ev 124 101 [.ref l1, v1] st im rm = ev 124 102 [.ref l1, v1] (.ref l1 :: st) (im) (rm) := ev_aload_n pm_m124 d124_101 rfl rfl
theorem d124_102 : decode prog_10_method_22_code 102 = .ok (.ldc 209, 2) := by decide +kernel
theorem s124_102 {v0 v1 : Value}  {st : List Value} {im : IM} {rm : RM}  : ev 124 102 [v0, v1] st im rm = ev 124 104 [v0, v1] (.int (nI 671219) :: st) (im) (rm) := ev_ldc pm_m124 d124_102 (by decide +kernel) rfl
theorem d124_104 : decode prog_10_method_22_code 104 = .ok (.iconst 4, 1) := by decide +kernel
theorem s124_104 {v0 v1 : Value}  {st : List Value} {im : IM} {rm : RM}  : ev 124 104 [v0, v1] st im rm = ev 124 105 [v0, v1] (.int (nI 4) :: st) (im) (rm) := ev_iconst pm_m124 d124_104 rfl rfl
theorem d124_105 : decode prog_10_method_22_code 105 = .ok (.invokevirtual 193, 3) := by decide +kernel
theorem s124_105 {v0 v1 : Value} {a : Nat} {p1 : Int32} {p2 : Int32} {im : IM} {rm : RM} (hk : kd a = 18) : ev 124 105 [v0, v1] [.int p2, .int p1, .ref a] im rm = (ev 121 0 [.ref a, .int p1, .int p2, pm_u, pm_u] [] im rm).bind (fun r => ev 124 108 [v0, v1] (r.1.toList ++ []) r.2.1 r.2.2) := ev_callV pm_m124 d124_105 l8_193 rfl pm_m121 (by decide) hk rfl ⟨rfl, rfl⟩ rfl rfl
theorem d124_108 : decode prog_10_method_22_code 108 = .ok (.ifCond .eq 8, 3) := by decide +kernel
theorem s124_108 {v0 v1 : Value} {x : Int32} {st : List Value} {im : IM} {rm : RM} : ev 124 108 [v0, v1] (.int x :: st) im rm = if x = nI 0 then ev 124 116 [v0, pm_u] st im rm else ev 124 111 [v0, v1] st im rm := ev_if_eq (y := 0) pm_m124 d124_108 rfl rfl rfl
theorem d124_111 : decode prog_10_method_22_code 111 = .ok (.bipush 7, 2) := by decide +kernel
theorem s124_111 {v0 v1 : Value}  {st : List Value} {im : IM} {rm : RM}  : ev 124 111 [v0, v1] st im rm = ev 124 113 [v0, v1] (.int (nI 7) :: st) (im) (rm) := ev_bipush pm_m124 d124_111 rfl rfl
theorem d124_113 : decode prog_10_method_22_code 113 = .ok (.goto 4, 3) := by decide +kernel
theorem s124_113 {v0 v1 : Value}  {st : List Value} {im : IM} {rm : RM}  : ev 124 113 [v0, v1] st im rm = ev 124 117 [v0, pm_u] st (im) (rm) := ev_goto pm_m124 d124_113 rfl rfl
theorem d124_116 : decode prog_10_method_22_code 116 = .ok (.iconst (-1), 1) := by decide +kernel
theorem s124_116 {v0 v1 : Value}  {st : List Value} {im : IM} {rm : RM}  : ev 124 116 [v0, v1] st im rm = ev 124 117 [v0, pm_u] (.int ((-1 : Int32)) :: st) (im) (rm) := ev_iconst pm_m124 d124_116 rfl rfl
theorem d124_117 : decode prog_10_method_22_code 117 = .ok (.istore_n 1, 1) := by decide +kernel
theorem s124_117 {v1 : Value} {l1 : Nat} {x2 : Int32} {st : List Value} {im : IM} {rm : RM}  : ev 124 117 [.ref l1, v1] (.int x2 :: st) im rm = ev 124 118 [.ref l1, .int x2] st (im) (rm) := ev_istore_n pm_m124 d124_117 (Nat.le_of_ble_eq_true rfl) rfl rfl
theorem d124_118 : decode prog_10_method_22_code 118 = .ok (.iload_n 1, 1) := by decide +kernel
theorem s124_118 {v0 : Value} {l1 : Int32} {st : List Value} {im : IM} {rm : RM}  : ev 124 118 [v0, .int l1] st im rm = ev 124 119 [v0, .int l1] (.int l1 :: st) (im) (rm) := ev_iload_n pm_m124 d124_118 rfl rfl
theorem d124_119 : decode prog_10_method_22_code 119 = .ok (.iconst (-1), 1) := by decide +kernel
theorem s124_119 {v0 v1 : Value}  {st : List Value} {im : IM} {rm : RM}  : ev 124 119 [v0, v1] st im rm = ev 124 120 [v0, v1] (.int ((-1 : Int32)) :: st) (im) (rm) := ev_iconst pm_m124 d124_119 rfl rfl
theorem d124_120 : decode prog_10_method_22_code 120 = .ok (.if_icmp .ne 5, 3) := by decide +kernel
theorem s124_120 {v0 v1 : Value} {x : Int32} {y : Int32} {st : List Value} {im : IM} {rm : RM} : ev 124 120 [v0, v1] (.int y :: .int x :: st) im rm = if x = y then ev 124 123 [v0, v1] st im rm else ev 124 125 [v0, v1] st im rm := ev_icmp_ne pm_m124 d124_120 rfl rfl rfl
theorem d124_123 : decode prog_10_method_22_code 123 = .ok (.iconst 0, 1) := by decide +kernel
theorem s124_123 {v0 v1 : Value}  {st : List Value} {im : IM} {rm : RM}  : ev 124 123 [v0, v1] st im rm = ev 124 124 [v0, v1] (.int (nI 0) :: st) (im) (rm) := ev_iconst pm_m124 d124_123 rfl rfl
theorem d124_124 : decode prog_10_method_22_code 124 = .ok (.ireturn, 1) := by decide +kernel
theorem s124_124 {v0 v1 : Value} {x : Int32} {im : IM} {rm : RM} (hx : x = 0 ∨ x = 1) : ev 124 124 [v0, v1] [.int x] im rm = some (some (.int x), im, rm) := ev_zreturn pm_m124 d124_124 rfl hx
theorem d124_125 : decode prog_10_method_22_code 125 = .ok (.aload_n 0, 1) := by decide +kernel
theorem s124_125 {v1 : Value} {l1 : Nat} {st : List Value} {im : IM} {rm : RM}  : ev 124 125 [.ref l1, v1] st im rm = ev 124 126 [.ref l1, v1] (.ref l1 :: st) (im) (rm) := ev_aload_n pm_m124 d124_125 rfl rfl
theorem d124_126 : decode prog_10_method_22_code 126 = .ok (.invokevirtual 196, 3) := by decide +kernel
theorem s124_126 {v0 v1 : Value} {a : Nat} {im : IM} {rm : RM} (hk : kd a = 18) : ev 124 126 [v0, v1] [.ref a] im rm = (ev 120 0 [.ref a] [] im rm).bind (fun r => ev 124 129 [v0, v1] (r.1.toList ++ []) r.2.1 r.2.2) := ev_callV pm_m124 d124_126 l8_196 rfl pm_m120 (by decide) hk rfl ⟨rfl, rfl⟩ rfl rfl
theorem d124_129 : decode prog_10_method_22_code 129 = .ok (.aload_n 0, 1) := by decide +kernel
theorem s124_129 {v1 : Value} {l1 : Nat} {st : List Value} {im : IM} {rm : RM}  : ev 124 129 [.ref l1, v1] st im rm = ev 124 130 [.ref l1, v1] (.ref l1 :: st) (im) (rm) := ev_aload_n pm_m124 d124_129 rfl rfl
theorem d124_130 : decode prog_10_method_22_code 130 = .ok (.iload_n 1, 1) := by decide +kernel
theorem s124_130 {v0 : Value} {l1 : Int32} {st : List Value} {im : IM} {rm : RM}  : ev 124 130 [v0, .int l1] st im rm = ev 124 131 [v0, .int l1] (.int l1 :: st) (im) (rm) := ev_iload_n pm_m124 d124_130 rfl rfl
theorem d124_131 : decode prog_10_method_22_code 131 = .ok (.putfield 199, 3) := by decide +kernel
theorem s124_131 {v0 v1 : Value} {a : Nat} {v : Int32} {st : List Value} {im : IM} {rm : RM} (hk : kd a = 18) : ev 124 131 [v0, v1] (.int v :: .ref a :: st) im rm = ev 124 134 [v0, v1] st (pm_w2 im a 37 v) (rm) := ev_putI pm_m124 d124_131 f8_199 rfl rfl hk rfl
theorem d124_134 : decode prog_10_method_22_code 134 = .ok (.iconst 1, 1) := by decide +kernel
theorem s124_134 {v0 v1 : Value}  {st : List Value} {im : IM} {rm : RM}  : ev 124 134 [v0, v1] st im rm = ev 124 135 [v0, v1] (.int (nI 1) :: st) (im) (rm) := ev_iconst pm_m124 d124_134 rfl rfl
theorem d124_135 : decode prog_10_method_22_code 135 = .ok (.ireturn, 1) := by decide +kernel
theorem s124_135 {v0 v1 : Value} {x : Int32} {im : IM} {rm : RM} (hx : x = 0 ∨ x = 1) : ev 124 135 [v0, v1] [.int x] im rm = some (some (.int x), im, rm) := ev_zreturn pm_m124 d124_135 rfl hx
theorem d125_0 : decode prog_10_method_23_code 0 = .ok (.aload_n 0, 1) := by decide +kernel
theorem s125_0 {v1 v2 v3 : Value} {l1 : Nat} {st : List Value} {im : IM} {rm : RM}  : ev 125 0 [.ref l1, v1, v2, v3] st im rm = ev 125 1 [.ref l1, v1, v2, v3] (.ref l1 :: st) (im) (rm) := ev_aload_n pm_m125 d125_0 rfl rfl
theorem d125_1 : decode prog_10_method_23_code 1 = .ok (.invokevirtual 210, 3) := by decide +kernel
theorem s125_1 {v0 v1 v2 v3 : Value} {a : Nat} {im : IM} {rm : RM} (hk : kd a = 18) : ev 125 1 [v0, v1, v2, v3] [.ref a] im rm = (ev 124 0 [.ref a, pm_u] [] im rm).bind (fun r => ev 125 4 [v0, v1, v2, v3] (r.1.toList ++ []) r.2.1 r.2.2) := ev_callV pm_m125 d125_1 l8_210 rfl pm_m124 (by decide) hk rfl ⟨rfl, rfl⟩ rfl rfl
theorem d125_4 : decode prog_10_method_23_code 4 = .ok (.ifCond .ne 5, 3) := by decide +kernel
theorem s125_4 {v0 v1 v2 v3 : Value} {x : Int32} {st : List Value} {im : IM} {rm : RM} : ev 125 4 [v0, v1, v2, v3] (.int x :: st) im rm = if x = nI 0 then ev 125 7 [v0, v1, v2, v3] st im rm else ev 125 9 [v0, v1, pm_u, pm_u] st im rm := ev_if_ne (y := 0) pm_m125 d125_4 rfl rfl rfl
theorem d125_7 : decode prog_10_method_23_code 7 = .ok (.iconst 0, 1) := by decide +kernel
theorem s125_7 {v0 v1 v2 v3 : Value}  {st : List Value} {im : IM} {rm : RM}  : ev 125 7 [v0, v1, v2, v3] st im rm = ev 125 8 [v0, v1, v2, v3] (.int (nI 0) :: st) (im) (rm) := ev_iconst pm_m125 d125_7 rfl rfl
theorem d125_8 : decode prog_10_method_23_code 8 = .ok (.ireturn, 1) := by decide +kernel
theorem s125_8 {v0 v1 v2 v3 : Value} {x : Int32} {im : IM} {rm : RM} (hx : x = 0 ∨ x = 1) : ev 125 8 [v0, v1, v2, v3] [.int x] im rm = some (some (.int x), im, rm) := ev_zreturn pm_m125 d125_8 rfl hx
theorem d125_9 : decode prog_10_method_23_code 9 = .ok (.iconst 4, 1) := by decide +kernel
theorem s125_9 {v0 v1 v2 v3 : Value}  {st : List Value} {im : IM} {rm : RM}  : ev 125 9 [v0, v1, v2, v3] st im rm = ev 125 10 [v0, v1, v2, v3] (.int (nI 4) :: st) (im) (rm) := ev_iconst pm_m125 d125_9 rfl rfl
theorem d125_10 : decode prog_10_method_23_code 10 = .ok (.iload_n 1, 1) := by decide +kernel
theorem s125_10 {v0 v2 v3 : Value} {l1 : Int32} {st : List Value} {im : IM} {rm : RM}  : ev 125 10 [v0, .int l1, v2, v3] st im rm = ev 125 11 [v0, .int l1, v2, v3] (.int l1 :: st) (im) (rm) := ev_iload_n pm_m125 d125_10 rfl rfl
theorem d125_11 : decode prog_10_method_23_code 11 = .ok (.imul, 1) := by decide +kernel
theorem s125_11 {v0 v1 v2 v3 : Value} {x : Int32} {y : Int32} {st : List Value} {im : IM} {rm : RM}  : ev 125 11 [v0, v1, v2, v3] (.int y :: .int x :: st) im rm = ev 125 12 [v0, v1, v2, v3] (.int (x * y) :: st) (im) (rm) := ev_imul pm_m125 d125_11 rfl
theorem d125_12 : decode prog_10_method_23_code 12 = .ok (.aload_n 0, 1) := by decide +kernel
theorem s125_12 {v1 v2 v3 : Value} {l1 : Nat} {st : List Value} {im : IM} {rm : RM}  : ev 125 12 [.ref l1, v1, v2, v3] st im rm = ev 125 13 [.ref l1, v1, v2, v3] (.ref l1 :: st) (im) (rm) := ev_aload_n pm_m125 d125_12 rfl rfl
theorem d125_13 : decode prog_10_method_23_code 13 = .ok (.getfield 49, 3) := by decide +kernel
theorem s125_13 {v0 v1 v2 v3 : Value} {a : Nat} {st : List Value} {im : IM} {rm : RM} (hk : kd a = 18) : ev 125 13 [v0, v1, v2, v3] (.ref a :: st) im rm = ev 125 16 [v0, v1, v2, v3] (pm_ro (rm a 14) :: st) (im) (rm) := ev_getR pm_m125 d125_13 f8_49 rfl hk rfl
theorem d125_16 : decode prog_10_method_23_code 16 = .ok (.iload_n 1, 1) := by decide +kernel
theorem s125_16 {v0 v2 v3 : Value} {l1 : Int32} {st : List Value} {im : IM} {rm : RM}  : ev 125 16 [v0, .int l1, v2, v3] st im rm = ev 125 17 [v0, .int l1, v2, v3] (.int l1 :: st) (im) (rm) := ev_iload_n pm_m125 d125_16 rfl rfl
theorem d125_17 : decode prog_10_method_23_code 17 = .ok (.iaload, 1) := by decide +kernel
theorem s125_17 {v0 v1 v2 v3 : Value} {a : Nat} {i : Int32} {st : List Value} {im : IM} {rm : RM} (hk : kd a = 0) (hi : pm_in i (ln a) = true) : ev 125 17 [v0, v1, v2, v3] (.int i :: .ref a :: st) im rm = ev 125 18 [v0, v1, v2, v3] (.int (im a i.toNatClampNeg) :: st) (im) (rm) := ev_iald pm_m125 d125_17 hk hi rfl
theorem d125_18 : decode prog_10_method_23_code 18 = .ok (.iadd, 1) := by decide +kernel
theorem s125_18 {v0 v1 v2 v3 : Value} {x : Int32} {y : Int32} {st : List Value} {im : IM} {rm : RM}  : ev 125 18 [v0, v1, v2, v3] (.int y :: .int x :: st) im rm = ev 125 19 [v0, v1, v2, v3] (.int (x + y) :: st) (im) (rm) := ev_iadd pm_m125 d125_18 rfl
theorem d125_19 : decode prog_10_method_23_code 19 = .ok (.istore_n 2, 1) := by decide +kernel
theorem s125_19 {v0 v2 v3 : Value} {l1 : Int32} {x2 : Int32} {st : List Value} {im : IM} {rm : RM}  : ev 125 19 [v0, .int l1, v2, v3] (.int x2 :: st) im rm = ev 125 20 [v0, .int l1, .int x2, v3] st (im) (rm) := ev_istore_n pm_m125 d125_19 (Nat.le_of_ble_eq_true rfl) rfl rfl
theorem d125_20 : decode prog_10_method_23_code 20 = .ok (.aload_n 0, 1) := by decide +kernel
theorem s125_20 {v1 v2 v3 : Value} {l1 : Nat} {st : List Value} {im : IM} {rm : RM}  : ev 125 20 [.ref l1, v1, v2, v3] st im rm = ev 125 21 [.ref l1, v1, v2, v3] (.ref l1 :: st) (im) (rm) := ev_aload_n pm_m125 d125_20 rfl rfl
theorem d125_21 : decode prog_10_method_23_code 21 = .ok (.getfield 52, 3) := by decide +kernel
theorem s125_21 {v0 v1 v2 v3 : Value} {a : Nat} {st : List Value} {im : IM} {rm : RM} (hk : kd a = 18) : ev 125 21 [v0, v1, v2, v3] (.ref a :: st) im rm = ev 125 24 [v0, v1, v2, v3] (pm_ro (rm a 15) :: st) (im) (rm) := ev_getR pm_m125 d125_21 f8_52 rfl hk rfl
theorem d125_24 : decode prog_10_method_23_code 24 = .ok (.iload_n 2, 1) := by decide +kernel
theorem s125_24 {v0 v1 v3 : Value} {l1 : Int32} {st : List Value} {im : IM} {rm : RM}  : ev 125 24 [v0, v1, .int l1, v3] st im rm = ev 125 25 [v0, v1, .int l1, v3] (.int l1 :: st) (im) (rm) := ev_iload_n pm_m125 d125_24 rfl rfl
theorem d125_25 : decode prog_10_method_23_code 25 = .ok (.aload_n 0, 1) := by decide +kernel
theorem s125_25 {v1 v2 v3 : Value} {l1 : Nat} {st : List Value} {im : IM} {rm : RM}  : ev 125 25 [.ref l1, v1, v2, v3] st im rm = ev 125 26 [.ref l1, v1, v2, v3] (.ref l1 :: st) (im) (rm) := ev_aload_n pm_m125 d125_25 rfl rfl
theorem d125_26 : decode prog_10_method_23_code 26 = .ok (.getfield 199, 3) := by decide +kernel
theorem s125_26 {v0 v1 v2 v3 : Value} {a : Nat} {st : List Value} {im : IM} {rm : RM} (hk : kd a = 18) : ev 125 26 [v0, v1, v2, v3] (.ref a :: st) im rm = ev 125 29 [v0, v1, v2, v3] (.int (im a 37) :: st) (im) (rm) := ev_getI pm_m125 d125_26 f8_199 rfl hk rfl
theorem d125_29 : decode prog_10_method_23_code 29 = .ok (.iastore, 1) := by decide +kernel
theorem s125_29 {v0 v1 v2 v3 : Value} {a : Nat} {i : Int32} {v : Int32} {st : List Value} {im : IM} {rm : RM} (hk : kd a = 0) (hi : pm_in i (ln a) = true) : ev 125 29 [v0, v1, v2, v3] (.int v :: .int i :: .ref a :: st) im rm = ev 125 30 [v0, v1, v2, v3] st (pm_w2 im a i.toNatClampNeg v) (rm) := ev_iast pm_m125 d125_29 hk hi rfl
theorem d125_30 : decode prog_10_method_23_code 30 = .ok (.aload_n 0, 1) := by decide +kernel
theorem s125_30 {v1 v2 v3 : Value} {l1 : Nat} {st : List Value} {im : IM} {rm : RM}  : ev 125 30 [.ref l1, v1, v2, v3] st im rm = ev 125 31 [.ref l1, v1, v2, v3] (.ref l1 :: st) (im) (rm) := ev_aload_n pm_m125 d125_30 rfl rfl
theorem d125_31 : decode prog_10_method_23_code 31 = .ok (.ldc 214, 2) := by decide +kernel
theorem s125_31 {v0 v1 v2 v3 : Value}  {st : List Value} {im : IM} {rm : RM}  : ev 125 31 [v0, v1, v2, v3] st im rm = ev 125 33 [v0, v1, v2, v3] (.int (nI 5979201) :: st) (im) (rm) := ev_ldc pm_m125 d125_31 (by decide +kernel) rfl
theorem d125_33 : decode prog_10_method_23_code 33 = .ok (.iconst 5, 1) := by decide +kernel
theorem s125_33 {v0 v1 v2 v3 : Value}  {st : List Value} {im : IM} {rm : RM}  : ev 125 33 [v0, v1, v2, v3] st im rm = ev 125 34 [v0, v1, v2, v3] (.int (nI 5) :: st) (im) (rm) := ev_iconst pm_m125 d125_33 rfl rfl
theorem d125_34 : decode prog_10_method_23_code 34 = .ok (.invokevirtual 193, 3) := by decide +kernel
theorem s125_34 {v0 v1 v2 v3 : Value} {a : Nat} {p1 : Int32} {p2 : Int32} {im : IM} {rm : RM} (hk : kd a = 18) : ev 125 34 [v0, v1, v2, v3] [.int p2, .int p1, .ref a] im rm = (ev 121 0 [.ref a, .int p1, .int p2, pm_u, pm_u] [] im rm).bind (fun r => ev 125 37 [v0, v1, v2, v3] (r.1.toList ++ []) r.2.1 r.2.2) := ev_callV pm_m125 d125_34 l8_193 rfl pm_m121 (by decide) hk rfl ⟨rfl, rfl⟩ rfl rfl
theorem d125_37 : decode prog_10_method_23_code 37 = .ok (.istore_n 3, 1) := by decide +kernel
theorem s125_37 {v0 v1 v3 : Value} {l1 : Int32} {x2 : Int32} {st : List Value} {im : IM} {rm : RM}  : ev 125 37 [v0, v1, .int l1, v3] (.int x2 :: st) im rm = ev 125 38 [v0, v1, .int l1, .int x2] st (im) (rm) := ev_istore_n pm_m125 d125_37 (Nat.le_of_ble_eq_true rfl) rfl rfl
theorem d125_38 : decode prog_10_method_23_code 38 = .ok (.iload_n 3, 1) := by decide +kernel
theorem s125_38 {v0 v1 v2 : Value} {l1 : Int32} {st : List Value} {im : IM} {rm : RM}  : ev 125 38 [v0, v1, v2, .int l1] st im rm = ev 125 39 [v0, v1, v2, .int l1] (.int l1 :: st) (im) (rm) := ev_iload_n pm_m125 d125_38 rfl rfl
theorem d125_39 : decode prog_10_method_23_code 39 = .ok (.ifCond .ne 15, 3) := by decide +kernel
theorem s125_39 {v0 v1 v2 v3 : Value} {x : Int32} {st : List Value} {im : IM} {rm : RM} : ev 125 39 [v0, v1, v2, v3] (.int x :: st) im rm = if x = nI 0 then ev 125 42 [v0, v1, v2, v3] st im rm else ev 125 54 [v0, v1, v2, v3] st im rm := ev_if_ne (y := 0) pm_m125 d125_39 rfl rfl rfl
theorem d125_42 : decode prog_10_method_23_code 42 = .ok (.aload_n 0, 1) := by decide +kernel
theorem s125_42 {v1 v2 v3 : Value} {l1 : Nat} {st : List Value} {im : IM} {rm : RM}  : ev 125 42 [.ref l1, v1, v2, v3] st im rm = ev 125 43 [.ref l1, v1, v2, v3] (.ref l1 :: st) (im) (rm) := ev_aload_n pm_m125 d125_42 rfl rfl
theorem d125_43 : decode prog_10_method_23_code 43 = .ok (.ldc 215, 2) := by decide +kernel
theorem s125_43 {v0 v1 v2 v3 : Value}  {st : List Value} {im : IM} {rm : RM}  : ev 125 43 [v0, v1, v2, v3] st im rm = ev 125 45 [v0, v1, v2, v3] (.int (nI 24621218) :: st) (im) (rm) := ev_ldc pm_m125 d125_43 (by decide +kernel) rfl
theorem d125_45 : decode prog_10_method_23_code 45 = .ok (.iconst 5, 1) := by decide +kernel
theorem s125_45 {v0 v1 v2 v3 : Value}  {st : List Value} {im : IM} {rm : RM}  : ev 125 45 [v0, v1, v2, v3] st im rm = ev 125 46 [v0, v1, v2, v3] (.int (nI 5) :: st) (im) (rm) := ev_iconst pm_m125 d125_45 rfl rfl
theorem d125_46 : decode prog_10_method_23_code 46 = .ok (.invokevirtual 193, 3) := by decide +kernel
theorem s125_46 {v0 v1 v2 v3 : Value} {a : Nat} {p1 : Int32} {p2 : Int32} {im : IM} {rm : RM} (hk : kd a = 18) : ev 125 46 [v0, v1, v2, v3] [.int p2, .int p1, .ref a] im rm = (ev 121 0 [.ref a, .int p1, .int p2, pm_u, pm_u] [] im rm).bind (fun r => ev 125 49 [v0, v1, v2, v3] (r.1.toList ++ []) r.2.1 r.2.2) := ev_callV pm_m125 d125_46 l8_193 rfl pm_m121 (by decide) hk rfl ⟨rfl, rfl⟩ rfl rfl
theorem d125_49 : decode prog_10_method_23_code 49 = .ok (.ifCond .ne 5, 3) := by decide +kernel
theorem s125_49 {v0 v1 v2 v3 : Value} {x : Int32} {st : List Value} {im : IM} {rm : RM} : ev 125 49 [v0, v1, v2, v3] (.int x :: st) im rm = if x = nI 0 then ev 125 52 [v0, v1, v2, v3] st im rm else ev 125 54 [v0, v1, v2, v3] st im rm := ev_if_ne (y := 0) pm_m125 d125_49 rfl rfl rfl
theorem d125_52 : decode prog_10_method_23_code 52 = .ok (.iconst 0, 1) := by decide +kernel
theorem s125_52 {v0 v1 v2 v3 : Value}  {st : List Value} {im : IM} {rm : RM}  : ev 125 52 [v0, v1, v2, v3] st im rm = ev 125 53 [v0, v1, v2, v3] (.int (nI 0) :: st) (im) (rm) := ev_iconst pm_m125 d125_52 rfl rfl
theorem d125_53 : decode prog_10_method_23_code 53 = .ok (.ireturn, 1) := by decide +kernel
theorem s125_53 {v0 v1 v2 v3 : Value} {x : Int32} {im : IM} {rm : RM} (hx : x = 0 ∨ x = 1) : ev 125 53 [v0, v1, v2, v3] [.int x] im rm = some (some (.int x), im, rm) := ev_zreturn pm_m125 d125_53 rfl hx
theorem d125_54 : decode prog_10_method_23_code 54 = .ok (.aload_n 0, 1) := by decide +kernel
theorem s125_54 {v1 v2 v3 : Value} {l1 : Nat} {st : List Value} {im : IM} {rm : RM}  : ev 125 54 [.ref l1, v1, v2, v3] st im rm = ev 125 55 [.ref l1, v1, v2, v3] (.ref l1 :: st) (im) (rm) := ev_aload_n pm_m125 d125_54 rfl rfl
theorem d125_55 : decode prog_10_method_23_code 55 = .ok (.invokevirtual 196, 3) := by decide +kernel
theorem s125_55 {v0 v1 v2 v3 : Value} {a : Nat} {im : IM} {rm : RM} (hk : kd a = 18) : ev 125 55 [v0, v1, v2, v3] [.ref a] im rm = (ev 120 0 [.ref a] [] im rm).bind (fun r => ev 125 58 [v0, v1, v2, v3] (r.1.toList ++ []) r.2.1 r.2.2) := ev_callV pm_m125 d125_55 l8_196 rfl pm_m120 (by decide) hk rfl ⟨rfl, rfl⟩ rfl rfl
theorem d125_58 : decode prog_10_method_23_code 58 = .ok (.aload_n 0, 1) := by decide +kernel
theorem s125_58 {v1 v2 v3 : Value} {l1 : Nat} {st : List Value} {im : IM} {rm : RM}  : ev 125 58 [.ref l1, v1, v2, v3] st im rm = ev 125 59 [.ref l1, v1, v2, v3] (.ref l1 :: st) (im) (rm) := ev_aload_n pm_m125 d125_58 rfl rfl
theorem d125_59 : decode prog_10_method_23_code 59 = .ok (.sipush 999, 3) := by decide +kernel
theorem s125_59 {v0 v1 v2 v3 : Value}  {st : List Value} {im : IM} {rm : RM}  : ev 125 59 [v0, v1, v2, v3] st im rm = ev 125 62 [v0, v1, v2, v3] (.int (nI 999) :: st) (im) (rm) := ev_sipush pm_m125 d125_59 rfl rfl
theorem d125_62 : decode prog_10_method_23_code 62 = .ok (.invokevirtual 216, 3) := by decide +kernel
theorem s125_62 {v0 v1 v2 v3 : Value} {a : Nat} {p1 : Int32} {im : IM} {rm : RM} (hk : kd a = 18) : ev 125 62 [v0, v1, v2, v3] [.int p1, .ref a] im rm = (ev 123 0 [.ref a, .int p1, pm_u, pm_u] [] im rm).bind (fun r => ev 125 65 [v0, v1, v2, v3] (r.1.toList ++ []) r.2.1 r.2.2) := ev_callV pm_m125 d125_62 l8_216 rfl pm_m123 (by decide) hk rfl ⟨rfl, rfl⟩ rfl rfl
theorem d125_65 : decode prog_10_method_23_code 65 = .ok (.ifCond .ne 5, 3) := by decide +kernel
theorem s125_65 {v0 v1 v2 v3 : Value} {x : Int32} {st : List Value} {im : IM} {rm : RM} : ev 125 65 [v0, v1, v2, v3] (.int x :: st) im rm = if x = nI 0 then ev 125 68 [v0, v1, v2, v3] st im rm else ev 125 70 [v0, v1, v2, v3] st im rm := ev_if_ne (y := 0) pm_m125 d125_65 rfl rfl rfl
theorem d125_68 : decode prog_10_method_23_code 68 = .ok (.iconst 0, 1) := by decide +kernel
theorem s125_68 {v0 v1 v2 v3 : Value}  {st : List Value} {im : IM} {rm : RM}  : ev 125 68 [v0, v1, v2, v3] st im rm = ev 125 69 [v0, v1, v2, v3] (.int (nI 0) :: st) (im) (rm) := ev_iconst pm_m125 d125_68 rfl rfl
theorem d125_69 : decode prog_10_method_23_code 69 = .ok (.ireturn, 1) := by decide +kernel
theorem s125_69 {v0 v1 v2 v3 : Value} {x : Int32} {im : IM} {rm : RM} (hx : x = 0 ∨ x = 1) : ev 125 69 [v0, v1, v2, v3] [.int x] im rm = some (some (.int x), im, rm) := ev_zreturn pm_m125 d125_69 rfl hx
theorem d125_70 : decode prog_10_method_23_code 70 = .ok (.aload_n 0, 1) := by decide +kernel
theorem s125_70 {v1 v2 v3 : Value} {l1 : Nat} {st : List Value} {im : IM} {rm : RM}  : ev 125 70 [.ref l1, v1, v2, v3] st im rm = ev 125 71 [.ref l1, v1, v2, v3] (.ref l1 :: st) (im) (rm) := ev_aload_n pm_m125 d125_70 rfl rfl
theorem d125_71 : decode prog_10_method_23_code 71 = .ok (.getfield 55, 3) := by decide +kernel
theorem s125_71 {v0 v1 v2 v3 : Value} {a : Nat} {st : List Value} {im : IM} {rm : RM} (hk : kd a = 18) : ev 125 71 [v0, v1, v2, v3] (.ref a :: st) im rm = ev 125 74 [v0, v1, v2, v3] (pm_ro (rm a 16) :: st) (im) (rm) := ev_getR pm_m125 d125_71 f8_55 rfl hk rfl
theorem d125_74 : decode prog_10_method_23_code 74 = .ok (.iload_n 2, 1) := by decide +kernel
theorem s125_74 {v0 v1 v3 : Value} {l1 : Int32} {st : List Value} {im : IM} {rm : RM}  : ev 125 74 [v0, v1, .int l1, v3] st im rm = ev 125 75 [v0, v1, .int l1, v3] (.int l1 :: st) (im) (rm) := ev_iload_n pm_m125 d125_74 rfl rfl
theorem d125_75 : decode prog_10_method_23_code 75 = .ok (.iload_n 3, 1) := by decide +kernel
theorem s125_75 {v0 v1 v2 : Value} {l1 : Int32} {st : List Value} {im : IM} {rm : RM}  : ev 125 75 [v0, v1, v2, .int l1] st im rm = ev 125 76 [v0, v1, v2, .int l1] (.int l1 :: st) (im) (rm) := ev_iload_n pm_m125 d125_75 rfl rfl
theorem d125_76 : decode prog_10_method_23_code 76 = .ok (.ifCond .eq 7, 3) := by decide +kernel
theorem s125_76 {v0 v1 v2 v3 : Value} {x : Int32} {st : List Value} {im : IM} {rm : RM} : ev 125 76 [v0, v1, v2, v3] (.int x :: st) im rm = if x = nI 0 then ev 125 83 [v0, v1, v2, pm_u] st im rm else ev 125 79 [v0, v1, v2, v3] st im rm := ev_if_eq (y := 0) pm_m125 d125_76 rfl rfl rfl
theorem d125_79 : decode prog_10_method_23_code 79 = .ok (.iconst 1, 1) := by decide +kernel
theorem s125_79 {v0 v1 v2 v3 : Value}  {st : List Value} {im : IM} {rm : RM}  : ev 125 79 [v0, v1, v2, v3] st im rm = ev 125 80 [v0, v1, v2, v3] (.int (nI 1) :: st) (im) (rm) := ev_iconst pm_m125 d125_79 rfl rfl
theorem d125_80 : decode prog_10_method_23_code 80 = .ok (.goto 4, 3) := by decide +kernel
theorem s125_80 {v0 v1 v2 v3 : Value}  {st : List Value} {im : IM} {rm : RM}  : ev 125 80 [v0, v1, v2, v3] st im rm = ev 125 84 [v0, v1, v2, pm_u] st (im) (rm) := ev_goto pm_m125 d125_80 rfl rfl
theorem d125_83 : decode prog_10_method_23_code 83 = .ok (.iconst 0, 1) := by decide +kernel
theorem s125_83 {v0 v1 v2 v3 : Value}  {st : List Value} {im : IM} {rm : RM}  : ev 125 83 [v0, v1, v2, v3] st im rm = ev 125 84 [v0, v1, v2, pm_u] (.int (nI 0) :: st) (im) (rm) := ev_iconst pm_m125 d125_83 rfl rfl
theorem d125_84 : decode prog_10_method_23_code 84 = .ok (.iastore, 1) := by decide +kernel
theorem s125_84 {v0 v1 v2 v3 : Value} {a : Nat} {i : Int32} {v : Int32} {st : List Value} {im : IM} {rm : RM} (hk : kd a = 0) (hi : pm_in i (ln a) = true) : ev 125 84 [v0, v1, v2, v3] (.int v :: .int i :: .ref a :: st) im rm = ev 125 85 [v0, v1, v2, v3] st (pm_w2 im a i.toNatClampNeg v) (rm) := ev_iast pm_m125 d125_84 hk hi rfl
theorem d125_85 : decode prog_10_method_23_code 85 = .ok (.aload_n 0, 1) := by decide +kernel
theorem s125_85 {v1 v2 v3 : Value} {l1 : Nat} {st : List Value} {im : IM} {rm : RM}  : ev 125 85 [.ref l1, v1, v2, v3] st im rm = ev 125 86 [.ref l1, v1, v2, v3] (.ref l1 :: st) (im) (rm) := ev_aload_n pm_m125 d125_85 rfl rfl
theorem d125_86 : decode prog_10_method_23_code 86 = .ok (.getfield 58, 3) := by decide +kernel
theorem s125_86 {v0 v1 v2 v3 : Value} {a : Nat} {st : List Value} {im : IM} {rm : RM} (hk : kd a = 18) : ev 125 86 [v0, v1, v2, v3] (.ref a :: st) im rm = ev 125 89 [v0, v1, v2, v3] (pm_ro (rm a 17) :: st) (im) (rm) := ev_getR pm_m125 d125_86 f8_58 rfl hk rfl
theorem d125_89 : decode prog_10_method_23_code 89 = .ok (.iload_n 2, 1) := by decide +kernel
theorem s125_89 {v0 v1 v3 : Value} {l1 : Int32} {st : List Value} {im : IM} {rm : RM}  : ev 125 89 [v0, v1, .int l1, v3] st im rm = ev 125 90 [v0, v1, .int l1, v3] (.int l1 :: st) (im) (rm) := ev_iload_n pm_m125 d125_89 rfl rfl
theorem d125_90 : decode prog_10_method_23_code 90 = .ok (.aload_n 0, 1) := by decide +kernel
theorem s125_90 {v1 v2 v3 : Value} {l1 : Nat} {st : List Value} {im : IM} {rm : RM}  : ev 125 90 [.ref l1, v1, v2, v3] st im rm = ev 125 91 [.ref l1, v1, v2, v3] (.ref l1 :: st) (im) (rm) := ev_aload_n pm_m125 d125_90 rfl rfl
theorem d125_91 : decode prog_10_method_23_code 91 = .ok (.getfield 199, 3) := by decide +kernel
theorem s125_91 {v0 v1 v2 v3 : Value} {a : Nat} {st : List Value} {im : IM} {rm : RM} (hk : kd a = 18) : ev 125 91 [v0, v1, v2, v3] (.ref a :: st) im rm = ev 125 94 [v0, v1, v2, v3] (.int (im a 37) :: st) (im) (rm) := ev_getI pm_m125 d125_91 f8_199 rfl hk rfl
theorem d125_94 : decode prog_10_method_23_code 94 = .ok (.iastore, 1) := by decide +kernel
theorem s125_94 {v0 v1 v2 v3 : Value} {a : Nat} {i : Int32} {v : Int32} {st : List Value} {im : IM} {rm : RM} (hk : kd a = 0) (hi : pm_in i (ln a) = true) : ev 125 94 [v0, v1, v2, v3] (.int v :: .int i :: .ref a :: st) im rm = ev 125 95 [v0, v1, v2, v3] st (pm_w2 im a i.toNatClampNeg v) (rm) := ev_iast pm_m125 d125_94 hk hi rfl
theorem d125_95 : decode prog_10_method_23_code 95 = .ok (.aload_n 0, 1) := by decide +kernel
theorem s125_95 {v1 v2 v3 : Value} {l1 : Nat} {st : List Value} {im : IM} {rm : RM}  : ev 125 95 [.ref l1, v1, v2, v3] st im rm = ev 125 96 [.ref l1, v1, v2, v3] (.ref l1 :: st) (im) (rm) := ev_aload_n pm_m125 d125_95 rfl rfl
theorem d125_96 : decode prog_10_method_23_code 96 = .ok (.getfield 49, 3) := by decide +kernel
theorem s125_96 {v0 v1 v2 v3 : Value} {a : Nat} {st : List Value} {im : IM} {rm : RM} (hk : kd a = 18) : ev 125 96 [v0, v1, v2, v3] (.ref a :: st) im rm = ev 125 99 [v0, v1, v2, v3] (pm_ro (rm a 14) :: st) (im) (rm) := ev_getR pm_m125 d125_96 f8_49 rfl hk rfl
theorem d125_99 : decode prog_10_method_23_code 99 = .ok (.iload_n 1, 1) := by decide +kernel
theorem s125_99 {v0 v2 v3 : Value} {l1 : Int32} {st : List Value} {im : IM} {rm : RM}  : ev 125 99 [v0, .int l1, v2, v3] st im rm = ev 125 100 [v0, .int l1, v2, v3] (.int l1 :: st) (im) (rm) := ev_iload_n pm_m125 d125_99 rfl rfl
theorem d125_100 : decode prog_10_method_23_code 100 = .ok (.dup2, 1) := by decide +kernel
theorem s125_100 {v0 v1 v2 v3 : Value} {y : Int32} {x : Nat} {st : List Value} {im : IM} {rm : RM}  : ev 125 100 [v0, v1, v2, v3] (.int y :: .ref x :: st) im rm = ev 125 101 [v0, v1, v2, v3] (.int y :: .ref x :: .int y :: .ref x :: st) (im) (rm) := ev_dup2 pm_m125 d125_100 rfl
theorem d125_101 : decode prog_10_method_23_code 101 = .ok (.iaload, 1) := by decide +kernel
theorem s125_101 {v0 v1 v2 v3 : Value} {a : Nat} {i : Int32} {st : List Value} {im : IM} {rm : RM} (hk : kd a = 0) (hi : pm_in i (ln a) = true) : ev 125 101 [v0, v1, v2, v3] (.int i :: .ref a :: st) im rm = ev 125 102 [v0, v1, v2, v3] (.int (im a i.toNatClampNeg) :: st) (im) (rm) := ev_iald pm_m125 d125_101 hk hi rfl
theorem d125_102 : decode prog_10_method_23_code 102 = .ok (.iconst 1, 1) := by decide +kernel
theorem s125_102 {v0 v1 v2 v3 : Value}  {st : List Value} {im : IM} {rm : RM}  : ev 125 102 [v0, v1, v2, v3] st im rm = ev 125 103 [v0, v1, v2, v3] (.int (nI 1) :: st) (im) (rm) := ev_iconst pm_m125 d125_102 rfl rfl
theorem d125_103 : decode prog_10_method_23_code 103 = .ok (.iadd, 1) := by decide +kernel
theorem s125_103 {v0 v1 v2 v3 : Value} {x : Int32} {y : Int32} {st : List Value} {im : IM} {rm : RM}  : ev 125 103 [v0, v1, v2, v3] (.int y :: .int x :: st) im rm = ev 125 104 [v0, v1, v2, v3] (.int (x + y) :: st) (im) (rm) := ev_iadd pm_m125 d125_103 rfl
theorem d125_104 : decode prog_10_method_23_code 104 = .ok (.iastore, 1) := by decide +kernel
theorem s125_104 {v0 v1 v2 v3 : Value} {a : Nat} {i : Int32} {v : Int32} {st : List Value} {im : IM} {rm : RM} (hk : kd a = 0) (hi : pm_in i (ln a) = true) : ev 125 104 [v0, v1, v2, v3] (.int v :: .int i :: .ref a :: st) im rm = ev 125 105 [v0, v1, v2, v3] st (pm_w2 im a i.toNatClampNeg v) (rm) := ev_iast pm_m125 d125_104 hk hi rfl
theorem d125_105 : decode prog_10_method_23_code 105 = .ok (.iconst 1, 1) := by decide +kernel
theorem s125_105 {v0 v1 v2 v3 : Value}  {st : List Value} {im : IM} {rm : RM}  : ev 125 105 [v0, v1, v2, v3] st im rm = ev 125 106 [v0, v1, v2, v3] (.int (nI 1) :: st) (im) (rm) := ev_iconst pm_m125 d125_105 rfl rfl
theorem d125_106 : decode prog_10_method_23_code 106 = .ok (.ireturn, 1) := by decide +kernel
theorem s125_106 {v0 v1 v2 v3 : Value} {x : Int32} {im : IM} {rm : RM} (hx : x = 0 ∨ x = 1) : ev 125 106 [v0, v1, v2, v3] [.int x] im rm = some (some (.int x), im, rm) := ev_zreturn pm_m125 d125_106 rfl hx
theorem d126_0 : decode prog_10_method_24_code 0 = .ok (.bipush 24, 2) := by decide +kernel
theorem s126_0 {v0 v1 v2 : Value}  {st : List Value} {im : IM} {rm : RM}  : ev 126 0 [v0, v1, v2] st im rm = ev 126 2 [v0, v1, v2] (.int (nI 24) :: st) (im) (rm) := ev_bipush pm_m126 d126_0 rfl rfl
theorem d126_2 : decode prog_10_method_24_code 2 = .ok (.aload_n 0, 1) := by decide +kernel
theorem s126_2 {v1 v2 : Value} {l1 : Nat} {st : List Value} {im : IM} {rm : RM}  : ev 126 2 [.ref l1, v1, v2] st im rm = ev 126 3 [.ref l1, v1, v2] (.ref l1 :: st) (im) (rm) := ev_aload_n pm_m126 d126_2 rfl rfl
theorem d126_3 : decode prog_10_method_24_code 3 = .ok (.getfield 43, 3) := by decide +kernel
theorem s126_3 {v0 v1 v2 : Value} {a : Nat} {st : List Value} {im : IM} {rm : RM} (hk : kd a = 18) : ev 126 3 [v0, v1, v2] (.ref a :: st) im rm = ev 126 6 [v0, v1, v2] (pm_ro (rm a 12) :: st) (im) (rm) := ev_getR pm_m126 d126_3 f8_43 rfl hk rfl
theorem d126_6 : decode prog_10_method_24_code 6 = .ok (.iconst 4, 1) := by decide +kernel
theorem s126_6 {v0 v1 v2 : Value}  {st : List Value} {im : IM} {rm : RM}  : ev 126 6 [v0, v1, v2] st im rm = ev 126 7 [v0, v1, v2] (.int (nI 4) :: st) (im) (rm) := ev_iconst pm_m126 d126_6 rfl rfl
theorem d126_7 : decode prog_10_method_24_code 7 = .ok (.iaload, 1) := by decide +kernel
theorem s126_7 {v0 v1 v2 : Value} {a : Nat} {i : Int32} {st : List Value} {im : IM} {rm : RM} (hk : kd a = 0) (hi : pm_in i (ln a) = true) : ev 126 7 [v0, v1, v2] (.int i :: .ref a :: st) im rm = ev 126 8 [v0, v1, v2] (.int (im a i.toNatClampNeg) :: st) (im) (rm) := ev_iald pm_m126 d126_7 hk hi rfl
theorem d126_8 : decode prog_10_method_24_code 8 = .ok (.iadd, 1) := by decide +kernel
theorem s126_8 {v0 v1 v2 : Value} {x : Int32} {y : Int32} {st : List Value} {im : IM} {rm : RM}  : ev 126 8 [v0, v1, v2] (.int y :: .int x :: st) im rm = ev 126 9 [v0, v1, v2] (.int (x + y) :: st) (im) (rm) := ev_iadd pm_m126 d126_8 rfl
theorem d126_9 : decode prog_10_method_24_code 9 = .ok (.istore_n 1, 1) := by decide +kernel
theorem s126_9 {v1 v2 : Value} {l1 : Nat} {x2 : Int32} {st : List Value} {im : IM} {rm : RM}  : ev 126 9 [.ref l1, v1, v2] (.int x2 :: st) im rm = ev 126 10 [.ref l1, .int x2, v2] st (im) (rm) := ev_istore_n pm_m126 d126_9 (Nat.le_of_ble_eq_true rfl) rfl rfl
theorem d126_10 : decode prog_10_method_24_code 10 = .ok (.aload_n 0, 1) := by decide +kernel
theorem s126_10 {v1 v2 : Value} {l1 : Nat} {st : List Value} {im : IM} {rm : RM}  : ev 126 10 [.ref l1, v1, v2] st im rm = ev 126 11 [.ref l1, v1, v2] (.ref l1 :: st) (im) (rm) := ev_aload_n pm_m126 d126_10 rfl rfl
theorem d126_11 : decode prog_10_method_24_code 11 = .ok (.getfield 49, 3) := by decide +kernel
theorem s126_11 {v0 v1 v2 : Value} {a : Nat} {st : List Value} {im : IM} {rm : RM} (hk : kd a = 18) : ev 126 11 [v0, v1, v2] (.ref a :: st) im rm = ev 126 14 [v0, v1, v2] (pm_ro (rm a 14) :: st) (im) (rm) := ev_getR pm_m126 d126_11 f8_49 rfl hk rfl
theorem d126_14 : decode prog_10_method_24_code 14 = .ok (.iload_n 1, 1) := by decide +kernel
theorem s126_14 {v0 v2 : Value} {l1 : Int32} {st : List Value} {im : IM} {rm : RM}  : ev 126 14 [v0, .int l1, v2] st im rm = ev 126 15 [v0, .int l1, v2] (.int l1 :: st) (im) (rm) := ev_iload_n pm_m126 d126_14 rfl rfl
theorem d126_15 : decode prog_10_method_24_code 15 = .ok (.iconst 0, 1) := by decide +kernel
theorem s126_15 {v0 v1 v2 : Value}  {st : List Value} {im : IM} {rm : RM}  : ev 126 15 [v0, v1, v2] st im rm = ev 126 16 [v0, v1, v2] (.int (nI 0) :: st) (im) (rm) := ev_iconst pm_m126 d126_15 rfl rfl
theorem d126_16 : decode prog_10_method_24_code 16 = .ok (.iastore, 1) := by decide +kernel
theorem s126_16 {v0 v1 v2 : Value} {a : Nat} {i : Int32} {v : Int32} {st : List Value} {im : IM} {rm : RM} (hk : kd a = 0) (hi : pm_in i (ln a) = true) : ev 126 16 [v0, v1, v2] (.int v :: .int i :: .ref a :: st) im rm = ev 126 17 [v0, v1, v2] st (pm_w2 im a i.toNatClampNeg v) (rm) := ev_iast pm_m126 d126_16 hk hi rfl
theorem d126_17 : decode prog_10_method_24_code 17 = .ok (.aload_n 0, 1) := by decide +kernel
theorem s126_17 {v1 v2 : Value} {l1 : Nat} {st : List Value} {im : IM} {rm : RM}  : ev 126 17 [.ref l1, v1, v2] st im rm = ev 126 18 [.ref l1, v1, v2] (.ref l1 :: st) (im) (rm) := ev_aload_n pm_m126 d126_17 rfl rfl
theorem d126_18 : decode prog_10_method_24_code 18 = .ok (.sipush 16429, 3) := by decide +kernel
theorem s126_18 {v0 v1 v2 : Value}  {st : List Value} {im : IM} {rm : RM}  : ev 126 18 [v0, v1, v2] st im rm = ev 126 21 [v0, v1, v2] (.int (nI 16429) :: st) (im) (rm) := ev_sipush pm_m126 d126_18 rfl rfl
theorem d126_21 : decode prog_10_method_24_code 21 = .ok (.iconst 3, 1) := by decide +kernel
theorem s126_21 {v0 v1 v2 : Value}  {st : List Value} {im : IM} {rm : RM}  : ev 126 21 [v0, v1, v2] st im rm = ev 126 22 [v0, v1, v2] (.int (nI 3) :: st) (im) (rm) := ev_iconst pm_m126 d126_21 rfl rfl
theorem d126_22 : decode prog_10_method_24_code 22 = .ok (.invokevirtual 219, 3) := by decide +kernel
theorem s126_22 {v0 v1 v2 : Value} {a : Nat} {p1 : Int32} {p2 : Int32} {im : IM} {rm : RM} (hk : kd a = 18) : ev 126 22 [v0, v1, v2] [.int p2, .int p1, .ref a] im rm = (ev 122 0 [.ref a, .int p1, .int p2, pm_u] [] im rm).bind (fun r => ev 126 25 [v0, v1, v2] (r.1.toList ++ []) r.2.1 r.2.2) := ev_callV pm_m126 d126_22 l8_219 rfl pm_m122 (by decide) hk rfl ⟨rfl, rfl⟩ rfl rfl
theorem d126_25 : decode prog_10_method_24_code 25 = .ok (.ifCond .eq 11, 3) := by decide +kernel
theorem s126_25 {v0 v1 v2 : Value} {x : Int32} {st : List Value} {im : IM} {rm : RM} : ev 126 25 [v0, v1, v2] (.int x :: st) im rm = if x = nI 0 then ev 126 36 [pm_u, pm_u, pm_u] st im rm else ev 126 28 [v0, v1, v2] st im rm := ev_if_eq (y := 0) pm_m126 d126_25 rfl rfl rfl
theorem d126_28 : decode prog_10_method_24_code 28 = .ok (.aload_n 0, 1) := by decide +kernel
theorem s126_28 {v1 v2 : Value} {l1 : Nat} {st : List Value} {im : IM} {rm : RM}  : ev 126 28 [.ref l1, v1, v2] st im rm = ev 126 29 [.ref l1, v1, v2] (.ref l1 :: st) (im) (rm) := ev_aload_n pm_m126 d126_28 rfl rfl
theorem d126_29 : decode prog_10_method_24_code 29 = .ok (.iconst 3, 1) := by decide +kernel
theorem s126_29 {v0 v1 v2 : Value}  {st : List Value} {im : IM} {rm : RM}  : ev 126 29 [v0, v1, v2] st im rm = ev 126 30 [v0, v1, v2] (.int (nI 3) :: st) (im) (rm) := ev_iconst pm_m126 d126_29 rfl rfl
theorem d126_30 : decode prog_10_method_24_code 30 = .ok (.invokevirtual 216, 3) := by decide +kernel
theorem s126_30 {v0 v1 v2 : Value} {a : Nat} {p1 : Int32} {im : IM} {rm : RM} (hk : kd a = 18) : ev 126 30 [v0, v1, v2] [.int p1, .ref a] im rm = (ev 123 0 [.ref a, .int p1, pm_u, pm_u] [] im rm).bind (fun r => ev 126 33 [v0, v1, v2] (r.1.toList ++ []) r.2.1 r.2.2) := ev_callV pm_m126 d126_30 l8_216 rfl pm_m123 (by decide) hk rfl ⟨rfl, rfl⟩ rfl rfl
theorem d126_33 : decode prog_10_method_24_code 33 = .ok (.ifCond .ne 5, 3) := by decide +kernel
theorem s126_33 {v0 v1 v2 : Value} {x : Int32} {st : List Value} {im : IM} {rm : RM} : ev 126 33 [v0, v1, v2] (.int x :: st) im rm = if x = nI 0 then ev 126 36 [pm_u, pm_u, pm_u] st im rm else ev 126 38 [v0, v1, pm_u] st im rm := ev_if_ne (y := 0) pm_m126 d126_33 rfl rfl rfl
theorem d126_36 : decode prog_10_method_24_code 36 = .ok (.iconst 0, 1) := by decide +kernel
theorem s126_36 {v0 v1 v2 : Value}  {st : List Value} {im : IM} {rm : RM}  : ev 126 36 [v0, v1, v2] st im rm = ev 126 37 [v0, v1, v2] (.int (nI 0) :: st) (im) (rm) := ev_iconst pm_m126 d126_36 rfl rfl
theorem d126_37 : decode prog_10_method_24_code 37 = .ok (.ireturn, 1) := by decide +kernel
theorem s126_37 {v0 v1 v2 : Value} {x : Int32} {im : IM} {rm : RM} (hx : x = 0 ∨ x = 1) : ev 126 37 [v0, v1, v2] [.int x] im rm = some (some (.int x), im, rm) := ev_zreturn pm_m126 d126_37 rfl hx
theorem d126_38 : decode prog_10_method_24_code 38 = .ok (.aload_n 0, 1) := by decide +kernel
theorem s126_38 {v1 v2 : Value} {l1 : Nat} {st : List Value} {im : IM} {rm : RM}  : ev 126 38 [.ref l1, v1, v2] st im rm = ev 126 39 [.ref l1, v1, v2] (.ref l1 :: st) (im) (rm) := ev_aload_n pm_m126 d126_38 rfl rfl
theorem d126_39 : decode prog_10_method_24_code 39 = .ok (.getfield 46, 3) := by decide +kernel
theorem s126_39 {v0 v1 v2 : Value} {a : Nat} {st : List Value} {im : IM} {rm : RM} (hk : kd a = 18) : ev 126 39 [v0, v1, v2] (.ref a :: st) im rm = ev 126 42 [v0, v1, v2] (pm_ro (rm a 13) :: st) (im) (rm) := ev_getR pm_m126 d126_39 f8_46 rfl hk rfl
theorem d126_42 : decode prog_10_method_24_code 42 = .ok (.iload_n 1, 1) := by decide +kernel
theorem s126_42 {v0 v2 : Value} {l1 : Int32} {st : List Value} {im : IM} {rm : RM}  : ev 126 42 [v0, .int l1, v2] st im rm = ev 126 43 [v0, .int l1, v2] (.int l1 :: st) (im) (rm) := ev_iload_n pm_m126 d126_42 rfl rfl
theorem d126_43 : decode prog_10_method_24_code 43 = .ok (.aload_n 0, 1) := by decide +kernel
theorem s126_43 {v1 v2 : Value} {l1 : Nat} {st : List Value} {im : IM} {rm : RM}  : ev 126 43 [.ref l1, v1, v2] st im rm = ev 126 44 [.ref l1, v1, v2] (.ref l1 :: st) (im) (rm) := ev_aload_n pm_m126 d126_43 rfl rfl
theorem d126_44 : decode prog_10_method_24_code 44 = .ok (.getfield 199, 3) := by decide +kernel
theorem s126_44 {v0 v1 v2 : Value} {a : Nat} {st : List Value} {im : IM} {rm : RM} (hk : kd a = 18) : ev 126 44 [v0, v1, v2] (.ref a :: st) im rm = ev 126 47 [v0, v1, v2] (.int (im a 37) :: st) (im) (rm) := ev_getI pm_m126 d126_44 f8_199 rfl hk rfl
theorem d126_47 : decode prog_10_method_24_code 47 = .ok (.iastore, 1) := by decide +kernel
theorem s126_47 {v0 v1 v2 : Value} {a : Nat} {i : Int32} {v : Int32} {st : List Value} {im : IM} {rm : RM} (hk : kd a = 0) (hi : pm_in i (ln a) = true) : ev 126 47 [v0, v1, v2] (.int v :: .int i :: .ref a :: st) im rm = ev 126 48 [v0, v1, v2] st (pm_w2 im a i.toNatClampNeg v) (rm) := ev_iast pm_m126 d126_47 hk hi rfl
theorem d126_48 : decode prog_10_method_24_code 48 = .ok (.aload_n 0, 1) := by decide +kernel
theorem s126_48 {v1 v2 : Value} {l1 : Nat} {st : List Value} {im : IM} {rm : RM}  : ev 126 48 [.ref l1, v1, v2] st im rm = ev 126 49 [.ref l1, v1, v2] (.ref l1 :: st) (im) (rm) := ev_aload_n pm_m126 d126_48 rfl rfl
theorem d126_49 : decode prog_10_method_24_code 49 = .ok (.ldc 222, 2) := by decide +kernel
theorem s126_49 {v0 v1 v2 : Value}  {st : List Value} {im : IM} {rm : RM}  : ev 126 49 [v0, v1, v2] st im rm = ev 126 51 [v0, v1, v2] (.int (nI 464151) :: st) (im) (rm) := ev_ldc pm_m126 d126_49 (by decide +kernel) rfl
theorem d126_51 : decode prog_10_method_24_code 51 = .ok (.iconst 4, 1) := by decide +kernel
theorem s126_51 {v0 v1 v2 : Value}  {st : List Value} {im : IM} {rm : RM}  : ev 126 51 [v0, v1, v2] st im rm = ev 126 52 [v0, v1, v2] (.int (nI 4) :: st) (im) (rm) := ev_iconst pm_m126 d126_51 rfl rfl
theorem d126_52 : decode prog_10_method_24_code 52 = .ok (.invokevirtual 219, 3) := by decide +kernel
theorem s126_52 {v0 v1 v2 : Value} {a : Nat} {p1 : Int32} {p2 : Int32} {im : IM} {rm : RM} (hk : kd a = 18) : ev 126 52 [v0, v1, v2] [.int p2, .int p1, .ref a] im rm = (ev 122 0 [.ref a, .int p1, .int p2, pm_u] [] im rm).bind (fun r => ev 126 55 [v0, v1, v2] (r.1.toList ++ []) r.2.1 r.2.2) := ev_callV pm_m126 d126_52 l8_219 rfl pm_m122 (by decide) hk rfl ⟨rfl, rfl⟩ rfl rfl
theorem d126_55 : decode prog_10_method_24_code 55 = .ok (.istore_n 2, 1) := by decide +kernel
theorem s126_55 {v0 v2 : Value} {l1 : Int32} {x2 : Int32} {st : List Value} {im : IM} {rm : RM}  : ev 126 55 [v0, .int l1, v2] (.int x2 :: st) im rm = ev 126 56 [v0, .int l1, .int x2] st (im) (rm) := ev_istore_n pm_m126 d126_55 (Nat.le_of_ble_eq_true rfl) rfl rfl
theorem d126_56 : decode prog_10_method_24_code 56 = .ok (.iload_n 2, 1) := by decide +kernel
theorem s126_56 {v0 v1 : Value} {l1 : Int32} {st : List Value} {im : IM} {rm : RM}  : ev 126 56 [v0, v1, .int l1] st im rm = ev 126 57 [v0, v1, .int l1] (.int l1 :: st) (im) (rm) := ev_iload_n pm_m126 d126_56 rfl rfl
theorem d126_57 : decode prog_10_method_24_code 57 = .ok (.ifCond .eq 43, 3) := by decide +kernel
theorem s126_57 {v0 v1 v2 : Value} {x : Int32} {st : List Value} {im : IM} {rm : RM} : ev 126 57 [v0, v1, v2] (.int x :: st) im rm = if x = nI 0 then ev 126 100 [v0, pm_u, pm_u] st im rm else ev 126 60 [v0, v1, v2] st im rm := ev_if_eq (y := 0) pm_m126 d126_57 rfl rfl rfl
theorem d126_60 : decode prog_10_method_24_code 60 = .ok (.aload_n 0, 1) := by decide +kernel
theorem s126_60 {v1 v2 : Value} {l1 : Nat} {st : List Value} {im : IM} {rm : RM}  : ev 126 60 [.ref l1, v1, v2] st im rm = ev 126 61 [.ref l1, v1, v2] (.ref l1 :: st) (im) (rm) := ev_aload_n pm_m126 d126_60 rfl rfl
theorem d126_61 : decode prog_10_method_24_code 61 = .ok (.iload_n 1, 1) := by decide +kernel
theorem s126_61 {v0 v2 : Value} {l1 : Int32} {st : List Value} {im : IM} {rm : RM}  : ev 126 61 [v0, .int l1, v2] st im rm = ev 126 62 [v0, .int l1, v2] (.int l1 :: st) (im) (rm) := ev_iload_n pm_m126 d126_61 rfl rfl
theorem d126_62 : decode prog_10_method_24_code 62 = .ok (.invokevirtual 223, 3) := by decide +kernel
theorem s126_62 {v0 v1 v2 : Value} {a : Nat} {p1 : Int32} {im : IM} {rm : RM} (hk : kd a = 18) : ev 126 62 [v0, v1, v2] [.int p1, .ref a] im rm = (ev 125 0 [.ref a, .int p1, pm_u, pm_u] [] im rm).bind (fun r => ev 126 65 [v0, v1, v2] (r.1.toList ++ []) r.2.1 r.2.2) := ev_callV pm_m126 d126_62 l8_223 rfl pm_m125 (by decide) hk rfl ⟨rfl, rfl⟩ rfl rfl
theorem d126_65 : decode prog_10_method_24_code 65 = .ok (.ifCond .ne 5, 3) := by decide +kernel
theorem s126_65 {v0 v1 v2 : Value} {x : Int32} {st : List Value} {im : IM} {rm : RM} : ev 126 65 [v0, v1, v2] (.int x :: st) im rm = if x = nI 0 then ev 126 68 [v0, v1, v2] st im rm else ev 126 70 [v0, v1, pm_u] st im rm := ev_if_ne (y := 0) pm_m126 d126_65 rfl rfl rfl
theorem d126_68 : decode prog_10_method_24_code 68 = .ok (.iconst 0, 1) := by decide +kernel
theorem s126_68 {v0 v1 v2 : Value}  {st : List Value} {im : IM} {rm : RM}  : ev 126 68 [v0, v1, v2] st im rm = ev 126 69 [v0, v1, v2] (.int (nI 0) :: st) (im) (rm) := ev_iconst pm_m126 d126_68 rfl rfl
theorem d126_69 : decode prog_10_method_24_code 69 = .ok (.ireturn, 1) := by decide +kernel
theorem s126_69 {v0 v1 v2 : Value} {x : Int32} {im : IM} {rm : RM} (hx : x = 0 ∨ x = 1) : ev 126 69 [v0, v1, v2] [.int x] im rm = some (some (.int x), im, rm) := ev_zreturn pm_m126 d126_69 rfl hx
theorem d126_70 : decode prog_10_method_24_code 70 = .ok (.aload_n 0, 1) := by decide +kernel
theorem s126_70 {v1 v2 : Value} {l1 : Nat} {st : List Value} {im : IM} {rm : RM}  : ev 126 70 [.ref l1, v1, v2] st im rm = ev 126 71 [.ref l1, v1, v2] (.ref l1 :: st) (im) (rm) := ev_aload_n pm_m126 d126_70 rfl rfl
theorem d126_71 : decode prog_10_method_24_code 71 = .ok (.getfield 49, 3) := by decide +kernel
theorem s126_71 {v0 v1 v2 : Value} {a : Nat} {st : List Value} {im : IM} {rm : RM} (hk : kd a = 18) : ev 126 71 [v0, v1, v2] (.ref a :: st) im rm = ev 126 74 [v0, v1, v2] (pm_ro (rm a 14) :: st) (im) (rm) := ev_getR pm_m126 d126_71 f8_49 rfl hk rfl
theorem d126_74 : decode prog_10_method_24_code 74 = .ok (.iload_n 1, 1) := by decide +kernel
theorem s126_74 {v0 v2 : Value} {l1 : Int32} {st : List Value} {im : IM} {rm : RM}  : ev 126 74 [v0, .int l1, v2] st im rm = ev 126 75 [v0, .int l1, v2] (.int l1 :: st) (im) (rm) := ev_iload_n pm_m126 d126_74 rfl rfl
theorem d126_75 : decode prog_10_method_24_code 75 = .ok (.iaload, 1) := by decide +kernel
theorem s126_75 {v0 v1 v2 : Value} {a : Nat} {i : Int32} {st : List Value} {im : IM} {rm : RM} (hk : kd a = 0) (hi : pm_in i (ln a) = true) : ev 126 75 [v0, v1, v2] (.int i :: .ref a :: st) im rm = ev 126 76 [v0, v1, v2] (.int (im a i.toNatClampNeg) :: st) (im) (rm) := ev_iald pm_m126 d126_75 hk hi rfl
theorem d126_76 : decode prog_10_method_24_code 76 = .ok (.iconst 4, 1) := by decide +kernel
theorem s126_76 {v0 v1 v2 : Value}  {st : List Value} {im : IM} {rm : RM}  : ev 126 76 [v0, v1, v2] st im rm = ev 126 77 [v0, v1, v2] (.int (nI 4) :: st) (im) (rm) := ev_iconst pm_m126 d126_76 rfl rfl
theorem d126_77 : decode prog_10_method_24_code 77 = .ok (.if_icmp .ge 18, 3) := by decide +kernel
theorem s126_77 {v0 v1 v2 : Value} {x : Int32} {y : Int32} {st : List Value} {im : IM} {rm : RM} : ev 126 77 [v0, v1, v2] (.int y :: .int x :: st) im rm = if y ≤ x then ev 126 95 [v0, v1, pm_u] st im rm else ev 126 80 [v0, v1, v2] st im rm := ev_icmp_ge pm_m126 d126_77 rfl rfl rfl
theorem d126_80 : decode prog_10_method_24_code 80 = .ok (.aload_n 0, 1) := by decide +kernel
theorem s126_80 {v1 v2 : Value} {l1 : Nat} {st : List Value} {im : IM} {rm : RM}  : ev 126 80 [.ref l1, v1, v2] st im rm = ev 126 81 [.ref l1, v1, v2] (.ref l1 :: st) (im) (rm) := ev_aload_n pm_m126 d126_80 rfl rfl
theorem d126_81 : decode prog_10_method_24_code 81 = .ok (.sipush 4545, 3) := by decide +kernel
theorem s126_81 {v0 v1 v2 : Value}  {st : List Value} {im : IM} {rm : RM}  : ev 126 81 [v0, v1, v2] st im rm = ev 126 84 [v0, v1, v2] (.int (nI 4545) :: st) (im) (rm) := ev_sipush pm_m126 d126_81 rfl rfl
theorem d126_84 : decode prog_10_method_24_code 84 = .ok (.iconst 3, 1) := by decide +kernel
theorem s126_84 {v0 v1 v2 : Value}  {st : List Value} {im : IM} {rm : RM}  : ev 126 84 [v0, v1, v2] st im rm = ev 126 85 [v0, v1, v2] (.int (nI 3) :: st) (im) (rm) := ev_iconst pm_m126 d126_84 rfl rfl
theorem d126_85 : decode prog_10_method_24_code 85 = .ok (.invokevirtual 219, 3) := by decide +kernel
theorem s126_85 {v0 v1 v2 : Value} {a : Nat} {p1 : Int32} {p2 : Int32} {im : IM} {rm : RM} (hk : kd a = 18) : ev 126 85 [v0, v1, v2] [.int p2, .int p1, .ref a] im rm = (ev 122 0 [.ref a, .int p1, .int p2, pm_u] [] im rm).bind (fun r => ev 126 88 [v0, v1, v2] (r.1.toList ++ []) r.2.1 r.2.2) := ev_callV pm_m126 d126_85 l8_219 rfl pm_m122 (by decide) hk rfl ⟨rfl, rfl⟩ rfl rfl
theorem d126_88 : decode prog_10_method_24_code 88 = .ok (.ifCond .eq 7, 3) := by decide +kernel
theorem s126_88 {v0 v1 v2 : Value} {x : Int32} {st : List Value} {im : IM} {rm : RM} : ev 126 88 [v0, v1, v2] (.int x :: st) im rm = if x = nI 0 then ev 126 95 [v0, v1, pm_u] st im rm else ev 126 91 [v0, v1, v2] st im rm := ev_if_eq (y := 0) pm_m126 d126_88 rfl rfl rfl
theorem d126_91 : decode prog_10_method_24_code 91 = .ok (.iconst 1, 1) := by decide +kernel
theorem s126_91 {v0 v1 v2 : Value}  {st : List Value} {im : IM} {rm : RM}  : ev 126 91 [v0, v1, v2] st im rm = ev 126 92 [v0, v1, v2] (.int (nI 1) :: st) (im) (rm) := ev_iconst pm_m126 d126_91 rfl rfl
theorem d126_92 : decode prog_10_method_24_code 92 = .ok (.goto 4, 3) := by decide +kernel
theorem s126_92 {v0 v1 v2 : Value}  {st : List Value} {im : IM} {rm : RM}  : ev 126 92 [v0, v1, v2] st im rm = ev 126 96 [v0, v1, pm_u] st (im) (rm) := ev_goto pm_m126 d126_92 rfl rfl
theorem d126_95 : decode prog_10_method_24_code 95 = .ok (.iconst 0, 1) := by decide +kernel
theorem s126_95 {v0 v1 v2 : Value}  {st : List Value} {im : IM} {rm : RM}  : ev 126 95 [v0, v1, v2] st im rm = ev 126 96 [v0, v1, pm_u] (.int (nI 0) :: st) (im) (rm) := ev_iconst pm_m126 d126_95 rfl rfl
theorem d126_96 : decode prog_10_method_24_code 96 = .ok (.istore_n 2, 1) := by decide +kernel
theorem s126_96 {v0 v2 : Value} {l1 : Int32} {x2 : Int32} {st : List Value} {im : IM} {rm : RM}  : ev 126 96 [v0, .int l1, v2] (.int x2 :: st) im rm = ev 126 97 [v0, .int l1, .int x2] st (im) (rm) := ev_istore_n pm_m126 d126_96 (Nat.le_of_ble_eq_true rfl) rfl rfl
theorem d126_97 : decode prog_10_method_24_code 97 = .ok (.goto (-41), 3) := by decide +kernel
theorem s126_97 {v0 v1 v2 : Value}  {st : List Value} {im : IM} {rm : RM}  : ev 126 97 [v0, v1, v2] st im rm = ev 126 56 [v0, v1, v2] st (im) (rm) := ev_goto pm_m126 d126_97 rfl rfl
theorem d126_100 : decode prog_10_method_24_code 100 = .ok (.aload_n 0, 1) := by decide +kernel
theorem s126_100 {v1 v2 : Value} {l1 : Nat} {st : List Value} {im : IM} {rm : RM}  : ev 126 100 [.ref l1, v1, v2] st im rm = ev 126 101 [.ref l1, v1, v2] (.ref l1 :: st) (im) (rm) := ev_aload_n pm_m126 d126_100 rfl rfl
theorem d126_101 : decode prog_10_method_24_code 101 = .ok (.getfield 43, 3) := by decide +kernel
theorem s126_101 {v0 v1 v2 : Value} {a : Nat} {st : List Value} {im : IM} {rm : RM} (hk : kd a = 18) : ev 126 101 [v0, v1, v2] (.ref a :: st) im rm = ev 126 104 [v0, v1, v2] (pm_ro (rm a 12) :: st) (im) (rm) := ev_getR pm_m126 d126_101 f8_43 rfl hk rfl
theorem d126_104 : decode prog_10_method_24_code 104 = .ok (.iconst 4, 1) := by decide +kernel
theorem s126_104 {v0 v1 v2 : Value}  {st : List Value} {im : IM} {rm : RM}  : ev 126 104 [v0, v1, v2] st im rm = ev 126 105 [v0, v1, v2] (.int (nI 4) :: st) (im) (rm) := ev_iconst pm_m126 d126_104 rfl rfl
theorem d126_105 : decode prog_10_method_24_code 105 = .ok (.dup2, 1) := by decide +kernel
theorem s126_105 {v0 v1 v2 : Value} {y : Int32} {x : Nat} {st : List Value} {im : IM} {rm : RM}  : ev 126 105 [v0, v1, v2] (.int y :: .ref x :: st) im rm = ev 126 106 [v0, v1, v2] (.int y :: .ref x :: .int y :: .ref x :: st) (im) (rm) := ev_dup2 pm_m126 d126_105 rfl
theorem d126_106 : decode prog_10_method_24_code 106 = .ok (.iaload, 1) := by decide +kernel
theorem s126_106 {v0 v1 v2 : Value} {a : Nat} {i : Int32} {st : List Value} {im : IM} {rm : RM} (hk : kd a = 0) (hi : pm_in i (ln a) = true) : ev 126 106 [v0, v1, v2] (.int i :: .ref a :: st) im rm = ev 126 107 [v0, v1, v2] (.int (im a i.toNatClampNeg) :: st) (im) (rm) := ev_iald pm_m126 d126_106 hk hi rfl
theorem d126_107 : decode prog_10_method_24_code 107 = .ok (.iconst 1, 1) := by decide +kernel
theorem s126_107 {v0 v1 v2 : Value}  {st : List Value} {im : IM} {rm : RM}  : ev 126 107 [v0, v1, v2] st im rm = ev 126 108 [v0, v1, v2] (.int (nI 1) :: st) (im) (rm) := ev_iconst pm_m126 d126_107 rfl rfl
theorem d126_108 : decode prog_10_method_24_code 108 = .ok (.iadd, 1) := by decide +kernel
theorem s126_108 {v0 v1 v2 : Value} {x : Int32} {y : Int32} {st : List Value} {im : IM} {rm : RM}  : ev 126 108 [v0, v1, v2] (.int y :: .int x :: st) im rm = ev 126 109 [v0, v1, v2] (.int (x + y) :: st) (im) (rm) := ev_iadd pm_m126 d126_108 rfl
theorem d126_109 : decode prog_10_method_24_code 109 = .ok (.iastore, 1) := by decide +kernel
theorem s126_109 {v0 v1 v2 : Value} {a : Nat} {i : Int32} {v : Int32} {st : List Value} {im : IM} {rm : RM} (hk : kd a = 0) (hi : pm_in i (ln a) = true) : ev 126 109 [v0, v1, v2] (.int v :: .int i :: .ref a :: st) im rm = ev 126 110 [v0, v1, v2] st (pm_w2 im a i.toNatClampNeg v) (rm) := ev_iast pm_m126 d126_109 hk hi rfl
theorem d126_110 : decode prog_10_method_24_code 110 = .ok (.iconst 1, 1) := by decide +kernel
theorem s126_110 {v0 v1 v2 : Value}  {st : List Value} {im : IM} {rm : RM}  : ev 126 110 [v0, v1, v2] st im rm = ev 126 111 [v0, v1, v2] (.int (nI 1) :: st) (im) (rm) := ev_iconst pm_m126 d126_110 rfl rfl
theorem d126_111 : decode prog_10_method_24_code 111 = .ok (.ireturn, 1) := by decide +kernel
theorem s126_111 {v0 v1 v2 : Value} {x : Int32} {im : IM} {rm : RM} (hx : x = 0 ∨ x = 1) : ev 126 111 [v0, v1, v2] [.int x] im rm = some (some (.int x), im, rm) := ev_zreturn pm_m126 d126_111 rfl hx
theorem d127_0 : decode prog_10_method_25_code 0 = .ok (.bipush 16, 2) := by decide +kernel
theorem s127_0 {v0 v1 v2 : Value}  {st : List Value} {im : IM} {rm : RM}  : ev 127 0 [v0, v1, v2] st im rm = ev 127 2 [v0, v1, v2] (.int (nI 16) :: st) (im) (rm) := ev_bipush pm_m127 d127_0 rfl rfl
theorem d127_2 : decode prog_10_method_25_code 2 = .ok (.aload_n 0, 1) := by decide +kernel
theorem s127_2 {v1 v2 : Value} {l1 : Nat} {st : List Value} {im : IM} {rm : RM}  : ev 127 2 [.ref l1, v1, v2] st im rm = ev 127 3 [.ref l1, v1, v2] (.ref l1 :: st) (im) (rm) := ev_aload_n pm_m127 d127_2 rfl rfl
theorem d127_3 : decode prog_10_method_25_code 3 = .ok (.getfield 61, 3) := by decide +kernel
theorem s127_3 {v0 v1 v2 : Value} {a : Nat} {st : List Value} {im : IM} {rm : RM} (hk : kd a = 18) : ev 127 3 [v0, v1, v2] (.ref a :: st) im rm = ev 127 6 [v0, v1, v2] (pm_ro (rm a 18) :: st) (im) (rm) := ev_getR pm_m127 d127_3 f8_61 rfl hk rfl
theorem d127_6 : decode prog_10_method_25_code 6 = .ok (.iconst 2, 1) := by decide +kernel
theorem s127_6 {v0 v1 v2 : Value}  {st : List Value} {im : IM} {rm : RM}  : ev 127 6 [v0, v1, v2] st im rm = ev 127 7 [v0, v1, v2] (.int (nI 2) :: st) (im) (rm) := ev_iconst pm_m127 d127_6 rfl rfl
theorem d127_7 : decode prog_10_method_25_code 7 = .ok (.iaload, 1) := by decide +kernel
theorem s127_7 {v0 v1 v2 : Value} {a : Nat} {i : Int32} {st : List Value} {im : IM} {rm : RM} (hk : kd a = 0) (hi : pm_in i (ln a) = true) : ev 127 7 [v0, v1, v2] (.int i :: .ref a :: st) im rm = ev 127 8 [v0, v1, v2] (.int (im a i.toNatClampNeg) :: st) (im) (rm) := ev_iald pm_m127 d127_7 hk hi rfl
theorem d127_8 : decode prog_10_method_25_code 8 = .ok (.iadd, 1) := by decide +kernel
theorem s127_8 {v0 v1 v2 : Value} {x : Int32} {y : Int32} {st : List Value} {im : IM} {rm : RM}  : ev 127 8 [v0, v1, v2] (.int y :: .int x :: st) im rm = ev 127 9 [v0, v1, v2] (.int (x + y) :: st) (im) (rm) := ev_iadd pm_m127 d127_8 rfl
theorem d127_9 : decode prog_10_method_25_code 9 = .ok (.istore_n 1, 1) := by decide +kernel
theorem s127_9 {v1 v2 : Value} {l1 : Nat} {x2 : Int32} {st : List Value} {im : IM} {rm : RM}  : ev 127 9 [.ref l1, v1, v2] (.int x2 :: st) im rm = ev 127 10 [.ref l1, .int x2, v2] st (im) (rm) := ev_istore_n pm_m127 d127_9 (Nat.le_of_ble_eq_true rfl) rfl rfl
theorem d127_10 : decode prog_10_method_25_code 10 = .ok (.aload_n 0, 1) := by decide +kernel
theorem s127_10 {v1 v2 : Value} {l1 : Nat} {st : List Value} {im : IM} {rm : RM}  : ev 127 10 [.ref l1, v1, v2] st im rm = ev 127 11 [.ref l1, v1, v2] (.ref l1 :: st) (im) (rm) := ev_aload_n pm_m127 d127_10 rfl rfl
theorem d127_11 : decode prog_10_method_25_code 11 = .ok (.ldc 226, 2) := by decide +kernel
theorem s127_11 {v0 v1 v2 : Value}  {st : List Value} {im : IM} {rm : RM}  : ev 127 11 [v0, v1, v2] st im rm = ev 127 13 [v0, v1, v2] (.int (nI 427591) :: st) (im) (rm) := ev_ldc pm_m127 d127_11 (by decide +kernel) rfl
theorem d127_13 : decode prog_10_method_25_code 13 = .ok (.iconst 4, 1) := by decide +kernel
theorem s127_13 {v0 v1 v2 : Value}  {st : List Value} {im : IM} {rm : RM}  : ev 127 13 [v0, v1, v2] st im rm = ev 127 14 [v0, v1, v2] (.int (nI 4) :: st) (im) (rm) := ev_iconst pm_m127 d127_13 rfl rfl
theorem d127_14 : decode prog_10_method_25_code 14 = .ok (.invokevirtual 193, 3) := by decide +kernel
theorem s127_14 {v0 v1 v2 : Value} {a : Nat} {p1 : Int32} {p2 : Int32} {im : IM} {rm : RM} (hk : kd a = 18) : ev 127 14 [v0, v1, v2] [.int p2, .int p1, .ref a] im rm = (ev 121 0 [.ref a, .int p1, .int p2, pm_u, pm_u] [] im rm).bind (fun r => ev 127 17 [v0, v1, v2] (r.1.toList ++ []) r.2.1 r.2.2) := ev_callV pm_m127 d127_14 l8_193 rfl pm_m121 (by decide) hk rfl ⟨rfl, rfl⟩ rfl rfl
theorem d127_17 : decode prog_10_method_25_code 17 = .ok (.ifCond .eq 7, 3) := by decide +kernel
theorem s127_17 {v0 v1 v2 : Value} {x : Int32} {st : List Value} {im : IM} {rm : RM} : ev 127 17 [v0, v1, v2] (.int x :: st) im rm = if x = nI 0 then ev 127 24 [v0, v1, pm_u] st im rm else ev 127 20 [v0, v1, v2] st im rm := ev_if_eq (y := 0) pm_m127 d127_17 rfl rfl rfl
theorem d127_20 : decode prog_10_method_25_code 20 = .ok (.iconst 0, 1) := by decide +kernel
theorem s127_20 {v0 v1 v2 : Value}  {st : List Value} {im : IM} {rm : RM}  : ev 127 20 [v0, v1, v2] st im rm = ev 127 21 [v0, v1, v2] (.int (nI 0) :: st) (im) (rm) := ev_iconst pm_m127 d127_20 rfl rfl
theorem d127_21 : decode prog_10_method_25_code 21 = .ok (.goto 48, 3) := by decide +kernel
theorem s127_21 {v0 v1 v2 : Value}  {st : List Value} {im : IM} {rm : RM}  : ev 127 21 [v0, v1, v2] st im rm = ev 127 69 [v0, v1, pm_u] st (im) (rm) := ev_goto pm_m127 d127_21 rfl rfl
theorem d127_24 : decode prog_10_method_25_code 24 = .ok (.aload_n 0, 1) := by decide +kernel
theorem s127_24 {v1 v2 : Value} {l1 : Nat} {st : List Value} {im : IM} {rm : RM}  : ev 127 24 [.ref l1, v1, v2] st im rm = ev 127 25 [.ref l1, v1, v2] (.ref l1 :: st) (im) (rm) := ev_aload_n pm_m127 d127_24 rfl rfl
theorem d127_25 : decode prog_10_method_25_code 25 = .ok (.ldc 227, 2) := by decide +kernel
theorem s127_25 {v0 v1 v2 : Value}  {st : List Value} {im : IM} {rm : RM}  : ev 127 25 [v0, v1, v2] st im rm = ev 127 27 [v0, v1, v2] (.int (nI 132594) :: st) (im) (rm) := ev_ldc pm_m127 d127_25 (by decide +kernel) rfl
theorem d127_27 : decode prog_10_method_25_code 27 = .ok (.iconst 4, 1) := by decide +kernel
theorem s127_27 {v0 v1 v2 : Value}  {st : List Value} {im : IM} {rm : RM}  : ev 127 27 [v0, v1, v2] st im rm = ev 127 28 [v0, v1, v2] (.int (nI 4) :: st) (im) (rm) := ev_iconst pm_m127 d127_27 rfl rfl
theorem d127_28 : decode prog_10_method_25_code 28 = .ok (.invokevirtual 193, 3) := by decide +kernel
theorem s127_28 {v0 v1 v2 : Value} {a : Nat} {p1 : Int32} {p2 : Int32} {im : IM} {rm : RM} (hk : kd a = 18) : ev 127 28 [v0, v1, v2] [.int p2, .int p1, .ref a] im rm = (ev 121 0 [.ref a, .int p1, .int p2, pm_u, pm_u] [] im rm).bind (fun r => ev 127 31 [v0, v1, v2] (r.1.toList ++ []) r.2.1 r.2.2) := ev_callV pm_m127 d127_28 l8_193 rfl pm_m121 (by decide) hk rfl ⟨rfl, rfl⟩ rfl rfl
theorem d127_31 : decode prog_10_method_25_code 31 = .ok (.ifCond .eq 7, 3) := by decide +kernel
theorem s127_31 {v0 v1 v2 : Value} {x : Int32} {st : List Value} {im : IM} {rm : RM} : ev 127 31 [v0, v1, v2] (.int x :: st) im rm = if x = nI 0 then ev 127 38 [v0, v1, pm_u] st im rm else ev 127 34 [v0, v1, v2] st im rm := ev_if_eq (y := 0) pm_m127 d127_31 rfl rfl rfl
theorem d127_34 : decode prog_10_method_25_code 34 = .ok (.iconst 1, 1) := by decide +kernel
theorem s127_34 {v0 v1 v2 : Value}  {st : List Value} {im : IM} {rm : RM}  : ev 127 34 [v0, v1, v2] st im rm = ev 127 35 [v0, v1, v2] (.int (nI 1) :: st) (im) (rm) := ev_iconst pm_m127 d127_34 rfl rfl
theorem d127_35 : decode prog_10_method_25_code 35 = .ok (.goto 34, 3) := by decide +kernel
theorem s127_35 {v0 v1 v2 : Value}  {st : List Value} {im : IM} {rm : RM}  : ev 127 35 [v0, v1, v2] st im rm = ev 127 69 [v0, v1, pm_u] st (im) (rm) := ev_goto pm_m127 d127_35 rfl rfl
theorem d127_38 : decode prog_10_method_25_code 38 = .ok (.aload_n 0, 1) := by decide +kernel
theorem s127_38 {v1 v2 : Value} {l1 : Nat} {st : List Value} {im : IM} {rm : RM}  : ev 127 38 [.ref l1, v1, v2] st im rm = ev 127 39 [.ref l1, v1, v2] (.ref l1 :: st) (im) (rm) := ev_aload_n pm_m127 d127_38 rfl rfl
theorem d127_39 : decode prog_10_method_25_code 39 = .ok (.sipush 14370, 3) := by decide +kernel
theorem s127_39 {v0 v1 v2 : Value}  {st : List Value} {im : IM} {rm : RM}  : ev 127 39 [v0, v1, v2] st im rm = ev 127 42 [v0, v1, v2] (.int (nI 14370) :: st) (im) (rm) := ev_sipush pm_m127 d127_39 rfl rfl
theorem d127_42 : decode prog_10_method_25_code 42 = .ok (.iconst 3, 1) := by decide +kernel
theorem s127_42 {v0 v1 v2 : Value}  {st : List Value} {im : IM} {rm : RM}  : ev 127 42 [v0, v1, v2] st im rm = ev 127 43 [v0, v1, v2] (.int (nI 3) :: st) (im) (rm) := ev_iconst pm_m127 d127_42 rfl rfl
theorem d127_43 : decode prog_10_method_25_code 43 = .ok (.invokevirtual 193, 3) := by decide +kernel
theorem s127_43 {v0 v1 v2 : Value} {a : Nat} {p1 : Int32} {p2 : Int32} {im : IM} {rm : RM} (hk : kd a = 18) : ev 127 43 [v0, v1, v2] [.int p2, .int p1, .ref a] im rm = (ev 121 0 [.ref a, .int p1, .int p2, pm_u, pm_u] [] im rm).bind (fun r => ev 127 46 [v0, v1, v2] (r.1.toList ++ []) r.2.1 r.2.2) := ev_callV pm_m127 d127_43 l8_193 rfl pm_m121 (by decide) hk rfl ⟨rfl, rfl⟩ rfl rfl
theorem d127_46 : decode prog_10_method_25_code 46 = .ok (.ifCond .eq 7, 3) := by decide +kernel
theorem s127_46 {v0 v1 v2 : Value} {x : Int32} {st : List Value} {im : IM} {rm : RM} : ev 127 46 [v0, v1, v2] (.int x :: st) im rm = if x = nI 0 then ev 127 53 [v0, v1, pm_u] st im rm else ev 127 49 [v0, v1, v2] st im rm := ev_if_eq (y := 0) pm_m127 d127_46 rfl rfl rfl
theorem d127_49 : decode prog_10_method_25_code 49 = .ok (.iconst 2, 1) := by decide +kernel
theorem s127_49 {v0 v1 v2 : Value}  {st : List Value} {im : IM} {rm : RM}  : ev 127 49 [v0, v1, v2] st im rm = ev 127 50 [v0, v1, v2] (.int (nI 2) :: st) (im) (rm) := ev_iconst pm_m127 d127_49 rfl rfl
theorem d127_50 : decode prog_10_method_25_code 50 = .ok (.goto 19, 3) := by decide +kernel
theorem s127_50 {v0 v1 v2 : Value}  {st : List Value} {im : IM} {rm : RM}  : ev 127 50 [v0, v1, v2] st im rm = ev 127 69 [v0, v1, pm_u] st (im) (rm) := ev_goto pm_m127 d127_50 rfl rfl
theorem d127_53 : decode prog_10_method_25_code 53 = .ok (.aload_n 0, 1) := by decide +kernel
theorem s127_53 {v1 v2 : Value} {l1 : Nat} {st : List Value} {im : IM} {rm : RM}  : ev 127 53 [.ref l1, v1, v2] st im rm = ev 127 54 [.ref l1, v1, v2] (.ref l1 :: st) (im) (rm) := ev_aload_n pm_m127 d127_53 rfl rfl
theorem d127_54 : decode prog_10_method_25_code 54 = .ok (.sipush 11873, 3) := by decide +kernel
theorem s127_54 {v0 v1 v2 : Value}  {st : List Value} {im : IM} {rm : RM}  : ev 127 54 [v0, v1, v2] st im rm = ev 127 57 [v0, v1, v2] (.int (nI 11873) :: st) (im) (rm) := ev_sipush pm_m127 d127_54 rfl rfl
theorem d127_57 : decode prog_10_method_25_code 57 = .ok (.iconst 3, 1) := by decide +kernel
theorem s127_57 {v0 v1 v2 : Value}  {st : List Value} {im : IM} {rm : RM}  : ev 127 57 [v0, v1, v2] st im rm = ev 127 58 [v0, v1, v2] (.int (nI 3) :: st) (im) (rm) := ev_iconst pm_m127 d127_57 rfl rfl
theorem d127_58 : decode prog_10_method_25_code 58 = .ok (.invokevirtual 193, 3) := by decide +kernel
theorem s127_58 {v0 v1 v2 : Value} {a : Nat} {p1 : Int32} {p2 : Int32} {im : IM} {rm : RM} (hk : kd a = 18) : ev 127 58 [v0, v1, v2] [.int p2, .int p1, .ref a] im rm = (ev 121 0 [.ref a, .int p1, .int p2, pm_u, pm_u] [] im rm).bind (fun r => ev 127 61 [v0, v1, v2] (r.1.toList ++ []) r.2.1 r.2.2) := ev_callV pm_m127 d127_58 l8_193 rfl pm_m121 (by decide) hk rfl ⟨rfl, rfl⟩ rfl rfl
theorem d127_61 : decode prog_10_method_25_code 61 = .ok (.ifCond .eq 7, 3) := by decide +kernel
theorem s127_61 {v0 v1 v2 : Value} {x : Int32} {st : List Value} {im : IM} {rm : RM} : ev 127 61 [v0, v1, v2] (.int x :: st) im rm = if x = nI 0 then ev 127 68 [v0, v1, pm_u] st im rm else ev 127 64 [v0, v1, v2] st im rm := ev_if_eq (y := 0) pm_m127 d127_61 rfl rfl rfl
theorem d127_64 : decode prog_10_method_25_code 64 = .ok (.iconst 3, 1) := by decide +kernel
theorem s127_64 {v0 v1 v2 : Value}  {st : List Value} {im : IM} {rm : RM}  : ev 127 64 [v0, v1, v2] st im rm = ev 127 65 [v0, v1, v2] (.int (nI 3) :: st) (im) (rm) := ev_iconst pm_m127 d127_64 rfl rfl
theorem d127_65 : decode prog_10_method_25_code 65 = .ok (.goto 4, 3) := by decide +kernel
theorem s127_65 {v0 v1 v2 : Value}  {st : List Value} {im : IM} {rm : RM}  : ev 127 65 [v0, v1, v2] st im rm = ev 127 69 [v0, v1, pm_u] st (im) (rm) := ev_goto pm_m127 d127_65 rfl rfl
theorem d127_68 : decode prog_10_method_25_code 68 = .ok (.iconst (-1), 1) := by decide +kernel
theorem s127_68 {v0 v1 v2 : Value}  {st : List Value} {im : IM} {rm : RM}  : ev 127 68 [v0, v1, v2] st im rm = ev 127 69 [v0, v1, pm_u] (.int ((-1 : Int32)) :: st) (im) (rm) := ev_iconst pm_m127 d127_68 rfl rfl
theorem d127_69 : decode prog_10_method_25_code 69 = .ok (.istore_n 2, 1) := by decide +kernel
theorem s127_69 {v0 v2 : Value} {l1 : Int32} {x2 : Int32} {st : List Value} {im : IM} {rm : RM}  : ev 127 69 [v0, .int l1, v2] (.int x2 :: st) im rm = ev 127 70 [v0, .int l1, .int x2] st (im) (rm) := ev_istore_n pm_m127 d127_69 (Nat.le_of_ble_eq_true rfl) rfl rfl
theorem d127_70 : decode prog_10_method_25_code 70 = .ok (.iload_n 2, 1) := by decide +kernel
theorem s127_70 {v0 v1 : Value} {l1 : Int32} {st : List Value} {im : IM} {rm : RM}  : ev 127 70 [v0, v1, .int l1] st im rm = ev 127 71 [v0, v1, .int l1] (.int l1 :: st) (im) (rm) := ev_iload_n pm_m127 d127_70 rfl rfl
theorem d127_71 : decode prog_10_method_25_code 71 = .ok (.iconst (-1), 1) := by decide +kernel
theorem s127_71 {v0 v1 v2 : Value}  {st : List Value} {im : IM} {rm : RM}  : ev 127 71 [v0, v1, v2] st im rm = ev 127 72 [v0, v1, v2] (.int ((-1 : Int32)) :: st) (im) (rm) := ev_iconst pm_m127 d127_71 rfl rfl
theorem d127_72 : decode prog_10_method_25_code 72 = .ok (.if_icmp .ne 5, 3) := by decide +kernel
theorem s127_72 {v0 v1 v2 : Value} {x : Int32} {y : Int32} {st : List Value} {im : IM} {rm : RM} : ev 127 72 [v0, v1, v2] (.int y :: .int x :: st) im rm = if x = y then ev 127 75 [v0, v1, v2] st im rm else ev 127 77 [v0, v1, v2] st im rm := ev_icmp_ne pm_m127 d127_72 rfl rfl rfl
theorem d127_75 : decode prog_10_method_25_code 75 = .ok (.iconst 0, 1) := by decide +kernel
theorem s127_75 {v0 v1 v2 : Value}  {st : List Value} {im : IM} {rm : RM}  : ev 127 75 [v0, v1, v2] st im rm = ev 127 76 [v0, v1, v2] (.int (nI 0) :: st) (im) (rm) := ev_iconst pm_m127 d127_75 rfl rfl
theorem d127_76 : decode prog_10_method_25_code 76 = .ok (.ireturn, 1) := by decide +kernel
theorem s127_76 {v0 v1 v2 : Value} {x : Int32} {im : IM} {rm : RM} (hx : x = 0 ∨ x = 1) : ev 127 76 [v0, v1, v2] [.int x] im rm = some (some (.int x), im, rm) := ev_zreturn pm_m127 d127_76 rfl hx
theorem d127_77 : decode prog_10_method_25_code 77 = .ok (.aload_n 0, 1) := by decide +kernel
theorem s127_77 {v1 v2 : Value} {l1 : Nat} {st : List Value} {im : IM} {rm : RM}  : ev 127 77 [.ref l1, v1, v2] st im rm = ev 127 78 [.ref l1, v1, v2] (.ref l1 :: st) (im) (rm) := ev_aload_n pm_m127 d127_77 rfl rfl
theorem d127_78 : decode prog_10_method_25_code 78 = .ok (.invokevirtual 196, 3) := by decide +kernel
theorem s127_78 {v0 v1 v2 : Value} {a : Nat} {im : IM} {rm : RM} (hk : kd a = 18) : ev 127 78 [v0, v1, v2] [.ref a] im rm = (ev 120 0 [.ref a] [] im rm).bind (fun r => ev 127 81 [v0, v1, v2] (r.1.toList ++ []) r.2.1 r.2.2) := ev_callV pm_m127 d127_78 l8_196 rfl pm_m120 (by decide) hk rfl ⟨rfl, rfl⟩ rfl rfl
theorem d127_81 : decode prog_10_method_25_code 81 = .ok (.iload_n 2, 1) := by decide +kernel
theorem s127_81 {v0 v1 : Value} {l1 : Int32} {st : List Value} {im : IM} {rm : RM}  : ev 127 81 [v0, v1, .int l1] st im rm = ev 127 82 [v0, v1, .int l1] (.int l1 :: st) (im) (rm) := ev_iload_n pm_m127 d127_81 rfl rfl
theorem d127_82 : decode prog_10_method_25_code 82 = .ok (.iconst 2, 1) := by decide +kernel
theorem s127_82 {v0 v1 v2 : Value}  {st : List Value} {im : IM} {rm : RM}  : ev 127 82 [v0, v1, v2] st im rm = ev 127 83 [v0, v1, v2] (.int (nI 2) :: st) (im) (rm) := ev_iconst pm_m127 d127_82 rfl rfl
theorem d127_83 : decode prog_10_method_25_code 83 = .ok (.if_icmp .ge 16, 3) := by decide +kernel
theorem s127_83 {v0 v1 v2 : Value} {x : Int32} {y : Int32} {st : List Value} {im : IM} {rm : RM} : ev 127 83 [v0, v1, v2] (.int y :: .int x :: st) im rm = if y ≤ x then ev 127 99 [v0, v1, v2] st im rm else ev 127 86 [v0, v1, v2] st im rm := ev_icmp_ge pm_m127 d127_83 rfl rfl rfl
theorem d127_86 : decode prog_10_method_25_code 86 = .ok (.aload_n 0, 1) := by decide +kernel
theorem s127_86 {v1 v2 : Value} {l1 : Nat} {st : List Value} {im : IM} {rm : RM}  : ev 127 86 [.ref l1, v1, v2] st im rm = ev 127 87 [.ref l1, v1, v2] (.ref l1 :: st) (im) (rm) := ev_aload_n pm_m127 d127_86 rfl rfl
theorem d127_87 : decode prog_10_method_25_code 87 = .ok (.sipush 999, 3) := by decide +kernel
theorem s127_87 {v0 v1 v2 : Value}  {st : List Value} {im : IM} {rm : RM}  : ev 127 87 [v0, v1, v2] st im rm = ev 127 90 [v0, v1, v2] (.int (nI 999) :: st) (im) (rm) := ev_sipush pm_m127 d127_87 rfl rfl
theorem d127_90 : decode prog_10_method_25_code 90 = .ok (.invokevirtual 216, 3) := by decide +kernel
theorem s127_90 {v0 v1 v2 : Value} {a : Nat} {p1 : Int32} {im : IM} {rm : RM} (hk : kd a = 18) : ev 127 90 [v0, v1, v2] [.int p1, .ref a] im rm = (ev 123 0 [.ref a, .int p1, pm_u, pm_u] [] im rm).bind (fun r => ev 127 93 [v0, v1, v2] (r.1.toList ++ []) r.2.1 r.2.2) := ev_callV pm_m127 d127_90 l8_216 rfl pm_m123 (by decide) hk rfl ⟨rfl, rfl⟩ rfl rfl
theorem d127_93 : decode prog_10_method_25_code 93 = .ok (.ifCond .ne 15, 3) := by decide +kernel
theorem s127_93 {v0 v1 v2 : Value} {x : Int32} {st : List Value} {im : IM} {rm : RM} : ev 127 93 [v0, v1, v2] (.int x :: st) im rm = if x = nI 0 then ev 127 96 [v0, v1, v2] st im rm else ev 127 108 [v0, v1, v2] st im rm := ev_if_ne (y := 0) pm_m127 d127_93 rfl rfl rfl
theorem d127_96 : decode prog_10_method_25_code 96 = .ok (.goto 10, 3) := by decide +kernel
theorem s127_96 {v0 v1 v2 : Value}  {st : List Value} {im : IM} {rm : RM}  : ev 127 96 [v0, v1, v2] st im rm = ev 127 106 [pm_u, pm_u, pm_u] st (im) (rm) := ev_goto pm_m127 d127_96 rfl rfl
theorem d127_99 : decode prog_10_method_25_code 99 = .ok (.aload_n 0, 1) := by decide +kernel
theorem s127_99 {v1 v2 : Value} {l1 : Nat} {st : List Value} {im : IM} {rm : RM}  : ev 127 99 [.ref l1, v1, v2] st im rm = ev 127 100 [.ref l1, v1, v2] (.ref l1 :: st) (im) (rm) := ev_aload_n pm_m127 d127_99 rfl rfl
theorem d127_100 : decode prog_10_method_25_code 100 = .ok (.invokevirtual 210, 3) := by decide +kernel
theorem s127_100 {v0 v1 v2 : Value} {a : Nat} {im : IM} {rm : RM} (hk : kd a = 18) : ev 127 100 [v0, v1, v2] [.ref a] im rm = (ev 124 0 [.ref a, pm_u] [] im rm).bind (fun r => ev 127 103 [v0, v1, v2] (r.1.toList ++ []) r.2.1 r.2.2) := ev_callV pm_m127 d127_100 l8_210 rfl pm_m124 (by decide) hk rfl ⟨rfl, rfl⟩ rfl rfl
theorem d127_103 : decode prog_10_method_25_code 103 = .ok (.ifCond .ne 5, 3) := by decide +kernel
theorem s127_103 {v0 v1 v2 : Value} {x : Int32} {st : List Value} {im : IM} {rm : RM} : ev 127 103 [v0, v1, v2] (.int x :: st) im rm = if x = nI 0 then ev 127 106 [pm_u, pm_u, pm_u] st im rm else ev 127 108 [v0, v1, v2] st im rm := ev_if_ne (y := 0) pm_m127 d127_103 rfl rfl rfl
theorem d127_106 : decode prog_10_method_25_code 106 = .ok (.iconst 0, 1) := by decide +kernel
theorem s127_106 {v0 v1 v2 : Value}  {st : List Value} {im : IM} {rm : RM}  : ev 127 106 [v0, v1, v2] st im rm = ev 127 107 [v0, v1, v2] (.int (nI 0) :: st) (im) (rm) := ev_iconst pm_m127 d127_106 rfl rfl
theorem d127_107 : decode prog_10_method_25_code 107 = .ok (.ireturn, 1) := by decide +kernel
theorem s127_107 {v0 v1 v2 : Value} {x : Int32} {im : IM} {rm : RM} (hx : x = 0 ∨ x = 1) : ev 127 107 [v0, v1, v2] [.int x] im rm = some (some (.int x), im, rm) := ev_zreturn pm_m127 d127_107 rfl hx
theorem d127_108 : decode prog_10_method_25_code 108 = .ok (.aload_n 0, 1) := by decide +kernel
theorem s127_108 {v1 v2 : Value} {l1 : Nat} {st : List Value} {im : IM} {rm : RM}  : ev 127 108 [.ref l1, v1, v2] st im rm = ev 127 109 [.ref l1, v1, v2] (.ref l1 :: st) (im) (rm) := ev_aload_n pm_m127 d127_108 rfl rfl
theorem d127_109 : decode prog_10_method_25_code 109 = .ok (.getfield 64, 3) := by decide +kernel
theorem s127_109 {v0 v1 v2 : Value} {a : Nat} {st : List Value} {im : IM} {rm : RM} (hk : kd a = 18) : ev 127 109 [v0, v1, v2] (.ref a :: st) im rm = ev 127 112 [v0, v1, v2] (pm_ro (rm a 19) :: st) (im) (rm) := ev_getR pm_m127 d127_109 f8_64 rfl hk rfl
theorem d127_112 : decode prog_10_method_25_code 112 = .ok (.iload_n 1, 1) := by decide +kernel
theorem s127_112 {v0 v2 : Value} {l1 : Int32} {st : List Value} {im : IM} {rm : RM}  : ev 127 112 [v0, .int l1, v2] st im rm = ev 127 113 [v0, .int l1, v2] (.int l1 :: st) (im) (rm) := ev_iload_n pm_m127 d127_112 rfl rfl
theorem d127_113 : decode prog_10_method_25_code 113 = .ok (.iload_n 2, 1) := by decide +kernel
theorem s127_113 {v0 v1 : Value} {l1 : Int32} {st : List Value} {im : IM} {rm : RM}  : ev 127 113 [v0, v1, .int l1] st im rm = ev 127 114 [v0, v1, .int l1] (.int l1 :: st) (im) (rm) := ev_iload_n pm_m127 d127_113 rfl rfl
theorem d127_114 : decode prog_10_method_25_code 114 = .ok (.iastore, 1) := by decide +kernel
theorem s127_114 {v0 v1 v2 : Value} {a : Nat} {i : Int32} {v : Int32} {st : List Value} {im : IM} {rm : RM} (hk : kd a = 0) (hi : pm_in i (ln a) = true) : ev 127 114 [v0, v1, v2] (.int v :: .int i :: .ref a :: st) im rm = ev 127 115 [v0, v1, v2] st (pm_w2 im a i.toNatClampNeg v) (rm) := ev_iast pm_m127 d127_114 hk hi rfl
theorem d127_115 : decode prog_10_method_25_code 115 = .ok (.aload_n 0, 1) := by decide +kernel
theorem s127_115 {v1 v2 : Value} {l1 : Nat} {st : List Value} {im : IM} {rm : RM}  : ev 127 115 [.ref l1, v1, v2] st im rm = ev 127 116 [.ref l1, v1, v2] (.ref l1 :: st) (im) (rm) := ev_aload_n pm_m127 d127_115 rfl rfl
theorem d127_116 : decode prog_10_method_25_code 116 = .ok (.getfield 67, 3) := by decide +kernel
theorem s127_116 {v0 v1 v2 : Value} {a : Nat} {st : List Value} {im : IM} {rm : RM} (hk : kd a = 18) : ev 127 116 [v0, v1, v2] (.ref a :: st) im rm = ev 127 119 [v0, v1, v2] (pm_ro (rm a 20) :: st) (im) (rm) := ev_getR pm_m127 d127_116 f8_67 rfl hk rfl
theorem d127_119 : decode prog_10_method_25_code 119 = .ok (.iload_n 1, 1) := by decide +kernel
theorem s127_119 {v0 v2 : Value} {l1 : Int32} {st : List Value} {im : IM} {rm : RM}  : ev 127 119 [v0, .int l1, v2] st im rm = ev 127 120 [v0, .int l1, v2] (.int l1 :: st) (im) (rm) := ev_iload_n pm_m127 d127_119 rfl rfl
theorem d127_120 : decode prog_10_method_25_code 120 = .ok (.aload_n 0, 1) := by decide +kernel
theorem s127_120 {v1 v2 : Value} {l1 : Nat} {st : List Value} {im : IM} {rm : RM}  : ev 127 120 [.ref l1, v1, v2] st im rm = ev 127 121 [.ref l1, v1, v2] (.ref l1 :: st) (im) (rm) := ev_aload_n pm_m127 d127_120 rfl rfl
theorem d127_121 : decode prog_10_method_25_code 121 = .ok (.getfield 199, 3) := by decide +kernel
theorem s127_121 {v0 v1 v2 : Value} {a : Nat} {st : List Value} {im : IM} {rm : RM} (hk : kd a = 18) : ev 127 121 [v0, v1, v2] (.ref a :: st) im rm = ev 127 124 [v0, v1, v2] (.int (im a 37) :: st) (im) (rm) := ev_getI pm_m127 d127_121 f8_199 rfl hk rfl
theorem d127_124 : decode prog_10_method_25_code 124 = .ok (.iastore, 1) := by decide +kernel
theorem s127_124 {v0 v1 v2 : Value} {a : Nat} {i : Int32} {v : Int32} {st : List Value} {im : IM} {rm : RM} (hk : kd a = 0) (hi : pm_in i (ln a) = true) : ev 127 124 [v0, v1, v2] (.int v :: .int i :: .ref a :: st) im rm = ev 127 125 [v0, v1, v2] st (pm_w2 im a i.toNatClampNeg v) (rm) := ev_iast pm_m127 d127_124 hk hi rfl
theorem d127_125 : decode prog_10_method_25_code 125 = .ok (.aload_n 0, 1) := by decide +kernel
theorem s127_125 {v1 v2 : Value} {l1 : Nat} {st : List Value} {im : IM} {rm : RM}  : ev 127 125 [.ref l1, v1, v2] st im rm = ev 127 126 [.ref l1, v1, v2] (.ref l1 :: st) (im) (rm) := ev_aload_n pm_m127 d127_125 rfl rfl
theorem d127_126 : decode prog_10_method_25_code 126 = .ok (.getfield 61, 3) := by decide +kernel
theorem s127_126 {v0 v1 v2 : Value} {a : Nat} {st : List Value} {im : IM} {rm : RM} (hk : kd a = 18) : ev 127 126 [v0, v1, v2] (.ref a :: st) im rm = ev 127 129 [v0, v1, v2] (pm_ro (rm a 18) :: st) (im) (rm) := ev_getR pm_m127 d127_126 f8_61 rfl hk rfl
theorem d127_129 : decode prog_10_method_25_code 129 = .ok (.iconst 2, 1) := by decide +kernel
theorem s127_129 {v0 v1 v2 : Value}  {st : List Value} {im : IM} {rm : RM}  : ev 127 129 [v0, v1, v2] st im rm = ev 127 130 [v0, v1, v2] (.int (nI 2) :: st) (im) (rm) := ev_iconst pm_m127 d127_129 rfl rfl
theorem d127_130 : decode prog_10_method_25_code 130 = .ok (.dup2, 1) := by decide +kernel
theorem s127_130 {v0 v1 v2 : Value} {y : Int32} {x : Nat} {st : List Value} {im : IM} {rm : RM}  : ev 127 130 [v0, v1, v2] (.int y :: .ref x :: st) im rm = ev 127 131 [v0, v1, v2] (.int y :: .ref x :: .int y :: .ref x :: st) (im) (rm) := ev_dup2 pm_m127 d127_130 rfl
theorem d127_131 : decode prog_10_method_25_code 131 = .ok (.iaload, 1) := by decide +kernel
theorem s127_131 {v0 v1 v2 : Value} {a : Nat} {i : Int32} {st : List Value} {im : IM} {rm : RM} (hk : kd a = 0) (hi : pm_in i (ln a) = true) : ev 127 131 [v0, v1, v2] (.int i :: .ref a :: st) im rm = ev 127 132 [v0, v1, v2] (.int (im a i.toNatClampNeg) :: st) (im) (rm) := ev_iald pm_m127 d127_131 hk hi rfl
theorem d127_132 : decode prog_10_method_25_code 132 = .ok (.iconst 1, 1) := by decide +kernel
theorem s127_132 {v0 v1 v2 : Value}  {st : List Value} {im : IM} {rm : RM}  : ev 127 132 [v0, v1, v2] st im rm = ev 127 133 [v0, v1, v2] (.int (nI 1) :: st) (im) (rm) := ev_iconst pm_m127 d127_132 rfl rfl
theorem d127_133 : decode prog_10_method_25_code 133 = .ok (.iadd, 1) := by decide +kernel
theorem s127_133 {v0 v1 v2 : Value} {x : Int32} {y : Int32} {st : List Value} {im : IM} {rm : RM}  : ev 127 133 [v0, v1, v2] (.int y :: .int x :: st) im rm = ev 127 134 [v0, v1, v2] (.int (x + y) :: st) (im) (rm) := ev_iadd pm_m127 d127_133 rfl
theorem d127_134 : decode prog_10_method_25_code 134 = .ok (.iastore, 1) := by decide +kernel
theorem s127_134 {v0 v1 v2 : Value} {a : Nat} {i : Int32} {v : Int32} {st : List Value} {im : IM} {rm : RM} (hk : kd a = 0) (hi : pm_in i (ln a) = true) : ev 127 134 [v0, v1, v2] (.int v :: .int i :: .ref a :: st) im rm = ev 127 135 [v0, v1, v2] st (pm_w2 im a i.toNatClampNeg v) (rm) := ev_iast pm_m127 d127_134 hk hi rfl
theorem d127_135 : decode prog_10_method_25_code 135 = .ok (.iconst 1, 1) := by decide +kernel
theorem s127_135 {v0 v1 v2 : Value}  {st : List Value} {im : IM} {rm : RM}  : ev 127 135 [v0, v1, v2] st im rm = ev 127 136 [v0, v1, v2] (.int (nI 1) :: st) (im) (rm) := ev_iconst pm_m127 d127_135 rfl rfl
theorem d127_136 : decode prog_10_method_25_code 136 = .ok (.ireturn, 1) := by decide +kernel
theorem s127_136 {v0 v1 v2 : Value} {x : Int32} {im : IM} {rm : RM} (hx : x = 0 ∨ x = 1) : ev 127 136 [v0, v1, v2] [.int x] im rm = some (some (.int x), im, rm) := ev_zreturn pm_m127 d127_136 rfl hx
theorem d128_0 : decode prog_10_method_26_code 0 = .ok (.iload_n 1, 1) := by decide +kernel
theorem s128_0 {v0 : Value} {l1 : Int32} {st : List Value} {im : IM} {rm : RM}  : ev 128 0 [v0, .int l1] st im rm = ev 128 1 [v0, .int l1] (.int l1 :: st) (im) (rm) := ev_iload_n pm_m128 d128_0 rfl rfl
theorem d128_1 : decode prog_10_method_26_code 1 = .ok (.ifCond .ne 10, 3) := by decide +kernel
theorem s128_1 {v0 v1 : Value} {x : Int32} {st : List Value} {im : IM} {rm : RM} : ev 128 1 [v0, v1] (.int x :: st) im rm = if x = nI 0 then ev 128 4 [v0, v1] st im rm else ev 128 11 [v0, pm_u] st im rm := ev_if_ne (y := 0) pm_m128 d128_1 rfl rfl rfl
theorem d128_4 : decode prog_10_method_26_code 4 = .ok (.aload_n 0, 1) := by decide +kernel
theorem s128_4 {v1 : Value} {l1 : Nat} {st : List Value} {im : IM} {rm : RM}  : ev 128 4 [.ref l1, v1] st im rm = ev 128 5 [.ref l1, v1] (.ref l1 :: st) (im) (rm) := ev_aload_n pm_m128 d128_4 rfl rfl
theorem d128_5 : decode prog_10_method_26_code 5 = .ok (.invokevirtual 228, 3) := by decide +kernel
theorem s128_5 {v0 v1 : Value} {a : Nat} {im : IM} {rm : RM} (hk : kd a = 18) : ev 128 5 [v0, v1] [.ref a] im rm = (ev 126 0 [.ref a, pm_u, pm_u] [] im rm).bind (fun r => ev 128 8 [v0, v1] (r.1.toList ++ []) r.2.1 r.2.2) := ev_callV pm_m128 d128_5 l8_228 rfl pm_m126 (by decide) hk rfl ⟨rfl, rfl⟩ rfl rfl
theorem d128_8 : decode prog_10_method_26_code 8 = .ok (.goto 7, 3) := by decide +kernel
theorem s128_8 {v0 v1 : Value}  {st : List Value} {im : IM} {rm : RM}  : ev 128 8 [v0, v1] st im rm = ev 128 15 [pm_u, pm_u] st (im) (rm) := ev_goto pm_m128 d128_8 rfl rfl
theorem d128_11 : decode prog_10_method_26_code 11 = .ok (.aload_n 0, 1) := by decide +kernel
theorem s128_11 {v1 : Value} {l1 : Nat} {st : List Value} {im : IM} {rm : RM}  : ev 128 11 [.ref l1, v1] st im rm = ev 128 12 [.ref l1, v1] (.ref l1 :: st) (im) (rm) := ev_aload_n pm_m128 d128_11 rfl rfl
theorem d128_12 : decode prog_10_method_26_code 12 = .ok (.invokevirtual 231, 3) := by decide +kernel
theorem s128_12 {v0 v1 : Value} {a : Nat} {im : IM} {rm : RM} (hk : kd a = 18) : ev 128 12 [v0, v1] [.ref a] im rm = (ev 127 0 [.ref a, pm_u, pm_u] [] im rm).bind (fun r => ev 128 15 [pm_u, pm_u] (r.1.toList ++ []) r.2.1 r.2.2) := ev_callV pm_m128 d128_12 l8_231 rfl pm_m127 (by decide) hk rfl ⟨rfl, rfl⟩ rfl rfl
theorem d128_15 : decode prog_10_method_26_code 15 = .ok (.ireturn, 1) := by decide +kernel
theorem s128_15 {v0 v1 : Value} {x : Int32} {im : IM} {rm : RM} (hx : x = 0 ∨ x = 1) : ev 128 15 [v0, v1] [.int x] im rm = some (some (.int x), im, rm) := ev_zreturn pm_m128 d128_15 rfl hx
theorem d129_0 : decode prog_10_method_27_code 0 = .ok (.aload_n 0, 1) := by decide +kernel
theorem s129_0 {v1 v2 : Value} {l1 : Nat} {st : List Value} {im : IM} {rm : RM}  : ev 129 0 [.ref l1, v1, v2] st im rm = ev 129 1 [.ref l1, v1, v2] (.ref l1 :: st) (im) (rm) := ev_aload_n pm_m129 d129_0 rfl rfl
theorem d129_1 : decode prog_10_method_27_code 1 = .ok (.iconst 0, 1) := by decide +kernel
theorem s129_1 {v0 v1 v2 : Value}  {st : List Value} {im : IM} {rm : RM}  : ev 129 1 [v0, v1, v2] st im rm = ev 129 2 [v0, v1, v2] (.int (nI 0) :: st) (im) (rm) := ev_iconst pm_m129 d129_1 rfl rfl
theorem d129_2 : decode prog_10_method_27_code 2 = .ok (.putfield 180, 3) := by decide +kernel
theorem s129_2 {v0 v1 v2 : Value} {a : Nat} {v : Int32} {st : List Value} {im : IM} {rm : RM} (hk : kd a = 18) : ev 129 2 [v0, v1, v2] (.int v :: .ref a :: st) im rm = ev 129 5 [v0, v1, v2] st (pm_w2 im a 34 v) (rm) := ev_putI pm_m129 d129_2 f8_180 rfl rfl hk rfl
theorem d129_5 : decode prog_10_method_27_code 5 = .ok (.aload_n 0, 1) := by decide +kernel
theorem s129_5 {v1 v2 : Value} {l1 : Nat} {st : List Value} {im : IM} {rm : RM}  : ev 129 5 [.ref l1, v1, v2] st im rm = ev 129 6 [.ref l1, v1, v2] (.ref l1 :: st) (im) (rm) := ev_aload_n pm_m129 d129_5 rfl rfl
theorem d129_6 : decode prog_10_method_27_code 6 = .ok (.getfield 43, 3) := by decide +kernel
theorem s129_6 {v0 v1 v2 : Value} {a : Nat} {st : List Value} {im : IM} {rm : RM} (hk : kd a = 18) : ev 129 6 [v0, v1, v2] (.ref a :: st) im rm = ev 129 9 [v0, v1, v2] (pm_ro (rm a 12) :: st) (im) (rm) := ev_getR pm_m129 d129_6 f8_43 rfl hk rfl
theorem d129_9 : decode prog_10_method_27_code 9 = .ok (.iconst 4, 1) := by decide +kernel
theorem s129_9 {v0 v1 v2 : Value}  {st : List Value} {im : IM} {rm : RM}  : ev 129 9 [v0, v1, v2] st im rm = ev 129 10 [v0, v1, v2] (.int (nI 4) :: st) (im) (rm) := ev_iconst pm_m129 d129_9 rfl rfl
theorem d129_10 : decode prog_10_method_27_code 10 = .ok (.iconst 0, 1) := by decide +kernel
theorem s129_10 {v0 v1 v2 : Value}  {st : List Value} {im : IM} {rm : RM}  : ev 129 10 [v0, v1, v2] st im rm = ev 129 11 [v0, v1, v2] (.int (nI 0) :: st) (im) (rm) := ev_iconst pm_m129 d129_10 rfl rfl
theorem d129_11 : decode prog_10_method_27_code 11 = .ok (.iastore, 1) := by decide +kernel
theorem s129_11 {v0 v1 v2 : Value} {a : Nat} {i : Int32} {v : Int32} {st : List Value} {im : IM} {rm : RM} (hk : kd a = 0) (hi : pm_in i (ln a) = true) : ev 129 11 [v0, v1, v2] (.int v :: .int i :: .ref a :: st) im rm = ev 129 12 [v0, v1, v2] st (pm_w2 im a i.toNatClampNeg v) (rm) := ev_iast pm_m129 d129_11 hk hi rfl
theorem d129_12 : decode prog_10_method_27_code 12 = .ok (.aload_n 0, 1) := by decide +kernel
theorem s129_12 {v1 v2 : Value} {l1 : Nat} {st : List Value} {im : IM} {rm : RM}  : ev 129 12 [.ref l1, v1, v2] st im rm = ev 129 13 [.ref l1, v1, v2] (.ref l1 :: st) (im) (rm) := ev_aload_n pm_m129 d129_12 rfl rfl
theorem d129_13 : decode prog_10_method_27_code 13 = .ok (.getfield 61, 3) := by decide +kernel
theorem s129_13 {v0 v1 v2 : Value} {a : Nat} {st : List Value} {im : IM} {rm : RM} (hk : kd a = 18) : ev 129 13 [v0, v1, v2] (.ref a :: st) im rm = ev 129 16 [v0, v1, v2] (pm_ro (rm a 18) :: st) (im) (rm) := ev_getR pm_m129 d129_13 f8_61 rfl hk rfl
theorem d129_16 : decode prog_10_method_27_code 16 = .ok (.iconst 2, 1) := by decide +kernel
theorem s129_16 {v0 v1 v2 : Value}  {st : List Value} {im : IM} {rm : RM}  : ev 129 16 [v0, v1, v2] st im rm = ev 129 17 [v0, v1, v2] (.int (nI 2) :: st) (im) (rm) := ev_iconst pm_m129 d129_16 rfl rfl
theorem d129_17 : decode prog_10_method_27_code 17 = .ok (.iconst 0, 1) := by decide +kernel
theorem s129_17 {v0 v1 v2 : Value}  {st : List Value} {im : IM} {rm : RM}  : ev 129 17 [v0, v1, v2] st im rm = ev 129 18 [v0, v1, v2] (.int (nI 0) :: st) (im) (rm) := ev_iconst pm_m129 d129_17 rfl rfl
theorem d129_18 : decode prog_10_method_27_code 18 = .ok (.iastore, 1) := by decide +kernel
theorem s129_18 {v0 v1 v2 : Value} {a : Nat} {i : Int32} {v : Int32} {st : List Value} {im : IM} {rm : RM} (hk : kd a = 0) (hi : pm_in i (ln a) = true) : ev 129 18 [v0, v1, v2] (.int v :: .int i :: .ref a :: st) im rm = ev 129 19 [v0, v1, v2] st (pm_w2 im a i.toNatClampNeg v) (rm) := ev_iast pm_m129 d129_18 hk hi rfl
theorem d129_19 : decode prog_10_method_27_code 19 = .ok (.aload_n 0, 1) := by decide +kernel
theorem s129_19 {v1 v2 : Value} {l1 : Nat} {st : List Value} {im : IM} {rm : RM}  : ev 129 19 [.ref l1, v1, v2] st im rm = ev 129 20 [.ref l1, v1, v2] (.ref l1 :: st) (im) (rm) := ev_aload_n pm_m129 d129_19 rfl rfl
theorem d129_20 : decode prog_10_method_27_code 20 = .ok (.invokevirtual 196, 3) := by decide +kernel
theorem s129_20 {v0 v1 v2 : Value} {a : Nat} {im : IM} {rm : RM} (hk : kd a = 18) : ev 129 20 [v0, v1, v2] [.ref a] im rm = (ev 120 0 [.ref a] [] im rm).bind (fun r => ev 129 23 [v0, v1, v2] (r.1.toList ++ []) r.2.1 r.2.2) := ev_callV pm_m129 d129_20 l8_196 rfl pm_m120 (by decide) hk rfl ⟨rfl, rfl⟩ rfl rfl
theorem d129_23 : decode prog_10_method_27_code 23 = .ok (.aload_n 0, 1) := by decide +kernel
theorem s129_23 {v1 v2 : Value} {l1 : Nat} {st : List Value} {im : IM} {rm : RM}  : ev 129 23 [.ref l1, v1, v2] st im rm = ev 129 24 [.ref l1, v1, v2] (.ref l1 :: st) (im) (rm) := ev_aload_n pm_m129 d129_23 rfl rfl
theorem d129_24 : decode prog_10_method_27_code 24 = .ok (.iload_n 1, 1) := by decide +kernel
theorem s129_24 {v0 v2 : Value} {l1 : Int32} {st : List Value} {im : IM} {rm : RM}  : ev 129 24 [v0, .int l1, v2] st im rm = ev 129 25 [v0, .int l1, v2] (.int l1 :: st) (im) (rm) := ev_iload_n pm_m129 d129_24 rfl rfl
theorem d129_25 : decode prog_10_method_27_code 25 = .ok (.invokevirtual 234, 3) := by decide +kernel
theorem s129_25 {v0 v1 v2 : Value} {a : Nat} {p1 : Int32} {im : IM} {rm : RM} (hk : kd a = 18) : ev 129 25 [v0, v1, v2] [.int p1, .ref a] im rm = (ev 128 0 [.ref a, .int p1] [] im rm).bind (fun r => ev 129 28 [v0, v1, v2] (r.1.toList ++ []) r.2.1 r.2.2) := ev_callV pm_m129 d129_25 l8_234 rfl pm_m128 (by decide) hk rfl ⟨rfl, rfl⟩ rfl rfl
theorem d129_28 : decode prog_10_method_27_code 28 = .ok (.ifCond .ne 8, 3) := by decide +kernel
theorem s129_28 {v0 v1 v2 : Value} {x : Int32} {st : List Value} {im : IM} {rm : RM} : ev 129 28 [v0, v1, v2] (.int x :: st) im rm = if x = nI 0 then ev 129 31 [v0, v1, v2] st im rm else ev 129 36 [v0, v1, pm_u] st im rm := ev_if_ne (y := 0) pm_m129 d129_28 rfl rfl rfl
theorem d129_31 : decode prog_10_method_27_code 31 = .ok (.aload_n 0, 1) := by decide +kernel
theorem s129_31 {v1 v2 : Value} {l1 : Nat} {st : List Value} {im : IM} {rm : RM}  : ev 129 31 [.ref l1, v1, v2] st im rm = ev 129 32 [.ref l1, v1, v2] (.ref l1 :: st) (im) (rm) := ev_aload_n pm_m129 d129_31 rfl rfl
theorem d129_32 : decode prog_10_method_27_code 32 = .ok (.getfield 183, 3) := by decide +kernel
theorem s129_32 {v0 v1 v2 : Value} {a : Nat} {st : List Value} {im : IM} {rm : RM} (hk : kd a = 18) : ev 129 32 [v0, v1, v2] (.ref a :: st) im rm = ev 129 35 [v0, v1, v2] (.int (im a 35) :: st) (im) (rm) := ev_getI pm_m129 d129_32 f8_183 rfl hk rfl
theorem d129_35 : decode prog_10_method_27_code 35 = .ok (.ireturn, 1) := by decide +kernel
theorem s129_35 {v0 v1 v2 : Value} {x : Int32} {im : IM} {rm : RM} : ev 129 35 [v0, v1, v2] [.int x] im rm = some (some (.int x), im, rm) := ev_ireturn pm_m129 d129_35 rfl
theorem d129_36 : decode prog_10_method_27_code 36 = .ok (.aload_n 0, 1) := by decide +kernel
theorem s129_36 {v1 v2 : Value} {l1 : Nat} {st : List Value} {im : IM} {rm : RM}  : ev 129 36 [.ref l1, v1, v2] st im rm = ev 129 37 [.ref l1, v1, v2] (.ref l1 :: st) (im) (rm) := ev_aload_n pm_m129 d129_36 rfl rfl
theorem d129_37 : decode prog_10_method_27_code 37 = .ok (.getfield 183, 3) := by decide +kernel
theorem s129_37 {v0 v1 v2 : Value} {a : Nat} {st : List Value} {im : IM} {rm : RM} (hk : kd a = 18) : ev 129 37 [v0, v1, v2] (.ref a :: st) im rm = ev 129 40 [v0, v1, v2] (.int (im a 35) :: st) (im) (rm) := ev_getI pm_m129 d129_37 f8_183 rfl hk rfl
theorem d129_40 : decode prog_10_method_27_code 40 = .ok (.aload_n 0, 1) := by decide +kernel
theorem s129_40 {v1 v2 : Value} {l1 : Nat} {st : List Value} {im : IM} {rm : RM}  : ev 129 40 [.ref l1, v1, v2] st im rm = ev 129 41 [.ref l1, v1, v2] (.ref l1 :: st) (im) (rm) := ev_aload_n pm_m129 d129_40 rfl rfl
theorem d129_41 : decode prog_10_method_27_code 41 = .ok (.getfield 174, 3) := by decide +kernel
theorem s129_41 {v0 v1 v2 : Value} {a : Nat} {st : List Value} {im : IM} {rm : RM} (hk : kd a = 18) : ev 129 41 [v0, v1, v2] (.ref a :: st) im rm = ev 129 44 [v0, v1, v2] (.int (im a 11) :: st) (im) (rm) := ev_getI pm_m129 d129_41 f8_174 rfl hk rfl
theorem d129_44 : decode prog_10_method_27_code 44 = .ok (.if_icmp .ge 91, 3) := by decide +kernel
theorem s129_44 {v0 v1 v2 : Value} {x : Int32} {y : Int32} {st : List Value} {im : IM} {rm : RM} : ev 129 44 [v0, v1, v2] (.int y :: .int x :: st) im rm = if y ≤ x then ev 129 135 [pm_u, pm_u, pm_u] st im rm else ev 129 47 [v0, v1, v2] st im rm := ev_icmp_ge pm_m129 d129_44 rfl rfl rfl
theorem d129_47 : decode prog_10_method_27_code 47 = .ok (.aload_n 0, 1) := by decide +kernel
theorem s129_47 {v1 v2 : Value} {l1 : Nat} {st : List Value} {im : IM} {rm : RM}  : ev 129 47 [.ref l1, v1, v2] st im rm = ev 129 48 [.ref l1, v1, v2] (.ref l1 :: st) (im) (rm) := ev_aload_n pm_m129 d129_47 rfl rfl
theorem d129_48 : decode prog_10_method_27_code 48 = .ok (.getfield 190, 3) := by decide +kernel
theorem s129_48 {v0 v1 v2 : Value} {a : Nat} {st : List Value} {im : IM} {rm : RM} (hk : kd a = 18) : ev 129 48 [v0, v1, v2] (.ref a :: st) im rm = ev 129 51 [v0, v1, v2] (.int (im a 36) :: st) (im) (rm) := ev_getI pm_m129 d129_48 f8_190 rfl hk rfl
theorem d129_51 : decode prog_10_method_27_code 51 = .ok (.aload_n 0, 1) := by decide +kernel
theorem s129_51 {v1 v2 : Value} {l1 : Nat} {st : List Value} {im : IM} {rm : RM}  : ev 129 51 [.ref l1, v1, v2] st im rm = ev 129 52 [.ref l1, v1, v2] (.ref l1 :: st) (im) (rm) := ev_aload_n pm_m129 d129_51 rfl rfl
theorem d129_52 : decode prog_10_method_27_code 52 = .ok (.getfield 183, 3) := by decide +kernel
theorem s129_52 {v0 v1 v2 : Value} {a : Nat} {st : List Value} {im : IM} {rm : RM} (hk : kd a = 18) : ev 129 52 [v0, v1, v2] (.ref a :: st) im rm = ev 129 55 [v0, v1, v2] (.int (im a 35) :: st) (im) (rm) := ev_getI pm_m129 d129_52 f8_183 rfl hk rfl
theorem d129_55 : decode prog_10_method_27_code 55 = .ok (.isub, 1) := by decide +kernel
theorem s129_55 {v0 v1 v2 : Value} {x : Int32} {y : Int32} {st : List Value} {im : IM} {rm : RM}  : ev 129 55 [v0, v1, v2] (.int y :: .int x :: st) im rm = ev 129 56 [v0, v1, v2] (.int (x - y) :: st) (im) (rm) := ev_isub pm_m129 d129_55 rfl
theorem d129_56 : decode prog_10_method_27_code 56 = .ok (.iconst 1, 1) := by decide +kernel
theorem s129_56 {v0 v1 v2 : Value}  {st : List Value} {im : IM} {rm : RM}  : ev 129 56 [v0, v1, v2] st im rm = ev 129 57 [v0, v1, v2] (.int (nI 1) :: st) (im) (rm) := ev_iconst pm_m129 d129_56 rfl rfl
theorem d129_57 : decode prog_10_method_27_code 57 = .ok (.if_icmp .ne 50, 3) := by decide +kernel
theorem s129_57 {v0 v1 v2 : Value} {x : Int32} {y : Int32} {st : List Value} {im : IM} {rm : RM} : ev 129 57 [v0, v1, v2] (.int y :: .int x :: st) im rm = if x = y then ev 129 60 [v0, v1, v2] st im rm else ev 129 107 [v0, v1, pm_u] st im rm := ev_icmp_ne pm_m129 d129_57 rfl rfl rfl
theorem d129_60 : decode prog_10_method_27_code 60 = .ok (.aload_n 0, 1) := by decide +kernel
theorem s129_60 {v1 v2 : Value} {l1 : Nat} {st : List Value} {im : IM} {rm : RM}  : ev 129 60 [.ref l1, v1, v2] st im rm = ev 129 61 [.ref l1, v1, v2] (.ref l1 :: st) (im) (rm) := ev_aload_n pm_m129 d129_60 rfl rfl
theorem d129_61 : decode prog_10_method_27_code 61 = .ok (.getfield 40, 3) := by decide +kernel
theorem s129_61 {v0 v1 v2 : Value} {a : Nat} {st : List Value} {im : IM} {rm : RM} (hk : kd a = 18) : ev 129 61 [v0, v1, v2] (.ref a :: st) im rm = ev 129 64 [v0, v1, v2] (pm_ro (rm a 10) :: st) (im) (rm) := ev_getR pm_m129 d129_61 f8_40 rfl hk rfl
theorem d129_64 : decode prog_10_method_27_code 64 = .ok (.aload_n 0, 1) := by decide +kernel
theorem s129_64 {v1 v2 : Value} {l1 : Nat} {st : List Value} {im : IM} {rm : RM}  : ev 129 64 [.ref l1, v1, v2] st im rm = ev 129 65 [.ref l1, v1, v2] (.ref l1 :: st) (im) (rm) := ev_aload_n pm_m129 d129_64 rfl rfl
theorem d129_65 : decode prog_10_method_27_code 65 = .ok (.getfield 183, 3) := by decide +kernel
theorem s129_65 {v0 v1 v2 : Value} {a : Nat} {st : List Value} {im : IM} {rm : RM} (hk : kd a = 18) : ev 129 65 [v0, v1, v2] (.ref a :: st) im rm = ev 129 68 [v0, v1, v2] (.int (im a 35) :: st) (im) (rm) := ev_getI pm_m129 d129_65 f8_183 rfl hk rfl
theorem d129_68 : decode prog_10_method_27_code 68 = .ok (.iaload, 1) := by decide +kernel
theorem s129_68 {v0 v1 v2 : Value} {a : Nat} {i : Int32} {st : List Value} {im : IM} {rm : RM} (hk : kd a = 0) (hi : pm_in i (ln a) = true) : ev 129 68 [v0, v1, v2] (.int i :: .ref a :: st) im rm = ev 129 69 [v0, v1, v2] (.int (im a i.toNatClampNeg) :: st) (im) (rm) := ev_iald pm_m129 d129_68 hk hi rfl
theorem d129_69 : decode prog_10_method_27_code 69 = .ok (.bipush 59, 2) := by decide +kernel
theorem s129_69 {v0 v1 v2 : Value}  {st : List Value} {im : IM} {rm : RM}  : ev 129 69 [v0, v1, v2] st im rm = ev 129 71 [v0, v1, v2] (.int (nI 59) :: st) (im) (rm) := ev_bipush pm_m129 d129_69 rfl rfl
theorem d129_71 : decode prog_10_method_27_code 71 = .ok (.if_icmp .ne 36, 3) := by decide +kernel
theorem s129_71 {v0 v1 v2 : Value} {x : Int32} {y : Int32} {st : List Value} {im : IM} {rm : RM} : ev 129 71 [v0, v1, v2] (.int y :: .int x :: st) im rm = if x = y then ev 129 74 [v0, v1, v2] st im rm else ev 129 107 [v0, v1, pm_u] st im rm := ev_icmp_ne pm_m129 d129_71 rfl rfl rfl
theorem d129_74 : decode prog_10_method_27_code 74 = .ok (.iload_n 1, 1) := by decide +kernel
theorem s129_74 {v0 v2 : Value} {l1 : Int32} {st : List Value} {im : IM} {rm : RM}  : ev 129 74 [v0, .int l1, v2] st im rm = ev 129 75 [v0, .int l1, v2] (.int l1 :: st) (im) (rm) := ev_iload_n pm_m129 d129_74 rfl rfl
theorem d129_75 : decode prog_10_method_27_code 75 = .ok (.ifCond .ne 17, 3) := by decide +kernel
theorem s129_75 {v0 v1 v2 : Value} {x : Int32} {st : List Value} {im : IM} {rm : RM} : ev 129 75 [v0, v1, v2] (.int x :: st) im rm = if x = nI 0 then ev 129 78 [v0, v1, v2] st im rm else ev 129 92 [v0, v1, pm_u] st im rm := ev_if_ne (y := 0) pm_m129 d129_75 rfl rfl rfl
theorem d129_78 : decode prog_10_method_27_code 78 = .ok (.aload_n 0, 1) := by decide +kernel
theorem s129_78 {v1 v2 : Value} {l1 : Nat} {st : List Value} {im : IM} {rm : RM}  : ev 129 78 [.ref l1, v1, v2] st im rm = ev 129 79 [.ref l1, v1, v2] (.ref l1 :: st) (im) (rm) := ev_aload_n pm_m129 d129_78 rfl rfl
theorem d129_79 : decode prog_10_method_27_code 79 = .ok (.getfield 43, 3) := by decide +kernel
theorem s129_79 {v0 v1 v2 : Value} {a : Nat} {st : List Value} {im : IM} {rm : RM} (hk : kd a = 18) : ev 129 79 [v0, v1, v2] (.ref a :: st) im rm = ev 129 82 [v0, v1, v2] (pm_ro (rm a 12) :: st) (im) (rm) := ev_getR pm_m129 d129_79 f8_43 rfl hk rfl
theorem d129_82 : decode prog_10_method_27_code 82 = .ok (.iconst 4, 1) := by decide +kernel
theorem s129_82 {v0 v1 v2 : Value}  {st : List Value} {im : IM} {rm : RM}  : ev 129 82 [v0, v1, v2] st im rm = ev 129 83 [v0, v1, v2] (.int (nI 4) :: st) (im) (rm) := ev_iconst pm_m129 d129_82 rfl rfl
theorem d129_83 : decode prog_10_method_27_code 83 = .ok (.iaload, 1) := by decide +kernel
theorem s129_83 {v0 v1 v2 : Value} {a : Nat} {i : Int32} {st : List Value} {im : IM} {rm : RM} (hk : kd a = 0) (hi : pm_in i (ln a) = true) : ev 129 83 [v0, v1, v2] (.int i :: .ref a :: st) im rm = ev 129 84 [v0, v1, v2] (.int (im a i.toNatClampNeg) :: st) (im) (rm) := ev_iald pm_m129 d129_83 hk hi rfl
theorem d129_84 : decode prog_10_method_27_code 84 = .ok (.bipush 6, 2) := by decide +kernel
theorem s129_84 {v0 v1 v2 : Value}  {st : List Value} {im : IM} {rm : RM}  : ev 129 84 [v0, v1, v2] st im rm = ev 129 86 [v0, v1, v2] (.int (nI 6) :: st) (im) (rm) := ev_bipush pm_m129 d129_84 rfl rfl
theorem d129_86 : decode prog_10_method_27_code 86 = .ok (.if_icmp .ge 21, 3) := by decide +kernel
theorem s129_86 {v0 v1 v2 : Value} {x : Int32} {y : Int32} {st : List Value} {im : IM} {rm : RM} : ev 129 86 [v0, v1, v2] (.int y :: .int x :: st) im rm = if y ≤ x then ev 129 107 [v0, v1, pm_u] st im rm else ev 129 89 [v0, v1, v2] st im rm := ev_icmp_ge pm_m129 d129_86 rfl rfl rfl
theorem d129_89 : decode prog_10_method_27_code 89 = .ok (.goto 14, 3) := by decide +kernel
theorem s129_89 {v0 v1 v2 : Value}  {st : List Value} {im : IM} {rm : RM}  : ev 129 89 [v0, v1, v2] st im rm = ev 129 103 [v0, v1, pm_u] st (im) (rm) := ev_goto pm_m129 d129_89 rfl rfl
theorem d129_92 : decode prog_10_method_27_code 92 = .ok (.aload_n 0, 1) := by decide +kernel
theorem s129_92 {v1 v2 : Value} {l1 : Nat} {st : List Value} {im : IM} {rm : RM}  : ev 129 92 [.ref l1, v1, v2] st im rm = ev 129 93 [.ref l1, v1, v2] (.ref l1 :: st) (im) (rm) := ev_aload_n pm_m129 d129_92 rfl rfl
theorem d129_93 : decode prog_10_method_27_code 93 = .ok (.getfield 61, 3) := by decide +kernel
theorem s129_93 {v0 v1 v2 : Value} {a : Nat} {st : List Value} {im : IM} {rm : RM} (hk : kd a = 18) : ev 129 93 [v0, v1, v2] (.ref a :: st) im rm = ev 129 96 [v0, v1, v2] (pm_ro (rm a 18) :: st) (im) (rm) := ev_getR pm_m129 d129_93 f8_61 rfl hk rfl
theorem d129_96 : decode prog_10_method_27_code 96 = .ok (.iconst 2, 1) := by decide +kernel
theorem s129_96 {v0 v1 v2 : Value}  {st : List Value} {im : IM} {rm : RM}  : ev 129 96 [v0, v1, v2] st im rm = ev 129 97 [v0, v1, v2] (.int (nI 2) :: st) (im) (rm) := ev_iconst pm_m129 d129_96 rfl rfl
theorem d129_97 : decode prog_10_method_27_code 97 = .ok (.iaload, 1) := by decide +kernel
theorem s129_97 {v0 v1 v2 : Value} {a : Nat} {i : Int32} {st : List Value} {im : IM} {rm : RM} (hk : kd a = 0) (hi : pm_in i (ln a) = true) : ev 129 97 [v0, v1, v2] (.int i :: .ref a :: st) im rm = ev 129 98 [v0, v1, v2] (.int (im a i.toNatClampNeg) :: st) (im) (rm) := ev_iald pm_m129 d129_97 hk hi rfl
theorem d129_98 : decode prog_10_method_27_code 98 = .ok (.bipush 8, 2) := by decide +kernel
theorem s129_98 {v0 v1 v2 : Value}  {st : List Value} {im : IM} {rm : RM}  : ev 129 98 [v0, v1, v2] st im rm = ev 129 100 [v0, v1, v2] (.int (nI 8) :: st) (im) (rm) := ev_bipush pm_m129 d129_98 rfl rfl
theorem d129_100 : decode prog_10_method_27_code 100 = .ok (.if_icmp .ge 7, 3) := by decide +kernel
theorem s129_100 {v0 v1 v2 : Value} {x : Int32} {y : Int32} {st : List Value} {im : IM} {rm : RM} : ev 129 100 [v0, v1, v2] (.int y :: .int x :: st) im rm = if y ≤ x then ev 129 107 [v0, v1, pm_u] st im rm else ev 129 103 [v0, v1, pm_u] st im rm := ev_icmp_ge pm_m129 d129_100 rfl rfl rfl
theorem d129_103 : decode prog_10_method_27_code 103 = .ok (.iconst 1, 1) := by decide +kernel
theorem s129_103 {v0 v1 v2 : Value}  {st : List Value} {im : IM} {rm : RM}  : ev 129 103 [v0, v1, v2] st im rm = ev 129 104 [v0, v1, v2] (.int (nI 1) :: st) (im) (rm) := ev_iconst pm_m129 d129_103 rfl rfl
theorem d129_104 : decode prog_10_method_27_code 104 = .ok (.goto 4, 3) := by decide +kernel
theorem s129_104 {v0 v1 v2 : Value}  {st : List Value} {im : IM} {rm : RM}  : ev 129 104 [v0, v1, v2] st im rm = ev 129 108 [v0, v1, pm_u] st (im) (rm) := ev_goto pm_m129 d129_104 rfl rfl
theorem d129_107 : decode prog_10_method_27_code 107 = .ok (.iconst 0, 1) := by decide +kernel
theorem s129_107 {v0 v1 v2 : Value}  {st : List Value} {im : IM} {rm : RM}  : ev 129 107 [v0, v1, v2] st im rm = ev 129 108 [v0, v1, pm_u] (.int (nI 0) :: st) (im) (rm) := ev_iconst pm_m129 d129_107 rfl rfl
theorem d129_108 : decode prog_10_method_27_code 108 = .ok (.istore_n 2, 1) := by decide +kernel
theorem s129_108 {v0 v2 : Value} {l1 : Int32} {x2 : Int32} {st : List Value} {im : IM} {rm : RM}  : ev 129 108 [v0, .int l1, v2] (.int x2 :: st) im rm = ev 129 109 [v0, .int l1, .int x2] st (im) (rm) := ev_istore_n pm_m129 d129_108 (Nat.le_of_ble_eq_true rfl) rfl rfl
theorem d129_109 : decode prog_10_method_27_code 109 = .ok (.iload_n 2, 1) := by decide +kernel
theorem s129_109 {v0 v1 : Value} {l1 : Int32} {st : List Value} {im : IM} {rm : RM}  : ev 129 109 [v0, v1, .int l1] st im rm = ev 129 110 [v0, v1, .int l1] (.int l1 :: st) (im) (rm) := ev_iload_n pm_m129 d129_109 rfl rfl
theorem d129_110 : decode prog_10_method_27_code 110 = .ok (.ifCond .eq 13, 3) := by decide +kernel
theorem s129_110 {v0 v1 v2 : Value} {x : Int32} {st : List Value} {im : IM} {rm : RM} : ev 129 110 [v0, v1, v2] (.int x :: st) im rm = if x = nI 0 then ev 129 123 [v0, v1, v2] st im rm else ev 129 113 [v0, v1, v2] st im rm := ev_if_eq (y := 0) pm_m129 d129_110 rfl rfl rfl
theorem d129_113 : decode prog_10_method_27_code 113 = .ok (.aload_n 0, 1) := by decide +kernel
theorem s129_113 {v1 v2 : Value} {l1 : Nat} {st : List Value} {im : IM} {rm : RM}  : ev 129 113 [.ref l1, v1, v2] st im rm = ev 129 114 [.ref l1, v1, v2] (.ref l1 :: st) (im) (rm) := ev_aload_n pm_m129 d129_113 rfl rfl
theorem d129_114 : decode prog_10_method_27_code 114 = .ok (.invokevirtual 196, 3) := by decide +kernel
theorem s129_114 {v0 v1 v2 : Value} {a : Nat} {im : IM} {rm : RM} (hk : kd a = 18) : ev 129 114 [v0, v1, v2] [.ref a] im rm = (ev 120 0 [.ref a] [] im rm).bind (fun r => ev 129 117 [v0, v1, v2] (r.1.toList ++ []) r.2.1 r.2.2) := ev_callV pm_m129 d129_114 l8_196 rfl pm_m120 (by decide) hk rfl ⟨rfl, rfl⟩ rfl rfl
theorem d129_117 : decode prog_10_method_27_code 117 = .ok (.aload_n 0, 1) := by decide +kernel
theorem s129_117 {v1 v2 : Value} {l1 : Nat} {st : List Value} {im : IM} {rm : RM}  : ev 129 117 [.ref l1, v1, v2] st im rm = ev 129 118 [.ref l1, v1, v2] (.ref l1 :: st) (im) (rm) := ev_aload_n pm_m129 d129_117 rfl rfl
theorem d129_118 : decode prog_10_method_27_code 118 = .ok (.iload_n 1, 1) := by decide +kernel
theorem s129_118 {v0 v2 : Value} {l1 : Int32} {st : List Value} {im : IM} {rm : RM}  : ev 129 118 [v0, .int l1, v2] st im rm = ev 129 119 [v0, .int l1, v2] (.int l1 :: st) (im) (rm) := ev_iload_n pm_m129 d129_118 rfl rfl
theorem d129_119 : decode prog_10_method_27_code 119 = .ok (.invokevirtual 234, 3) := by decide +kernel
theorem s129_119 {v0 v1 v2 : Value} {a : Nat} {p1 : Int32} {im : IM} {rm : RM} (hk : kd a = 18) : ev 129 119 [v0, v1, v2] [.int p1, .ref a] im rm = (ev 128 0 [.ref a, .int p1] [] im rm).bind (fun r => ev 129 122 [v0, v1, v2] (r.1.toList ++ []) r.2.1 r.2.2) := ev_callV pm_m129 d129_119 l8_234 rfl pm_m128 (by decide) hk rfl ⟨rfl, rfl⟩ rfl rfl
theorem d129_122 : decode prog_10_method_27_code 122 = .ok (.istore_n 2, 1) := by decide +kernel
theorem s129_122 {v0 v2 : Value} {l1 : Int32} {x2 : Int32} {st : List Value} {im : IM} {rm : RM}  : ev 129 122 [v0, .int l1, v2] (.int x2 :: st) im rm = ev 129 123 [v0, .int l1, .int x2] st (im) (rm) := ev_istore_n pm_m129 d129_122 (Nat.le_of_ble_eq_true rfl) rfl rfl
theorem d129_123 : decode prog_10_method_27_code 123 = .ok (.iload_n 2, 1) := by decide +kernel
theorem s129_123 {v0 v1 : Value} {l1 : Int32} {st : List Value} {im : IM} {rm : RM}  : ev 129 123 [v0, v1, .int l1] st im rm = ev 129 124 [v0, v1, .int l1] (.int l1 :: st) (im) (rm) := ev_iload_n pm_m129 d129_123 rfl rfl
theorem d129_124 : decode prog_10_method_27_code 124 = .ok (.ifCond .ne 8, 3) := by decide +kernel
theorem s129_124 {v0 v1 v2 : Value} {x : Int32} {st : List Value} {im : IM} {rm : RM} : ev 129 124 [v0, v1, v2] (.int x :: st) im rm = if x = nI 0 then ev 129 127 [v0, v1, v2] st im rm else ev 129 132 [v0, v1, pm_u] st im rm := ev_if_ne (y := 0) pm_m129 d129_124 rfl rfl rfl
theorem d129_127 : decode prog_10_method_27_code 127 = .ok (.aload_n 0, 1) := by decide +kernel
theorem s129_127 {v1 v2 : Value} {l1 : Nat} {st : List Value} {im : IM} {rm : RM}  : ev 129 127 [.ref l1, v1, v2] st im rm = ev 129 128 [.ref l1, v1, v2] (.ref l1 :: st) (im) (rm) := ev_aload_n pm_m129 d129_127 rfl rfl
theorem d129_128 : decode prog_10_method_27_code 128 = .ok (.getfield 183, 3) := by decide +kernel
theorem s129_128 {v0 v1 v2 : Value} {a : Nat} {st : List Value} {im : IM} {rm : RM} (hk : kd a = 18) : ev 129 128 [v0, v1, v2] (.ref a :: st) im rm = ev 129 131 [v0, v1, v2] (.int (im a 35) :: st) (im) (rm) := ev_getI pm_m129 d129_128 f8_183 rfl hk rfl
theorem d129_131 : decode prog_10_method_27_code 131 = .ok (.ireturn, 1) := by decide +kernel
theorem s129_131 {v0 v1 v2 : Value} {x : Int32} {im : IM} {rm : RM} : ev 129 131 [v0, v1, v2] [.int x] im rm = some (some (.int x), im, rm) := ev_ireturn pm_m129 d129_131 rfl
theorem d129_132 : decode prog_10_method_27_code 132 = .ok (.goto (-96), 3) := by decide +kernel
theorem s129_132 {v0 v1 v2 : Value}  {st : List Value} {im : IM} {rm : RM}  : ev 129 132 [v0, v1, v2] st im rm = ev 129 36 [v0, v1, pm_u] st (im) (rm) := ev_goto pm_m129 d129_132 rfl rfl
theorem d129_135 : decode prog_10_method_27_code 135 = .ok (.iconst (-1), 1) := by decide +kernel
theorem s129_135 {v0 v1 v2 : Value}  {st : List Value} {im : IM} {rm : RM}  : ev 129 135 [v0, v1, v2] st im rm = ev 129 136 [v0, v1, v2] (.int ((-1 : Int32)) :: st) (im) (rm) := ev_iconst pm_m129 d129_135 rfl rfl
theorem d129_136 : decode prog_10_method_27_code 136 = .ok (.ireturn, 1) := by decide +kernel
theorem s129_136 {v0 v1 v2 : Value} {x : Int32} {im : IM} {rm : RM} : ev 129 136 [v0, v1, v2] [.int x] im rm = some (some (.int x), im, rm) := ev_ireturn pm_m129 d129_136 rfl
theorem d130_0 : decode prog_10_method_28_code 0 = .ok (.iload_n 1, 1) := by decide +kernel
theorem s130_0 {v0 : Value} {l1 : Int32} {st : List Value} {im : IM} {rm : RM}  : ev 130 0 [v0, .int l1] st im rm = ev 130 1 [v0, .int l1] (.int l1 :: st) (im) (rm) := ev_iload_n pm_m130 d130_0 rfl rfl
theorem d130_1 : decode prog_10_method_28_code 1 = .ok (.i2l, 1) := by decide +kernel
theorem s130_1 {v0 v1 : Value} {x : Int32} {st : List Value} {im : IM} {rm : RM}  : ev 130 1 [v0, v1] (.int x :: st) im rm = ev 130 2 [v0, v1] (.long x.toInt64 :: st) (im) (rm) := ev_i2l pm_m130 d130_1 rfl
theorem d130_2 : decode prog_10_method_28_code 2 = .ok (.lconst 0, 1) := by decide +kernel
theorem s130_2 {v0 v1 : Value}  {st : List Value} {im : IM} {rm : RM}  : ev 130 2 [v0, v1] st im rm = ev 130 3 [v0, v1] (.long (lN 0) :: st) (im) (rm) := ev_lconst pm_m130 d130_2 rfl rfl
theorem d130_3 : decode prog_10_method_28_code 3 = .ok (.lconst 1, 1) := by decide +kernel
theorem s130_3 {v0 v1 : Value}  {st : List Value} {im : IM} {rm : RM}  : ev 130 3 [v0, v1] st im rm = ev 130 4 [v0, v1] (.long (lN 1) :: st) (im) (rm) := ev_lconst pm_m130 d130_3 rfl rfl
theorem d130_4 : decode prog_10_method_28_code 4 = .ok (.invokestatic 120, 3) := by decide +kernel
theorem s130_4 {v0 v1 : Value} {p1 : Int64} {p2 : Int64} {p3 : Int64} {im : IM} {rm : RM}  : ev 130 4 [v0, v1] [.long p3, .long p2, .long p1] im rm = (ev 104 0 [.long p1, pm_u, .long p2, pm_u, .long p3, pm_u] [] im rm).bind (fun r => ev 130 7 [v0, v1] (r.1.toList ++ []) r.2.1 r.2.2) := ev_callS pm_m130 d130_4 (by decide) l8_120 rfl pm_m104 rfl ⟨rfl, rfl⟩ rfl rfl
theorem d130_7 : decode prog_10_method_28_code 7 = .ok (.ifCond .eq 11, 3) := by decide +kernel
theorem s130_7 {v0 v1 : Value} {x : Int32} {st : List Value} {im : IM} {rm : RM} : ev 130 7 [v0, v1] (.int x :: st) im rm = if x = nI 0 then ev 130 18 [pm_u, pm_u] st im rm else ev 130 10 [v0, v1] st im rm := ev_if_eq (y := 0) pm_m130 d130_7 rfl rfl rfl
theorem d130_10 : decode prog_10_method_28_code 10 = .ok (.aload_n 0, 1) := by decide +kernel
theorem s130_10 {v1 : Value} {l1 : Nat} {st : List Value} {im : IM} {rm : RM}  : ev 130 10 [.ref l1, v1] st im rm = ev 130 11 [.ref l1, v1] (.ref l1 :: st) (im) (rm) := ev_aload_n pm_m130 d130_10 rfl rfl
theorem d130_11 : decode prog_10_method_28_code 11 = .ok (.iload_n 1, 1) := by decide +kernel
theorem s130_11 {v0 : Value} {l1 : Int32} {st : List Value} {im : IM} {rm : RM}  : ev 130 11 [v0, .int l1] st im rm = ev 130 12 [v0, .int l1] (.int l1 :: st) (im) (rm) := ev_iload_n pm_m130 d130_11 rfl rfl
theorem d130_12 : decode prog_10_method_28_code 12 = .ok (.invokevirtual 237, 3) := by decide +kernel
theorem s130_12 {v0 v1 : Value} {a : Nat} {p1 : Int32} {im : IM} {rm : RM} (hk : kd a = 18) : ev 130 12 [v0, v1] [.int p1, .ref a] im rm = (ev 129 0 [.ref a, .int p1, pm_u] [] im rm).bind (fun r => ev 130 15 [v0, v1] (r.1.toList ++ []) r.2.1 r.2.2) := ev_callV pm_m130 d130_12 l8_237 rfl pm_m129 (by decide) hk rfl ⟨rfl, rfl⟩ rfl rfl
theorem d130_15 : decode prog_10_method_28_code 15 = .ok (.goto 5, 3) := by decide +kernel
theorem s130_15 {v0 v1 : Value}  {st : List Value} {im : IM} {rm : RM}  : ev 130 15 [v0, v1] st im rm = ev 130 20 [pm_u, pm_u] st (im) (rm) := ev_goto pm_m130 d130_15 rfl rfl
theorem d130_18 : decode prog_10_method_28_code 18 = .ok (.bipush (-3), 2) := by decide +kernel
theorem s130_18 {v0 v1 : Value}  {st : List Value} {im : IM} {rm : RM}  : ev 130 18 [v0, v1] st im rm = ev 130 20 [pm_u, pm_u] (.int ((-3 : Int32)) :: st) (im) (rm) := ev_bipush pm_m130 d130_18 rfl rfl
theorem d130_20 : decode prog_10_method_28_code 20 = .ok (.ireturn, 1) := by decide +kernel
theorem s130_20 {v0 v1 : Value} {x : Int32} {im : IM} {rm : RM} : ev 130 20 [v0, v1] [.int x] im rm = some (some (.int x), im, rm) := ev_ireturn pm_m130 d130_20 rfl
theorem d131_0 : decode prog_10_method_29_code 0 = .ok (.iload_n 1, 1) := by decide +kernel
theorem s131_0 {v0 v2 v3 : Value} {l1 : Int32} {st : List Value} {im : IM} {rm : RM}  : ev 131 0 [v0, .int l1, v2, v3] st im rm = ev 131 1 [v0, .int l1, v2, v3] (.int l1 :: st) (im) (rm) := ev_iload_n pm_m131 d131_0 rfl rfl
theorem d131_1 : decode prog_10_method_29_code 1 = .ok (.invokestatic 130, 3) := by decide +kernel
theorem s131_1 {v0 v1 v2 v3 : Value} {p1 : Int32} {im : IM} {rm : RM}  : ev 131 1 [v0, v1, v2, v3] [.int p1] im rm = (ev 106 0 [.int p1] [] im rm).bind (fun r => ev 131 4 [v0, v1, v2, v3] (r.1.toList ++ []) r.2.1 r.2.2) := ev_callS pm_m131 d131_1 (by decide) l8_130 rfl pm_m106 rfl ⟨rfl, rfl⟩ rfl rfl
theorem d131_4 : decode prog_10_method_29_code 4 = .ok (.ifCond .ne 6, 3) := by decide +kernel
theorem s131_4 {v0 v1 v2 v3 : Value} {x : Int32} {st : List Value} {im : IM} {rm : RM} : ev 131 4 [v0, v1, v2, v3] (.int x :: st) im rm = if x = nI 0 then ev 131 7 [v0, v1, v2, v3] st im rm else ev 131 10 [v0, v1, pm_u, pm_u] st im rm := ev_if_ne (y := 0) pm_m131 d131_4 rfl rfl rfl
theorem d131_7 : decode prog_10_method_29_code 7 = .ok (.bipush (-2), 2) := by decide +kernel
theorem s131_7 {v0 v1 v2 v3 : Value}  {st : List Value} {im : IM} {rm : RM}  : ev 131 7 [v0, v1, v2, v3] st im rm = ev 131 9 [v0, v1, v2, v3] (.int ((-2 : Int32)) :: st) (im) (rm) := ev_bipush pm_m131 d131_7 rfl rfl
theorem d131_9 : decode prog_10_method_29_code 9 = .ok (.ireturn, 1) := by decide +kernel
theorem s131_9 {v0 v1 v2 v3 : Value} {x : Int32} {im : IM} {rm : RM} : ev 131 9 [v0, v1, v2, v3] [.int x] im rm = some (some (.int x), im, rm) := ev_ireturn pm_m131 d131_9 rfl
theorem d131_10 : decode prog_10_method_29_code 10 = .ok (.aload_n 0, 1) := by decide +kernel
theorem s131_10 {v1 v2 v3 : Value} {l1 : Nat} {st : List Value} {im : IM} {rm : RM}  : ev 131 10 [.ref l1, v1, v2, v3] st im rm = ev 131 11 [.ref l1, v1, v2, v3] (.ref l1 :: st) (im) (rm) := ev_aload_n pm_m131 d131_10 rfl rfl
theorem d131_11 : decode prog_10_method_29_code 11 = .ok (.iconst 0, 1) := by decide +kernel
theorem s131_11 {v0 v1 v2 v3 : Value}  {st : List Value} {im : IM} {rm : RM}  : ev 131 11 [v0, v1, v2, v3] st im rm = ev 131 12 [v0, v1, v2, v3] (.int (nI 0) :: st) (im) (rm) := ev_iconst pm_m131 d131_11 rfl rfl
theorem d131_12 : decode prog_10_method_29_code 12 = .ok (.invokevirtual 237, 3) := by decide +kernel
theorem s131_12 {v0 v1 v2 v3 : Value} {a : Nat} {p1 : Int32} {im : IM} {rm : RM} (hk : kd a = 18) : ev 131 12 [v0, v1, v2, v3] [.int p1, .ref a] im rm = (ev 129 0 [.ref a, .int p1, pm_u] [] im rm).bind (fun r => ev 131 15 [v0, v1, v2, v3] (r.1.toList ++ []) r.2.1 r.2.2) := ev_callV pm_m131 d131_12 l8_237 rfl pm_m129 (by decide) hk rfl ⟨rfl, rfl⟩ rfl rfl
theorem d131_15 : decode prog_10_method_29_code 15 = .ok (.iconst (-1), 1) := by decide +kernel
theorem s131_15 {v0 v1 v2 v3 : Value}  {st : List Value} {im : IM} {rm : RM}  : ev 131 15 [v0, v1, v2, v3] st im rm = ev 131 16 [v0, v1, v2, v3] (.int ((-1 : Int32)) :: st) (im) (rm) := ev_iconst pm_m131 d131_15 rfl rfl
theorem d131_16 : decode prog_10_method_29_code 16 = .ok (.if_icmp .eq 6, 3) := by decide +kernel
theorem s131_16 {v0 v1 v2 v3 : Value} {x : Int32} {y : Int32} {st : List Value} {im : IM} {rm : RM} : ev 131 16 [v0, v1, v2, v3] (.int y :: .int x :: st) im rm = if x = y then ev 131 22 [v0, v1, pm_u, pm_u] st im rm else ev 131 19 [v0, v1, v2, v3] st im rm := ev_icmp_eq pm_m131 d131_16 rfl rfl rfl
theorem d131_19 : decode prog_10_method_29_code 19 = .ok (.bipush (-4), 2) := by decide +kernel
theorem s131_19 {v0 v1 v2 v3 : Value}  {st : List Value} {im : IM} {rm : RM}  : ev 131 19 [v0, v1, v2, v3] st im rm = ev 131 21 [v0, v1, v2, v3] (.int ((-4 : Int32)) :: st) (im) (rm) := ev_bipush pm_m131 d131_19 rfl rfl
theorem d131_21 : decode prog_10_method_29_code 21 = .ok (.ireturn, 1) := by decide +kernel
theorem s131_21 {v0 v1 v2 v3 : Value} {x : Int32} {im : IM} {rm : RM} : ev 131 21 [v0, v1, v2, v3] [.int x] im rm = some (some (.int x), im, rm) := ev_ireturn pm_m131 d131_21 rfl
theorem d131_22 : decode prog_10_method_29_code 22 = .ok (.aload_n 0, 1) := by decide +kernel
theorem s131_22 {v1 v2 v3 : Value} {l1 : Nat} {st : List Value} {im : IM} {rm : RM}  : ev 131 22 [.ref l1, v1, v2, v3] st im rm = ev 131 23 [.ref l1, v1, v2, v3] (.ref l1 :: st) (im) (rm) := ev_aload_n pm_m131 d131_22 rfl rfl
theorem d131_23 : decode prog_10_method_29_code 23 = .ok (.getfield 43, 3) := by decide +kernel
theorem s131_23 {v0 v1 v2 v3 : Value} {a : Nat} {st : List Value} {im : IM} {rm : RM} (hk : kd a = 18) : ev 131 23 [v0, v1, v2, v3] (.ref a :: st) im rm = ev 131 26 [v0, v1, v2, v3] (pm_ro (rm a 12) :: st) (im) (rm) := ev_getR pm_m131 d131_23 f8_43 rfl hk rfl
theorem d131_26 : decode prog_10_method_29_code 26 = .ok (.iload_n 1, 1) := by decide +kernel
theorem s131_26 {v0 v2 v3 : Value} {l1 : Int32} {st : List Value} {im : IM} {rm : RM}  : ev 131 26 [v0, .int l1, v2, v3] st im rm = ev 131 27 [v0, .int l1, v2, v3] (.int l1 :: st) (im) (rm) := ev_iload_n pm_m131 d131_26 rfl rfl
theorem d131_27 : decode prog_10_method_29_code 27 = .ok (.aload_n 0, 1) := by decide +kernel
theorem s131_27 {v1 v2 v3 : Value} {l1 : Nat} {st : List Value} {im : IM} {rm : RM}  : ev 131 27 [.ref l1, v1, v2, v3] st im rm = ev 131 28 [.ref l1, v1, v2, v3] (.ref l1 :: st) (im) (rm) := ev_aload_n pm_m131 d131_27 rfl rfl
theorem d131_28 : decode prog_10_method_29_code 28 = .ok (.getfield 43, 3) := by decide +kernel
theorem s131_28 {v0 v1 v2 v3 : Value} {a : Nat} {st : List Value} {im : IM} {rm : RM} (hk : kd a = 18) : ev 131 28 [v0, v1, v2, v3] (.ref a :: st) im rm = ev 131 31 [v0, v1, v2, v3] (pm_ro (rm a 12) :: st) (im) (rm) := ev_getR pm_m131 d131_28 f8_43 rfl hk rfl
theorem d131_31 : decode prog_10_method_29_code 31 = .ok (.iconst 4, 1) := by decide +kernel
theorem s131_31 {v0 v1 v2 v3 : Value}  {st : List Value} {im : IM} {rm : RM}  : ev 131 31 [v0, v1, v2, v3] st im rm = ev 131 32 [v0, v1, v2, v3] (.int (nI 4) :: st) (im) (rm) := ev_iconst pm_m131 d131_31 rfl rfl
theorem d131_32 : decode prog_10_method_29_code 32 = .ok (.iaload, 1) := by decide +kernel
theorem s131_32 {v0 v1 v2 v3 : Value} {a : Nat} {i : Int32} {st : List Value} {im : IM} {rm : RM} (hk : kd a = 0) (hi : pm_in i (ln a) = true) : ev 131 32 [v0, v1, v2, v3] (.int i :: .ref a :: st) im rm = ev 131 33 [v0, v1, v2, v3] (.int (im a i.toNatClampNeg) :: st) (im) (rm) := ev_iald pm_m131 d131_32 hk hi rfl
theorem d131_33 : decode prog_10_method_29_code 33 = .ok (.iastore, 1) := by decide +kernel
theorem s131_33 {v0 v1 v2 v3 : Value} {a : Nat} {i : Int32} {v : Int32} {st : List Value} {im : IM} {rm : RM} (hk : kd a = 0) (hi : pm_in i (ln a) = true) : ev 131 33 [v0, v1, v2, v3] (.int v :: .int i :: .ref a :: st) im rm = ev 131 34 [v0, v1, v2, v3] st (pm_w2 im a i.toNatClampNeg v) (rm) := ev_iast pm_m131 d131_33 hk hi rfl
theorem d131_34 : decode prog_10_method_29_code 34 = .ok (.iconst 0, 1) := by decide +kernel
theorem s131_34 {v0 v1 v2 v3 : Value}  {st : List Value} {im : IM} {rm : RM}  : ev 131 34 [v0, v1, v2, v3] st im rm = ev 131 35 [v0, v1, v2, v3] (.int (nI 0) :: st) (im) (rm) := ev_iconst pm_m131 d131_34 rfl rfl
theorem d131_35 : decode prog_10_method_29_code 35 = .ok (.istore_n 2, 1) := by decide +kernel
theorem s131_35 {v0 v2 v3 : Value} {l1 : Int32} {x2 : Int32} {st : List Value} {im : IM} {rm : RM}  : ev 131 35 [v0, .int l1, v2, v3] (.int x2 :: st) im rm = ev 131 36 [v0, .int l1, .int x2, pm_u] st (im) (rm) := ev_istore_n pm_m131 d131_35 (Nat.le_of_ble_eq_true rfl) rfl rfl
theorem d131_36 : decode prog_10_method_29_code 36 = .ok (.iload_n 2, 1) := by decide +kernel
theorem s131_36 {v0 v1 v3 : Value} {l1 : Int32} {st : List Value} {im : IM} {rm : RM}  : ev 131 36 [v0, v1, .int l1, v3] st im rm = ev 131 37 [v0, v1, .int l1, v3] (.int l1 :: st) (im) (rm) := ev_iload_n pm_m131 d131_36 rfl rfl
theorem d131_37 : decode prog_10_method_29_code 37 = .ok (.aload_n 0, 1) := by decide +kernel
theorem s131_37 {v1 v2 v3 : Value} {l1 : Nat} {st : List Value} {im : IM} {rm : RM}  : ev 131 37 [.ref l1, v1, v2, v3] st im rm = ev 131 38 [.ref l1, v1, v2, v3] (.ref l1 :: st) (im) (rm) := ev_aload_n pm_m131 d131_37 rfl rfl
theorem d131_38 : decode prog_10_method_29_code 38 = .ok (.getfield 43, 3) := by decide +kernel
theorem s131_38 {v0 v1 v2 v3 : Value} {a : Nat} {st : List Value} {im : IM} {rm : RM} (hk : kd a = 18) : ev 131 38 [v0, v1, v2, v3] (.ref a :: st) im rm = ev 131 41 [v0, v1, v2, v3] (pm_ro (rm a 12) :: st) (im) (rm) := ev_getR pm_m131 d131_38 f8_43 rfl hk rfl
theorem d131_41 : decode prog_10_method_29_code 41 = .ok (.iload_n 1, 1) := by decide +kernel
theorem s131_41 {v0 v2 v3 : Value} {l1 : Int32} {st : List Value} {im : IM} {rm : RM}  : ev 131 41 [v0, .int l1, v2, v3] st im rm = ev 131 42 [v0, .int l1, v2, v3] (.int l1 :: st) (im) (rm) := ev_iload_n pm_m131 d131_41 rfl rfl
theorem d131_42 : decode prog_10_method_29_code 42 = .ok (.iaload, 1) := by decide +kernel
theorem s131_42 {v0 v1 v2 v3 : Value} {a : Nat} {i : Int32} {st : List Value} {im : IM} {rm : RM} (hk : kd a = 0) (hi : pm_in i (ln a) = true) : ev 131 42 [v0, v1, v2, v3] (.int i :: .ref a :: st) im rm = ev 131 43 [v0, v1, v2, v3] (.int (im a i.toNatClampNeg) :: st) (im) (rm) := ev_iald pm_m131 d131_42 hk hi rfl
theorem d131_43 : decode prog_10_method_29_code 43 = .ok (.if_icmp .ge 146, 3) := by decide +kernel
theorem s131_43 {v0 v1 v2 v3 : Value} {x : Int32} {y : Int32} {st : List Value} {im : IM} {rm : RM} : ev 131 43 [v0, v1, v2, v3] (.int y :: .int x :: st) im rm = if y ≤ x then ev 131 189 [v0, v1, pm_u, pm_u] st im rm else ev 131 46 [v0, v1, v2, v3] st im rm := ev_icmp_ge pm_m131 d131_43 rfl rfl rfl
theorem d131_46 : decode prog_10_method_29_code 46 = .ok (.aload_n 0, 1) := by decide +kernel
theorem s131_46 {v1 v2 v3 : Value} {l1 : Nat} {st : List Value} {im : IM} {rm : RM}  : ev 131 46 [.ref l1, v1, v2, v3] st im rm = ev 131 47 [.ref l1, v1, v2, v3] (.ref l1 :: st) (im) (rm) := ev_aload_n pm_m131 d131_46 rfl rfl
theorem d131_47 : decode prog_10_method_29_code 47 = .ok (.getfield 46, 3) := by decide +kernel
theorem s131_47 {v0 v1 v2 v3 : Value} {a : Nat} {st : List Value} {im : IM} {rm : RM} (hk : kd a = 18) : ev 131 47 [v0, v1, v2, v3] (.ref a :: st) im rm = ev 131 50 [v0, v1, v2, v3] (pm_ro (rm a 13) :: st) (im) (rm) := ev_getR pm_m131 d131_47 f8_46 rfl hk rfl
theorem d131_50 : decode prog_10_method_29_code 50 = .ok (.bipush 6, 2) := by decide +kernel
theorem s131_50 {v0 v1 v2 v3 : Value}  {st : List Value} {im : IM} {rm : RM}  : ev 131 50 [v0, v1, v2, v3] st im rm = ev 131 52 [v0, v1, v2, v3] (.int (nI 6) :: st) (im) (rm) := ev_bipush pm_m131 d131_50 rfl rfl
theorem d131_52 : decode prog_10_method_29_code 52 = .ok (.iload_n 1, 1) := by decide +kernel
theorem s131_52 {v0 v2 v3 : Value} {l1 : Int32} {st : List Value} {im : IM} {rm : RM}  : ev 131 52 [v0, .int l1, v2, v3] st im rm = ev 131 53 [v0, .int l1, v2, v3] (.int l1 :: st) (im) (rm) := ev_iload_n pm_m131 d131_52 rfl rfl
theorem d131_53 : decode prog_10_method_29_code 53 = .ok (.imul, 1) := by decide +kernel
theorem s131_53 {v0 v1 v2 v3 : Value} {x : Int32} {y : Int32} {st : List Value} {im : IM} {rm : RM}  : ev 131 53 [v0, v1, v2, v3] (.int y :: .int x :: st) im rm = ev 131 54 [v0, v1, v2, v3] (.int (x * y) :: st) (im) (rm) := ev_imul pm_m131 d131_53 rfl
theorem d131_54 : decode prog_10_method_29_code 54 = .ok (.iload_n 2, 1) := by decide +kernel
theorem s131_54 {v0 v1 v3 : Value} {l1 : Int32} {st : List Value} {im : IM} {rm : RM}  : ev 131 54 [v0, v1, .int l1, v3] st im rm = ev 131 55 [v0, v1, .int l1, v3] (.int l1 :: st) (im) (rm) := ev_iload_n pm_m131 d131_54 rfl rfl
theorem d131_55 : decode prog_10_method_29_code 55 = .ok (.iadd, 1) := by decide +kernel
theorem s131_55 {v0 v1 v2 v3 : Value} {x : Int32} {y : Int32} {st : List Value} {im : IM} {rm : RM}  : ev 131 55 [v0, v1, v2, v3] (.int y :: .int x :: st) im rm = ev 131 56 [v0, v1, v2, v3] (.int (x + y) :: st) (im) (rm) := ev_iadd pm_m131 d131_55 rfl
theorem d131_56 : decode prog_10_method_29_code 56 = .ok (.aload_n 0, 1) := by decide +kernel
theorem s131_56 {v1 v2 v3 : Value} {l1 : Nat} {st : List Value} {im : IM} {rm : RM}  : ev 131 56 [.ref l1, v1, v2, v3] st im rm = ev 131 57 [.ref l1, v1, v2, v3] (.ref l1 :: st) (im) (rm) := ev_aload_n pm_m131 d131_56 rfl rfl
theorem d131_57 : decode prog_10_method_29_code 57 = .ok (.getfield 46, 3) := by decide +kernel
theorem s131_57 {v0 v1 v2 v3 : Value} {a : Nat} {st : List Value} {im : IM} {rm : RM} (hk : kd a = 18) : ev 131 57 [v0, v1, v2, v3] (.ref a :: st) im rm = ev 131 60 [v0, v1, v2, v3] (pm_ro (rm a 13) :: st) (im) (rm) := ev_getR pm_m131 d131_57 f8_46 rfl hk rfl
theorem d131_60 : decode prog_10_method_29_code 60 = .ok (.bipush 24, 2) := by decide +kernel
theorem s131_60 {v0 v1 v2 v3 : Value}  {st : List Value} {im : IM} {rm : RM}  : ev 131 60 [v0, v1, v2, v3] st im rm = ev 131 62 [v0, v1, v2, v3] (.int (nI 24) :: st) (im) (rm) := ev_bipush pm_m131 d131_60 rfl rfl
theorem d131_62 : decode prog_10_method_29_code 62 = .ok (.iload_n 2, 1) := by decide +kernel
theorem s131_62 {v0 v1 v3 : Value} {l1 : Int32} {st : List Value} {im : IM} {rm : RM}  : ev 131 62 [v0, v1, .int l1, v3] st im rm = ev 131 63 [v0, v1, .int l1, v3] (.int l1 :: st) (im) (rm) := ev_iload_n pm_m131 d131_62 rfl rfl
theorem d131_63 : decode prog_10_method_29_code 63 = .ok (.iadd, 1) := by decide +kernel
theorem s131_63 {v0 v1 v2 v3 : Value} {x : Int32} {y : Int32} {st : List Value} {im : IM} {rm : RM}  : ev 131 63 [v0, v1, v2, v3] (.int y :: .int x :: st) im rm = ev 131 64 [v0, v1, v2, v3] (.int (x + y) :: st) (im) (rm) := ev_iadd pm_m131 d131_63 rfl
theorem d131_64 : decode prog_10_method_29_code 64 = .ok (.iaload, 1) := by decide +kernel
theorem s131_64 {v0 v1 v2 v3 : Value} {a : Nat} {i : Int32} {st : List Value} {im : IM} {rm : RM} (hk : kd a = 0) (hi : pm_in i (ln a) = true) : ev 131 64 [v0, v1, v2, v3] (.int i :: .ref a :: st) im rm = ev 131 65 [v0, v1, v2, v3] (.int (im a i.toNatClampNeg) :: st) (im) (rm) := ev_iald pm_m131 d131_64 hk hi rfl
theorem d131_65 : decode prog_10_method_29_code 65 = .ok (.iastore, 1) := by decide +kernel
theorem s131_65 {v0 v1 v2 v3 : Value} {a : Nat} {i : Int32} {v : Int32} {st : List Value} {im : IM} {rm : RM} (hk : kd a = 0) (hi : pm_in i (ln a) = true) : ev 131 65 [v0, v1, v2, v3] (.int v :: .int i :: .ref a :: st) im rm = ev 131 66 [v0, v1, v2, v3] st (pm_w2 im a i.toNatClampNeg v) (rm) := ev_iast pm_m131 d131_65 hk hi rfl
theorem d131_66 : decode prog_10_method_29_code 66 = .ok (.aload_n 0, 1) := by decide +kernel
theorem s131_66 {v1 v2 v3 : Value} {l1 : Nat} {st : List Value} {im : IM} {rm : RM}  : ev 131 66 [.ref l1, v1, v2, v3] st im rm = ev 131 67 [.ref l1, v1, v2, v3] (.ref l1 :: st) (im) (rm) := ev_aload_n pm_m131 d131_66 rfl rfl
theorem d131_67 : decode prog_10_method_29_code 67 = .ok (.getfield 49, 3) := by decide +kernel
theorem s131_67 {v0 v1 v2 v3 : Value} {a : Nat} {st : List Value} {im : IM} {rm : RM} (hk : kd a = 18) : ev 131 67 [v0, v1, v2, v3] (.ref a :: st) im rm = ev 131 70 [v0, v1, v2, v3] (pm_ro (rm a 14) :: st) (im) (rm) := ev_getR pm_m131 d131_67 f8_49 rfl hk rfl
theorem d131_70 : decode prog_10_method_29_code 70 = .ok (.bipush 6, 2) := by decide +kernel
theorem s131_70 {v0 v1 v2 v3 : Value}  {st : List Value} {im : IM} {rm : RM}  : ev 131 70 [v0, v1, v2, v3] st im rm = ev 131 72 [v0, v1, v2, v3] (.int (nI 6) :: st) (im) (rm) := ev_bipush pm_m131 d131_70 rfl rfl
theorem d131_72 : decode prog_10_method_29_code 72 = .ok (.iload_n 1, 1) := by decide +kernel
theorem s131_72 {v0 v2 v3 : Value} {l1 : Int32} {st : List Value} {im : IM} {rm : RM}  : ev 131 72 [v0, .int l1, v2, v3] st im rm = ev 131 73 [v0, .int l1, v2, v3] (.int l1 :: st) (im) (rm) := ev_iload_n pm_m131 d131_72 rfl rfl
theorem d131_73 : decode prog_10_method_29_code 73 = .ok (.imul, 1) := by decide +kernel
theorem s131_73 {v0 v1 v2 v3 : Value} {x : Int32} {y : Int32} {st : List Value} {im : IM} {rm : RM}  : ev 131 73 [v0, v1, v2, v3] (.int y :: .int x :: st) im rm = ev 131 74 [v0, v1, v2, v3] (.int (x * y) :: st) (im) (rm) := ev_imul pm_m131 d131_73 rfl
theorem d131_74 : decode prog_10_method_29_code 74 = .ok (.iload_n 2, 1) := by decide +kernel
theorem s131_74 {v0 v1 v3 : Value} {l1 : Int32} {st : List Value} {im : IM} {rm : RM}  : ev 131 74 [v0, v1, .int l1, v3] st im rm = ev 131 75 [v0, v1, .int l1, v3] (.int l1 :: st) (im) (rm) := ev_iload_n pm_m131 d131_74 rfl rfl
theorem d131_75 : decode prog_10_method_29_code 75 = .ok (.iadd, 1) := by decide +kernel
theorem s131_75 {v0 v1 v2 v3 : Value} {x : Int32} {y : Int32} {st : List Value} {im : IM} {rm : RM}  : ev 131 75 [v0, v1, v2, v3] (.int y :: .int x :: st) im rm = ev 131 76 [v0, v1, v2, v3] (.int (x + y) :: st) (im) (rm) := ev_iadd pm_m131 d131_75 rfl
theorem d131_76 : decode prog_10_method_29_code 76 = .ok (.aload_n 0, 1) := by decide +kernel
theorem s131_76 {v1 v2 v3 : Value} {l1 : Nat} {st : List Value} {im : IM} {rm : RM}  : ev 131 76 [.ref l1, v1, v2, v3] st im rm = ev 131 77 [.ref l1, v1, v2, v3] (.ref l1 :: st) (im) (rm) := ev_aload_n pm_m131 d131_76 rfl rfl
theorem d131_77 : decode prog_10_method_29_code 77 = .ok (.getfield 49, 3) := by decide +kernel
theorem s131_77 {v0 v1 v2 v3 : Value} {a : Nat} {st : List Value} {im : IM} {rm : RM} (hk : kd a = 18) : ev 131 77 [v0, v1, v2, v3] (.ref a :: st) im rm = ev 131 80 [v0, v1, v2, v3] (pm_ro (rm a 14) :: st) (im) (rm) := ev_getR pm_m131 d131_77 f8_49 rfl hk rfl
theorem d131_80 : decode prog_10_method_29_code 80 = .ok (.bipush 24, 2) := by decide +kernel
theorem s131_80 {v0 v1 v2 v3 : Value}  {st : List Value} {im : IM} {rm : RM}  : ev 131 80 [v0, v1, v2, v3] st im rm = ev 131 82 [v0, v1, v2, v3] (.int (nI 24) :: st) (im) (rm) := ev_bipush pm_m131 d131_80 rfl rfl
theorem d131_82 : decode prog_10_method_29_code 82 = .ok (.iload_n 2, 1) := by decide +kernel
theorem s131_82 {v0 v1 v3 : Value} {l1 : Int32} {st : List Value} {im : IM} {rm : RM}  : ev 131 82 [v0, v1, .int l1, v3] st im rm = ev 131 83 [v0, v1, .int l1, v3] (.int l1 :: st) (im) (rm) := ev_iload_n pm_m131 d131_82 rfl rfl
theorem d131_83 : decode prog_10_method_29_code 83 = .ok (.iadd, 1) := by decide +kernel
theorem s131_83 {v0 v1 v2 v3 : Value} {x : Int32} {y : Int32} {st : List Value} {im : IM} {rm : RM}  : ev 131 83 [v0, v1, v2, v3] (.int y :: .int x :: st) im rm = ev 131 84 [v0, v1, v2, v3] (.int (x + y) :: st) (im) (rm) := ev_iadd pm_m131 d131_83 rfl
theorem d131_84 : decode prog_10_method_29_code 84 = .ok (.iaload, 1) := by decide +kernel
theorem s131_84 {v0 v1 v2 v3 : Value} {a : Nat} {i : Int32} {st : List Value} {im : IM} {rm : RM} (hk : kd a = 0) (hi : pm_in i (ln a) = true) : ev 131 84 [v0, v1, v2, v3] (.int i :: .ref a :: st) im rm = ev 131 85 [v0, v1, v2, v3] (.int (im a i.toNatClampNeg) :: st) (im) (rm) := ev_iald pm_m131 d131_84 hk hi rfl
theorem d131_85 : decode prog_10_method_29_code 85 = .ok (.iastore, 1) := by decide +kernel
theorem s131_85 {v0 v1 v2 v3 : Value} {a : Nat} {i : Int32} {v : Int32} {st : List Value} {im : IM} {rm : RM} (hk : kd a = 0) (hi : pm_in i (ln a) = true) : ev 131 85 [v0, v1, v2, v3] (.int v :: .int i :: .ref a :: st) im rm = ev 131 86 [v0, v1, v2, v3] st (pm_w2 im a i.toNatClampNeg v) (rm) := ev_iast pm_m131 d131_85 hk hi rfl
theorem d131_86 : decode prog_10_method_29_code 86 = .ok (.iconst 0, 1) := by decide +kernel
theorem s131_86 {v0 v1 v2 v3 : Value}  {st : List Value} {im : IM} {rm : RM}  : ev 131 86 [v0, v1, v2, v3] st im rm = ev 131 87 [v0, v1, v2, v3] (.int (nI 0) :: st) (im) (rm) := ev_iconst pm_m131 d131_86 rfl rfl
theorem d131_87 : decode prog_10_method_29_code 87 = .ok (.istore_n 3, 1) := by decide +kernel
theorem s131_87 {v0 v1 v3 : Value} {l1 : Int32} {x2 : Int32} {st : List Value} {im : IM} {rm : RM}  : ev 131 87 [v0, v1, .int l1, v3] (.int x2 :: st) im rm = ev 131 88 [v0, v1, .int l1, .int x2] st (im) (rm) := ev_istore_n pm_m131 d131_87 (Nat.le_of_ble_eq_true rfl) rfl rfl
theorem d131_88 : decode prog_10_method_29_code 88 = .ok (.iload_n 3, 1) := by decide +kernel
theorem s131_88 {v0 v1 v2 : Value} {l1 : Int32} {st : List Value} {im : IM} {rm : RM}  : ev 131 88 [v0, v1, v2, .int l1] st im rm = ev 131 89 [v0, v1, v2, .int l1] (.int l1 :: st) (im) (rm) := ev_iload_n pm_m131 d131_88 rfl rfl
theorem d131_89 : decode prog_10_method_29_code 89 = .ok (.iconst 4, 1) := by decide +kernel
theorem s131_89 {v0 v1 v2 v3 : Value}  {st : List Value} {im : IM} {rm : RM}  : ev 131 89 [v0, v1, v2, v3] st im rm = ev 131 90 [v0, v1, v2, v3] (.int (nI 4) :: st) (im) (rm) := ev_iconst pm_m131 d131_89 rfl rfl
theorem d131_90 : decode prog_10_method_29_code 90 = .ok (.if_icmp .ge 93, 3) := by decide +kernel
theorem s131_90 {v0 v1 v2 v3 : Value} {x : Int32} {y : Int32} {st : List Value} {im : IM} {rm : RM} : ev 131 90 [v0, v1, v2, v3] (.int y :: .int x :: st) im rm = if y ≤ x then ev 131 183 [v0, v1, v2, pm_u] st im rm else ev 131 93 [v0, v1, v2, v3] st im rm := ev_icmp_ge pm_m131 d131_90 rfl rfl rfl
theorem d131_93 : decode prog_10_method_29_code 93 = .ok (.aload_n 0, 1) := by decide +kernel
theorem s131_93 {v1 v2 v3 : Value} {l1 : Nat} {st : List Value} {im : IM} {rm : RM}  : ev 131 93 [.ref l1, v1, v2, v3] st im rm = ev 131 94 [.ref l1, v1, v2, v3] (.ref l1 :: st) (im) (rm) := ev_aload_n pm_m131 d131_93 rfl rfl
theorem d131_94 : decode prog_10_method_29_code 94 = .ok (.getfield 52, 3) := by decide +kernel
theorem s131_94 {v0 v1 v2 v3 : Value} {a : Nat} {st : List Value} {im : IM} {rm : RM} (hk : kd a = 18) : ev 131 94 [v0, v1, v2, v3] (.ref a :: st) im rm = ev 131 97 [v0, v1, v2, v3] (pm_ro (rm a 15) :: st) (im) (rm) := ev_getR pm_m131 d131_94 f8_52 rfl hk rfl
theorem d131_97 : decode prog_10_method_29_code 97 = .ok (.bipush 24, 2) := by decide +kernel
theorem s131_97 {v0 v1 v2 v3 : Value}  {st : List Value} {im : IM} {rm : RM}  : ev 131 97 [v0, v1, v2, v3] st im rm = ev 131 99 [v0, v1, v2, v3] (.int (nI 24) :: st) (im) (rm) := ev_bipush pm_m131 d131_97 rfl rfl
theorem d131_99 : decode prog_10_method_29_code 99 = .ok (.iload_n 1, 1) := by decide +kernel
theorem s131_99 {v0 v2 v3 : Value} {l1 : Int32} {st : List Value} {im : IM} {rm : RM}  : ev 131 99 [v0, .int l1, v2, v3] st im rm = ev 131 100 [v0, .int l1, v2, v3] (.int l1 :: st) (im) (rm) := ev_iload_n pm_m131 d131_99 rfl rfl
theorem d131_100 : decode prog_10_method_29_code 100 = .ok (.imul, 1) := by decide +kernel
theorem s131_100 {v0 v1 v2 v3 : Value} {x : Int32} {y : Int32} {st : List Value} {im : IM} {rm : RM}  : ev 131 100 [v0, v1, v2, v3] (.int y :: .int x :: st) im rm = ev 131 101 [v0, v1, v2, v3] (.int (x * y) :: st) (im) (rm) := ev_imul pm_m131 d131_100 rfl
theorem d131_101 : decode prog_10_method_29_code 101 = .ok (.iconst 4, 1) := by decide +kernel
theorem s131_101 {v0 v1 v2 v3 : Value}  {st : List Value} {im : IM} {rm : RM}  : ev 131 101 [v0, v1, v2, v3] st im rm = ev 131 102 [v0, v1, v2, v3] (.int (nI 4) :: st) (im) (rm) := ev_iconst pm_m131 d131_101 rfl rfl
theorem d131_102 : decode prog_10_method_29_code 102 = .ok (.iload_n 2, 1) := by decide +kernel
theorem s131_102 {v0 v1 v3 : Value} {l1 : Int32} {st : List Value} {im : IM} {rm : RM}  : ev 131 102 [v0, v1, .int l1, v3] st im rm = ev 131 103 [v0, v1, .int l1, v3] (.int l1 :: st) (im) (rm) := ev_iload_n pm_m131 d131_102 rfl rfl
theorem d131_103 : decode prog_10_method_29_code 103 = .ok (.imul, 1) := by decide +kernel
theorem s131_103 {v0 v1 v2 v3 : Value} {x : Int32} {y : Int32} {st : List Value} {im : IM} {rm : RM}  : ev 131 103 [v0, v1, v2, v3] (.int y :: .int x :: st) im rm = ev 131 104 [v0, v1, v2, v3] (.int (x * y) :: st) (im) (rm) := ev_imul pm_m131 d131_103 rfl
theorem d131_104 : decode prog_10_method_29_code 104 = .ok (.iadd, 1) := by decide +kernel
theorem s131_104 {v0 v1 v2 v3 : Value} {x : Int32} {y : Int32} {st : List Value} {im : IM} {rm : RM}  : ev 131 104 [v0, v1, v2, v3] (.int y :: .int x :: st) im rm = ev 131 105 [v0, v1, v2, v3] (.int (x + y) :: st) (im) (rm) := ev_iadd pm_m131 d131_104 rfl
theorem d131_105 : decode prog_10_method_29_code 105 = .ok (.iload_n 3, 1) := by decide +kernel
theorem s131_105 {v0 v1 v2 : Value} {l1 : Int32} {st : List Value} {im : IM} {rm : RM}  : ev 131 105 [v0, v1, v2, .int l1] st im rm = ev 131 106 [v0, v1, v2, .int l1] (.int l1 :: st) (im) (rm) := ev_iload_n pm_m131 d131_105 rfl rfl
theorem d131_106 : decode prog_10_method_29_code 106 = .ok (.iadd, 1) := by decide +kernel
theorem s131_106 {v0 v1 v2 v3 : Value} {x : Int32} {y : Int32} {st : List Value} {im : IM} {rm : RM}  : ev 131 106 [v0, v1, v2, v3] (.int y :: .int x :: st) im rm = ev 131 107 [v0, v1, v2, v3] (.int (x + y) :: st) (im) (rm) := ev_iadd pm_m131 d131_106 rfl
theorem d131_107 : decode prog_10_method_29_code 107 = .ok (.aload_n 0, 1) := by decide +kernel
theorem s131_107 {v1 v2 v3 : Value} {l1 : Nat} {st : List Value} {im : IM} {rm : RM}  : ev 131 107 [.ref l1, v1, v2, v3] st im rm = ev 131 108 [.ref l1, v1, v2, v3] (.ref l1 :: st) (im) (rm) := ev_aload_n pm_m131 d131_107 rfl rfl
theorem d131_108 : decode prog_10_method_29_code 108 = .ok (.getfield 52, 3) := by decide +kernel
theorem s131_108 {v0 v1 v2 v3 : Value} {a : Nat} {st : List Value} {im : IM} {rm : RM} (hk : kd a = 18) : ev 131 108 [v0, v1, v2, v3] (.ref a :: st) im rm = ev 131 111 [v0, v1, v2, v3] (pm_ro (rm a 15) :: st) (im) (rm) := ev_getR pm_m131 d131_108 f8_52 rfl hk rfl
theorem d131_111 : decode prog_10_method_29_code 111 = .ok (.bipush 96, 2) := by decide +kernel
theorem s131_111 {v0 v1 v2 v3 : Value}  {st : List Value} {im : IM} {rm : RM}  : ev 131 111 [v0, v1, v2, v3] st im rm = ev 131 113 [v0, v1, v2, v3] (.int (nI 96) :: st) (im) (rm) := ev_bipush pm_m131 d131_111 rfl rfl
theorem d131_113 : decode prog_10_method_29_code 113 = .ok (.iconst 4, 1) := by decide +kernel
theorem s131_113 {v0 v1 v2 v3 : Value}  {st : List Value} {im : IM} {rm : RM}  : ev 131 113 [v0, v1, v2, v3] st im rm = ev 131 114 [v0, v1, v2, v3] (.int (nI 4) :: st) (im) (rm) := ev_iconst pm_m131 d131_113 rfl rfl
theorem d131_114 : decode prog_10_method_29_code 114 = .ok (.iload_n 2, 1) := by decide +kernel
theorem s131_114 {v0 v1 v3 : Value} {l1 : Int32} {st : List Value} {im : IM} {rm : RM}  : ev 131 114 [v0, v1, .int l1, v3] st im rm = ev 131 115 [v0, v1, .int l1, v3] (.int l1 :: st) (im) (rm) := ev_iload_n pm_m131 d131_114 rfl rfl
theorem d131_115 : decode prog_10_method_29_code 115 = .ok (.imul, 1) := by decide +kernel
theorem s131_115 {v0 v1 v2 v3 : Value} {x : Int32} {y : Int32} {st : List Value} {im : IM} {rm : RM}  : ev 131 115 [v0, v1, v2, v3] (.int y :: .int x :: st) im rm = ev 131 116 [v0, v1, v2, v3] (.int (x * y) :: st) (im) (rm) := ev_imul pm_m131 d131_115 rfl
theorem d131_116 : decode prog_10_method_29_code 116 = .ok (.iadd, 1) := by decide +kernel
theorem s131_116 {v0 v1 v2 v3 : Value} {x : Int32} {y : Int32} {st : List Value} {im : IM} {rm : RM}  : ev 131 116 [v0, v1, v2, v3] (.int y :: .int x :: st) im rm = ev 131 117 [v0, v1, v2, v3] (.int (x + y) :: st) (im) (rm) := ev_iadd pm_m131 d131_116 rfl
theorem d131_117 : decode prog_10_method_29_code 117 = .ok (.iload_n 3, 1) := by decide +kernel
theorem s131_117 {v0 v1 v2 : Value} {l1 : Int32} {st : List Value} {im : IM} {rm : RM}  : ev 131 117 [v0, v1, v2, .int l1] st im rm = ev 131 118 [v0, v1, v2, .int l1] (.int l1 :: st) (im) (rm) := ev_iload_n pm_m131 d131_117 rfl rfl
theorem d131_118 : decode prog_10_method_29_code 118 = .ok (.iadd, 1) := by decide +kernel
theorem s131_118 {v0 v1 v2 v3 : Value} {x : Int32} {y : Int32} {st : List Value} {im : IM} {rm : RM}  : ev 131 118 [v0, v1, v2, v3] (.int y :: .int x :: st) im rm = ev 131 119 [v0, v1, v2, v3] (.int (x + y) :: st) (im) (rm) := ev_iadd pm_m131 d131_118 rfl
theorem d131_119 : decode prog_10_method_29_code 119 = .ok (.iaload, 1) := by decide +kernel
theorem s131_119 {v0 v1 v2 v3 : Value} {a : Nat} {i : Int32} {st : List Value} {im : IM} {rm : RM} (hk : kd a = 0) (hi : pm_in i (ln a) = true) : ev 131 119 [v0, v1, v2, v3] (.int i :: .ref a :: st) im rm = ev 131 120 [v0, v1, v2, v3] (.int (im a i.toNatClampNeg) :: st) (im) (rm) := ev_iald pm_m131 d131_119 hk hi rfl
theorem d131_120 : decode prog_10_method_29_code 120 = .ok (.iastore, 1) := by decide +kernel
theorem s131_120 {v0 v1 v2 v3 : Value} {a : Nat} {i : Int32} {v : Int32} {st : List Value} {im : IM} {rm : RM} (hk : kd a = 0) (hi : pm_in i (ln a) = true) : ev 131 120 [v0, v1, v2, v3] (.int v :: .int i :: .ref a :: st) im rm = ev 131 121 [v0, v1, v2, v3] st (pm_w2 im a i.toNatClampNeg v) (rm) := ev_iast pm_m131 d131_120 hk hi rfl
theorem d131_121 : decode prog_10_method_29_code 121 = .ok (.aload_n 0, 1) := by decide +kernel
theorem s131_121 {v1 v2 v3 : Value} {l1 : Nat} {st : List Value} {im : IM} {rm : RM}  : ev 131 121 [.ref l1, v1, v2, v3] st im rm = ev 131 122 [.ref l1, v1, v2, v3] (.ref l1 :: st) (im) (rm) := ev_aload_n pm_m131 d131_121 rfl rfl
theorem d131_122 : decode prog_10_method_29_code 122 = .ok (.getfield 55, 3) := by decide +kernel
theorem s131_122 {v0 v1 v2 v3 : Value} {a : Nat} {st : List Value} {im : IM} {rm : RM} (hk : kd a = 18) : ev 131 122 [v0, v1, v2, v3] (.ref a :: st) im rm = ev 131 125 [v0, v1, v2, v3] (pm_ro (rm a 16) :: st) (im) (rm) := ev_getR pm_m131 d131_122 f8_55 rfl hk rfl
theorem d131_125 : decode prog_10_method_29_code 125 = .ok (.bipush 24, 2) := by decide +kernel
theorem s131_125 {v0 v1 v2 v3 : Value}  {st : List Value} {im : IM} {rm : RM}  : ev 131 125 [v0, v1, v2, v3] st im rm = ev 131 127 [v0, v1, v2, v3] (.int (nI 24) :: st) (im) (rm) := ev_bipush pm_m131 d131_125 rfl rfl
theorem d131_127 : decode prog_10_method_29_code 127 = .ok (.iload_n 1, 1) := by decide +kernel
theorem s131_127 {v0 v2 v3 : Value} {l1 : Int32} {st : List Value} {im : IM} {rm : RM}  : ev 131 127 [v0, .int l1, v2, v3] st im rm = ev 131 128 [v0, .int l1, v2, v3] (.int l1 :: st) (im) (rm) := ev_iload_n pm_m131 d131_127 rfl rfl
theorem d131_128 : decode prog_10_method_29_code 128 = .ok (.imul, 1) := by decide +kernel
theorem s131_128 {v0 v1 v2 v3 : Value} {x : Int32} {y : Int32} {st : List Value} {im : IM} {rm : RM}  : ev 131 128 [v0, v1, v2, v3] (.int y :: .int x :: st) im rm = ev 131 129 [v0, v1, v2, v3] (.int (x * y) :: st) (im) (rm) := ev_imul pm_m131 d131_128 rfl
theorem d131_129 : decode prog_10_method_29_code 129 = .ok (.iconst 4, 1) := by decide +kernel
theorem s131_129 {v0 v1 v2 v3 : Value}  {st : List Value} {im : IM} {rm : RM}  : ev 131 129 [v0, v1, v2, v3] st im rm = ev 131 130 [v0, v1, v2, v3] (.int (nI 4) :: st) (im) (rm) := ev_iconst pm_m131 d131_129 rfl rfl
theorem d131_130 : decode prog_10_method_29_code 130 = .ok (.iload_n 2, 1) := by decide +kernel
theorem s131_130 {v0 v1 v3 : Value} {l1 : Int32} {st : List Value} {im : IM} {rm : RM}  : ev 131 130 [v0, v1, .int l1, v3] st im rm = ev 131 131 [v0, v1, .int l1, v3] (.int l1 :: st) (im) (rm) := ev_iload_n pm_m131 d131_130 rfl rfl
theorem d131_131 : decode prog_10_method_29_code 131 = .ok (.imul, 1) := by decide +kernel
theorem s131_131 {v0 v1 v2 v3 : Value} {x : Int32} {y : Int32} {st : List Value} {im : IM} {rm : RM}  : ev 131 131 [v0, v1, v2, v3] (.int y :: .int x :: st) im rm = ev 131 132 [v0, v1, v2, v3] (.int (x * y) :: st) (im) (rm) := ev_imul pm_m131 d131_131 rfl
theorem d131_132 : decode prog_10_method_29_code 132 = .ok (.iadd, 1) := by decide +kernel
theorem s131_132 {v0 v1 v2 v3 : Value} {x : Int32} {y : Int32} {st : List Value} {im : IM} {rm : RM}  : ev 131 132 [v0, v1, v2, v3] (.int y :: .int x :: st) im rm = ev 131 133 [v0, v1, v2, v3] (.int (x + y) :: st) (im) (rm) := ev_iadd pm_m131 d131_132 rfl
theorem d131_133 : decode prog_10_method_29_code 133 = .ok (.iload_n 3, 1) := by decide +kernel
theorem s131_133 {v0 v1 v2 : Value} {l1 : Int32} {st : List Value} {im : IM} {rm : RM}  : ev 131 133 [v0, v1, v2, .int l1] st im rm = ev 131 134 [v0, v1, v2, .int l1] (.int l1 :: st) (im) (rm) := ev_iload_n pm_m131 d131_133 rfl rfl
theorem d131_134 : decode prog_10_method_29_code 134 = .ok (.iadd, 1) := by decide +kernel
theorem s131_134 {v0 v1 v2 v3 : Value} {x : Int32} {y : Int32} {st : List Value} {im : IM} {rm : RM}  : ev 131 134 [v0, v1, v2, v3] (.int y :: .int x :: st) im rm = ev 131 135 [v0, v1, v2, v3] (.int (x + y) :: st) (im) (rm) := ev_iadd pm_m131 d131_134 rfl
theorem d131_135 : decode prog_10_method_29_code 135 = .ok (.aload_n 0, 1) := by decide +kernel
theorem s131_135 {v1 v2 v3 : Value} {l1 : Nat} {st : List Value} {im : IM} {rm : RM}  : ev 131 135 [.ref l1, v1, v2, v3] st im rm = ev 131 136 [.ref l1, v1, v2, v3] (.ref l1 :: st) (im) (rm) := ev_aload_n pm_m131 d131_135 rfl rfl
theorem d131_136 : decode prog_10_method_29_code 136 = .ok (.getfield 55, 3) := by decide +kernel
theorem s131_136 {v0 v1 v2 v3 : Value} {a : Nat} {st : List Value} {im : IM} {rm : RM} (hk : kd a = 18) : ev 131 136 [v0, v1, v2, v3] (.ref a :: st) im rm = ev 131 139 [v0, v1, v2, v3] (pm_ro (rm a 16) :: st) (im) (rm) := ev_getR pm_m131 d131_136 f8_55 rfl hk rfl
theorem d131_139 : decode prog_10_method_29_code 139 = .ok (.bipush 96, 2) := by decide +kernel
theorem s131_139 {v0 v1 v2 v3 : Value}  {st : List Value} {im : IM} {rm : RM}  : ev 131 139 [v0, v1, v2, v3] st im rm = ev 131 141 [v0, v1, v2, v3] (.int (nI 96) :: st) (im) (rm) := ev_bipush pm_m131 d131_139 rfl rfl
theorem d131_141 : decode prog_10_method_29_code 141 = .ok (.iconst 4, 1) := by decide +kernel
theorem s131_141 {v0 v1 v2 v3 : Value}  {st : List Value} {im : IM} {rm : RM}  : ev 131 141 [v0, v1, v2, v3] st im rm = ev 131 142 [v0, v1, v2, v3] (.int (nI 4) :: st) (im) (rm) := ev_iconst pm_m131 d131_141 rfl rfl
theorem d131_142 : decode prog_10_method_29_code 142 = .ok (.iload_n 2, 1) := by decide +kernel
theorem s131_142 {v0 v1 v3 : Value} {l1 : Int32} {st : List Value} {im : IM} {rm : RM}  : ev 131 142 [v0, v1, .int l1, v3] st im rm = ev 131 143 [v0, v1, .int l1, v3] (.int l1 :: st) (im) (rm) := ev_iload_n pm_m131 d131_142 rfl rfl
theorem d131_143 : decode prog_10_method_29_code 143 = .ok (.imul, 1) := by decide +kernel
theorem s131_143 {v0 v1 v2 v3 : Value} {x : Int32} {y : Int32} {st : List Value} {im : IM} {rm : RM}  : ev 131 143 [v0, v1, v2, v3] (.int y :: .int x :: st) im rm = ev 131 144 [v0, v1, v2, v3] (.int (x * y) :: st) (im) (rm) := ev_imul pm_m131 d131_143 rfl
theorem d131_144 : decode prog_10_method_29_code 144 = .ok (.iadd, 1) := by decide +kernel
theorem s131_144 {v0 v1 v2 v3 : Value} {x : Int32} {y : Int32} {st : List Value} {im : IM} {rm : RM}  : ev 131 144 [v0, v1, v2, v3] (.int y :: .int x :: st) im rm = ev 131 145 [v0, v1, v2, v3] (.int (x + y) :: st) (im) (rm) := ev_iadd pm_m131 d131_144 rfl
theorem d131_145 : decode prog_10_method_29_code 145 = .ok (.iload_n 3, 1) := by decide +kernel
theorem s131_145 {v0 v1 v2 : Value} {l1 : Int32} {st : List Value} {im : IM} {rm : RM}  : ev 131 145 [v0, v1, v2, .int l1] st im rm = ev 131 146 [v0, v1, v2, .int l1] (.int l1 :: st) (im) (rm) := ev_iload_n pm_m131 d131_145 rfl rfl
theorem d131_146 : decode prog_10_method_29_code 146 = .ok (.iadd, 1) := by decide +kernel
theorem s131_146 {v0 v1 v2 v3 : Value} {x : Int32} {y : Int32} {st : List Value} {im : IM} {rm : RM}  : ev 131 146 [v0, v1, v2, v3] (.int y :: .int x :: st) im rm = ev 131 147 [v0, v1, v2, v3] (.int (x + y) :: st) (im) (rm) := ev_iadd pm_m131 d131_146 rfl
theorem d131_147 : decode prog_10_method_29_code 147 = .ok (.iaload, 1) := by decide +kernel
theorem s131_147 {v0 v1 v2 v3 : Value} {a : Nat} {i : Int32} {st : List Value} {im : IM} {rm : RM} (hk : kd a = 0) (hi : pm_in i (ln a) = true) : ev 131 147 [v0, v1, v2, v3] (.int i :: .ref a :: st) im rm = ev 131 148 [v0, v1, v2, v3] (.int (im a i.toNatClampNeg) :: st) (im) (rm) := ev_iald pm_m131 d131_147 hk hi rfl
theorem d131_148 : decode prog_10_method_29_code 148 = .ok (.iastore, 1) := by decide +kernel
theorem s131_148 {v0 v1 v2 v3 : Value} {a : Nat} {i : Int32} {v : Int32} {st : List Value} {im : IM} {rm : RM} (hk : kd a = 0) (hi : pm_in i (ln a) = true) : ev 131 148 [v0, v1, v2, v3] (.int v :: .int i :: .ref a :: st) im rm = ev 131 149 [v0, v1, v2, v3] st (pm_w2 im a i.toNatClampNeg v) (rm) := ev_iast pm_m131 d131_148 hk hi rfl
theorem d131_149 : decode prog_10_method_29_code 149 = .ok (.aload_n 0, 1) := by decide +kernel
theorem s131_149 {v1 v2 v3 : Value} {l1 : Nat} {st : List Value} {im : IM} {rm : RM}  : ev 131 149 [.ref l1, v1, v2, v3] st im rm = ev 131 150 [.ref l1, v1, v2, v3] (.ref l1 :: st) (im) (rm) := ev_aload_n pm_m131 d131_149 rfl rfl
theorem d131_150 : decode prog_10_method_29_code 150 = .ok (.getfield 58, 3) := by decide +kernel
theorem s131_150 {v0 v1 v2 v3 : Value} {a : Nat} {st : List Value} {im : IM} {rm : RM} (hk : kd a = 18) : ev 131 150 [v0, v1, v2, v3] (.ref a :: st) im rm = ev 131 153 [v0, v1, v2, v3] (pm_ro (rm a 17) :: st) (im) (rm) := ev_getR pm_m131 d131_150 f8_58 rfl hk rfl
theorem d131_153 : decode prog_10_method_29_code 153 = .ok (.bipush 24, 2) := by decide +kernel
theorem s131_153 {v0 v1 v2 v3 : Value}  {st : List Value} {im : IM} {rm : RM}  : ev 131 153 [v0, v1, v2, v3] st im rm = ev 131 155 [v0, v1, v2, v3] (.int (nI 24) :: st) (im) (rm) := ev_bipush pm_m131 d131_153 rfl rfl
theorem d131_155 : decode prog_10_method_29_code 155 = .ok (.iload_n 1, 1) := by decide +kernel
theorem s131_155 {v0 v2 v3 : Value} {l1 : Int32} {st : List Value} {im : IM} {rm : RM}  : ev 131 155 [v0, .int l1, v2, v3] st im rm = ev 131 156 [v0, .int l1, v2, v3] (.int l1 :: st) (im) (rm) := ev_iload_n pm_m131 d131_155 rfl rfl
theorem d131_156 : decode prog_10_method_29_code 156 = .ok (.imul, 1) := by decide +kernel
theorem s131_156 {v0 v1 v2 v3 : Value} {x : Int32} {y : Int32} {st : List Value} {im : IM} {rm : RM}  : ev 131 156 [v0, v1, v2, v3] (.int y :: .int x :: st) im rm = ev 131 157 [v0, v1, v2, v3] (.int (x * y) :: st) (im) (rm) := ev_imul pm_m131 d131_156 rfl
theorem d131_157 : decode prog_10_method_29_code 157 = .ok (.iconst 4, 1) := by decide +kernel
theorem s131_157 {v0 v1 v2 v3 : Value}  {st : List Value} {im : IM} {rm : RM}  : ev 131 157 [v0, v1, v2, v3] st im rm = ev 131 158 [v0, v1, v2, v3] (.int (nI 4) :: st) (im) (rm) := ev_iconst pm_m131 d131_157 rfl rfl
theorem d131_158 : decode prog_10_method_29_code 158 = .ok (.iload_n 2, 1) := by decide +kernel
theorem s131_158 {v0 v1 v3 : Value} {l1 : Int32} {st : List Value} {im : IM} {rm : RM}  : ev 131 158 [v0, v1, .int l1, v3] st im rm = ev 131 159 [v0, v1, .int l1, v3] (.int l1 :: st) (im) (rm) := ev_iload_n pm_m131 d131_158 rfl rfl
theorem d131_159 : decode prog_10_method_29_code 159 = .ok (.imul, 1) := by decide +kernel
theorem s131_159 {v0 v1 v2 v3 : Value} {x : Int32} {y : Int32} {st : List Value} {im : IM} {rm : RM}  : ev 131 159 [v0, v1, v2, v3] (.int y :: .int x :: st) im rm = ev 131 160 [v0, v1, v2, v3] (.int (x * y) :: st) (im) (rm) := ev_imul pm_m131 d131_159 rfl
theorem d131_160 : decode prog_10_method_29_code 160 = .ok (.iadd, 1) := by decide +kernel
theorem s131_160 {v0 v1 v2 v3 : Value} {x : Int32} {y : Int32} {st : List Value} {im : IM} {rm : RM}  : ev 131 160 [v0, v1, v2, v3] (.int y :: .int x :: st) im rm = ev 131 161 [v0, v1, v2, v3] (.int (x + y) :: st) (im) (rm) := ev_iadd pm_m131 d131_160 rfl
theorem d131_161 : decode prog_10_method_29_code 161 = .ok (.iload_n 3, 1) := by decide +kernel
theorem s131_161 {v0 v1 v2 : Value} {l1 : Int32} {st : List Value} {im : IM} {rm : RM}  : ev 131 161 [v0, v1, v2, .int l1] st im rm = ev 131 162 [v0, v1, v2, .int l1] (.int l1 :: st) (im) (rm) := ev_iload_n pm_m131 d131_161 rfl rfl
theorem d131_162 : decode prog_10_method_29_code 162 = .ok (.iadd, 1) := by decide +kernel
theorem s131_162 {v0 v1 v2 v3 : Value} {x : Int32} {y : Int32} {st : List Value} {im : IM} {rm : RM}  : ev 131 162 [v0, v1, v2, v3] (.int y :: .int x :: st) im rm = ev 131 163 [v0, v1, v2, v3] (.int (x + y) :: st) (im) (rm) := ev_iadd pm_m131 d131_162 rfl
theorem d131_163 : decode prog_10_method_29_code 163 = .ok (.aload_n 0, 1) := by decide +kernel
theorem s131_163 {v1 v2 v3 : Value} {l1 : Nat} {st : List Value} {im : IM} {rm : RM}  : ev 131 163 [.ref l1, v1, v2, v3] st im rm = ev 131 164 [.ref l1, v1, v2, v3] (.ref l1 :: st) (im) (rm) := ev_aload_n pm_m131 d131_163 rfl rfl
theorem d131_164 : decode prog_10_method_29_code 164 = .ok (.getfield 58, 3) := by decide +kernel
theorem s131_164 {v0 v1 v2 v3 : Value} {a : Nat} {st : List Value} {im : IM} {rm : RM} (hk : kd a = 18) : ev 131 164 [v0, v1, v2, v3] (.ref a :: st) im rm = ev 131 167 [v0, v1, v2, v3] (pm_ro (rm a 17) :: st) (im) (rm) := ev_getR pm_m131 d131_164 f8_58 rfl hk rfl
theorem d131_167 : decode prog_10_method_29_code 167 = .ok (.bipush 96, 2) := by decide +kernel
theorem s131_167 {v0 v1 v2 v3 : Value}  {st : List Value} {im : IM} {rm : RM}  : ev 131 167 [v0, v1, v2, v3] st im rm = ev 131 169 [v0, v1, v2, v3] (.int (nI 96) :: st) (im) (rm) := ev_bipush pm_m131 d131_167 rfl rfl
theorem d131_169 : decode prog_10_method_29_code 169 = .ok (.iconst 4, 1) := by decide +kernel
theorem s131_169 {v0 v1 v2 v3 : Value}  {st : List Value} {im : IM} {rm : RM}  : ev 131 169 [v0, v1, v2, v3] st im rm = ev 131 170 [v0, v1, v2, v3] (.int (nI 4) :: st) (im) (rm) := ev_iconst pm_m131 d131_169 rfl rfl
theorem d131_170 : decode prog_10_method_29_code 170 = .ok (.iload_n 2, 1) := by decide +kernel
theorem s131_170 {v0 v1 v3 : Value} {l1 : Int32} {st : List Value} {im : IM} {rm : RM}  : ev 131 170 [v0, v1, .int l1, v3] st im rm = ev 131 171 [v0, v1, .int l1, v3] (.int l1 :: st) (im) (rm) := ev_iload_n pm_m131 d131_170 rfl rfl
theorem d131_171 : decode prog_10_method_29_code 171 = .ok (.imul, 1) := by decide +kernel
theorem s131_171 {v0 v1 v2 v3 : Value} {x : Int32} {y : Int32} {st : List Value} {im : IM} {rm : RM}  : ev 131 171 [v0, v1, v2, v3] (.int y :: .int x :: st) im rm = ev 131 172 [v0, v1, v2, v3] (.int (x * y) :: st) (im) (rm) := ev_imul pm_m131 d131_171 rfl
theorem d131_172 : decode prog_10_method_29_code 172 = .ok (.iadd, 1) := by decide +kernel
theorem s131_172 {v0 v1 v2 v3 : Value} {x : Int32} {y : Int32} {st : List Value} {im : IM} {rm : RM}  : ev 131 172 [v0, v1, v2, v3] (.int y :: .int x :: st) im rm = ev 131 173 [v0, v1, v2, v3] (.int (x + y) :: st) (im) (rm) := ev_iadd pm_m131 d131_172 rfl
theorem d131_173 : decode prog_10_method_29_code 173 = .ok (.iload_n 3, 1) := by decide +kernel
theorem s131_173 {v0 v1 v2 : Value} {l1 : Int32} {st : List Value} {im : IM} {rm : RM}  : ev 131 173 [v0, v1, v2, .int l1] st im rm = ev 131 174 [v0, v1, v2, .int l1] (.int l1 :: st) (im) (rm) := ev_iload_n pm_m131 d131_173 rfl rfl
theorem d131_174 : decode prog_10_method_29_code 174 = .ok (.iadd, 1) := by decide +kernel
theorem s131_174 {v0 v1 v2 v3 : Value} {x : Int32} {y : Int32} {st : List Value} {im : IM} {rm : RM}  : ev 131 174 [v0, v1, v2, v3] (.int y :: .int x :: st) im rm = ev 131 175 [v0, v1, v2, v3] (.int (x + y) :: st) (im) (rm) := ev_iadd pm_m131 d131_174 rfl
theorem d131_175 : decode prog_10_method_29_code 175 = .ok (.iaload, 1) := by decide +kernel
theorem s131_175 {v0 v1 v2 v3 : Value} {a : Nat} {i : Int32} {st : List Value} {im : IM} {rm : RM} (hk : kd a = 0) (hi : pm_in i (ln a) = true) : ev 131 175 [v0, v1, v2, v3] (.int i :: .ref a :: st) im rm = ev 131 176 [v0, v1, v2, v3] (.int (im a i.toNatClampNeg) :: st) (im) (rm) := ev_iald pm_m131 d131_175 hk hi rfl
theorem d131_176 : decode prog_10_method_29_code 176 = .ok (.iastore, 1) := by decide +kernel
theorem s131_176 {v0 v1 v2 v3 : Value} {a : Nat} {i : Int32} {v : Int32} {st : List Value} {im : IM} {rm : RM} (hk : kd a = 0) (hi : pm_in i (ln a) = true) : ev 131 176 [v0, v1, v2, v3] (.int v :: .int i :: .ref a :: st) im rm = ev 131 177 [v0, v1, v2, v3] st (pm_w2 im a i.toNatClampNeg v) (rm) := ev_iast pm_m131 d131_176 hk hi rfl
theorem d131_177 : decode prog_10_method_29_code 177 = .ok (.iinc 3 1, 3) := by decide +kernel
theorem s131_177 {v0 v1 : Value} {l1 : Int32} {l2 : Int32} {st : List Value} {im : IM} {rm : RM}  : ev 131 177 [v0, v1, .int l1, .int l2] st im rm = ev 131 180 [v0, v1, .int l1, .int (l2 + nI 1)] st (im) (rm) := ev_iinc pm_m131 d131_177 rfl rfl rfl rfl
theorem d131_180 : decode prog_10_method_29_code 180 = .ok (.goto (-92), 3) := by decide +kernel
theorem s131_180 {v0 v1 v2 v3 : Value}  {st : List Value} {im : IM} {rm : RM}  : ev 131 180 [v0, v1, v2, v3] st im rm = ev 131 88 [v0, v1, v2, v3] st (im) (rm) := ev_goto pm_m131 d131_180 rfl rfl
theorem d131_183 : decode prog_10_method_29_code 183 = .ok (.iinc 2 1, 3) := by decide +kernel
theorem s131_183 {v0 v3 : Value} {l1 : Int32} {l2 : Int32} {st : List Value} {im : IM} {rm : RM}  : ev 131 183 [v0, .int l1, .int l2, v3] st im rm = ev 131 186 [v0, .int l1, .int (l2 + nI 1), v3] st (im) (rm) := ev_iinc pm_m131 d131_183 rfl rfl rfl rfl
theorem d131_186 : decode prog_10_method_29_code 186 = .ok (.goto (-150), 3) := by decide +kernel
theorem s131_186 {v0 v1 v2 v3 : Value}  {st : List Value} {im : IM} {rm : RM}  : ev 131 186 [v0, v1, v2, v3] st im rm = ev 131 36 [v0, v1, v2, pm_u] st (im) (rm) := ev_goto pm_m131 d131_186 rfl rfl
theorem d131_189 : decode prog_10_method_29_code 189 = .ok (.aload_n 0, 1) := by decide +kernel
theorem s131_189 {v1 v2 v3 : Value} {l1 : Nat} {st : List Value} {im : IM} {rm : RM}  : ev 131 189 [.ref l1, v1, v2, v3] st im rm = ev 131 190 [.ref l1, v1, v2, v3] (.ref l1 :: st) (im) (rm) := ev_aload_n pm_m131 d131_189 rfl rfl
theorem d131_190 : decode prog_10_method_29_code 190 = .ok (.iconst 0, 1) := by decide +kernel
theorem s131_190 {v0 v1 v2 v3 : Value}  {st : List Value} {im : IM} {rm : RM}  : ev 131 190 [v0, v1, v2, v3] st im rm = ev 131 191 [v0, v1, v2, v3] (.int (nI 0) :: st) (im) (rm) := ev_iconst pm_m131 d131_190 rfl rfl
theorem d131_191 : decode prog_10_method_29_code 191 = .ok (.putfield 174, 3) := by decide +kernel
theorem s131_191 {v0 v1 v2 v3 : Value} {a : Nat} {v : Int32} {st : List Value} {im : IM} {rm : RM} (hk : kd a = 18) : ev 131 191 [v0, v1, v2, v3] (.int v :: .ref a :: st) im rm = ev 131 194 [v0, v1, v2, v3] st (pm_w2 im a 11 v) (rm) := ev_putI pm_m131 d131_191 f8_174 rfl rfl hk rfl
theorem d131_194 : decode prog_10_method_29_code 194 = .ok (.aload_n 0, 1) := by decide +kernel
theorem s131_194 {v1 v2 v3 : Value} {l1 : Nat} {st : List Value} {im : IM} {rm : RM}  : ev 131 194 [.ref l1, v1, v2, v3] st im rm = ev 131 195 [.ref l1, v1, v2, v3] (.ref l1 :: st) (im) (rm) := ev_aload_n pm_m131 d131_194 rfl rfl
theorem d131_195 : decode prog_10_method_29_code 195 = .ok (.getfield 43, 3) := by decide +kernel
theorem s131_195 {v0 v1 v2 v3 : Value} {a : Nat} {st : List Value} {im : IM} {rm : RM} (hk : kd a = 18) : ev 131 195 [v0, v1, v2, v3] (.ref a :: st) im rm = ev 131 198 [v0, v1, v2, v3] (pm_ro (rm a 12) :: st) (im) (rm) := ev_getR pm_m131 d131_195 f8_43 rfl hk rfl
theorem d131_198 : decode prog_10_method_29_code 198 = .ok (.iload_n 1, 1) := by decide +kernel
theorem s131_198 {v0 v2 v3 : Value} {l1 : Int32} {st : List Value} {im : IM} {rm : RM}  : ev 131 198 [v0, .int l1, v2, v3] st im rm = ev 131 199 [v0, .int l1, v2, v3] (.int l1 :: st) (im) (rm) := ev_iload_n pm_m131 d131_198 rfl rfl
theorem d131_199 : decode prog_10_method_29_code 199 = .ok (.iaload, 1) := by decide +kernel
theorem s131_199 {v0 v1 v2 v3 : Value} {a : Nat} {i : Int32} {st : List Value} {im : IM} {rm : RM} (hk : kd a = 0) (hi : pm_in i (ln a) = true) : ev 131 199 [v0, v1, v2, v3] (.int i :: .ref a :: st) im rm = ev 131 200 [v0, v1, v2, v3] (.int (im a i.toNatClampNeg) :: st) (im) (rm) := ev_iald pm_m131 d131_199 hk hi rfl
theorem d131_200 : decode prog_10_method_29_code 200 = .ok (.ireturn, 1) := by decide +kernel
theorem s131_200 {v0 v1 v2 v3 : Value} {x : Int32} {im : IM} {rm : RM} : ev 131 200 [v0, v1, v2, v3] [.int x] im rm = some (some (.int x), im, rm) := ev_ireturn pm_m131 d131_200 rfl
theorem d132_0 : decode prog_10_method_30_code 0 = .ok (.iload_n 1, 1) := by decide +kernel
theorem s132_0 {v0 v2 : Value} {l1 : Int32} {st : List Value} {im : IM} {rm : RM}  : ev 132 0 [v0, .int l1, v2] st im rm = ev 132 1 [v0, .int l1, v2] (.int l1 :: st) (im) (rm) := ev_iload_n pm_m132 d132_0 rfl rfl
theorem d132_1 : decode prog_10_method_30_code 1 = .ok (.invokestatic 240, 3) := by decide +kernel
theorem s132_1 {v0 v1 v2 : Value} {p1 : Int32} {im : IM} {rm : RM}  : ev 132 1 [v0, v1, v2] [.int p1] im rm = (ev 107 0 [.int p1] [] im rm).bind (fun r => ev 132 4 [v0, v1, v2] (r.1.toList ++ []) r.2.1 r.2.2) := ev_callS pm_m132 d132_1 (by decide) l8_240 rfl pm_m107 rfl ⟨rfl, rfl⟩ rfl rfl
theorem d132_4 : decode prog_10_method_30_code 4 = .ok (.ifCond .ne 6, 3) := by decide +kernel
theorem s132_4 {v0 v1 v2 : Value} {x : Int32} {st : List Value} {im : IM} {rm : RM} : ev 132 4 [v0, v1, v2] (.int x :: st) im rm = if x = nI 0 then ev 132 7 [v0, v1, v2] st im rm else ev 132 10 [v0, v1, pm_u] st im rm := ev_if_ne (y := 0) pm_m132 d132_4 rfl rfl rfl
theorem d132_7 : decode prog_10_method_30_code 7 = .ok (.bipush (-2), 2) := by decide +kernel
theorem s132_7 {v0 v1 v2 : Value}  {st : List Value} {im : IM} {rm : RM}  : ev 132 7 [v0, v1, v2] st im rm = ev 132 9 [v0, v1, v2] (.int ((-2 : Int32)) :: st) (im) (rm) := ev_bipush pm_m132 d132_7 rfl rfl
theorem d132_9 : decode prog_10_method_30_code 9 = .ok (.ireturn, 1) := by decide +kernel
theorem s132_9 {v0 v1 v2 : Value} {x : Int32} {im : IM} {rm : RM} : ev 132 9 [v0, v1, v2] [.int x] im rm = some (some (.int x), im, rm) := ev_ireturn pm_m132 d132_9 rfl
theorem d132_10 : decode prog_10_method_30_code 10 = .ok (.aload_n 0, 1) := by decide +kernel
theorem s132_10 {v1 v2 : Value} {l1 : Nat} {st : List Value} {im : IM} {rm : RM}  : ev 132 10 [.ref l1, v1, v2] st im rm = ev 132 11 [.ref l1, v1, v2] (.ref l1 :: st) (im) (rm) := ev_aload_n pm_m132 d132_10 rfl rfl
theorem d132_11 : decode prog_10_method_30_code 11 = .ok (.iconst 1, 1) := by decide +kernel
theorem s132_11 {v0 v1 v2 : Value}  {st : List Value} {im : IM} {rm : RM}  : ev 132 11 [v0, v1, v2] st im rm = ev 132 12 [v0, v1, v2] (.int (nI 1) :: st) (im) (rm) := ev_iconst pm_m132 d132_11 rfl rfl
theorem d132_12 : decode prog_10_method_30_code 12 = .ok (.invokevirtual 237, 3) := by decide +kernel
theorem s132_12 {v0 v1 v2 : Value} {a : Nat} {p1 : Int32} {im : IM} {rm : RM} (hk : kd a = 18) : ev 132 12 [v0, v1, v2] [.int p1, .ref a] im rm = (ev 129 0 [.ref a, .int p1, pm_u] [] im rm).bind (fun r => ev 132 15 [v0, v1, v2] (r.1.toList ++ []) r.2.1 r.2.2) := ev_callV pm_m132 d132_12 l8_237 rfl pm_m129 (by decide) hk rfl ⟨rfl, rfl⟩ rfl rfl
theorem d132_15 : decode prog_10_method_30_code 15 = .ok (.iconst (-1), 1) := by decide +kernel
theorem s132_15 {v0 v1 v2 : Value}  {st : List Value} {im : IM} {rm : RM}  : ev 132 15 [v0, v1, v2] st im rm = ev 132 16 [v0, v1, v2] (.int ((-1 : Int32)) :: st) (im) (rm) := ev_iconst pm_m132 d132_15 rfl rfl
theorem d132_16 : decode prog_10_method_30_code 16 = .ok (.if_icmp .eq 6, 3) := by decide +kernel
theorem s132_16 {v0 v1 v2 : Value} {x : Int32} {y : Int32} {st : List Value} {im : IM} {rm : RM} : ev 132 16 [v0, v1, v2] (.int y :: .int x :: st) im rm = if x = y then ev 132 22 [v0, v1, pm_u] st im rm else ev 132 19 [v0, v1, v2] st im rm := ev_icmp_eq pm_m132 d132_16 rfl rfl rfl
theorem d132_19 : decode prog_10_method_30_code 19 = .ok (.bipush (-4), 2) := by decide +kernel
theorem s132_19 {v0 v1 v2 : Value}  {st : List Value} {im : IM} {rm : RM}  : ev 132 19 [v0, v1, v2] st im rm = ev 132 21 [v0, v1, v2] (.int ((-4 : Int32)) :: st) (im) (rm) := ev_bipush pm_m132 d132_19 rfl rfl
theorem d132_21 : decode prog_10_method_30_code 21 = .ok (.ireturn, 1) := by decide +kernel
theorem s132_21 {v0 v1 v2 : Value} {x : Int32} {im : IM} {rm : RM} : ev 132 21 [v0, v1, v2] [.int x] im rm = some (some (.int x), im, rm) := ev_ireturn pm_m132 d132_21 rfl
theorem d132_22 : decode prog_10_method_30_code 22 = .ok (.aload_n 0, 1) := by decide +kernel
theorem s132_22 {v1 v2 : Value} {l1 : Nat} {st : List Value} {im : IM} {rm : RM}  : ev 132 22 [.ref l1, v1, v2] st im rm = ev 132 23 [.ref l1, v1, v2] (.ref l1 :: st) (im) (rm) := ev_aload_n pm_m132 d132_22 rfl rfl
theorem d132_23 : decode prog_10_method_30_code 23 = .ok (.getfield 61, 3) := by decide +kernel
theorem s132_23 {v0 v1 v2 : Value} {a : Nat} {st : List Value} {im : IM} {rm : RM} (hk : kd a = 18) : ev 132 23 [v0, v1, v2] (.ref a :: st) im rm = ev 132 26 [v0, v1, v2] (pm_ro (rm a 18) :: st) (im) (rm) := ev_getR pm_m132 d132_23 f8_61 rfl hk rfl
theorem d132_26 : decode prog_10_method_30_code 26 = .ok (.iload_n 1, 1) := by decide +kernel
theorem s132_26 {v0 v2 : Value} {l1 : Int32} {st : List Value} {im : IM} {rm : RM}  : ev 132 26 [v0, .int l1, v2] st im rm = ev 132 27 [v0, .int l1, v2] (.int l1 :: st) (im) (rm) := ev_iload_n pm_m132 d132_26 rfl rfl
theorem d132_27 : decode prog_10_method_30_code 27 = .ok (.aload_n 0, 1) := by decide +kernel
theorem s132_27 {v1 v2 : Value} {l1 : Nat} {st : List Value} {im : IM} {rm : RM}  : ev 132 27 [.ref l1, v1, v2] st im rm = ev 132 28 [.ref l1, v1, v2] (.ref l1 :: st) (im) (rm) := ev_aload_n pm_m132 d132_27 rfl rfl
theorem d132_28 : decode prog_10_method_30_code 28 = .ok (.getfield 61, 3) := by decide +kernel
theorem s132_28 {v0 v1 v2 : Value} {a : Nat} {st : List Value} {im : IM} {rm : RM} (hk : kd a = 18) : ev 132 28 [v0, v1, v2] (.ref a :: st) im rm = ev 132 31 [v0, v1, v2] (pm_ro (rm a 18) :: st) (im) (rm) := ev_getR pm_m132 d132_28 f8_61 rfl hk rfl
theorem d132_31 : decode prog_10_method_30_code 31 = .ok (.iconst 2, 1) := by decide +kernel
theorem s132_31 {v0 v1 v2 : Value}  {st : List Value} {im : IM} {rm : RM}  : ev 132 31 [v0, v1, v2] st im rm = ev 132 32 [v0, v1, v2] (.int (nI 2) :: st) (im) (rm) := ev_iconst pm_m132 d132_31 rfl rfl
theorem d132_32 : decode prog_10_method_30_code 32 = .ok (.iaload, 1) := by decide +kernel
theorem s132_32 {v0 v1 v2 : Value} {a : Nat} {i : Int32} {st : List Value} {im : IM} {rm : RM} (hk : kd a = 0) (hi : pm_in i (ln a) = true) : ev 132 32 [v0, v1, v2] (.int i :: .ref a :: st) im rm = ev 132 33 [v0, v1, v2] (.int (im a i.toNatClampNeg) :: st) (im) (rm) := ev_iald pm_m132 d132_32 hk hi rfl
theorem d132_33 : decode prog_10_method_30_code 33 = .ok (.iastore, 1) := by decide +kernel
theorem s132_33 {v0 v1 v2 : Value} {a : Nat} {i : Int32} {v : Int32} {st : List Value} {im : IM} {rm : RM} (hk : kd a = 0) (hi : pm_in i (ln a) = true) : ev 132 33 [v0, v1, v2] (.int v :: .int i :: .ref a :: st) im rm = ev 132 34 [v0, v1, v2] st (pm_w2 im a i.toNatClampNeg v) (rm) := ev_iast pm_m132 d132_33 hk hi rfl
theorem d132_34 : decode prog_10_method_30_code 34 = .ok (.iconst 0, 1) := by decide +kernel
theorem s132_34 {v0 v1 v2 : Value}  {st : List Value} {im : IM} {rm : RM}  : ev 132 34 [v0, v1, v2] st im rm = ev 132 35 [v0, v1, v2] (.int (nI 0) :: st) (im) (rm) := ev_iconst pm_m132 d132_34 rfl rfl
theorem d132_35 : decode prog_10_method_30_code 35 = .ok (.istore_n 2, 1) := by decide +kernel
theorem s132_35 {v0 v2 : Value} {l1 : Int32} {x2 : Int32} {st : List Value} {im : IM} {rm : RM}  : ev 132 35 [v0, .int l1, v2] (.int x2 :: st) im rm = ev 132 36 [v0, .int l1, .int x2] st (im) (rm) := ev_istore_n pm_m132 d132_35 (Nat.le_of_ble_eq_true rfl) rfl rfl
theorem d132_36 : decode prog_10_method_30_code 36 = .ok (.iload_n 2, 1) := by decide +kernel
theorem s132_36 {v0 v1 : Value} {l1 : Int32} {st : List Value} {im : IM} {rm : RM}  : ev 132 36 [v0, v1, .int l1] st im rm = ev 132 37 [v0, v1, .int l1] (.int l1 :: st) (im) (rm) := ev_iload_n pm_m132 d132_36 rfl rfl
theorem d132_37 : decode prog_10_method_30_code 37 = .ok (.aload_n 0, 1) := by decide +kernel
theorem s132_37 {v1 v2 : Value} {l1 : Nat} {st : List Value} {im : IM} {rm : RM}  : ev 132 37 [.ref l1, v1, v2] st im rm = ev 132 38 [.ref l1, v1, v2] (.ref l1 :: st) (im) (rm) := ev_aload_n pm_m132 d132_37 rfl rfl
theorem d132_38 : decode prog_10_method_30_code 38 = .ok (.getfield 61, 3) := by decide +kernel
theorem s132_38 {v0 v1 v2 : Value} {a : Nat} {st : List Value} {im : IM} {rm : RM} (hk : kd a = 18) : ev 132 38 [v0, v1, v2] (.ref a :: st) im rm = ev 132 41 [v0, v1, v2] (pm_ro (rm a 18) :: st) (im) (rm) := ev_getR pm_m132 d132_38 f8_61 rfl hk rfl
theorem d132_41 : decode prog_10_method_30_code 41 = .ok (.iload_n 1, 1) := by decide +kernel
theorem s132_41 {v0 v2 : Value} {l1 : Int32} {st : List Value} {im : IM} {rm : RM}  : ev 132 41 [v0, .int l1, v2] st im rm = ev 132 42 [v0, .int l1, v2] (.int l1 :: st) (im) (rm) := ev_iload_n pm_m132 d132_41 rfl rfl
theorem d132_42 : decode prog_10_method_30_code 42 = .ok (.iaload, 1) := by decide +kernel
theorem s132_42 {v0 v1 v2 : Value} {a : Nat} {i : Int32} {st : List Value} {im : IM} {rm : RM} (hk : kd a = 0) (hi : pm_in i (ln a) = true) : ev 132 42 [v0, v1, v2] (.int i :: .ref a :: st) im rm = ev 132 43 [v0, v1, v2] (.int (im a i.toNatClampNeg) :: st) (im) (rm) := ev_iald pm_m132 d132_42 hk hi rfl
theorem d132_43 : decode prog_10_method_30_code 43 = .ok (.if_icmp .ge 49, 3) := by decide +kernel
theorem s132_43 {v0 v1 v2 : Value} {x : Int32} {y : Int32} {st : List Value} {im : IM} {rm : RM} : ev 132 43 [v0, v1, v2] (.int y :: .int x :: st) im rm = if y ≤ x then ev 132 92 [v0, v1, pm_u] st im rm else ev 132 46 [v0, v1, v2] st im rm := ev_icmp_ge pm_m132 d132_43 rfl rfl rfl
theorem d132_46 : decode prog_10_method_30_code 46 = .ok (.aload_n 0, 1) := by decide +kernel
theorem s132_46 {v1 v2 : Value} {l1 : Nat} {st : List Value} {im : IM} {rm : RM}  : ev 132 46 [.ref l1, v1, v2] st im rm = ev 132 47 [.ref l1, v1, v2] (.ref l1 :: st) (im) (rm) := ev_aload_n pm_m132 d132_46 rfl rfl
theorem d132_47 : decode prog_10_method_30_code 47 = .ok (.getfield 64, 3) := by decide +kernel
theorem s132_47 {v0 v1 v2 : Value} {a : Nat} {st : List Value} {im : IM} {rm : RM} (hk : kd a = 18) : ev 132 47 [v0, v1, v2] (.ref a :: st) im rm = ev 132 50 [v0, v1, v2] (pm_ro (rm a 19) :: st) (im) (rm) := ev_getR pm_m132 d132_47 f8_64 rfl hk rfl
theorem d132_50 : decode prog_10_method_30_code 50 = .ok (.bipush 8, 2) := by decide +kernel
theorem s132_50 {v0 v1 v2 : Value}  {st : List Value} {im : IM} {rm : RM}  : ev 132 50 [v0, v1, v2] st im rm = ev 132 52 [v0, v1, v2] (.int (nI 8) :: st) (im) (rm) := ev_bipush pm_m132 d132_50 rfl rfl
theorem d132_52 : decode prog_10_method_30_code 52 = .ok (.iload_n 1, 1) := by decide +kernel
theorem s132_52 {v0 v2 : Value} {l1 : Int32} {st : List Value} {im : IM} {rm : RM}  : ev 132 52 [v0, .int l1, v2] st im rm = ev 132 53 [v0, .int l1, v2] (.int l1 :: st) (im) (rm) := ev_iload_n pm_m132 d132_52 rfl rfl
theorem d132_53 : decode prog_10_method_30_code 53 = .ok (.imul, 1) := by decide +kernel
theorem s132_53 {v0 v1 v2 : Value} {x : Int32} {y : Int32} {st : List Value} {im : IM} {rm : RM}  : ev 132 53 [v0, v1, v2] (.int y :: .int x :: st) im rm = ev 132 54 [v0, v1, v2] (.int (x * y) :: st) (im) (rm) := ev_imul pm_m132 d132_53 rfl
theorem d132_54 : decode prog_10_method_30_code 54 = .ok (.iload_n 2, 1) := by decide +kernel
theorem s132_54 {v0 v1 : Value} {l1 : Int32} {st : List Value} {im : IM} {rm : RM}  : ev 132 54 [v0, v1, .int l1] st im rm = ev 132 55 [v0, v1, .int l1] (.int l1 :: st) (im) (rm) := ev_iload_n pm_m132 d132_54 rfl rfl
theorem d132_55 : decode prog_10_method_30_code 55 = .ok (.iadd, 1) := by decide +kernel
theorem s132_55 {v0 v1 v2 : Value} {x : Int32} {y : Int32} {st : List Value} {im : IM} {rm : RM}  : ev 132 55 [v0, v1, v2] (.int y :: .int x :: st) im rm = ev 132 56 [v0, v1, v2] (.int (x + y) :: st) (im) (rm) := ev_iadd pm_m132 d132_55 rfl
theorem d132_56 : decode prog_10_method_30_code 56 = .ok (.aload_n 0, 1) := by decide +kernel
theorem s132_56 {v1 v2 : Value} {l1 : Nat} {st : List Value} {im : IM} {rm : RM}  : ev 132 56 [.ref l1, v1, v2] st im rm = ev 132 57 [.ref l1, v1, v2] (.ref l1 :: st) (im) (rm) := ev_aload_n pm_m132 d132_56 rfl rfl
theorem d132_57 : decode prog_10_method_30_code 57 = .ok (.getfield 64, 3) := by decide +kernel
theorem s132_57 {v0 v1 v2 : Value} {a : Nat} {st : List Value} {im : IM} {rm : RM} (hk : kd a = 18) : ev 132 57 [v0, v1, v2] (.ref a :: st) im rm = ev 132 60 [v0, v1, v2] (pm_ro (rm a 19) :: st) (im) (rm) := ev_getR pm_m132 d132_57 f8_64 rfl hk rfl
theorem d132_60 : decode prog_10_method_30_code 60 = .ok (.bipush 16, 2) := by decide +kernel
theorem s132_60 {v0 v1 v2 : Value}  {st : List Value} {im : IM} {rm : RM}  : ev 132 60 [v0, v1, v2] st im rm = ev 132 62 [v0, v1, v2] (.int (nI 16) :: st) (im) (rm) := ev_bipush pm_m132 d132_60 rfl rfl
theorem d132_62 : decode prog_10_method_30_code 62 = .ok (.iload_n 2, 1) := by decide +kernel
theorem s132_62 {v0 v1 : Value} {l1 : Int32} {st : List Value} {im : IM} {rm : RM}  : ev 132 62 [v0, v1, .int l1] st im rm = ev 132 63 [v0, v1, .int l1] (.int l1 :: st) (im) (rm) := ev_iload_n pm_m132 d132_62 rfl rfl
theorem d132_63 : decode prog_10_method_30_code 63 = .ok (.iadd, 1) := by decide +kernel
theorem s132_63 {v0 v1 v2 : Value} {x : Int32} {y : Int32} {st : List Value} {im : IM} {rm : RM}  : ev 132 63 [v0, v1, v2] (.int y :: .int x :: st) im rm = ev 132 64 [v0, v1, v2] (.int (x + y) :: st) (im) (rm) := ev_iadd pm_m132 d132_63 rfl
theorem d132_64 : decode prog_10_method_30_code 64 = .ok (.iaload, 1) := by decide +kernel
theorem s132_64 {v0 v1 v2 : Value} {a : Nat} {i : Int32} {st : List Value} {im : IM} {rm : RM} (hk : kd a = 0) (hi : pm_in i (ln a) = true) : ev 132 64 [v0, v1, v2] (.int i :: .ref a :: st) im rm = ev 132 65 [v0, v1, v2] (.int (im a i.toNatClampNeg) :: st) (im) (rm) := ev_iald pm_m132 d132_64 hk hi rfl
theorem d132_65 : decode prog_10_method_30_code 65 = .ok (.iastore, 1) := by decide +kernel
theorem s132_65 {v0 v1 v2 : Value} {a : Nat} {i : Int32} {v : Int32} {st : List Value} {im : IM} {rm : RM} (hk : kd a = 0) (hi : pm_in i (ln a) = true) : ev 132 65 [v0, v1, v2] (.int v :: .int i :: .ref a :: st) im rm = ev 132 66 [v0, v1, v2] st (pm_w2 im a i.toNatClampNeg v) (rm) := ev_iast pm_m132 d132_65 hk hi rfl
theorem d132_66 : decode prog_10_method_30_code 66 = .ok (.aload_n 0, 1) := by decide +kernel
theorem s132_66 {v1 v2 : Value} {l1 : Nat} {st : List Value} {im : IM} {rm : RM}  : ev 132 66 [.ref l1, v1, v2] st im rm = ev 132 67 [.ref l1, v1, v2] (.ref l1 :: st) (im) (rm) := ev_aload_n pm_m132 d132_66 rfl rfl
theorem d132_67 : decode prog_10_method_30_code 67 = .ok (.getfield 67, 3) := by decide +kernel
theorem s132_67 {v0 v1 v2 : Value} {a : Nat} {st : List Value} {im : IM} {rm : RM} (hk : kd a = 18) : ev 132 67 [v0, v1, v2] (.ref a :: st) im rm = ev 132 70 [v0, v1, v2] (pm_ro (rm a 20) :: st) (im) (rm) := ev_getR pm_m132 d132_67 f8_67 rfl hk rfl
theorem d132_70 : decode prog_10_method_30_code 70 = .ok (.bipush 8, 2) := by decide +kernel
theorem s132_70 {v0 v1 v2 : Value}  {st : List Value} {im : IM} {rm : RM}  : ev 132 70 [v0, v1, v2] st im rm = ev 132 72 [v0, v1, v2] (.int (nI 8) :: st) (im) (rm) := ev_bipush pm_m132 d132_70 rfl rfl
theorem d132_72 : decode prog_10_method_30_code 72 = .ok (.iload_n 1, 1) := by decide +kernel
theorem s132_72 {v0 v2 : Value} {l1 : Int32} {st : List Value} {im : IM} {rm : RM}  : ev 132 72 [v0, .int l1, v2] st im rm = ev 132 73 [v0, .int l1, v2] (.int l1 :: st) (im) (rm) := ev_iload_n pm_m132 d132_72 rfl rfl
theorem d132_73 : decode prog_10_method_30_code 73 = .ok (.imul, 1) := by decide +kernel
theorem s132_73 {v0 v1 v2 : Value} {x : Int32} {y : Int32} {st : List Value} {im : IM} {rm : RM}  : ev 132 73 [v0, v1, v2] (.int y :: .int x :: st) im rm = ev 132 74 [v0, v1, v2] (.int (x * y) :: st) (im) (rm) := ev_imul pm_m132 d132_73 rfl
theorem d132_74 : decode prog_10_method_30_code 74 = .ok (.iload_n 2, 1) := by decide +kernel
theorem s132_74 {v0 v1 : Value} {l1 : Int32} {st : List Value} {im : IM} {rm : RM}  : ev 132 74 [v0, v1, .int l1] st im rm = ev 132 75 [v0, v1, .int l1] (.int l1 :: st) (im) (rm) := ev_iload_n pm_m132 d132_74 rfl rfl
theorem d132_75 : decode prog_10_method_30_code 75 = .ok (.iadd, 1) := by decide +kernel
theorem s132_75 {v0 v1 v2 : Value} {x : Int32} {y : Int32} {st : List Value} {im : IM} {rm : RM}  : ev 132 75 [v0, v1, v2] (.int y :: .int x :: st) im rm = ev 132 76 [v0, v1, v2] (.int (x + y) :: st) (im) (rm) := ev_iadd pm_m132 d132_75 rfl
theorem d132_76 : decode prog_10_method_30_code 76 = .ok (.aload_n 0, 1) := by decide +kernel
theorem s132_76 {v1 v2 : Value} {l1 : Nat} {st : List Value} {im : IM} {rm : RM}  : ev 132 76 [.ref l1, v1, v2] st im rm = ev 132 77 [.ref l1, v1, v2] (.ref l1 :: st) (im) (rm) := ev_aload_n pm_m132 d132_76 rfl rfl
theorem d132_77 : decode prog_10_method_30_code 77 = .ok (.getfield 67, 3) := by decide +kernel
theorem s132_77 {v0 v1 v2 : Value} {a : Nat} {st : List Value} {im : IM} {rm : RM} (hk : kd a = 18) : ev 132 77 [v0, v1, v2] (.ref a :: st) im rm = ev 132 80 [v0, v1, v2] (pm_ro (rm a 20) :: st) (im) (rm) := ev_getR pm_m132 d132_77 f8_67 rfl hk rfl
theorem d132_80 : decode prog_10_method_30_code 80 = .ok (.bipush 16, 2) := by decide +kernel
theorem s132_80 {v0 v1 v2 : Value}  {st : List Value} {im : IM} {rm : RM}  : ev 132 80 [v0, v1, v2] st im rm = ev 132 82 [v0, v1, v2] (.int (nI 16) :: st) (im) (rm) := ev_bipush pm_m132 d132_80 rfl rfl
theorem d132_82 : decode prog_10_method_30_code 82 = .ok (.iload_n 2, 1) := by decide +kernel
theorem s132_82 {v0 v1 : Value} {l1 : Int32} {st : List Value} {im : IM} {rm : RM}  : ev 132 82 [v0, v1, .int l1] st im rm = ev 132 83 [v0, v1, .int l1] (.int l1 :: st) (im) (rm) := ev_iload_n pm_m132 d132_82 rfl rfl
theorem d132_83 : decode prog_10_method_30_code 83 = .ok (.iadd, 1) := by decide +kernel
theorem s132_83 {v0 v1 v2 : Value} {x : Int32} {y : Int32} {st : List Value} {im : IM} {rm : RM}  : ev 132 83 [v0, v1, v2] (.int y :: .int x :: st) im rm = ev 132 84 [v0, v1, v2] (.int (x + y) :: st) (im) (rm) := ev_iadd pm_m132 d132_83 rfl
theorem d132_84 : decode prog_10_method_30_code 84 = .ok (.iaload, 1) := by decide +kernel
theorem s132_84 {v0 v1 v2 : Value} {a : Nat} {i : Int32} {st : List Value} {im : IM} {rm : RM} (hk : kd a = 0) (hi : pm_in i (ln a) = true) : ev 132 84 [v0, v1, v2] (.int i :: .ref a :: st) im rm = ev 132 85 [v0, v1, v2] (.int (im a i.toNatClampNeg) :: st) (im) (rm) := ev_iald pm_m132 d132_84 hk hi rfl
theorem d132_85 : decode prog_10_method_30_code 85 = .ok (.iastore, 1) := by decide +kernel
theorem s132_85 {v0 v1 v2 : Value} {a : Nat} {i : Int32} {v : Int32} {st : List Value} {im : IM} {rm : RM} (hk : kd a = 0) (hi : pm_in i (ln a) = true) : ev 132 85 [v0, v1, v2] (.int v :: .int i :: .ref a :: st) im rm = ev 132 86 [v0, v1, v2] st (pm_w2 im a i.toNatClampNeg v) (rm) := ev_iast pm_m132 d132_85 hk hi rfl
theorem d132_86 : decode prog_10_method_30_code 86 = .ok (.iinc 2 1, 3) := by decide +kernel
theorem s132_86 {v0 : Value} {l1 : Int32} {l2 : Int32} {st : List Value} {im : IM} {rm : RM}  : ev 132 86 [v0, .int l1, .int l2] st im rm = ev 132 89 [v0, .int l1, .int (l2 + nI 1)] st (im) (rm) := ev_iinc pm_m132 d132_86 rfl rfl rfl rfl
theorem d132_89 : decode prog_10_method_30_code 89 = .ok (.goto (-53), 3) := by decide +kernel
theorem s132_89 {v0 v1 v2 : Value}  {st : List Value} {im : IM} {rm : RM}  : ev 132 89 [v0, v1, v2] st im rm = ev 132 36 [v0, v1, v2] st (im) (rm) := ev_goto pm_m132 d132_89 rfl rfl
theorem d132_92 : decode prog_10_method_30_code 92 = .ok (.aload_n 0, 1) := by decide +kernel
theorem s132_92 {v1 v2 : Value} {l1 : Nat} {st : List Value} {im : IM} {rm : RM}  : ev 132 92 [.ref l1, v1, v2] st im rm = ev 132 93 [.ref l1, v1, v2] (.ref l1 :: st) (im) (rm) := ev_aload_n pm_m132 d132_92 rfl rfl
theorem d132_93 : decode prog_10_method_30_code 93 = .ok (.iconst 0, 1) := by decide +kernel
theorem s132_93 {v0 v1 v2 : Value}  {st : List Value} {im : IM} {rm : RM}  : ev 132 93 [v0, v1, v2] st im rm = ev 132 94 [v0, v1, v2] (.int (nI 0) :: st) (im) (rm) := ev_iconst pm_m132 d132_93 rfl rfl
theorem d132_94 : decode prog_10_method_30_code 94 = .ok (.putfield 174, 3) := by decide +kernel
theorem s132_94 {v0 v1 v2 : Value} {a : Nat} {v : Int32} {st : List Value} {im : IM} {rm : RM} (hk : kd a = 18) : ev 132 94 [v0, v1, v2] (.int v :: .ref a :: st) im rm = ev 132 97 [v0, v1, v2] st (pm_w2 im a 11 v) (rm) := ev_putI pm_m132 d132_94 f8_174 rfl rfl hk rfl
theorem d132_97 : decode prog_10_method_30_code 97 = .ok (.aload_n 0, 1) := by decide +kernel
theorem s132_97 {v1 v2 : Value} {l1 : Nat} {st : List Value} {im : IM} {rm : RM}  : ev 132 97 [.ref l1, v1, v2] st im rm = ev 132 98 [.ref l1, v1, v2] (.ref l1 :: st) (im) (rm) := ev_aload_n pm_m132 d132_97 rfl rfl
theorem d132_98 : decode prog_10_method_30_code 98 = .ok (.getfield 61, 3) := by decide +kernel
theorem s132_98 {v0 v1 v2 : Value} {a : Nat} {st : List Value} {im : IM} {rm : RM} (hk : kd a = 18) : ev 132 98 [v0, v1, v2] (.ref a :: st) im rm = ev 132 101 [v0, v1, v2] (pm_ro (rm a 18) :: st) (im) (rm) := ev_getR pm_m132 d132_98 f8_61 rfl hk rfl
theorem d132_101 : decode prog_10_method_30_code 101 = .ok (.iload_n 1, 1) := by decide +kernel
theorem s132_101 {v0 v2 : Value} {l1 : Int32} {st : List Value} {im : IM} {rm : RM}  : ev 132 101 [v0, .int l1, v2] st im rm = ev 132 102 [v0, .int l1, v2] (.int l1 :: st) (im) (rm) := ev_iload_n pm_m132 d132_101 rfl rfl
theorem d132_102 : decode prog_10_method_30_code 102 = .ok (.iaload, 1) := by decide +kernel
theorem s132_102 {v0 v1 v2 : Value} {a : Nat} {i : Int32} {st : List Value} {im : IM} {rm : RM} (hk : kd a = 0) (hi : pm_in i (ln a) = true) : ev 132 102 [v0, v1, v2] (.int i :: .ref a :: st) im rm = ev 132 103 [v0, v1, v2] (.int (im a i.toNatClampNeg) :: st) (im) (rm) := ev_iald pm_m132 d132_102 hk hi rfl
theorem d132_103 : decode prog_10_method_30_code 103 = .ok (.ireturn, 1) := by decide +kernel
theorem s132_103 {v0 v1 v2 : Value} {x : Int32} {im : IM} {rm : RM} : ev 132 103 [v0, v1, v2] [.int x] im rm = some (some (.int x), im, rm) := ev_ireturn pm_m132 d132_103 rfl
theorem d133_0 : decode prog_10_method_31_code 0 = .ok (.bipush 6, 2) := by decide +kernel
theorem s133_0 {v0 v1 v2 v3 v4 v5 v6 v7 : Value}  {st : List Value} {im : IM} {rm : RM}  : ev 133 0 [v0, v1, v2, v3, v4, v5, v6, v7] st im rm = ev 133 2 [v0, v1, v2, v3, v4, v5, v6, v7] (.int (nI 6) :: st) (im) (rm) := ev_bipush pm_m133 d133_0 rfl rfl
theorem d133_2 : decode prog_10_method_31_code 2 = .ok (.iload_n 1, 1) := by decide +kernel
theorem s133_2 {v0 v2 v3 v4 v5 v6 v7 : Value} {l1 : Int32} {st : List Value} {im : IM} {rm : RM}  : ev 133 2 [v0, .int l1, v2, v3, v4, v5, v6, v7] st im rm = ev 133 3 [v0, .int l1, v2, v3, v4, v5, v6, v7] (.int l1 :: st) (im) (rm) := ev_iload_n pm_m133 d133_2 rfl rfl
theorem d133_3 : decode prog_10_method_31_code 3 = .ok (.imul, 1) := by decide +kernel
theorem s133_3 {v0 v1 v2 v3 v4 v5 v6 v7 : Value} {x : Int32} {y : Int32} {st : List Value} {im : IM} {rm : RM}  : ev 133 3 [v0, v1, v2, v3, v4, v5, v6, v7] (.int y :: .int x :: st) im rm = ev 133 4 [v0, v1, v2, v3, v4, v5, v6, v7] (.int (x * y) :: st) (im) (rm) := ev_imul pm_m133 d133_3 rfl
theorem d133_4 : decode prog_10_method_31_code 4 = .ok (.istore 4, 2) := by decide +kernel
theorem s133_4 {v0 v1 v2 v4 v5 v6 v7 : Value} {l1 : Int32} {x2 : Int32} {st : List Value} {im : IM} {rm : RM}  : ev 133 4 [v0, v1, v2, .int l1, v4, v5, v6, v7] (.int x2 :: st) im rm = ev 133 6 [v0, v1, v2, .int l1, .int x2, pm_u, pm_u, pm_u] st (im) (rm) := ev_istore pm_m133 d133_4 (Nat.le_of_ble_eq_true rfl) rfl rfl
theorem d133_6 : decode prog_10_method_31_code 6 = .ok (.iload 4, 2) := by decide +kernel
theorem s133_6 {v0 v1 v2 v3 v5 v6 v7 : Value} {l1 : Int32} {st : List Value} {im : IM} {rm : RM}  : ev 133 6 [v0, v1, v2, v3, .int l1, v5, v6, v7] st im rm = ev 133 8 [v0, v1, v2, v3, .int l1, v5, v6, v7] (.int l1 :: st) (im) (rm) := ev_iload pm_m133 d133_6 rfl rfl
theorem d133_8 : decode prog_10_method_31_code 8 = .ok (.bipush 6, 2) := by decide +kernel
theorem s133_8 {v0 v1 v2 v3 v4 v5 v6 v7 : Value}  {st : List Value} {im : IM} {rm : RM}  : ev 133 8 [v0, v1, v2, v3, v4, v5, v6, v7] st im rm = ev 133 10 [v0, v1, v2, v3, v4, v5, v6, v7] (.int (nI 6) :: st) (im) (rm) := ev_bipush pm_m133 d133_8 rfl rfl
theorem d133_10 : decode prog_10_method_31_code 10 = .ok (.iload_n 1, 1) := by decide +kernel
theorem s133_10 {v0 v2 v3 v4 v5 v6 v7 : Value} {l1 : Int32} {st : List Value} {im : IM} {rm : RM}  : ev 133 10 [v0, .int l1, v2, v3, v4, v5, v6, v7] st im rm = ev 133 11 [v0, .int l1, v2, v3, v4, v5, v6, v7] (.int l1 :: st) (im) (rm) := ev_iload_n pm_m133 d133_10 rfl rfl
theorem d133_11 : decode prog_10_method_31_code 11 = .ok (.imul, 1) := by decide +kernel
theorem s133_11 {v0 v1 v2 v3 v4 v5 v6 v7 : Value} {x : Int32} {y : Int32} {st : List Value} {im : IM} {rm : RM}  : ev 133 11 [v0, v1, v2, v3, v4, v5, v6, v7] (.int y :: .int x :: st) im rm = ev 133 12 [v0, v1, v2, v3, v4, v5, v6, v7] (.int (x * y) :: st) (im) (rm) := ev_imul pm_m133 d133_11 rfl
theorem d133_12 : decode prog_10_method_31_code 12 = .ok (.aload_n 0, 1) := by decide +kernel
theorem s133_12 {v1 v2 v3 v4 v5 v6 v7 : Value} {l1 : Nat} {st : List Value} {im : IM} {rm : RM}  : ev 133 12 [.ref l1, v1, v2, v3, v4, v5, v6, v7] st im rm = ev 133 13 [.ref l1, v1, v2, v3, v4, v5, v6, v7] (.ref l1 :: st) (im) (rm) := ev_aload_n pm_m133 d133_12 rfl rfl
theorem d133_13 : decode prog_10_method_31_code 13 = .ok (.getfield 43, 3) := by decide +kernel
theorem s133_13 {v0 v1 v2 v3 v4 v5 v6 v7 : Value} {a : Nat} {st : List Value} {im : IM} {rm : RM} (hk : kd a = 18) : ev 133 13 [v0, v1, v2, v3, v4, v5, v6, v7] (.ref a :: st) im rm = ev 133 16 [v0, v1, v2, v3, v4, v5, v6, v7] (pm_ro (rm a 12) :: st) (im) (rm) := ev_getR pm_m133 d133_13 f8_43 rfl hk rfl
theorem d133_16 : decode prog_10_method_31_code 16 = .ok (.iload_n 1, 1) := by decide +kernel
theorem s133_16 {v0 v2 v3 v4 v5 v6 v7 : Value} {l1 : Int32} {st : List Value} {im : IM} {rm : RM}  : ev 133 16 [v0, .int l1, v2, v3, v4, v5, v6, v7] st im rm = ev 133 17 [v0, .int l1, v2, v3, v4, v5, v6, v7] (.int l1 :: st) (im) (rm) := ev_iload_n pm_m133 d133_16 rfl rfl
theorem d133_17 : decode prog_10_method_31_code 17 = .ok (.iaload, 1) := by decide +kernel
theorem s133_17 {v0 v1 v2 v3 v4 v5 v6 v7 : Value} {a : Nat} {i : Int32} {st : List Value} {im : IM} {rm : RM} (hk : kd a = 0) (hi : pm_in i (ln a) = true) : ev 133 17 [v0, v1, v2, v3, v4, v5, v6, v7] (.int i :: .ref a :: st) im rm = ev 133 18 [v0, v1, v2, v3, v4, v5, v6, v7] (.int (im a i.toNatClampNeg) :: st) (im) (rm) := ev_iald pm_m133 d133_17 hk hi rfl
theorem d133_18 : decode prog_10_method_31_code 18 = .ok (.iadd, 1) := by decide +kernel
theorem s133_18 {v0 v1 v2 v3 v4 v5 v6 v7 : Value} {x : Int32} {y : Int32} {st : List Value} {im : IM} {rm : RM}  : ev 133 18 [v0, v1, v2, v3, v4, v5, v6, v7] (.int y :: .int x :: st) im rm = ev 133 19 [v0, v1, v2, v3, v4, v5, v6, v7] (.int (x + y) :: st) (im) (rm) := ev_iadd pm_m133 d133_18 rfl
theorem d133_19 : decode prog_10_method_31_code 19 = .ok (.if_icmp .ge 119, 3) := by decide +kernel
theorem s133_19 {v0 v1 v2 v3 v4 v5 v6 v7 : Value} {x : Int32} {y : Int32} {st : List Value} {im : IM} {rm : RM} : ev 133 19 [v0, v1, v2, v3, v4, v5, v6, v7] (.int y :: .int x :: st) im rm = if y ≤ x then ev 133 138 [pm_u, pm_u, pm_u, pm_u, pm_u, pm_u, pm_u, pm_u] st im rm else ev 133 22 [v0, v1, v2, v3, v4, v5, v6, v7] st im rm := ev_icmp_ge pm_m133 d133_19 rfl rfl rfl
theorem d133_22 : decode prog_10_method_31_code 22 = .ok (.iconst 1, 1) := by decide +kernel
theorem s133_22 {v0 v1 v2 v3 v4 v5 v6 v7 : Value}  {st : List Value} {im : IM} {rm : RM}  : ev 133 22 [v0, v1, v2, v3, v4, v5, v6, v7] st im rm = ev 133 23 [v0, v1, v2, v3, v4, v5, v6, v7] (.int (nI 1) :: st) (im) (rm) := ev_iconst pm_m133 d133_22 rfl rfl
theorem d133_23 : decode prog_10_method_31_code 23 = .ok (.istore 5, 2) := by decide +kernel
theorem s133_23 {v0 v1 v2 v3 v5 v6 v7 : Value} {l1 : Int32} {x2 : Int32} {st : List Value} {im : IM} {rm : RM}  : ev 133 23 [v0, v1, v2, v3, .int l1, v5, v6, v7] (.int x2 :: st) im rm = ev 133 25 [v0, v1, v2, v3, .int l1, .int x2, v6, v7] st (im) (rm) := ev_istore pm_m133 d133_23 (Nat.le_of_ble_eq_true rfl) rfl rfl
theorem d133_25 : decode prog_10_method_31_code 25 = .ok (.iconst 4, 1) := by decide +kernel
theorem s133_25 {v0 v1 v2 v3 v4 v5 v6 v7 : Value}  {st : List Value} {im : IM} {rm : RM}  : ev 133 25 [v0, v1, v2, v3, v4, v5, v6, v7] st im rm = ev 133 26 [v0, v1, v2, v3, v4, v5, v6, v7] (.int (nI 4) :: st) (im) (rm) := ev_iconst pm_m133 d133_25 rfl rfl
theorem d133_26 : decode prog_10_method_31_code 26 = .ok (.iload 4, 2) := by decide +kernel
theorem s133_26 {v0 v1 v2 v3 v5 v6 v7 : Value} {l1 : Int32} {st : List Value} {im : IM} {rm : RM}  : ev 133 26 [v0, v1, v2, v3, .int l1, v5, v6, v7] st im rm = ev 133 28 [v0, v1, v2, v3, .int l1, v5, v6, v7] (.int l1 :: st) (im) (rm) := ev_iload pm_m133 d133_26 rfl rfl
theorem d133_28 : decode prog_10_method_31_code 28 = .ok (.imul, 1) := by decide +kernel
theorem s133_28 {v0 v1 v2 v3 v4 v5 v6 v7 : Value} {x : Int32} {y : Int32} {st : List Value} {im : IM} {rm : RM}  : ev 133 28 [v0, v1, v2, v3, v4, v5, v6, v7] (.int y :: .int x :: st) im rm = ev 133 29 [v0, v1, v2, v3, v4, v5, v6, v7] (.int (x * y) :: st) (im) (rm) := ev_imul pm_m133 d133_28 rfl
theorem d133_29 : decode prog_10_method_31_code 29 = .ok (.istore 6, 2) := by decide +kernel
theorem s133_29 {v0 v1 v2 v3 v4 v6 v7 : Value} {l1 : Int32} {x2 : Int32} {st : List Value} {im : IM} {rm : RM}  : ev 133 29 [v0, v1, v2, v3, v4, .int l1, v6, v7] (.int x2 :: st) im rm = ev 133 31 [v0, v1, v2, v3, v4, .int l1, .int x2, pm_u] st (im) (rm) := ev_istore pm_m133 d133_29 (Nat.le_of_ble_eq_true rfl) rfl rfl
theorem d133_31 : decode prog_10_method_31_code 31 = .ok (.iload 6, 2) := by decide +kernel
theorem s133_31 {v0 v1 v2 v3 v4 v5 v7 : Value} {l1 : Int32} {st : List Value} {im : IM} {rm : RM}  : ev 133 31 [v0, v1, v2, v3, v4, v5, .int l1, v7] st im rm = ev 133 33 [v0, v1, v2, v3, v4, v5, .int l1, v7] (.int l1 :: st) (im) (rm) := ev_iload pm_m133 d133_31 rfl rfl
theorem d133_33 : decode prog_10_method_31_code 33 = .ok (.iconst 4, 1) := by decide +kernel
theorem s133_33 {v0 v1 v2 v3 v4 v5 v6 v7 : Value}  {st : List Value} {im : IM} {rm : RM}  : ev 133 33 [v0, v1, v2, v3, v4, v5, v6, v7] st im rm = ev 133 34 [v0, v1, v2, v3, v4, v5, v6, v7] (.int (nI 4) :: st) (im) (rm) := ev_iconst pm_m133 d133_33 rfl rfl
theorem d133_34 : decode prog_10_method_31_code 34 = .ok (.iload 4, 2) := by decide +kernel
theorem s133_34 {v0 v1 v2 v3 v5 v6 v7 : Value} {l1 : Int32} {st : List Value} {im : IM} {rm : RM}  : ev 133 34 [v0, v1, v2, v3, .int l1, v5, v6, v7] st im rm = ev 133 36 [v0, v1, v2, v3, .int l1, v5, v6, v7] (.int l1 :: st) (im) (rm) := ev_iload pm_m133 d133_34 rfl rfl
theorem d133_36 : decode prog_10_method_31_code 36 = .ok (.imul, 1) := by decide +kernel
theorem s133_36 {v0 v1 v2 v3 v4 v5 v6 v7 : Value} {x : Int32} {y : Int32} {st : List Value} {im : IM} {rm : RM}  : ev 133 36 [v0, v1, v2, v3, v4, v5, v6, v7] (.int y :: .int x :: st) im rm = ev 133 37 [v0, v1, v2, v3, v4, v5, v6, v7] (.int (x * y) :: st) (im) (rm) := ev_imul pm_m133 d133_36 rfl
theorem d133_37 : decode prog_10_method_31_code 37 = .ok (.aload_n 0, 1) := by decide +kernel
theorem s133_37 {v1 v2 v3 v4 v5 v6 v7 : Value} {l1 : Nat} {st : List Value} {im : IM} {rm : RM}  : ev 133 37 [.ref l1, v1, v2, v3, v4, v5, v6, v7] st im rm = ev 133 38 [.ref l1, v1, v2, v3, v4, v5, v6, v7] (.ref l1 :: st) (im) (rm) := ev_aload_n pm_m133 d133_37 rfl rfl
theorem d133_38 : decode prog_10_method_31_code 38 = .ok (.getfield 49, 3) := by decide +kernel
theorem s133_38 {v0 v1 v2 v3 v4 v5 v6 v7 : Value} {a : Nat} {st : List Value} {im : IM} {rm : RM} (hk : kd a = 18) : ev 133 38 [v0, v1, v2, v3, v4, v5, v6, v7] (.ref a :: st) im rm = ev 133 41 [v0, v1, v2, v3, v4, v5, v6, v7] (pm_ro (rm a 14) :: st) (im) (rm) := ev_getR pm_m133 d133_38 f8_49 rfl hk rfl
theorem d133_41 : decode prog_10_method_31_code 41 = .ok (.iload 4, 2) := by decide +kernel
theorem s133_41 {v0 v1 v2 v3 v5 v6 v7 : Value} {l1 : Int32} {st : List Value} {im : IM} {rm : RM}  : ev 133 41 [v0, v1, v2, v3, .int l1, v5, v6, v7] st im rm = ev 133 43 [v0, v1, v2, v3, .int l1, v5, v6, v7] (.int l1 :: st) (im) (rm) := ev_iload pm_m133 d133_41 rfl rfl
theorem d133_43 : decode prog_10_method_31_code 43 = .ok (.iaload, 1) := by decide +kernel
theorem s133_43 {v0 v1 v2 v3 v4 v5 v6 v7 : Value} {a : Nat} {i : Int32} {st : List Value} {im : IM} {rm : RM} (hk : kd a = 0) (hi : pm_in i (ln a) = true) : ev 133 43 [v0, v1, v2, v3, v4, v5, v6, v7] (.int i :: .ref a :: st) im rm = ev 133 44 [v0, v1, v2, v3, v4, v5, v6, v7] (.int (im a i.toNatClampNeg) :: st) (im) (rm) := ev_iald pm_m133 d133_43 hk hi rfl
theorem d133_44 : decode prog_10_method_31_code 44 = .ok (.iadd, 1) := by decide +kernel
theorem s133_44 {v0 v1 v2 v3 v4 v5 v6 v7 : Value} {x : Int32} {y : Int32} {st : List Value} {im : IM} {rm : RM}  : ev 133 44 [v0, v1, v2, v3, v4, v5, v6, v7] (.int y :: .int x :: st) im rm = ev 133 45 [v0, v1, v2, v3, v4, v5, v6, v7] (.int (x + y) :: st) (im) (rm) := ev_iadd pm_m133 d133_44 rfl
theorem d133_45 : decode prog_10_method_31_code 45 = .ok (.if_icmp .ge 74, 3) := by decide +kernel
theorem s133_45 {v0 v1 v2 v3 v4 v5 v6 v7 : Value} {x : Int32} {y : Int32} {st : List Value} {im : IM} {rm : RM} : ev 133 45 [v0, v1, v2, v3, v4, v5, v6, v7] (.int y :: .int x :: st) im rm = if y ≤ x then ev 133 119 [v0, v1, v2, v3, v4, v5, pm_u, pm_u] st im rm else ev 133 48 [v0, v1, v2, v3, v4, v5, v6, v7] st im rm := ev_icmp_ge pm_m133 d133_45 rfl rfl rfl
theorem d133_48 : decode prog_10_method_31_code 48 = .ok (.aload_n 0, 1) := by decide +kernel
theorem s133_48 {v1 v2 v3 v4 v5 v6 v7 : Value} {l1 : Nat} {st : List Value} {im : IM} {rm : RM}  : ev 133 48 [.ref l1, v1, v2, v3, v4, v5, v6, v7] st im rm = ev 133 49 [.ref l1, v1, v2, v3, v4, v5, v6, v7] (.ref l1 :: st) (im) (rm) := ev_aload_n pm_m133 d133_48 rfl rfl
theorem d133_49 : decode prog_10_method_31_code 49 = .ok (.iload_n 2, 1) := by decide +kernel
theorem s133_49 {v0 v1 v3 v4 v5 v6 v7 : Value} {l1 : Int32} {st : List Value} {im : IM} {rm : RM}  : ev 133 49 [v0, v1, .int l1, v3, v4, v5, v6, v7] st im rm = ev 133 50 [v0, v1, .int l1, v3, v4, v5, v6, v7] (.int l1 :: st) (im) (rm) := ev_iload_n pm_m133 d133_49 rfl rfl
theorem d133_50 : decode prog_10_method_31_code 50 = .ok (.iload_n 3, 1) := by decide +kernel
theorem s133_50 {v0 v1 v2 v4 v5 v6 v7 : Value} {l1 : Int32} {st : List Value} {im : IM} {rm : RM}  : ev 133 50 [v0, v1, v2, .int l1, v4, v5, v6, v7] st im rm = ev 133 51 [v0, v1, v2, .int l1, v4, v5, v6, v7] (.int l1 :: st) (im) (rm) := ev_iload_n pm_m133 d133_50 rfl rfl
theorem d133_51 : decode prog_10_method_31_code 51 = .ok (.aload_n 0, 1) := by decide +kernel
theorem s133_51 {v1 v2 v3 v4 v5 v6 v7 : Value} {l1 : Nat} {st : List Value} {im : IM} {rm : RM}  : ev 133 51 [.ref l1, v1, v2, v3, v4, v5, v6, v7] st im rm = ev 133 52 [.ref l1, v1, v2, v3, v4, v5, v6, v7] (.ref l1 :: st) (im) (rm) := ev_aload_n pm_m133 d133_51 rfl rfl
theorem d133_52 : decode prog_10_method_31_code 52 = .ok (.getfield 52, 3) := by decide +kernel
theorem s133_52 {v0 v1 v2 v3 v4 v5 v6 v7 : Value} {a : Nat} {st : List Value} {im : IM} {rm : RM} (hk : kd a = 18) : ev 133 52 [v0, v1, v2, v3, v4, v5, v6, v7] (.ref a :: st) im rm = ev 133 55 [v0, v1, v2, v3, v4, v5, v6, v7] (pm_ro (rm a 15) :: st) (im) (rm) := ev_getR pm_m133 d133_52 f8_52 rfl hk rfl
theorem d133_55 : decode prog_10_method_31_code 55 = .ok (.iload 6, 2) := by decide +kernel
theorem s133_55 {v0 v1 v2 v3 v4 v5 v7 : Value} {l1 : Int32} {st : List Value} {im : IM} {rm : RM}  : ev 133 55 [v0, v1, v2, v3, v4, v5, .int l1, v7] st im rm = ev 133 57 [v0, v1, v2, v3, v4, v5, .int l1, v7] (.int l1 :: st) (im) (rm) := ev_iload pm_m133 d133_55 rfl rfl
theorem d133_57 : decode prog_10_method_31_code 57 = .ok (.iaload, 1) := by decide +kernel
theorem s133_57 {v0 v1 v2 v3 v4 v5 v6 v7 : Value} {a : Nat} {i : Int32} {st : List Value} {im : IM} {rm : RM} (hk : kd a = 0) (hi : pm_in i (ln a) = true) : ev 133 57 [v0, v1, v2, v3, v4, v5, v6, v7] (.int i :: .ref a :: st) im rm = ev 133 58 [v0, v1, v2, v3, v4, v5, v6, v7] (.int (im a i.toNatClampNeg) :: st) (im) (rm) := ev_iald pm_m133 d133_57 hk hi rfl
theorem d133_58 : decode prog_10_method_31_code 58 = .ok (.invokevirtual 168, 3) := by decide +kernel
theorem s133_58 {v0 v1 v2 v3 v4 v5 v6 v7 : Value} {a : Nat} {p1 : Int32} {p2 : Int32} {p3 : Int32} {im : IM} {rm : RM} (hk : kd a = 18) : ev 133 58 [v0, v1, v2, v3, v4, v5, v6, v7] [.int p3, .int p2, .int p1, .ref a] im rm = (ev 115 0 [.ref a, .int p1, .int p2, .int p3, pm_u, pm_u, pm_u] [] im rm).bind (fun r => ev 133 61 [v0, v1, v2, v3, v4, v5, v6, v7] (r.1.toList ++ []) r.2.1 r.2.2) := ev_callV pm_m133 d133_58 l8_168 rfl pm_m115 (by decide) hk rfl ⟨rfl, rfl⟩ rfl rfl
theorem d133_61 : decode prog_10_method_31_code 61 = .ok (.istore 7, 2) := by decide +kernel
theorem s133_61 {v0 v1 v2 v3 v4 v5 v7 : Value} {l1 : Int32} {x2 : Int32} {st : List Value} {im : IM} {rm : RM}  : ev 133 61 [v0, v1, v2, v3, v4, v5, .int l1, v7] (.int x2 :: st) im rm = ev 133 63 [v0, v1, v2, v3, v4, v5, .int l1, .int x2] st (im) (rm) := ev_istore pm_m133 d133_61 (Nat.le_of_ble_eq_true rfl) rfl rfl
theorem d133_63 : decode prog_10_method_31_code 63 = .ok (.iload 5, 2) := by decide +kernel
theorem s133_63 {v0 v1 v2 v3 v4 v6 v7 : Value} {l1 : Int32} {st : List Value} {im : IM} {rm : RM}  : ev 133 63 [v0, v1, v2, v3, v4, .int l1, v6, v7] st im rm = ev 133 65 [v0, v1, v2, v3, v4, .int l1, v6, v7] (.int l1 :: st) (im) (rm) := ev_iload pm_m133 d133_63 rfl rfl
theorem d133_65 : decode prog_10_method_31_code 65 = .ok (.ifCond .eq 45, 3) := by decide +kernel
theorem s133_65 {v0 v1 v2 v3 v4 v5 v6 v7 : Value} {x : Int32} {st : List Value} {im : IM} {rm : RM} : ev 133 65 [v0, v1, v2, v3, v4, v5, v6, v7] (.int x :: st) im rm = if x = nI 0 then ev 133 110 [v0, v1, v2, v3, v4, pm_u, v6, pm_u] st im rm else ev 133 68 [v0, v1, v2, v3, v4, v5, v6, v7] st im rm := ev_if_eq (y := 0) pm_m133 d133_65 rfl rfl rfl
theorem d133_68 : decode prog_10_method_31_code 68 = .ok (.aload_n 0, 1) := by decide +kernel
theorem s133_68 {v1 v2 v3 v4 v5 v6 v7 : Value} {l1 : Nat} {st : List Value} {im : IM} {rm : RM}  : ev 133 68 [.ref l1, v1, v2, v3, v4, v5, v6, v7] st im rm = ev 133 69 [.ref l1, v1, v2, v3, v4, v5, v6, v7] (.ref l1 :: st) (im) (rm) := ev_aload_n pm_m133 d133_68 rfl rfl
theorem d133_69 : decode prog_10_method_31_code 69 = .ok (.getfield 55, 3) := by decide +kernel
theorem s133_69 {v0 v1 v2 v3 v4 v5 v6 v7 : Value} {a : Nat} {st : List Value} {im : IM} {rm : RM} (hk : kd a = 18) : ev 133 69 [v0, v1, v2, v3, v4, v5, v6, v7] (.ref a :: st) im rm = ev 133 72 [v0, v1, v2, v3, v4, v5, v6, v7] (pm_ro (rm a 16) :: st) (im) (rm) := ev_getR pm_m133 d133_69 f8_55 rfl hk rfl
theorem d133_72 : decode prog_10_method_31_code 72 = .ok (.iload 6, 2) := by decide +kernel
theorem s133_72 {v0 v1 v2 v3 v4 v5 v7 : Value} {l1 : Int32} {st : List Value} {im : IM} {rm : RM}  : ev 133 72 [v0, v1, v2, v3, v4, v5, .int l1, v7] st im rm = ev 133 74 [v0, v1, v2, v3, v4, v5, .int l1, v7] (.int l1 :: st) (im) (rm) := ev_iload pm_m133 d133_72 rfl rfl
theorem d133_74 : decode prog_10_method_31_code 74 = .ok (.iaload, 1) := by decide +kernel
theorem s133_74 {v0 v1 v2 v3 v4 v5 v6 v7 : Value} {a : Nat} {i : Int32} {st : List Value} {im : IM} {rm : RM} (hk : kd a = 0) (hi : pm_in i (ln a) = true) : ev 133 74 [v0, v1, v2, v3, v4, v5, v6, v7] (.int i :: .ref a :: st) im rm = ev 133 75 [v0, v1, v2, v3, v4, v5, v6, v7] (.int (im a i.toNatClampNeg) :: st) (im) (rm) := ev_iald pm_m133 d133_74 hk hi rfl
theorem d133_75 : decode prog_10_method_31_code 75 = .ok (.iconst 1, 1) := by decide +kernel
theorem s133_75 {v0 v1 v2 v3 v4 v5 v6 v7 : Value}  {st : List Value} {im : IM} {rm : RM}  : ev 133 75 [v0, v1, v2, v3, v4, v5, v6, v7] st im rm = ev 133 76 [v0, v1, v2, v3, v4, v5, v6, v7] (.int (nI 1) :: st) (im) (rm) := ev_iconst pm_m133 d133_75 rfl rfl
theorem d133_76 : decode prog_10_method_31_code 76 = .ok (.if_icmp .ne 18, 3) := by decide +kernel
theorem s133_76 {v0 v1 v2 v3 v4 v5 v6 v7 : Value} {x : Int32} {y : Int32} {st : List Value} {im : IM} {rm : RM} : ev 133 76 [v0, v1, v2, v3, v4, v5, v6, v7] (.int y :: .int x :: st) im rm = if x = y then ev 133 79 [v0, v1, v2, v3, v4, v5, v6, v7] st im rm else ev 133 94 [v0, v1, v2, v3, v4, pm_u, v6, v7] st im rm := ev_icmp_ne pm_m133 d133_76 rfl rfl rfl
theorem d133_79 : decode prog_10_method_31_code 79 = .ok (.iload 7, 2) := by decide +kernel
theorem s133_79 {v0 v1 v2 v3 v4 v5 v6 : Value} {l1 : Int32} {st : List Value} {im : IM} {rm : RM}  : ev 133 79 [v0, v1, v2, v3, v4, v5, v6, .int l1] st im rm = ev 133 81 [v0, v1, v2, v3, v4, v5, v6, .int l1] (.int l1 :: st) (im) (rm) := ev_iload pm_m133 d133_79 rfl rfl
theorem d133_81 : decode prog_10_method_31_code 81 = .ok (.aload_n 0, 1) := by decide +kernel
theorem s133_81 {v1 v2 v3 v4 v5 v6 v7 : Value} {l1 : Nat} {st : List Value} {im : IM} {rm : RM}  : ev 133 81 [.ref l1, v1, v2, v3, v4, v5, v6, v7] st im rm = ev 133 82 [.ref l1, v1, v2, v3, v4, v5, v6, v7] (.ref l1 :: st) (im) (rm) := ev_aload_n pm_m133 d133_81 rfl rfl
theorem d133_82 : decode prog_10_method_31_code 82 = .ok (.getfield 58, 3) := by decide +kernel
theorem s133_82 {v0 v1 v2 v3 v4 v5 v6 v7 : Value} {a : Nat} {st : List Value} {im : IM} {rm : RM} (hk : kd a = 18) : ev 133 82 [v0, v1, v2, v3, v4, v5, v6, v7] (.ref a :: st) im rm = ev 133 85 [v0, v1, v2, v3, v4, v5, v6, v7] (pm_ro (rm a 17) :: st) (im) (rm) := ev_getR pm_m133 d133_82 f8_58 rfl hk rfl
theorem d133_85 : decode prog_10_method_31_code 85 = .ok (.iload 6, 2) := by decide +kernel
theorem s133_85 {v0 v1 v2 v3 v4 v5 v7 : Value} {l1 : Int32} {st : List Value} {im : IM} {rm : RM}  : ev 133 85 [v0, v1, v2, v3, v4, v5, .int l1, v7] st im rm = ev 133 87 [v0, v1, v2, v3, v4, v5, .int l1, v7] (.int l1 :: st) (im) (rm) := ev_iload pm_m133 d133_85 rfl rfl
theorem d133_87 : decode prog_10_method_31_code 87 = .ok (.iaload, 1) := by decide +kernel
theorem s133_87 {v0 v1 v2 v3 v4 v5 v6 v7 : Value} {a : Nat} {i : Int32} {st : List Value} {im : IM} {rm : RM} (hk : kd a = 0) (hi : pm_in i (ln a) = true) : ev 133 87 [v0, v1, v2, v3, v4, v5, v6, v7] (.int i :: .ref a :: st) im rm = ev 133 88 [v0, v1, v2, v3, v4, v5, v6, v7] (.int (im a i.toNatClampNeg) :: st) (im) (rm) := ev_iald pm_m133 d133_87 hk hi rfl
theorem d133_88 : decode prog_10_method_31_code 88 = .ok (.if_icmp .le 22, 3) := by decide +kernel
theorem s133_88 {v0 v1 v2 v3 v4 v5 v6 v7 : Value} {x : Int32} {y : Int32} {st : List Value} {im : IM} {rm : RM} : ev 133 88 [v0, v1, v2, v3, v4, v5, v6, v7] (.int y :: .int x :: st) im rm = if x ≤ y then ev 133 110 [v0, v1, v2, v3, v4, pm_u, v6, pm_u] st im rm else ev 133 91 [v0, v1, v2, v3, v4, v5, v6, v7] st im rm := ev_icmp_le pm_m133 d133_88 rfl rfl rfl
theorem d133_91 : decode prog_10_method_31_code 91 = .ok (.goto 15, 3) := by decide +kernel
theorem s133_91 {v0 v1 v2 v3 v4 v5 v6 v7 : Value}  {st : List Value} {im : IM} {rm : RM}  : ev 133 91 [v0, v1, v2, v3, v4, v5, v6, v7] st im rm = ev 133 106 [v0, v1, v2, v3, v4, pm_u, v6, pm_u] st (im) (rm) := ev_goto pm_m133 d133_91 rfl rfl
theorem d133_94 : decode prog_10_method_31_code 94 = .ok (.iload 7, 2) := by decide +kernel
theorem s133_94 {v0 v1 v2 v3 v4 v5 v6 : Value} {l1 : Int32} {st : List Value} {im : IM} {rm : RM}  : ev 133 94 [v0, v1, v2, v3, v4, v5, v6, .int l1] st im rm = ev 133 96 [v0, v1, v2, v3, v4, v5, v6, .int l1] (.int l1 :: st) (im) (rm) := ev_iload pm_m133 d133_94 rfl rfl
theorem d133_96 : decode prog_10_method_31_code 96 = .ok (.aload_n 0, 1) := by decide +kernel
theorem s133_96 {v1 v2 v3 v4 v5 v6 v7 : Value} {l1 : Nat} {st : List Value} {im : IM} {rm : RM}  : ev 133 96 [.ref l1, v1, v2, v3, v4, v5, v6, v7] st im rm = ev 133 97 [.ref l1, v1, v2, v3, v4, v5, v6, v7] (.ref l1 :: st) (im) (rm) := ev_aload_n pm_m133 d133_96 rfl rfl
theorem d133_97 : decode prog_10_method_31_code 97 = .ok (.getfield 58, 3) := by decide +kernel
theorem s133_97 {v0 v1 v2 v3 v4 v5 v6 v7 : Value} {a : Nat} {st : List Value} {im : IM} {rm : RM} (hk : kd a = 18) : ev 133 97 [v0, v1, v2, v3, v4, v5, v6, v7] (.ref a :: st) im rm = ev 133 100 [v0, v1, v2, v3, v4, v5, v6, v7] (pm_ro (rm a 17) :: st) (im) (rm) := ev_getR pm_m133 d133_97 f8_58 rfl hk rfl
theorem d133_100 : decode prog_10_method_31_code 100 = .ok (.iload 6, 2) := by decide +kernel
theorem s133_100 {v0 v1 v2 v3 v4 v5 v7 : Value} {l1 : Int32} {st : List Value} {im : IM} {rm : RM}  : ev 133 100 [v0, v1, v2, v3, v4, v5, .int l1, v7] st im rm = ev 133 102 [v0, v1, v2, v3, v4, v5, .int l1, v7] (.int l1 :: st) (im) (rm) := ev_iload pm_m133 d133_100 rfl rfl
theorem d133_102 : decode prog_10_method_31_code 102 = .ok (.iaload, 1) := by decide +kernel
theorem s133_102 {v0 v1 v2 v3 v4 v5 v6 v7 : Value} {a : Nat} {i : Int32} {st : List Value} {im : IM} {rm : RM} (hk : kd a = 0) (hi : pm_in i (ln a) = true) : ev 133 102 [v0, v1, v2, v3, v4, v5, v6, v7] (.int i :: .ref a :: st) im rm = ev 133 103 [v0, v1, v2, v3, v4, v5, v6, v7] (.int (im a i.toNatClampNeg) :: st) (im) (rm) := ev_iald pm_m133 d133_102 hk hi rfl
theorem d133_103 : decode prog_10_method_31_code 103 = .ok (.if_icmp .ge 7, 3) := by decide +kernel
theorem s133_103 {v0 v1 v2 v3 v4 v5 v6 v7 : Value} {x : Int32} {y : Int32} {st : List Value} {im : IM} {rm : RM} : ev 133 103 [v0, v1, v2, v3, v4, v5, v6, v7] (.int y :: .int x :: st) im rm = if y ≤ x then ev 133 110 [v0, v1, v2, v3, v4, pm_u, v6, pm_u] st im rm else ev 133 106 [v0, v1, v2, v3, v4, pm_u, v6, pm_u] st im rm := ev_icmp_ge pm_m133 d133_103 rfl rfl rfl
theorem d133_106 : decode prog_10_method_31_code 106 = .ok (.iconst 1, 1) := by decide +kernel
theorem s133_106 {v0 v1 v2 v3 v4 v5 v6 v7 : Value}  {st : List Value} {im : IM} {rm : RM}  : ev 133 106 [v0, v1, v2, v3, v4, v5, v6, v7] st im rm = ev 133 107 [v0, v1, v2, v3, v4, v5, v6, v7] (.int (nI 1) :: st) (im) (rm) := ev_iconst pm_m133 d133_106 rfl rfl
theorem d133_107 : decode prog_10_method_31_code 107 = .ok (.goto 4, 3) := by decide +kernel
theorem s133_107 {v0 v1 v2 v3 v4 v5 v6 v7 : Value}  {st : List Value} {im : IM} {rm : RM}  : ev 133 107 [v0, v1, v2, v3, v4, v5, v6, v7] st im rm = ev 133 111 [v0, v1, v2, v3, v4, pm_u, v6, pm_u] st (im) (rm) := ev_goto pm_m133 d133_107 rfl rfl
theorem d133_110 : decode prog_10_method_31_code 110 = .ok (.iconst 0, 1) := by decide +kernel
theorem s133_110 {v0 v1 v2 v3 v4 v5 v6 v7 : Value}  {st : List Value} {im : IM} {rm : RM}  : ev 133 110 [v0, v1, v2, v3, v4, v5, v6, v7] st im rm = ev 133 111 [v0, v1, v2, v3, v4, pm_u, v6, pm_u] (.int (nI 0) :: st) (im) (rm) := ev_iconst pm_m133 d133_110 rfl rfl
theorem d133_111 : decode prog_10_method_31_code 111 = .ok (.istore 5, 2) := by decide +kernel
theorem s133_111 {v0 v1 v2 v3 v5 v6 v7 : Value} {l1 : Int32} {x2 : Int32} {st : List Value} {im : IM} {rm : RM}  : ev 133 111 [v0, v1, v2, v3, .int l1, v5, v6, v7] (.int x2 :: st) im rm = ev 133 113 [v0, v1, v2, v3, .int l1, .int x2, v6, v7] st (im) (rm) := ev_istore pm_m133 d133_111 (Nat.le_of_ble_eq_true rfl) rfl rfl
theorem d133_113 : decode prog_10_method_31_code 113 = .ok (.iinc 6 1, 3) := by decide +kernel
theorem s133_113 {v0 v1 v2 v3 v4 v7 : Value} {l1 : Int32} {l2 : Int32} {st : List Value} {im : IM} {rm : RM}  : ev 133 113 [v0, v1, v2, v3, v4, .int l1, .int l2, v7] st im rm = ev 133 116 [v0, v1, v2, v3, v4, .int l1, .int (l2 + nI 1), v7] st (im) (rm) := ev_iinc pm_m133 d133_113 rfl rfl rfl rfl
theorem d133_116 : decode prog_10_method_31_code 116 = .ok (.goto (-85), 3) := by decide +kernel
theorem s133_116 {v0 v1 v2 v3 v4 v5 v6 v7 : Value}  {st : List Value} {im : IM} {rm : RM}  : ev 133 116 [v0, v1, v2, v3, v4, v5, v6, v7] st im rm = ev 133 31 [v0, v1, v2, v3, v4, v5, v6, pm_u] st (im) (rm) := ev_goto pm_m133 d133_116 rfl rfl
theorem d133_119 : decode prog_10_method_31_code 119 = .ok (.iload 5, 2) := by decide +kernel
theorem s133_119 {v0 v1 v2 v3 v4 v6 v7 : Value} {l1 : Int32} {st : List Value} {im : IM} {rm : RM}  : ev 133 119 [v0, v1, v2, v3, v4, .int l1, v6, v7] st im rm = ev 133 121 [v0, v1, v2, v3, v4, .int l1, v6, v7] (.int l1 :: st) (im) (rm) := ev_iload pm_m133 d133_119 rfl rfl
theorem d133_121 : decode prog_10_method_31_code 121 = .ok (.ifCond .eq 11, 3) := by decide +kernel
theorem s133_121 {v0 v1 v2 v3 v4 v5 v6 v7 : Value} {x : Int32} {st : List Value} {im : IM} {rm : RM} : ev 133 121 [v0, v1, v2, v3, v4, v5, v6, v7] (.int x :: st) im rm = if x = nI 0 then ev 133 132 [v0, v1, v2, v3, v4, pm_u, pm_u, pm_u] st im rm else ev 133 124 [v0, v1, v2, v3, v4, v5, v6, v7] st im rm := ev_if_eq (y := 0) pm_m133 d133_121 rfl rfl rfl
theorem d133_124 : decode prog_10_method_31_code 124 = .ok (.iload 4, 2) := by decide +kernel
theorem s133_124 {v0 v1 v2 v3 v5 v6 v7 : Value} {l1 : Int32} {st : List Value} {im : IM} {rm : RM}  : ev 133 124 [v0, v1, v2, v3, .int l1, v5, v6, v7] st im rm = ev 133 126 [v0, v1, v2, v3, .int l1, v5, v6, v7] (.int l1 :: st) (im) (rm) := ev_iload pm_m133 d133_124 rfl rfl
theorem d133_126 : decode prog_10_method_31_code 126 = .ok (.bipush 6, 2) := by decide +kernel
theorem s133_126 {v0 v1 v2 v3 v4 v5 v6 v7 : Value}  {st : List Value} {im : IM} {rm : RM}  : ev 133 126 [v0, v1, v2, v3, v4, v5, v6, v7] st im rm = ev 133 128 [v0, v1, v2, v3, v4, v5, v6, v7] (.int (nI 6) :: st) (im) (rm) := ev_bipush pm_m133 d133_126 rfl rfl
theorem d133_128 : decode prog_10_method_31_code 128 = .ok (.iload_n 1, 1) := by decide +kernel
theorem s133_128 {v0 v2 v3 v4 v5 v6 v7 : Value} {l1 : Int32} {st : List Value} {im : IM} {rm : RM}  : ev 133 128 [v0, .int l1, v2, v3, v4, v5, v6, v7] st im rm = ev 133 129 [v0, .int l1, v2, v3, v4, v5, v6, v7] (.int l1 :: st) (im) (rm) := ev_iload_n pm_m133 d133_128 rfl rfl
theorem d133_129 : decode prog_10_method_31_code 129 = .ok (.imul, 1) := by decide +kernel
theorem s133_129 {v0 v1 v2 v3 v4 v5 v6 v7 : Value} {x : Int32} {y : Int32} {st : List Value} {im : IM} {rm : RM}  : ev 133 129 [v0, v1, v2, v3, v4, v5, v6, v7] (.int y :: .int x :: st) im rm = ev 133 130 [v0, v1, v2, v3, v4, v5, v6, v7] (.int (x * y) :: st) (im) (rm) := ev_imul pm_m133 d133_129 rfl
theorem d133_130 : decode prog_10_method_31_code 130 = .ok (.isub, 1) := by decide +kernel
theorem s133_130 {v0 v1 v2 v3 v4 v5 v6 v7 : Value} {x : Int32} {y : Int32} {st : List Value} {im : IM} {rm : RM}  : ev 133 130 [v0, v1, v2, v3, v4, v5, v6, v7] (.int y :: .int x :: st) im rm = ev 133 131 [v0, v1, v2, v3, v4, v5, v6, v7] (.int (x - y) :: st) (im) (rm) := ev_isub pm_m133 d133_130 rfl
theorem d133_131 : decode prog_10_method_31_code 131 = .ok (.ireturn, 1) := by decide +kernel
theorem s133_131 {v0 v1 v2 v3 v4 v5 v6 v7 : Value} {x : Int32} {im : IM} {rm : RM} : ev 133 131 [v0, v1, v2, v3, v4, v5, v6, v7] [.int x] im rm = some (some (.int x), im, rm) := ev_ireturn pm_m133 d133_131 rfl
theorem d133_132 : decode prog_10_method_31_code 132 = .ok (.iinc 4 1, 3) := by decide +kernel
theorem s133_132 {v0 v1 v2 v5 v6 v7 : Value} {l1 : Int32} {l2 : Int32} {st : List Value} {im : IM} {rm : RM}  : ev 133 132 [v0, v1, v2, .int l1, .int l2, v5, v6, v7] st im rm = ev 133 135 [v0, v1, v2, .int l1, .int (l2 + nI 1), v5, v6, v7] st (im) (rm) := ev_iinc pm_m133 d133_132 rfl rfl rfl rfl
theorem d133_135 : decode prog_10_method_31_code 135 = .ok (.goto (-129), 3) := by decide +kernel
theorem s133_135 {v0 v1 v2 v3 v4 v5 v6 v7 : Value}  {st : List Value} {im : IM} {rm : RM}  : ev 133 135 [v0, v1, v2, v3, v4, v5, v6, v7] st im rm = ev 133 6 [v0, v1, v2, v3, v4, pm_u, pm_u, pm_u] st (im) (rm) := ev_goto pm_m133 d133_135 rfl rfl
theorem d133_138 : decode prog_10_method_31_code 138 = .ok (.iconst (-1), 1) := by decide +kernel
theorem s133_138 {v0 v1 v2 v3 v4 v5 v6 v7 : Value}  {st : List Value} {im : IM} {rm : RM}  : ev 133 138 [v0, v1, v2, v3, v4, v5, v6, v7] st im rm = ev 133 139 [v0, v1, v2, v3, v4, v5, v6, v7] (.int ((-1 : Int32)) :: st) (im) (rm) := ev_iconst pm_m133 d133_138 rfl rfl
theorem d133_139 : decode prog_10_method_31_code 139 = .ok (.ireturn, 1) := by decide +kernel
theorem s133_139 {v0 v1 v2 v3 v4 v5 v6 v7 : Value} {x : Int32} {im : IM} {rm : RM} : ev 133 139 [v0, v1, v2, v3, v4, v5, v6, v7] [.int x] im rm = some (some (.int x), im, rm) := ev_ireturn pm_m133 d133_139 rfl
theorem d134_0 : decode prog_10_method_32_code 0 = .ok (.aload_n 0, 1) := by decide +kernel
theorem s134_0 {v1 v2 v3 v4 : Value} {l1 : Nat} {st : List Value} {im : IM} {rm : RM}  : ev 134 0 [.ref l1, v1, v2, v3, v4] st im rm = ev 134 1 [.ref l1, v1, v2, v3, v4] (.ref l1 :: st) (im) (rm) := ev_aload_n pm_m134 d134_0 rfl rfl
theorem d134_1 : decode prog_10_method_32_code 1 = .ok (.iload_n 1, 1) := by decide +kernel
theorem s134_1 {v0 v2 v3 v4 : Value} {l1 : Int32} {st : List Value} {im : IM} {rm : RM}  : ev 134 1 [v0, .int l1, v2, v3, v4] st im rm = ev 134 2 [v0, .int l1, v2, v3, v4] (.int l1 :: st) (im) (rm) := ev_iload_n pm_m134 d134_1 rfl rfl
theorem d134_2 : decode prog_10_method_32_code 2 = .ok (.iload_n 2, 1) := by decide +kernel
theorem s134_2 {v0 v1 v3 v4 : Value} {l1 : Int32} {st : List Value} {im : IM} {rm : RM}  : ev 134 2 [v0, v1, .int l1, v3, v4] st im rm = ev 134 3 [v0, v1, .int l1, v3, v4] (.int l1 :: st) (im) (rm) := ev_iload_n pm_m134 d134_2 rfl rfl
theorem d134_3 : decode prog_10_method_32_code 3 = .ok (.iload_n 3, 1) := by decide +kernel
theorem s134_3 {v0 v1 v2 v4 : Value} {l1 : Int32} {st : List Value} {im : IM} {rm : RM}  : ev 134 3 [v0, v1, v2, .int l1, v4] st im rm = ev 134 4 [v0, v1, v2, .int l1, v4] (.int l1 :: st) (im) (rm) := ev_iload_n pm_m134 d134_3 rfl rfl
theorem d134_4 : decode prog_10_method_32_code 4 = .ok (.invokevirtual 243, 3) := by decide +kernel
theorem s134_4 {v0 v1 v2 v3 v4 : Value} {a : Nat} {p1 : Int32} {p2 : Int32} {p3 : Int32} {im : IM} {rm : RM} (hk : kd a = 18) : ev 134 4 [v0, v1, v2, v3, v4] [.int p3, .int p2, .int p1, .ref a] im rm = (ev 133 0 [.ref a, .int p1, .int p2, .int p3, pm_u, pm_u, pm_u, pm_u] [] im rm).bind (fun r => ev 134 7 [v0, v1, v2, v3, v4] (r.1.toList ++ []) r.2.1 r.2.2) := ev_callV pm_m134 d134_4 l8_243 rfl pm_m133 (by decide) hk rfl ⟨rfl, rfl⟩ rfl rfl
theorem d134_7 : decode prog_10_method_32_code 7 = .ok (.istore 4, 2) := by decide +kernel
theorem s134_7 {v0 v1 v2 v4 : Value} {l1 : Int32} {x2 : Int32} {st : List Value} {im : IM} {rm : RM}  : ev 134 7 [v0, v1, v2, .int l1, v4] (.int x2 :: st) im rm = ev 134 9 [v0, v1, v2, .int l1, .int x2] st (im) (rm) := ev_istore pm_m134 d134_7 (Nat.le_of_ble_eq_true rfl) rfl rfl
theorem d134_9 : decode prog_10_method_32_code 9 = .ok (.iload 4, 2) := by decide +kernel
theorem s134_9 {v0 v1 v2 v3 : Value} {l1 : Int32} {st : List Value} {im : IM} {rm : RM}  : ev 134 9 [v0, v1, v2, v3, .int l1] st im rm = ev 134 11 [v0, v1, v2, v3, .int l1] (.int l1 :: st) (im) (rm) := ev_iload pm_m134 d134_9 rfl rfl
theorem d134_11 : decode prog_10_method_32_code 11 = .ok (.iconst (-1), 1) := by decide +kernel
theorem s134_11 {v0 v1 v2 v3 v4 : Value}  {st : List Value} {im : IM} {rm : RM}  : ev 134 11 [v0, v1, v2, v3, v4] st im rm = ev 134 12 [v0, v1, v2, v3, v4] (.int ((-1 : Int32)) :: st) (im) (rm) := ev_iconst pm_m134 d134_11 rfl rfl
theorem d134_12 : decode prog_10_method_32_code 12 = .ok (.if_icmp .ne 7, 3) := by decide +kernel
theorem s134_12 {v0 v1 v2 v3 v4 : Value} {x : Int32} {y : Int32} {st : List Value} {im : IM} {rm : RM} : ev 134 12 [v0, v1, v2, v3, v4] (.int y :: .int x :: st) im rm = if x = y then ev 134 15 [v0, v1, v2, v3, v4] st im rm else ev 134 19 [v0, v1, pm_u, pm_u, v4] st im rm := ev_icmp_ne pm_m134 d134_12 rfl rfl rfl
theorem d134_15 : decode prog_10_method_32_code 15 = .ok (.iconst 0, 1) := by decide +kernel
theorem s134_15 {v0 v1 v2 v3 v4 : Value}  {st : List Value} {im : IM} {rm : RM}  : ev 134 15 [v0, v1, v2, v3, v4] st im rm = ev 134 16 [v0, v1, v2, v3, v4] (.int (nI 0) :: st) (im) (rm) := ev_iconst pm_m134 d134_15 rfl rfl
theorem d134_16 : decode prog_10_method_32_code 16 = .ok (.goto 15, 3) := by decide +kernel
theorem s134_16 {v0 v1 v2 v3 v4 : Value}  {st : List Value} {im : IM} {rm : RM}  : ev 134 16 [v0, v1, v2, v3, v4] st im rm = ev 134 31 [pm_u, pm_u, pm_u, pm_u, pm_u] st (im) (rm) := ev_goto pm_m134 d134_16 rfl rfl
theorem d134_19 : decode prog_10_method_32_code 19 = .ok (.aload_n 0, 1) := by decide +kernel
theorem s134_19 {v1 v2 v3 v4 : Value} {l1 : Nat} {st : List Value} {im : IM} {rm : RM}  : ev 134 19 [.ref l1, v1, v2, v3, v4] st im rm = ev 134 20 [.ref l1, v1, v2, v3, v4] (.ref l1 :: st) (im) (rm) := ev_aload_n pm_m134 d134_19 rfl rfl
theorem d134_20 : decode prog_10_method_32_code 20 = .ok (.getfield 46, 3) := by decide +kernel
theorem s134_20 {v0 v1 v2 v3 v4 : Value} {a : Nat} {st : List Value} {im : IM} {rm : RM} (hk : kd a = 18) : ev 134 20 [v0, v1, v2, v3, v4] (.ref a :: st) im rm = ev 134 23 [v0, v1, v2, v3, v4] (pm_ro (rm a 13) :: st) (im) (rm) := ev_getR pm_m134 d134_20 f8_46 rfl hk rfl
theorem d134_23 : decode prog_10_method_32_code 23 = .ok (.bipush 6, 2) := by decide +kernel
theorem s134_23 {v0 v1 v2 v3 v4 : Value}  {st : List Value} {im : IM} {rm : RM}  : ev 134 23 [v0, v1, v2, v3, v4] st im rm = ev 134 25 [v0, v1, v2, v3, v4] (.int (nI 6) :: st) (im) (rm) := ev_bipush pm_m134 d134_23 rfl rfl
theorem d134_25 : decode prog_10_method_32_code 25 = .ok (.iload_n 1, 1) := by decide +kernel
theorem s134_25 {v0 v2 v3 v4 : Value} {l1 : Int32} {st : List Value} {im : IM} {rm : RM}  : ev 134 25 [v0, .int l1, v2, v3, v4] st im rm = ev 134 26 [v0, .int l1, v2, v3, v4] (.int l1 :: st) (im) (rm) := ev_iload_n pm_m134 d134_25 rfl rfl
theorem d134_26 : decode prog_10_method_32_code 26 = .ok (.imul, 1) := by decide +kernel
theorem s134_26 {v0 v1 v2 v3 v4 : Value} {x : Int32} {y : Int32} {st : List Value} {im : IM} {rm : RM}  : ev 134 26 [v0, v1, v2, v3, v4] (.int y :: .int x :: st) im rm = ev 134 27 [v0, v1, v2, v3, v4] (.int (x * y) :: st) (im) (rm) := ev_imul pm_m134 d134_26 rfl
theorem d134_27 : decode prog_10_method_32_code 27 = .ok (.iload 4, 2) := by decide +kernel
theorem s134_27 {v0 v1 v2 v3 : Value} {l1 : Int32} {st : List Value} {im : IM} {rm : RM}  : ev 134 27 [v0, v1, v2, v3, .int l1] st im rm = ev 134 29 [v0, v1, v2, v3, .int l1] (.int l1 :: st) (im) (rm) := ev_iload pm_m134 d134_27 rfl rfl
theorem d134_29 : decode prog_10_method_32_code 29 = .ok (.iadd, 1) := by decide +kernel
theorem s134_29 {v0 v1 v2 v3 v4 : Value} {x : Int32} {y : Int32} {st : List Value} {im : IM} {rm : RM}  : ev 134 29 [v0, v1, v2, v3, v4] (.int y :: .int x :: st) im rm = ev 134 30 [v0, v1, v2, v3, v4] (.int (x + y) :: st) (im) (rm) := ev_iadd pm_m134 d134_29 rfl
theorem d134_30 : decode prog_10_method_32_code 30 = .ok (.iaload, 1) := by decide +kernel
theorem s134_30 {v0 v1 v2 v3 v4 : Value} {a : Nat} {i : Int32} {st : List Value} {im : IM} {rm : RM} (hk : kd a = 0) (hi : pm_in i (ln a) = true) : ev 134 30 [v0, v1, v2, v3, v4] (.int i :: .ref a :: st) im rm = ev 134 31 [pm_u, pm_u, pm_u, pm_u, pm_u] (.int (im a i.toNatClampNeg) :: st) (im) (rm) := ev_iald pm_m134 d134_30 hk hi rfl
theorem d134_31 : decode prog_10_method_32_code 31 = .ok (.ireturn, 1) := by decide +kernel
theorem s134_31 {v0 v1 v2 v3 v4 : Value} {x : Int32} {im : IM} {rm : RM} : ev 134 31 [v0, v1, v2, v3, v4] [.int x] im rm = some (some (.int x), im, rm) := ev_ireturn pm_m134 d134_31 rfl
theorem d135_0 : decode prog_10_method_33_code 0 = .ok (.aload_n 0, 1) := by decide +kernel
theorem s135_0 {v1 v2 v3 v4 v5 v6 v7 v8 : Value} {l1 : Nat} {st : List Value} {im : IM} {rm : RM}  : ev 135 0 [.ref l1, v1, v2, v3, v4, v5, v6, v7, v8] st im rm = ev 135 1 [.ref l1, v1, v2, v3, v4, v5, v6, v7, v8] (.ref l1 :: st) (im) (rm) := ev_aload_n pm_m135 d135_0 rfl rfl
theorem d135_1 : decode prog_10_method_33_code 1 = .ok (.getfield 37, 3) := by decide +kernel
theorem s135_1 {v0 v1 v2 v3 v4 v5 v6 v7 v8 : Value} {a : Nat} {st : List Value} {im : IM} {rm : RM} (hk : kd a = 18) : ev 135 1 [v0, v1, v2, v3, v4, v5, v6, v7, v8] (.ref a :: st) im rm = ev 135 4 [v0, v1, v2, v3, v4, v5, v6, v7, v8] (pm_ro (rm a 9) :: st) (im) (rm) := ev_getR pm_m135 d135_1 f8_37 rfl hk rfl
theorem d135_4 : decode prog_10_method_33_code 4 = .ok (.iconst 0, 1) := by decide +kernel
theorem s135_4 {v0 v1 v2 v3 v4 v5 v6 v7 v8 : Value}  {st : List Value} {im : IM} {rm : RM}  : ev 135 4 [v0, v1, v2, v3, v4, v5, v6, v7, v8] st im rm = ev 135 5 [v0, v1, v2, v3, v4, v5, v6, v7, v8] (.int (nI 0) :: st) (im) (rm) := ev_iconst pm_m135 d135_4 rfl rfl
theorem d135_5 : decode prog_10_method_33_code 5 = .ok (.iaload, 1) := by decide +kernel
theorem s135_5 {v0 v1 v2 v3 v4 v5 v6 v7 v8 : Value} {a : Nat} {i : Int32} {st : List Value} {im : IM} {rm : RM} (hk : kd a = 0) (hi : pm_in i (ln a) = true) : ev 135 5 [v0, v1, v2, v3, v4, v5, v6, v7, v8] (.int i :: .ref a :: st) im rm = ev 135 6 [v0, v1, v2, v3, v4, v5, v6, v7, v8] (.int (im a i.toNatClampNeg) :: st) (im) (rm) := ev_iald pm_m135 d135_5 hk hi rfl
theorem d135_6 : decode prog_10_method_33_code 6 = .ok (.istore_n 3, 1) := by decide +kernel
theorem s135_6 {v0 v1 v3 v4 v5 v6 v7 v8 : Value} {l1 : Int32} {x2 : Int32} {st : List Value} {im : IM} {rm : RM}  : ev 135 6 [v0, v1, .int l1, v3, v4, v5, v6, v7, v8] (.int x2 :: st) im rm = ev 135 7 [v0, v1, .int l1, .int x2, v4, v5, v6, v7, v8] st (im) (rm) := ev_istore_n pm_m135 d135_6 (Nat.le_of_ble_eq_true rfl) rfl rfl
theorem d135_7 : decode prog_10_method_33_code 7 = .ok (.iconst 0, 1) := by decide +kernel
theorem s135_7 {v0 v1 v2 v3 v4 v5 v6 v7 v8 : Value}  {st : List Value} {im : IM} {rm : RM}  : ev 135 7 [v0, v1, v2, v3, v4, v5, v6, v7, v8] st im rm = ev 135 8 [v0, v1, v2, v3, v4, v5, v6, v7, v8] (.int (nI 0) :: st) (im) (rm) := ev_iconst pm_m135 d135_7 rfl rfl
theorem d135_8 : decode prog_10_method_33_code 8 = .ok (.istore 4, 2) := by decide +kernel
theorem s135_8 {v0 v1 v2 v4 v5 v6 v7 v8 : Value} {l1 : Int32} {x2 : Int32} {st : List Value} {im : IM} {rm : RM}  : ev 135 8 [v0, v1, v2, .int l1, v4, v5, v6, v7, v8] (.int x2 :: st) im rm = ev 135 10 [v0, v1, v2, .int l1, .int x2, v5, v6, v7, v8] st (im) (rm) := ev_istore pm_m135 d135_8 (Nat.le_of_ble_eq_true rfl) rfl rfl
theorem d135_10 : decode prog_10_method_33_code 10 = .ok (.aload_n 0, 1) := by decide +kernel
theorem s135_10 {v1 v2 v3 v4 v5 v6 v7 v8 : Value} {l1 : Nat} {st : List Value} {im : IM} {rm : RM}  : ev 135 10 [.ref l1, v1, v2, v3, v4, v5, v6, v7, v8] st im rm = ev 135 11 [.ref l1, v1, v2, v3, v4, v5, v6, v7, v8] (.ref l1 :: st) (im) (rm) := ev_aload_n pm_m135 d135_10 rfl rfl
theorem d135_11 : decode prog_10_method_33_code 11 = .ok (.iconst 0, 1) := by decide +kernel
theorem s135_11 {v0 v1 v2 v3 v4 v5 v6 v7 v8 : Value}  {st : List Value} {im : IM} {rm : RM}  : ev 135 11 [v0, v1, v2, v3, v4, v5, v6, v7, v8] st im rm = ev 135 12 [v0, v1, v2, v3, v4, v5, v6, v7, v8] (.int (nI 0) :: st) (im) (rm) := ev_iconst pm_m135 d135_11 rfl rfl
theorem d135_12 : decode prog_10_method_33_code 12 = .ok (.putfield 246, 3) := by decide +kernel
theorem s135_12 {v0 v1 v2 v3 v4 v5 v6 v7 v8 : Value} {a : Nat} {v : Int32} {st : List Value} {im : IM} {rm : RM} (hk : kd a = 18) : ev 135 12 [v0, v1, v2, v3, v4, v5, v6, v7, v8] (.int v :: .ref a :: st) im rm = ev 135 15 [v0, v1, v2, v3, v4, v5, v6, v7, v8] st (pm_w2 im a 41 v) (rm) := ev_putI pm_m135 d135_12 f8_246 rfl rfl hk rfl
theorem d135_15 : decode prog_10_method_33_code 15 = .ok (.aload_n 0, 1) := by decide +kernel
theorem s135_15 {v1 v2 v3 v4 v5 v6 v7 v8 : Value} {l1 : Nat} {st : List Value} {im : IM} {rm : RM}  : ev 135 15 [.ref l1, v1, v2, v3, v4, v5, v6, v7, v8] st im rm = ev 135 16 [.ref l1, v1, v2, v3, v4, v5, v6, v7, v8] (.ref l1 :: st) (im) (rm) := ev_aload_n pm_m135 d135_15 rfl rfl
theorem d135_16 : decode prog_10_method_33_code 16 = .ok (.iconst 0, 1) := by decide +kernel
theorem s135_16 {v0 v1 v2 v3 v4 v5 v6 v7 v8 : Value}  {st : List Value} {im : IM} {rm : RM}  : ev 135 16 [v0, v1, v2, v3, v4, v5, v6, v7, v8] st im rm = ev 135 17 [v0, v1, v2, v3, v4, v5, v6, v7, v8] (.int (nI 0) :: st) (im) (rm) := ev_iconst pm_m135 d135_16 rfl rfl
theorem d135_17 : decode prog_10_method_33_code 17 = .ok (.putfield 249, 3) := by decide +kernel
theorem s135_17 {v0 v1 v2 v3 v4 v5 v6 v7 v8 : Value} {a : Nat} {v : Int32} {st : List Value} {im : IM} {rm : RM} (hk : kd a = 18) : ev 135 17 [v0, v1, v2, v3, v4, v5, v6, v7, v8] (.int v :: .ref a :: st) im rm = ev 135 20 [v0, v1, v2, v3, v4, v5, v6, v7, v8] st (pm_w2 im a 42 v) (rm) := ev_putI pm_m135 d135_17 f8_249 rfl rfl hk rfl
theorem d135_20 : decode prog_10_method_33_code 20 = .ok (.aload_n 0, 1) := by decide +kernel
theorem s135_20 {v1 v2 v3 v4 v5 v6 v7 v8 : Value} {l1 : Nat} {st : List Value} {im : IM} {rm : RM}  : ev 135 20 [.ref l1, v1, v2, v3, v4, v5, v6, v7, v8] st im rm = ev 135 21 [.ref l1, v1, v2, v3, v4, v5, v6, v7, v8] (.ref l1 :: st) (im) (rm) := ev_aload_n pm_m135 d135_20 rfl rfl
theorem d135_21 : decode prog_10_method_33_code 21 = .ok (.iconst 0, 1) := by decide +kernel
theorem s135_21 {v0 v1 v2 v3 v4 v5 v6 v7 v8 : Value}  {st : List Value} {im : IM} {rm : RM}  : ev 135 21 [v0, v1, v2, v3, v4, v5, v6, v7, v8] st im rm = ev 135 22 [v0, v1, v2, v3, v4, v5, v6, v7, v8] (.int (nI 0) :: st) (im) (rm) := ev_iconst pm_m135 d135_21 rfl rfl
theorem d135_22 : decode prog_10_method_33_code 22 = .ok (.putfield 252, 3) := by decide +kernel
theorem s135_22 {v0 v1 v2 v3 v4 v5 v6 v7 v8 : Value} {a : Nat} {v : Int32} {st : List Value} {im : IM} {rm : RM} (hk : kd a = 18) : ev 135 22 [v0, v1, v2, v3, v4, v5, v6, v7, v8] (.int v :: .ref a :: st) im rm = ev 135 25 [v0, v1, v2, v3, v4, v5, v6, v7, v8] st (pm_w2 im a 43 v) (rm) := ev_putI pm_m135 d135_22 f8_252 rfl rfl hk rfl
theorem d135_25 : decode prog_10_method_33_code 25 = .ok (.aload_n 0, 1) := by decide +kernel
theorem s135_25 {v1 v2 v3 v4 v5 v6 v7 v8 : Value} {l1 : Nat} {st : List Value} {im : IM} {rm : RM}  : ev 135 25 [.ref l1, v1, v2, v3, v4, v5, v6, v7, v8] st im rm = ev 135 26 [.ref l1, v1, v2, v3, v4, v5, v6, v7, v8] (.ref l1 :: st) (im) (rm) := ev_aload_n pm_m135 d135_25 rfl rfl
theorem d135_26 : decode prog_10_method_33_code 26 = .ok (.iconst 0, 1) := by decide +kernel
theorem s135_26 {v0 v1 v2 v3 v4 v5 v6 v7 v8 : Value}  {st : List Value} {im : IM} {rm : RM}  : ev 135 26 [v0, v1, v2, v3, v4, v5, v6, v7, v8] st im rm = ev 135 27 [v0, v1, v2, v3, v4, v5, v6, v7, v8] (.int (nI 0) :: st) (im) (rm) := ev_iconst pm_m135 d135_26 rfl rfl
theorem d135_27 : decode prog_10_method_33_code 27 = .ok (.putfield 255, 3) := by decide +kernel
theorem s135_27 {v0 v1 v2 v3 v4 v5 v6 v7 v8 : Value} {a : Nat} {v : Int32} {st : List Value} {im : IM} {rm : RM} (hk : kd a = 18) : ev 135 27 [v0, v1, v2, v3, v4, v5, v6, v7, v8] (.int v :: .ref a :: st) im rm = ev 135 30 [v0, v1, v2, v3, v4, v5, v6, v7, v8] st (pm_w2 im a 44 v) (rm) := ev_putI pm_m135 d135_27 f8_255 rfl rfl hk rfl
theorem d135_30 : decode prog_10_method_33_code 30 = .ok (.iconst 0, 1) := by decide +kernel
theorem s135_30 {v0 v1 v2 v3 v4 v5 v6 v7 v8 : Value}  {st : List Value} {im : IM} {rm : RM}  : ev 135 30 [v0, v1, v2, v3, v4, v5, v6, v7, v8] st im rm = ev 135 31 [v0, v1, v2, v3, v4, v5, v6, v7, v8] (.int (nI 0) :: st) (im) (rm) := ev_iconst pm_m135 d135_30 rfl rfl
theorem d135_31 : decode prog_10_method_33_code 31 = .ok (.istore 5, 2) := by decide +kernel
theorem s135_31 {v0 v1 v2 v3 v5 v6 v7 v8 : Value} {l1 : Int32} {x2 : Int32} {st : List Value} {im : IM} {rm : RM}  : ev 135 31 [v0, v1, v2, v3, .int l1, v5, v6, v7, v8] (.int x2 :: st) im rm = ev 135 33 [v0, v1, v2, v3, .int l1, .int x2, pm_u, pm_u, pm_u] st (im) (rm) := ev_istore pm_m135 d135_31 (Nat.le_of_ble_eq_true rfl) rfl rfl
theorem d135_33 : decode prog_10_method_33_code 33 = .ok (.iload 5, 2) := by decide +kernel
theorem s135_33 {v0 v1 v2 v3 v4 v6 v7 v8 : Value} {l1 : Int32} {st : List Value} {im : IM} {rm : RM}  : ev 135 33 [v0, v1, v2, v3, v4, .int l1, v6, v7, v8] st im rm = ev 135 35 [v0, v1, v2, v3, v4, .int l1, v6, v7, v8] (.int l1 :: st) (im) (rm) := ev_iload pm_m135 d135_33 rfl rfl
theorem d135_35 : decode prog_10_method_33_code 35 = .ok (.aload_n 0, 1) := by decide +kernel
theorem s135_35 {v1 v2 v3 v4 v5 v6 v7 v8 : Value} {l1 : Nat} {st : List Value} {im : IM} {rm : RM}  : ev 135 35 [.ref l1, v1, v2, v3, v4, v5, v6, v7, v8] st im rm = ev 135 36 [.ref l1, v1, v2, v3, v4, v5, v6, v7, v8] (.ref l1 :: st) (im) (rm) := ev_aload_n pm_m135 d135_35 rfl rfl
theorem d135_36 : decode prog_10_method_33_code 36 = .ok (.getfield 16, 3) := by decide +kernel
theorem s135_36 {v0 v1 v2 v3 v4 v5 v6 v7 v8 : Value} {a : Nat} {st : List Value} {im : IM} {rm : RM} (hk : kd a = 18) : ev 135 36 [v0, v1, v2, v3, v4, v5, v6, v7, v8] (.ref a :: st) im rm = ev 135 39 [v0, v1, v2, v3, v4, v5, v6, v7, v8] (pm_ro (rm a 2) :: st) (im) (rm) := ev_getR pm_m135 d135_36 f8_16 rfl hk rfl
theorem d135_39 : decode prog_10_method_33_code 39 = .ok (.iload_n 2, 1) := by decide +kernel
theorem s135_39 {v0 v1 v3 v4 v5 v6 v7 v8 : Value} {l1 : Int32} {st : List Value} {im : IM} {rm : RM}  : ev 135 39 [v0, v1, .int l1, v3, v4, v5, v6, v7, v8] st im rm = ev 135 40 [v0, v1, .int l1, v3, v4, v5, v6, v7, v8] (.int l1 :: st) (im) (rm) := ev_iload_n pm_m135 d135_39 rfl rfl
theorem d135_40 : decode prog_10_method_33_code 40 = .ok (.iaload, 1) := by decide +kernel
theorem s135_40 {v0 v1 v2 v3 v4 v5 v6 v7 v8 : Value} {a : Nat} {i : Int32} {st : List Value} {im : IM} {rm : RM} (hk : kd a = 0) (hi : pm_in i (ln a) = true) : ev 135 40 [v0, v1, v2, v3, v4, v5, v6, v7, v8] (.int i :: .ref a :: st) im rm = ev 135 41 [v0, v1, v2, v3, v4, v5, v6, v7, v8] (.int (im a i.toNatClampNeg) :: st) (im) (rm) := ev_iald pm_m135 d135_40 hk hi rfl
theorem d135_41 : decode prog_10_method_33_code 41 = .ok (.if_icmp .ge 245, 3) := by decide +kernel
theorem s135_41 {v0 v1 v2 v3 v4 v5 v6 v7 v8 : Value} {x : Int32} {y : Int32} {st : List Value} {im : IM} {rm : RM} : ev 135 41 [v0, v1, v2, v3, v4, v5, v6, v7, v8] (.int y :: .int x :: st) im rm = if y ≤ x then ev 135 286 [pm_u, pm_u, pm_u, pm_u, pm_u, pm_u, pm_u, pm_u, pm_u] st im rm else ev 135 44 [v0, v1, v2, v3, v4, v5, v6, v7, v8] st im rm := ev_icmp_ge pm_m135 d135_41 rfl rfl rfl
theorem d135_44 : decode prog_10_method_33_code 44 = .ok (.bipush 40, 2) := by decide +kernel
theorem s135_44 {v0 v1 v2 v3 v4 v5 v6 v7 v8 : Value}  {st : List Value} {im : IM} {rm : RM}  : ev 135 44 [v0, v1, v2, v3, v4, v5, v6, v7, v8] st im rm = ev 135 46 [v0, v1, v2, v3, v4, v5, v6, v7, v8] (.int (nI 40) :: st) (im) (rm) := ev_bipush pm_m135 d135_44 rfl rfl
theorem d135_46 : decode prog_10_method_33_code 46 = .ok (.iload_n 2, 1) := by decide +kernel
theorem s135_46 {v0 v1 v3 v4 v5 v6 v7 v8 : Value} {l1 : Int32} {st : List Value} {im : IM} {rm : RM}  : ev 135 46 [v0, v1, .int l1, v3, v4, v5, v6, v7, v8] st im rm = ev 135 47 [v0, v1, .int l1, v3, v4, v5, v6, v7, v8] (.int l1 :: st) (im) (rm) := ev_iload_n pm_m135 d135_46 rfl rfl
theorem d135_47 : decode prog_10_method_33_code 47 = .ok (.imul, 1) := by decide +kernel
theorem s135_47 {v0 v1 v2 v3 v4 v5 v6 v7 v8 : Value} {x : Int32} {y : Int32} {st : List Value} {im : IM} {rm : RM}  : ev 135 47 [v0, v1, v2, v3, v4, v5, v6, v7, v8] (.int y :: .int x :: st) im rm = ev 135 48 [v0, v1, v2, v3, v4, v5, v6, v7, v8] (.int (x * y) :: st) (im) (rm) := ev_imul pm_m135 d135_47 rfl
theorem d135_48 : decode prog_10_method_33_code 48 = .ok (.iload 5, 2) := by decide +kernel
theorem s135_48 {v0 v1 v2 v3 v4 v6 v7 v8 : Value} {l1 : Int32} {st : List Value} {im : IM} {rm : RM}  : ev 135 48 [v0, v1, v2, v3, v4, .int l1, v6, v7, v8] st im rm = ev 135 50 [v0, v1, v2, v3, v4, .int l1, v6, v7, v8] (.int l1 :: st) (im) (rm) := ev_iload pm_m135 d135_48 rfl rfl
theorem d135_50 : decode prog_10_method_33_code 50 = .ok (.iadd, 1) := by decide +kernel
theorem s135_50 {v0 v1 v2 v3 v4 v5 v6 v7 v8 : Value} {x : Int32} {y : Int32} {st : List Value} {im : IM} {rm : RM}  : ev 135 50 [v0, v1, v2, v3, v4, v5, v6, v7, v8] (.int y :: .int x :: st) im rm = ev 135 51 [v0, v1, v2, v3, v4, v5, v6, v7, v8] (.int (x + y) :: st) (im) (rm) := ev_iadd pm_m135 d135_50 rfl
theorem d135_51 : decode prog_10_method_33_code 51 = .ok (.istore 6, 2) := by decide +kernel
theorem s135_51 {v0 v1 v2 v3 v4 v6 v7 v8 : Value} {l1 : Int32} {x2 : Int32} {st : List Value} {im : IM} {rm : RM}  : ev 135 51 [v0, v1, v2, v3, v4, .int l1, v6, v7, v8] (.int x2 :: st) im rm = ev 135 53 [v0, v1, v2, v3, v4, .int l1, .int x2, v7, v8] st (im) (rm) := ev_istore pm_m135 d135_51 (Nat.le_of_ble_eq_true rfl) rfl rfl
theorem d135_53 : decode prog_10_method_33_code 53 = .ok (.aload_n 0, 1) := by decide +kernel
theorem s135_53 {v1 v2 v3 v4 v5 v6 v7 v8 : Value} {l1 : Nat} {st : List Value} {im : IM} {rm : RM}  : ev 135 53 [.ref l1, v1, v2, v3, v4, v5, v6, v7, v8] st im rm = ev 135 54 [.ref l1, v1, v2, v3, v4, v5, v6, v7, v8] (.ref l1 :: st) (im) (rm) := ev_aload_n pm_m135 d135_53 rfl rfl
theorem d135_54 : decode prog_10_method_33_code 54 = .ok (.getfield 22, 3) := by decide +kernel
theorem s135_54 {v0 v1 v2 v3 v4 v5 v6 v7 v8 : Value} {a : Nat} {st : List Value} {im : IM} {rm : RM} (hk : kd a = 18) : ev 135 54 [v0, v1, v2, v3, v4, v5, v6, v7, v8] (.ref a :: st) im rm = ev 135 57 [v0, v1, v2, v3, v4, v5, v6, v7, v8] (pm_ro (rm a 4) :: st) (im) (rm) := ev_getR pm_m135 d135_54 f8_22 rfl hk rfl
theorem d135_57 : decode prog_10_method_33_code 57 = .ok (.iload 6, 2) := by decide +kernel
theorem s135_57 {v0 v1 v2 v3 v4 v5 v7 v8 : Value} {l1 : Int32} {st : List Value} {im : IM} {rm : RM}  : ev 135 57 [v0, v1, v2, v3, v4, v5, .int l1, v7, v8] st im rm = ev 135 59 [v0, v1, v2, v3, v4, v5, .int l1, v7, v8] (.int l1 :: st) (im) (rm) := ev_iload pm_m135 d135_57 rfl rfl
theorem d135_59 : decode prog_10_method_33_code 59 = .ok (.iaload, 1) := by decide +kernel
theorem s135_59 {v0 v1 v2 v3 v4 v5 v6 v7 v8 : Value} {a : Nat} {i : Int32} {st : List Value} {im : IM} {rm : RM} (hk : kd a = 0) (hi : pm_in i (ln a) = true) : ev 135 59 [v0, v1, v2, v3, v4, v5, v6, v7, v8] (.int i :: .ref a :: st) im rm = ev 135 60 [v0, v1, v2, v3, v4, v5, v6, v7, v8] (.int (im a i.toNatClampNeg) :: st) (im) (rm) := ev_iald pm_m135 d135_59 hk hi rfl
theorem d135_60 : decode prog_10_method_33_code 60 = .ok (.aload_n 0, 1) := by decide +kernel
theorem s135_60 {v1 v2 v3 v4 v5 v6 v7 v8 : Value} {l1 : Nat} {st : List Value} {im : IM} {rm : RM}  : ev 135 60 [.ref l1, v1, v2, v3, v4, v5, v6, v7, v8] st im rm = ev 135 61 [.ref l1, v1, v2, v3, v4, v5, v6, v7, v8] (.ref l1 :: st) (im) (rm) := ev_aload_n pm_m135 d135_60 rfl rfl
theorem d135_61 : decode prog_10_method_33_code 61 = .ok (.getfield 19, 3) := by decide +kernel
theorem s135_61 {v0 v1 v2 v3 v4 v5 v6 v7 v8 : Value} {a : Nat} {st : List Value} {im : IM} {rm : RM} (hk : kd a = 18) : ev 135 61 [v0, v1, v2, v3, v4, v5, v6, v7, v8] (.ref a :: st) im rm = ev 135 64 [v0, v1, v2, v3, v4, v5, v6, v7, v8] (pm_ro (rm a 3) :: st) (im) (rm) := ev_getR pm_m135 d135_61 f8_19 rfl hk rfl
theorem d135_64 : decode prog_10_method_33_code 64 = .ok (.iload 6, 2) := by decide +kernel
theorem s135_64 {v0 v1 v2 v3 v4 v5 v7 v8 : Value} {l1 : Int32} {st : List Value} {im : IM} {rm : RM}  : ev 135 64 [v0, v1, v2, v3, v4, v5, .int l1, v7, v8] st im rm = ev 135 66 [v0, v1, v2, v3, v4, v5, .int l1, v7, v8] (.int l1 :: st) (im) (rm) := ev_iload pm_m135 d135_64 rfl rfl
theorem d135_66 : decode prog_10_method_33_code 66 = .ok (.iaload, 1) := by decide +kernel
theorem s135_66 {v0 v1 v2 v3 v4 v5 v6 v7 v8 : Value} {a : Nat} {i : Int32} {st : List Value} {im : IM} {rm : RM} (hk : kd a = 0) (hi : pm_in i (ln a) = true) : ev 135 66 [v0, v1, v2, v3, v4, v5, v6, v7, v8] (.int i :: .ref a :: st) im rm = ev 135 67 [v0, v1, v2, v3, v4, v5, v6, v7, v8] (.int (im a i.toNatClampNeg) :: st) (im) (rm) := ev_iald pm_m135 d135_66 hk hi rfl
theorem d135_67 : decode prog_10_method_33_code 67 = .ok (.iconst 2, 1) := by decide +kernel
theorem s135_67 {v0 v1 v2 v3 v4 v5 v6 v7 v8 : Value}  {st : List Value} {im : IM} {rm : RM}  : ev 135 67 [v0, v1, v2, v3, v4, v5, v6, v7, v8] st im rm = ev 135 68 [v0, v1, v2, v3, v4, v5, v6, v7, v8] (.int (nI 2) :: st) (im) (rm) := ev_iconst pm_m135 d135_67 rfl rfl
theorem d135_68 : decode prog_10_method_33_code 68 = .ok (.idiv, 1) := by decide +kernel
theorem s135_68 {v0 v1 v2 v3 v4 v5 v6 v7 v8 : Value} {x : Int32} {y : Int32} {st : List Value} {im : IM} {rm : RM} (h0 : ¬ y = 0) : ev 135 68 [v0, v1, v2, v3, v4, v5, v6, v7, v8] (.int y :: .int x :: st) im rm = ev 135 69 [v0, v1, v2, v3, v4, v5, v6, v7, v8] (.int (x / y) :: st) (im) (rm) := ev_idiv pm_m135 d135_68 h0 rfl
theorem d135_69 : decode prog_10_method_33_code 69 = .ok (.iadd, 1) := by decide +kernel
theorem s135_69 {v0 v1 v2 v3 v4 v5 v6 v7 v8 : Value} {x : Int32} {y : Int32} {st : List Value} {im : IM} {rm : RM}  : ev 135 69 [v0, v1, v2, v3, v4, v5, v6, v7, v8] (.int y :: .int x :: st) im rm = ev 135 70 [v0, v1, v2, v3, v4, v5, v6, v7, v8] (.int (x + y) :: st) (im) (rm) := ev_iadd pm_m135 d135_69 rfl
theorem d135_70 : decode prog_10_method_33_code 70 = .ok (.istore 7, 2) := by decide +kernel
theorem s135_70 {v0 v1 v2 v3 v4 v5 v7 v8 : Value} {l1 : Int32} {x2 : Int32} {st : List Value} {im : IM} {rm : RM}  : ev 135 70 [v0, v1, v2, v3, v4, v5, .int l1, v7, v8] (.int x2 :: st) im rm = ev 135 72 [v0, v1, v2, v3, v4, v5, .int l1, .int x2, v8] st (im) (rm) := ev_istore pm_m135 d135_70 (Nat.le_of_ble_eq_true rfl) rfl rfl
theorem d135_72 : decode prog_10_method_33_code 72 = .ok (.aload_n 0, 1) := by decide +kernel
theorem s135_72 {v1 v2 v3 v4 v5 v6 v7 v8 : Value} {l1 : Nat} {st : List Value} {im : IM} {rm : RM}  : ev 135 72 [.ref l1, v1, v2, v3, v4, v5, v6, v7, v8] st im rm = ev 135 73 [.ref l1, v1, v2, v3, v4, v5, v6, v7, v8] (.ref l1 :: st) (im) (rm) := ev_aload_n pm_m135 d135_72 rfl rfl
theorem d135_73 : decode prog_10_method_33_code 73 = .ok (.getfield 34, 3) := by decide +kernel
theorem s135_73 {v0 v1 v2 v3 v4 v5 v6 v7 v8 : Value} {a : Nat} {st : List Value} {im : IM} {rm : RM} (hk : kd a = 18) : ev 135 73 [v0, v1, v2, v3, v4, v5, v6, v7, v8] (.ref a :: st) im rm = ev 135 76 [v0, v1, v2, v3, v4, v5, v6, v7, v8] (pm_ro (rm a 8) :: st) (im) (rm) := ev_getR pm_m135 d135_73 f8_34 rfl hk rfl
theorem d135_76 : decode prog_10_method_33_code 76 = .ok (.iconst 4, 1) := by decide +kernel
theorem s135_76 {v0 v1 v2 v3 v4 v5 v6 v7 v8 : Value}  {st : List Value} {im : IM} {rm : RM}  : ev 135 76 [v0, v1, v2, v3, v4, v5, v6, v7, v8] st im rm = ev 135 77 [v0, v1, v2, v3, v4, v5, v6, v7, v8] (.int (nI 4) :: st) (im) (rm) := ev_iconst pm_m135 d135_76 rfl rfl
theorem d135_77 : decode prog_10_method_33_code 77 = .ok (.aload_n 0, 1) := by decide +kernel
theorem s135_77 {v1 v2 v3 v4 v5 v6 v7 v8 : Value} {l1 : Nat} {st : List Value} {im : IM} {rm : RM}  : ev 135 77 [.ref l1, v1, v2, v3, v4, v5, v6, v7, v8] st im rm = ev 135 78 [.ref l1, v1, v2, v3, v4, v5, v6, v7, v8] (.ref l1 :: st) (im) (rm) := ev_aload_n pm_m135 d135_77 rfl rfl
theorem d135_78 : decode prog_10_method_33_code 78 = .ok (.iload_n 1, 1) := by decide +kernel
theorem s135_78 {v0 v2 v3 v4 v5 v6 v7 v8 : Value} {l1 : Int32} {st : List Value} {im : IM} {rm : RM}  : ev 135 78 [v0, .int l1, v2, v3, v4, v5, v6, v7, v8] st im rm = ev 135 79 [v0, .int l1, v2, v3, v4, v5, v6, v7, v8] (.int l1 :: st) (im) (rm) := ev_iload_n pm_m135 d135_78 rfl rfl
theorem d135_79 : decode prog_10_method_33_code 79 = .ok (.iload_n 2, 1) := by decide +kernel
theorem s135_79 {v0 v1 v3 v4 v5 v6 v7 v8 : Value} {l1 : Int32} {st : List Value} {im : IM} {rm : RM}  : ev 135 79 [v0, v1, .int l1, v3, v4, v5, v6, v7, v8] st im rm = ev 135 80 [v0, v1, .int l1, v3, v4, v5, v6, v7, v8] (.int l1 :: st) (im) (rm) := ev_iload_n pm_m135 d135_79 rfl rfl
theorem d135_80 : decode prog_10_method_33_code 80 = .ok (.iload 5, 2) := by decide +kernel
theorem s135_80 {v0 v1 v2 v3 v4 v6 v7 v8 : Value} {l1 : Int32} {st : List Value} {im : IM} {rm : RM}  : ev 135 80 [v0, v1, v2, v3, v4, .int l1, v6, v7, v8] st im rm = ev 135 82 [v0, v1, v2, v3, v4, .int l1, v6, v7, v8] (.int l1 :: st) (im) (rm) := ev_iload pm_m135 d135_80 rfl rfl
theorem d135_82 : decode prog_10_method_33_code 82 = .ok (.invokevirtual 258, 3) := by decide +kernel
theorem s135_82 {v0 v1 v2 v3 v4 v5 v6 v7 v8 : Value} {a : Nat} {p1 : Int32} {p2 : Int32} {p3 : Int32} {r4 : Int32} {r5 : Nat} {im : IM} {rm : RM} (hk : kd a = 18) : ev 135 82 [v0, v1, v2, v3, v4, v5, v6, v7, v8] [.int p3, .int p2, .int p1, .ref a, .int r4, .ref r5] im rm = (ev 134 0 [.ref a, .int p1, .int p2, .int p3, pm_u] [] im rm).bind (fun r => ev 135 85 [v0, v1, v2, v3, v4, v5, v6, v7, v8] (r.1.toList ++ [.int r4, .ref r5]) r.2.1 r.2.2) := ev_callV pm_m135 d135_82 l8_258 rfl pm_m134 (by decide) hk rfl ⟨rfl, rfl⟩ rfl rfl
theorem d135_85 : decode prog_10_method_33_code 85 = .ok (.imul, 1) := by decide +kernel
theorem s135_85 {v0 v1 v2 v3 v4 v5 v6 v7 v8 : Value} {x : Int32} {y : Int32} {st : List Value} {im : IM} {rm : RM}  : ev 135 85 [v0, v1, v2, v3, v4, v5, v6, v7, v8] (.int y :: .int x :: st) im rm = ev 135 86 [v0, v1, v2, v3, v4, v5, v6, v7, v8] (.int (x * y) :: st) (im) (rm) := ev_imul pm_m135 d135_85 rfl
theorem d135_86 : decode prog_10_method_33_code 86 = .ok (.aload_n 0, 1) := by decide +kernel
theorem s135_86 {v1 v2 v3 v4 v5 v6 v7 v8 : Value} {l1 : Nat} {st : List Value} {im : IM} {rm : RM}  : ev 135 86 [.ref l1, v1, v2, v3, v4, v5, v6, v7, v8] st im rm = ev 135 87 [.ref l1, v1, v2, v3, v4, v5, v6, v7, v8] (.ref l1 :: st) (im) (rm) := ev_aload_n pm_m135 d135_86 rfl rfl
theorem d135_87 : decode prog_10_method_33_code 87 = .ok (.getfield 19, 3) := by decide +kernel
theorem s135_87 {v0 v1 v2 v3 v4 v5 v6 v7 v8 : Value} {a : Nat} {st : List Value} {im : IM} {rm : RM} (hk : kd a = 18) : ev 135 87 [v0, v1, v2, v3, v4, v5, v6, v7, v8] (.ref a :: st) im rm = ev 135 90 [v0, v1, v2, v3, v4, v5, v6, v7, v8] (pm_ro (rm a 3) :: st) (im) (rm) := ev_getR pm_m135 d135_87 f8_19 rfl hk rfl
theorem d135_90 : decode prog_10_method_33_code 90 = .ok (.iload 6, 2) := by decide +kernel
theorem s135_90 {v0 v1 v2 v3 v4 v5 v7 v8 : Value} {l1 : Int32} {st : List Value} {im : IM} {rm : RM}  : ev 135 90 [v0, v1, v2, v3, v4, v5, .int l1, v7, v8] st im rm = ev 135 92 [v0, v1, v2, v3, v4, v5, .int l1, v7, v8] (.int l1 :: st) (im) (rm) := ev_iload pm_m135 d135_90 rfl rfl
theorem d135_92 : decode prog_10_method_33_code 92 = .ok (.iaload, 1) := by decide +kernel
theorem s135_92 {v0 v1 v2 v3 v4 v5 v6 v7 v8 : Value} {a : Nat} {i : Int32} {st : List Value} {im : IM} {rm : RM} (hk : kd a = 0) (hi : pm_in i (ln a) = true) : ev 135 92 [v0, v1, v2, v3, v4, v5, v6, v7, v8] (.int i :: .ref a :: st) im rm = ev 135 93 [v0, v1, v2, v3, v4, v5, v6, v7, v8] (.int (im a i.toNatClampNeg) :: st) (im) (rm) := ev_iald pm_m135 d135_92 hk hi rfl
theorem d135_93 : decode prog_10_method_33_code 93 = .ok (.bipush 40, 2) := by decide +kernel
theorem s135_93 {v0 v1 v2 v3 v4 v5 v6 v7 v8 : Value}  {st : List Value} {im : IM} {rm : RM}  : ev 135 93 [v0, v1, v2, v3, v4, v5, v6, v7, v8] st im rm = ev 135 95 [v0, v1, v2, v3, v4, v5, v6, v7, v8] (.int (nI 40) :: st) (im) (rm) := ev_bipush pm_m135 d135_93 rfl rfl
theorem d135_95 : decode prog_10_method_33_code 95 = .ok (.idiv, 1) := by decide +kernel
theorem s135_95 {v0 v1 v2 v3 v4 v5 v6 v7 v8 : Value} {x : Int32} {y : Int32} {st : List Value} {im : IM} {rm : RM} (h0 : ¬ y = 0) : ev 135 95 [v0, v1, v2, v3, v4, v5, v6, v7, v8] (.int y :: .int x :: st) im rm = ev 135 96 [v0, v1, v2, v3, v4, v5, v6, v7, v8] (.int (x / y) :: st) (im) (rm) := ev_idiv pm_m135 d135_95 h0 rfl
theorem d135_96 : decode prog_10_method_33_code 96 = .ok (.iadd, 1) := by decide +kernel
theorem s135_96 {v0 v1 v2 v3 v4 v5 v6 v7 v8 : Value} {x : Int32} {y : Int32} {st : List Value} {im : IM} {rm : RM}  : ev 135 96 [v0, v1, v2, v3, v4, v5, v6, v7, v8] (.int y :: .int x :: st) im rm = ev 135 97 [v0, v1, v2, v3, v4, v5, v6, v7, v8] (.int (x + y) :: st) (im) (rm) := ev_iadd pm_m135 d135_96 rfl
theorem d135_97 : decode prog_10_method_33_code 97 = .ok (.iaload, 1) := by decide +kernel
theorem s135_97 {v0 v1 v2 v3 v4 v5 v6 v7 v8 : Value} {a : Nat} {i : Int32} {st : List Value} {im : IM} {rm : RM} (hk : kd a = 0) (hi : pm_in i (ln a) = true) : ev 135 97 [v0, v1, v2, v3, v4, v5, v6, v7, v8] (.int i :: .ref a :: st) im rm = ev 135 98 [v0, v1, v2, v3, v4, v5, v6, v7, v8] (.int (im a i.toNatClampNeg) :: st) (im) (rm) := ev_iald pm_m135 d135_97 hk hi rfl
theorem d135_98 : decode prog_10_method_33_code 98 = .ok (.istore 8, 2) := by decide +kernel
theorem s135_98 {v0 v1 v2 v3 v4 v5 v6 v8 : Value} {l1 : Int32} {x2 : Int32} {st : List Value} {im : IM} {rm : RM}  : ev 135 98 [v0, v1, v2, v3, v4, v5, v6, .int l1, v8] (.int x2 :: st) im rm = ev 135 100 [v0, v1, v2, v3, v4, v5, v6, .int l1, .int x2] st (im) (rm) := ev_istore pm_m135 d135_98 (Nat.le_of_ble_eq_true rfl) rfl rfl
theorem d135_100 : decode prog_10_method_33_code 100 = .ok (.aload_n 0, 1) := by decide +kernel
theorem s135_100 {v1 v2 v3 v4 v5 v6 v7 v8 : Value} {l1 : Nat} {st : List Value} {im : IM} {rm : RM}  : ev 135 100 [.ref l1, v1, v2, v3, v4, v5, v6, v7, v8] st im rm = ev 135 101 [.ref l1, v1, v2, v3, v4, v5, v6, v7, v8] (.ref l1 :: st) (im) (rm) := ev_aload_n pm_m135 d135_100 rfl rfl
theorem d135_101 : decode prog_10_method_33_code 101 = .ok (.getfield 100, 3) := by decide +kernel
theorem s135_101 {v0 v1 v2 v3 v4 v5 v6 v7 v8 : Value} {a : Nat} {st : List Value} {im : IM} {rm : RM} (hk : kd a = 18) : ev 135 101 [v0, v1, v2, v3, v4, v5, v6, v7, v8] (.ref a :: st) im rm = ev 135 104 [v0, v1, v2, v3, v4, v5, v6, v7, v8] (pm_ro (rm a 38) :: st) (im) (rm) := ev_getR pm_m135 d135_101 f8_100 rfl hk rfl
theorem d135_104 : decode prog_10_method_33_code 104 = .ok (.iload 5, 2) := by decide +kernel
theorem s135_104 {v0 v1 v2 v3 v4 v6 v7 v8 : Value} {l1 : Int32} {st : List Value} {im : IM} {rm : RM}  : ev 135 104 [v0, v1, v2, v3, v4, .int l1, v6, v7, v8] st im rm = ev 135 106 [v0, v1, v2, v3, v4, .int l1, v6, v7, v8] (.int l1 :: st) (im) (rm) := ev_iload pm_m135 d135_104 rfl rfl
theorem d135_106 : decode prog_10_method_33_code 106 = .ok (.iload 8, 2) := by decide +kernel
theorem s135_106 {v0 v1 v2 v3 v4 v5 v6 v7 : Value} {l1 : Int32} {st : List Value} {im : IM} {rm : RM}  : ev 135 106 [v0, v1, v2, v3, v4, v5, v6, v7, .int l1] st im rm = ev 135 108 [v0, v1, v2, v3, v4, v5, v6, v7, .int l1] (.int l1 :: st) (im) (rm) := ev_iload pm_m135 d135_106 rfl rfl
theorem d135_108 : decode prog_10_method_33_code 108 = .ok (.iload_n 3, 1) := by decide +kernel
theorem s135_108 {v0 v1 v2 v4 v5 v6 v7 v8 : Value} {l1 : Int32} {st : List Value} {im : IM} {rm : RM}  : ev 135 108 [v0, v1, v2, .int l1, v4, v5, v6, v7, v8] st im rm = ev 135 109 [v0, v1, v2, .int l1, v4, v5, v6, v7, v8] (.int l1 :: st) (im) (rm) := ev_iload_n pm_m135 d135_108 rfl rfl
theorem d135_109 : decode prog_10_method_33_code 109 = .ok (.if_icmp .ge 8, 3) := by decide +kernel
theorem s135_109 {v0 v1 v2 v3 v4 v5 v6 v7 v8 : Value} {x : Int32} {y : Int32} {st : List Value} {im : IM} {rm : RM} : ev 135 109 [v0, v1, v2, v3, v4, v5, v6, v7, v8] (.int y :: .int x :: st) im rm = if y ≤ x then ev 135 117 [v0, v1, v2, v3, v4, v5, v6, v7, pm_u] st im rm else ev 135 112 [v0, v1, v2, v3, v4, v5, v6, v7, v8] st im rm := ev_icmp_ge pm_m135 d135_109 rfl rfl rfl
theorem d135_112 : decode prog_10_method_33_code 112 = .ok (.iload 8, 2) := by decide +kernel
theorem s135_112 {v0 v1 v2 v3 v4 v5 v6 v7 : Value} {l1 : Int32} {st : List Value} {im : IM} {rm : RM}  : ev 135 112 [v0, v1, v2, v3, v4, v5, v6, v7, .int l1] st im rm = ev 135 114 [v0, v1, v2, v3, v4, v5, v6, v7, .int l1] (.int l1 :: st) (im) (rm) := ev_iload pm_m135 d135_112 rfl rfl
theorem d135_114 : decode prog_10_method_33_code 114 = .ok (.goto 4, 3) := by decide +kernel
theorem s135_114 {v0 v1 v2 v3 v4 v5 v6 v7 v8 : Value}  {st : List Value} {im : IM} {rm : RM}  : ev 135 114 [v0, v1, v2, v3, v4, v5, v6, v7, v8] st im rm = ev 135 118 [v0, v1, v2, v3, v4, v5, v6, v7, pm_u] st (im) (rm) := ev_goto pm_m135 d135_114 rfl rfl
theorem d135_117 : decode prog_10_method_33_code 117 = .ok (.iload_n 3, 1) := by decide +kernel
theorem s135_117 {v0 v1 v2 v4 v5 v6 v7 v8 : Value} {l1 : Int32} {st : List Value} {im : IM} {rm : RM}  : ev 135 117 [v0, v1, v2, .int l1, v4, v5, v6, v7, v8] st im rm = ev 135 118 [v0, v1, v2, .int l1, v4, v5, v6, v7, pm_u] (.int l1 :: st) (im) (rm) := ev_iload_n pm_m135 d135_117 rfl rfl
theorem d135_118 : decode prog_10_method_33_code 118 = .ok (.iastore, 1) := by decide +kernel
theorem s135_118 {v0 v1 v2 v3 v4 v5 v6 v7 v8 : Value} {a : Nat} {i : Int32} {v : Int32} {st : List Value} {im : IM} {rm : RM} (hk : kd a = 0) (hi : pm_in i (ln a) = true) : ev 135 118 [v0, v1, v2, v3, v4, v5, v6, v7, v8] (.int v :: .int i :: .ref a :: st) im rm = ev 135 119 [v0, v1, v2, v3, v4, v5, v6, v7, v8] st (pm_w2 im a i.toNatClampNeg v) (rm) := ev_iast pm_m135 d135_118 hk hi rfl
theorem d135_119 : decode prog_10_method_33_code 119 = .ok (.iload_n 3, 1) := by decide +kernel
theorem s135_119 {v0 v1 v2 v4 v5 v6 v7 v8 : Value} {l1 : Int32} {st : List Value} {im : IM} {rm : RM}  : ev 135 119 [v0, v1, v2, .int l1, v4, v5, v6, v7, v8] st im rm = ev 135 120 [v0, v1, v2, .int l1, v4, v5, v6, v7, v8] (.int l1 :: st) (im) (rm) := ev_iload_n pm_m135 d135_119 rfl rfl
theorem d135_120 : decode prog_10_method_33_code 120 = .ok (.aload_n 0, 1) := by decide +kernel
theorem s135_120 {v1 v2 v3 v4 v5 v6 v7 v8 : Value} {l1 : Nat} {st : List Value} {im : IM} {rm : RM}  : ev 135 120 [.ref l1, v1, v2, v3, v4, v5, v6, v7, v8] st im rm = ev 135 121 [.ref l1, v1, v2, v3, v4, v5, v6, v7, v8] (.ref l1 :: st) (im) (rm) := ev_aload_n pm_m135 d135_120 rfl rfl
theorem d135_121 : decode prog_10_method_33_code 121 = .ok (.getfield 100, 3) := by decide +kernel
theorem s135_121 {v0 v1 v2 v3 v4 v5 v6 v7 v8 : Value} {a : Nat} {st : List Value} {im : IM} {rm : RM} (hk : kd a = 18) : ev 135 121 [v0, v1, v2, v3, v4, v5, v6, v7, v8] (.ref a :: st) im rm = ev 135 124 [v0, v1, v2, v3, v4, v5, v6, v7, v8] (pm_ro (rm a 38) :: st) (im) (rm) := ev_getR pm_m135 d135_121 f8_100 rfl hk rfl
theorem d135_124 : decode prog_10_method_33_code 124 = .ok (.iload 5, 2) := by decide +kernel
theorem s135_124 {v0 v1 v2 v3 v4 v6 v7 v8 : Value} {l1 : Int32} {st : List Value} {im : IM} {rm : RM}  : ev 135 124 [v0, v1, v2, v3, v4, .int l1, v6, v7, v8] st im rm = ev 135 126 [v0, v1, v2, v3, v4, .int l1, v6, v7, v8] (.int l1 :: st) (im) (rm) := ev_iload pm_m135 d135_124 rfl rfl
theorem d135_126 : decode prog_10_method_33_code 126 = .ok (.iaload, 1) := by decide +kernel
theorem s135_126 {v0 v1 v2 v3 v4 v5 v6 v7 v8 : Value} {a : Nat} {i : Int32} {st : List Value} {im : IM} {rm : RM} (hk : kd a = 0) (hi : pm_in i (ln a) = true) : ev 135 126 [v0, v1, v2, v3, v4, v5, v6, v7, v8] (.int i :: .ref a :: st) im rm = ev 135 127 [v0, v1, v2, v3, v4, v5, v6, v7, v8] (.int (im a i.toNatClampNeg) :: st) (im) (rm) := ev_iald pm_m135 d135_126 hk hi rfl
theorem d135_127 : decode prog_10_method_33_code 127 = .ok (.isub, 1) := by decide +kernel
theorem s135_127 {v0 v1 v2 v3 v4 v5 v6 v7 v8 : Value} {x : Int32} {y : Int32} {st : List Value} {im : IM} {rm : RM}  : ev 135 127 [v0, v1, v2, v3, v4, v5, v6, v7, v8] (.int y :: .int x :: st) im rm = ev 135 128 [v0, v1, v2, v3, v4, v5, v6, v7, v8] (.int (x - y) :: st) (im) (rm) := ev_isub pm_m135 d135_127 rfl
theorem d135_128 : decode prog_10_method_33_code 128 = .ok (.istore_n 3, 1) := by decide +kernel
theorem s135_128 {v0 v1 v3 v4 v5 v6 v7 v8 : Value} {l1 : Int32} {x2 : Int32} {st : List Value} {im : IM} {rm : RM}  : ev 135 128 [v0, v1, .int l1, v3, v4, v5, v6, v7, v8] (.int x2 :: st) im rm = ev 135 129 [v0, v1, .int l1, .int x2, v4, v5, v6, v7, v8] st (im) (rm) := ev_istore_n pm_m135 d135_128 (Nat.le_of_ble_eq_true rfl) rfl rfl
theorem d135_129 : decode prog_10_method_33_code 129 = .ok (.aload_n 0, 1) := by decide +kernel
theorem s135_129 {v1 v2 v3 v4 v5 v6 v7 v8 : Value} {l1 : Nat} {st : List Value} {im : IM} {rm : RM}  : ev 135 129 [.ref l1, v1, v2, v3, v4, v5, v6, v7, v8] st im rm = ev 135 130 [.ref l1, v1, v2, v3, v4, v5, v6, v7, v8] (.ref l1 :: st) (im) (rm) := ev_aload_n pm_m135 d135_129 rfl rfl
theorem d135_130 : decode prog_10_method_33_code 130 = .ok (.getfield 103, 3) := by decide +kernel
theorem s135_130 {v0 v1 v2 v3 v4 v5 v6 v7 v8 : Value} {a : Nat} {st : List Value} {im : IM} {rm : RM} (hk : kd a = 18) : ev 135 130 [v0, v1, v2, v3, v4, v5, v6, v7, v8] (.ref a :: st) im rm = ev 135 133 [v0, v1, v2, v3, v4, v5, v6, v7, v8] (pm_ro (rm a 39) :: st) (im) (rm) := ev_getR pm_m135 d135_130 f8_103 rfl hk rfl
theorem d135_133 : decode prog_10_method_33_code 133 = .ok (.iload 5, 2) := by decide +kernel
theorem s135_133 {v0 v1 v2 v3 v4 v6 v7 v8 : Value} {l1 : Int32} {st : List Value} {im : IM} {rm : RM}  : ev 135 133 [v0, v1, v2, v3, v4, .int l1, v6, v7, v8] st im rm = ev 135 135 [v0, v1, v2, v3, v4, .int l1, v6, v7, v8] (.int l1 :: st) (im) (rm) := ev_iload pm_m135 d135_133 rfl rfl
theorem d135_135 : decode prog_10_method_33_code 135 = .ok (.iconst 4, 1) := by decide +kernel
theorem s135_135 {v0 v1 v2 v3 v4 v5 v6 v7 v8 : Value}  {st : List Value} {im : IM} {rm : RM}  : ev 135 135 [v0, v1, v2, v3, v4, v5, v6, v7, v8] st im rm = ev 135 136 [v0, v1, v2, v3, v4, v5, v6, v7, v8] (.int (nI 4) :: st) (im) (rm) := ev_iconst pm_m135 d135_135 rfl rfl
theorem d135_136 : decode prog_10_method_33_code 136 = .ok (.aload_n 0, 1) := by decide +kernel
theorem s135_136 {v1 v2 v3 v4 v5 v6 v7 v8 : Value} {l1 : Nat} {st : List Value} {im : IM} {rm : RM}  : ev 135 136 [.ref l1, v1, v2, v3, v4, v5, v6, v7, v8] st im rm = ev 135 137 [.ref l1, v1, v2, v3, v4, v5, v6, v7, v8] (.ref l1 :: st) (im) (rm) := ev_aload_n pm_m135 d135_136 rfl rfl
theorem d135_137 : decode prog_10_method_33_code 137 = .ok (.getfield 100, 3) := by decide +kernel
theorem s135_137 {v0 v1 v2 v3 v4 v5 v6 v7 v8 : Value} {a : Nat} {st : List Value} {im : IM} {rm : RM} (hk : kd a = 18) : ev 135 137 [v0, v1, v2, v3, v4, v5, v6, v7, v8] (.ref a :: st) im rm = ev 135 140 [v0, v1, v2, v3, v4, v5, v6, v7, v8] (pm_ro (rm a 38) :: st) (im) (rm) := ev_getR pm_m135 d135_137 f8_100 rfl hk rfl
theorem d135_140 : decode prog_10_method_33_code 140 = .ok (.iload 5, 2) := by decide +kernel
theorem s135_140 {v0 v1 v2 v3 v4 v6 v7 v8 : Value} {l1 : Int32} {st : List Value} {im : IM} {rm : RM}  : ev 135 140 [v0, v1, v2, v3, v4, .int l1, v6, v7, v8] st im rm = ev 135 142 [v0, v1, v2, v3, v4, .int l1, v6, v7, v8] (.int l1 :: st) (im) (rm) := ev_iload pm_m135 d135_140 rfl rfl
theorem d135_142 : decode prog_10_method_33_code 142 = .ok (.iaload, 1) := by decide +kernel
theorem s135_142 {v0 v1 v2 v3 v4 v5 v6 v7 v8 : Value} {a : Nat} {i : Int32} {st : List Value} {im : IM} {rm : RM} (hk : kd a = 0) (hi : pm_in i (ln a) = true) : ev 135 142 [v0, v1, v2, v3, v4, v5, v6, v7, v8] (.int i :: .ref a :: st) im rm = ev 135 143 [v0, v1, v2, v3, v4, v5, v6, v7, v8] (.int (im a i.toNatClampNeg) :: st) (im) (rm) := ev_iald pm_m135 d135_142 hk hi rfl
theorem d135_143 : decode prog_10_method_33_code 143 = .ok (.imul, 1) := by decide +kernel
theorem s135_143 {v0 v1 v2 v3 v4 v5 v6 v7 v8 : Value} {x : Int32} {y : Int32} {st : List Value} {im : IM} {rm : RM}  : ev 135 143 [v0, v1, v2, v3, v4, v5, v6, v7, v8] (.int y :: .int x :: st) im rm = ev 135 144 [v0, v1, v2, v3, v4, v5, v6, v7, v8] (.int (x * y) :: st) (im) (rm) := ev_imul pm_m135 d135_143 rfl
theorem d135_144 : decode prog_10_method_33_code 144 = .ok (.iload 7, 2) := by decide +kernel
theorem s135_144 {v0 v1 v2 v3 v4 v5 v6 v8 : Value} {l1 : Int32} {st : List Value} {im : IM} {rm : RM}  : ev 135 144 [v0, v1, v2, v3, v4, v5, v6, .int l1, v8] st im rm = ev 135 146 [v0, v1, v2, v3, v4, v5, v6, .int l1, v8] (.int l1 :: st) (im) (rm) := ev_iload pm_m135 d135_144 rfl rfl
theorem d135_146 : decode prog_10_method_33_code 146 = .ok (.if_icmp .ge 15, 3) := by decide +kernel
theorem s135_146 {v0 v1 v2 v3 v4 v5 v6 v7 v8 : Value} {x : Int32} {y : Int32} {st : List Value} {im : IM} {rm : RM} : ev 135 146 [v0, v1, v2, v3, v4, v5, v6, v7, v8] (.int y :: .int x :: st) im rm = if y ≤ x then ev 135 161 [v0, v1, v2, v3, v4, v5, v6, v7, pm_u] st im rm else ev 135 149 [v0, v1, v2, v3, v4, v5, v6, v7, v8] st im rm := ev_icmp_ge pm_m135 d135_146 rfl rfl rfl
theorem d135_149 : decode prog_10_method_33_code 149 = .ok (.iconst 4, 1) := by decide +kernel
theorem s135_149 {v0 v1 v2 v3 v4 v5 v6 v7 v8 : Value}  {st : List Value} {im : IM} {rm : RM}  : ev 135 149 [v0, v1, v2, v3, v4, v5, v6, v7, v8] st im rm = ev 135 150 [v0, v1, v2, v3, v4, v5, v6, v7, v8] (.int (nI 4) :: st) (im) (rm) := ev_iconst pm_m135 d135_149 rfl rfl
theorem d135_150 : decode prog_10_method_33_code 150 = .ok (.aload_n 0, 1) := by decide +kernel
theorem s135_150 {v1 v2 v3 v4 v5 v6 v7 v8 : Value} {l1 : Nat} {st : List Value} {im : IM} {rm : RM}  : ev 135 150 [.ref l1, v1, v2, v3, v4, v5, v6, v7, v8] st im rm = ev 135 151 [.ref l1, v1, v2, v3, v4, v5, v6, v7, v8] (.ref l1 :: st) (im) (rm) := ev_aload_n pm_m135 d135_150 rfl rfl
theorem d135_151 : decode prog_10_method_33_code 151 = .ok (.getfield 100, 3) := by decide +kernel
theorem s135_151 {v0 v1 v2 v3 v4 v5 v6 v7 v8 : Value} {a : Nat} {st : List Value} {im : IM} {rm : RM} (hk : kd a = 18) : ev 135 151 [v0, v1, v2, v3, v4, v5, v6, v7, v8] (.ref a :: st) im rm = ev 135 154 [v0, v1, v2, v3, v4, v5, v6, v7, v8] (pm_ro (rm a 38) :: st) (im) (rm) := ev_getR pm_m135 d135_151 f8_100 rfl hk rfl
theorem d135_154 : decode prog_10_method_33_code 154 = .ok (.iload 5, 2) := by decide +kernel
theorem s135_154 {v0 v1 v2 v3 v4 v6 v7 v8 : Value} {l1 : Int32} {st : List Value} {im : IM} {rm : RM}  : ev 135 154 [v0, v1, v2, v3, v4, .int l1, v6, v7, v8] st im rm = ev 135 156 [v0, v1, v2, v3, v4, .int l1, v6, v7, v8] (.int l1 :: st) (im) (rm) := ev_iload pm_m135 d135_154 rfl rfl
theorem d135_156 : decode prog_10_method_33_code 156 = .ok (.iaload, 1) := by decide +kernel
theorem s135_156 {v0 v1 v2 v3 v4 v5 v6 v7 v8 : Value} {a : Nat} {i : Int32} {st : List Value} {im : IM} {rm : RM} (hk : kd a = 0) (hi : pm_in i (ln a) = true) : ev 135 156 [v0, v1, v2, v3, v4, v5, v6, v7, v8] (.int i :: .ref a :: st) im rm = ev 135 157 [v0, v1, v2, v3, v4, v5, v6, v7, v8] (.int (im a i.toNatClampNeg) :: st) (im) (rm) := ev_iald pm_m135 d135_156 hk hi rfl
theorem d135_157 : decode prog_10_method_33_code 157 = .ok (.imul, 1) := by decide +kernel
theorem s135_157 {v0 v1 v2 v3 v4 v5 v6 v7 v8 : Value} {x : Int32} {y : Int32} {st : List Value} {im : IM} {rm : RM}  : ev 135 157 [v0, v1, v2, v3, v4, v5, v6, v7, v8] (.int y :: .int x :: st) im rm = ev 135 158 [v0, v1, v2, v3, v4, v5, v6, v7, v8] (.int (x * y) :: st) (im) (rm) := ev_imul pm_m135 d135_157 rfl
theorem d135_158 : decode prog_10_method_33_code 158 = .ok (.goto 5, 3) := by decide +kernel
theorem s135_158 {v0 v1 v2 v3 v4 v5 v6 v7 v8 : Value}  {st : List Value} {im : IM} {rm : RM}  : ev 135 158 [v0, v1, v2, v3, v4, v5, v6, v7, v8] st im rm = ev 135 163 [v0, v1, v2, v3, v4, v5, v6, v7, pm_u] st (im) (rm) := ev_goto pm_m135 d135_158 rfl rfl
theorem d135_161 : decode prog_10_method_33_code 161 = .ok (.iload 7, 2) := by decide +kernel
theorem s135_161 {v0 v1 v2 v3 v4 v5 v6 v8 : Value} {l1 : Int32} {st : List Value} {im : IM} {rm : RM}  : ev 135 161 [v0, v1, v2, v3, v4, v5, v6, .int l1, v8] st im rm = ev 135 163 [v0, v1, v2, v3, v4, v5, v6, .int l1, pm_u] (.int l1 :: st) (im) (rm) := ev_iload pm_m135 d135_161 rfl rfl
theorem d135_163 : decode prog_10_method_33_code 163 = .ok (.iastore, 1) := by decide +kernel
theorem s135_163 {v0 v1 v2 v3 v4 v5 v6 v7 v8 : Value} {a : Nat} {i : Int32} {v : Int32} {st : List Value} {im : IM} {rm : RM} (hk : kd a = 0) (hi : pm_in i (ln a) = true) : ev 135 163 [v0, v1, v2, v3, v4, v5, v6, v7, v8] (.int v :: .int i :: .ref a :: st) im rm = ev 135 164 [v0, v1, v2, v3, v4, v5, v6, v7, v8] st (pm_w2 im a i.toNatClampNeg v) (rm) := ev_iast pm_m135 d135_163 hk hi rfl
theorem d135_164 : decode prog_10_method_33_code 164 = .ok (.aload_n 0, 1) := by decide +kernel
theorem s135_164 {v1 v2 v3 v4 v5 v6 v7 v8 : Value} {l1 : Nat} {st : List Value} {im : IM} {rm : RM}  : ev 135 164 [.ref l1, v1, v2, v3, v4, v5, v6, v7, v8] st im rm = ev 135 165 [.ref l1, v1, v2, v3, v4, v5, v6, v7, v8] (.ref l1 :: st) (im) (rm) := ev_aload_n pm_m135 d135_164 rfl rfl
theorem d135_165 : decode prog_10_method_33_code 165 = .ok (.getfield 106, 3) := by decide +kernel
theorem s135_165 {v0 v1 v2 v3 v4 v5 v6 v7 v8 : Value} {a : Nat} {st : List Value} {im : IM} {rm : RM} (hk : kd a = 18) : ev 135 165 [v0, v1, v2, v3, v4, v5, v6, v7, v8] (.ref a :: st) im rm = ev 135 168 [v0, v1, v2, v3, v4, v5, v6, v7, v8] (pm_ro (rm a 40) :: st) (im) (rm) := ev_getR pm_m135 d135_165 f8_106 rfl hk rfl
theorem d135_168 : decode prog_10_method_33_code 168 = .ok (.iload 5, 2) := by decide +kernel
theorem s135_168 {v0 v1 v2 v3 v4 v6 v7 v8 : Value} {l1 : Int32} {st : List Value} {im : IM} {rm : RM}  : ev 135 168 [v0, v1, v2, v3, v4, .int l1, v6, v7, v8] st im rm = ev 135 170 [v0, v1, v2, v3, v4, .int l1, v6, v7, v8] (.int l1 :: st) (im) (rm) := ev_iload pm_m135 d135_168 rfl rfl
theorem d135_170 : decode prog_10_method_33_code 170 = .ok (.iload 7, 2) := by decide +kernel
theorem s135_170 {v0 v1 v2 v3 v4 v5 v6 v8 : Value} {l1 : Int32} {st : List Value} {im : IM} {rm : RM}  : ev 135 170 [v0, v1, v2, v3, v4, v5, v6, .int l1, v8] st im rm = ev 135 172 [v0, v1, v2, v3, v4, v5, v6, .int l1, v8] (.int l1 :: st) (im) (rm) := ev_iload pm_m135 d135_170 rfl rfl
theorem d135_172 : decode prog_10_method_33_code 172 = .ok (.aload_n 0, 1) := by decide +kernel
theorem s135_172 {v1 v2 v3 v4 v5 v6 v7 v8 : Value} {l1 : Nat} {st : List Value} {im : IM} {rm : RM}  : ev 135 172 [.ref l1, v1, v2, v3, v4, v5, v6, v7, v8] st im rm = ev 135 173 [.ref l1, v1, v2, v3, v4, v5, v6, v7, v8] (.ref l1 :: st) (im) (rm) := ev_aload_n pm_m135 d135_172 rfl rfl
theorem d135_173 : decode prog_10_method_33_code 173 = .ok (.getfield 103, 3) := by decide +kernel
theorem s135_173 {v0 v1 v2 v3 v4 v5 v6 v7 v8 : Value} {a : Nat} {st : List Value} {im : IM} {rm : RM} (hk : kd a = 18) : ev 135 173 [v0, v1, v2, v3, v4, v5, v6, v7, v8] (.ref a :: st) im rm = ev 135 176 [v0, v1, v2, v3, v4, v5, v6, v7, v8] (pm_ro (rm a 39) :: st) (im) (rm) := ev_getR pm_m135 d135_173 f8_103 rfl hk rfl
theorem d135_176 : decode prog_10_method_33_code 176 = .ok (.iload 5, 2) := by decide +kernel
theorem s135_176 {v0 v1 v2 v3 v4 v6 v7 v8 : Value} {l1 : Int32} {st : List Value} {im : IM} {rm : RM}  : ev 135 176 [v0, v1, v2, v3, v4, .int l1, v6, v7, v8] st im rm = ev 135 178 [v0, v1, v2, v3, v4, .int l1, v6, v7, v8] (.int l1 :: st) (im) (rm) := ev_iload pm_m135 d135_176 rfl rfl
theorem d135_178 : decode prog_10_method_33_code 178 = .ok (.iaload, 1) := by decide +kernel
theorem s135_178 {v0 v1 v2 v3 v4 v5 v6 v7 v8 : Value} {a : Nat} {i : Int32} {st : List Value} {im : IM} {rm : RM} (hk : kd a = 0) (hi : pm_in i (ln a) = true) : ev 135 178 [v0, v1, v2, v3, v4, v5, v6, v7, v8] (.int i :: .ref a :: st) im rm = ev 135 179 [v0, v1, v2, v3, v4, v5, v6, v7, v8] (.int (im a i.toNatClampNeg) :: st) (im) (rm) := ev_iald pm_m135 d135_178 hk hi rfl
theorem d135_179 : decode prog_10_method_33_code 179 = .ok (.isub, 1) := by decide +kernel
theorem s135_179 {v0 v1 v2 v3 v4 v5 v6 v7 v8 : Value} {x : Int32} {y : Int32} {st : List Value} {im : IM} {rm : RM}  : ev 135 179 [v0, v1, v2, v3, v4, v5, v6, v7, v8] (.int y :: .int x :: st) im rm = ev 135 180 [v0, v1, v2, v3, v4, v5, v6, v7, v8] (.int (x - y) :: st) (im) (rm) := ev_isub pm_m135 d135_179 rfl
theorem d135_180 : decode prog_10_method_33_code 180 = .ok (.iastore, 1) := by decide +kernel
theorem s135_180 {v0 v1 v2 v3 v4 v5 v6 v7 v8 : Value} {a : Nat} {i : Int32} {v : Int32} {st : List Value} {im : IM} {rm : RM} (hk : kd a = 0) (hi : pm_in i (ln a) = true) : ev 135 180 [v0, v1, v2, v3, v4, v5, v6, v7, v8] (.int v :: .int i :: .ref a :: st) im rm = ev 135 181 [v0, v1, v2, v3, v4, v5, v6, v7, v8] st (pm_w2 im a i.toNatClampNeg v) (rm) := ev_iast pm_m135 d135_180 hk hi rfl
theorem d135_181 : decode prog_10_method_33_code 181 = .ok (.iload 4, 2) := by decide +kernel
theorem s135_181 {v0 v1 v2 v3 v5 v6 v7 v8 : Value} {l1 : Int32} {st : List Value} {im : IM} {rm : RM}  : ev 135 181 [v0, v1, v2, v3, .int l1, v5, v6, v7, v8] st im rm = ev 135 183 [v0, v1, v2, v3, .int l1, v5, v6, v7, v8] (.int l1 :: st) (im) (rm) := ev_iload pm_m135 d135_181 rfl rfl
theorem d135_183 : decode prog_10_method_33_code 183 = .ok (.aload_n 0, 1) := by decide +kernel
theorem s135_183 {v1 v2 v3 v4 v5 v6 v7 v8 : Value} {l1 : Nat} {st : List Value} {im : IM} {rm : RM}  : ev 135 183 [.ref l1, v1, v2, v3, v4, v5, v6, v7, v8] st im rm = ev 135 184 [.ref l1, v1, v2, v3, v4, v5, v6, v7, v8] (.ref l1 :: st) (im) (rm) := ev_aload_n pm_m135 d135_183 rfl rfl
theorem d135_184 : decode prog_10_method_33_code 184 = .ok (.getfield 22, 3) := by decide +kernel
theorem s135_184 {v0 v1 v2 v3 v4 v5 v6 v7 v8 : Value} {a : Nat} {st : List Value} {im : IM} {rm : RM} (hk : kd a = 18) : ev 135 184 [v0, v1, v2, v3, v4, v5, v6, v7, v8] (.ref a :: st) im rm = ev 135 187 [v0, v1, v2, v3, v4, v5, v6, v7, v8] (pm_ro (rm a 4) :: st) (im) (rm) := ev_getR pm_m135 d135_184 f8_22 rfl hk rfl
theorem d135_187 : decode prog_10_method_33_code 187 = .ok (.iload 6, 2) := by decide +kernel
theorem s135_187 {v0 v1 v2 v3 v4 v5 v7 v8 : Value} {l1 : Int32} {st : List Value} {im : IM} {rm : RM}  : ev 135 187 [v0, v1, v2, v3, v4, v5, .int l1, v7, v8] st im rm = ev 135 189 [v0, v1, v2, v3, v4, v5, .int l1, v7, v8] (.int l1 :: st) (im) (rm) := ev_iload pm_m135 d135_187 rfl rfl
theorem d135_189 : decode prog_10_method_33_code 189 = .ok (.iaload, 1) := by decide +kernel
theorem s135_189 {v0 v1 v2 v3 v4 v5 v6 v7 v8 : Value} {a : Nat} {i : Int32} {st : List Value} {im : IM} {rm : RM} (hk : kd a = 0) (hi : pm_in i (ln a) = true) : ev 135 189 [v0, v1, v2, v3, v4, v5, v6, v7, v8] (.int i :: .ref a :: st) im rm = ev 135 190 [v0, v1, v2, v3, v4, v5, v6, v7, v8] (.int (im a i.toNatClampNeg) :: st) (im) (rm) := ev_iald pm_m135 d135_189 hk hi rfl
theorem d135_190 : decode prog_10_method_33_code 190 = .ok (.bipush 8, 2) := by decide +kernel
theorem s135_190 {v0 v1 v2 v3 v4 v5 v6 v7 v8 : Value}  {st : List Value} {im : IM} {rm : RM}  : ev 135 190 [v0, v1, v2, v3, v4, v5, v6, v7, v8] st im rm = ev 135 192 [v0, v1, v2, v3, v4, v5, v6, v7, v8] (.int (nI 8) :: st) (im) (rm) := ev_bipush pm_m135 d135_190 rfl rfl
theorem d135_192 : decode prog_10_method_33_code 192 = .ok (.idiv, 1) := by decide +kernel
theorem s135_192 {v0 v1 v2 v3 v4 v5 v6 v7 v8 : Value} {x : Int32} {y : Int32} {st : List Value} {im : IM} {rm : RM} (h0 : ¬ y = 0) : ev 135 192 [v0, v1, v2, v3, v4, v5, v6, v7, v8] (.int y :: .int x :: st) im rm = ev 135 193 [v0, v1, v2, v3, v4, v5, v6, v7, v8] (.int (x / y) :: st) (im) (rm) := ev_idiv pm_m135 d135_192 h0 rfl
theorem d135_193 : decode prog_10_method_33_code 193 = .ok (.iadd, 1) := by decide +kernel
theorem s135_193 {v0 v1 v2 v3 v4 v5 v6 v7 v8 : Value} {x : Int32} {y : Int32} {st : List Value} {im : IM} {rm : RM}  : ev 135 193 [v0, v1, v2, v3, v4, v5, v6, v7, v8] (.int y :: .int x :: st) im rm = ev 135 194 [v0, v1, v2, v3, v4, v5, v6, v7, v8] (.int (x + y) :: st) (im) (rm) := ev_iadd pm_m135 d135_193 rfl
theorem d135_194 : decode prog_10_method_33_code 194 = .ok (.istore 4, 2) := by decide +kernel
theorem s135_194 {v0 v1 v2 v4 v5 v6 v7 v8 : Value} {l1 : Int32} {x2 : Int32} {st : List Value} {im : IM} {rm : RM}  : ev 135 194 [v0, v1, v2, .int l1, v4, v5, v6, v7, v8] (.int x2 :: st) im rm = ev 135 196 [v0, v1, v2, .int l1, .int x2, v5, v6, v7, v8] st (im) (rm) := ev_istore pm_m135 d135_194 (Nat.le_of_ble_eq_true rfl) rfl rfl
theorem d135_196 : decode prog_10_method_33_code 196 = .ok (.iload 4, 2) := by decide +kernel
theorem s135_196 {v0 v1 v2 v3 v5 v6 v7 v8 : Value} {l1 : Int32} {st : List Value} {im : IM} {rm : RM}  : ev 135 196 [v0, v1, v2, v3, .int l1, v5, v6, v7, v8] st im rm = ev 135 198 [v0, v1, v2, v3, .int l1, v5, v6, v7, v8] (.int l1 :: st) (im) (rm) := ev_iload pm_m135 d135_196 rfl rfl
theorem d135_198 : decode prog_10_method_33_code 198 = .ok (.aload_n 0, 1) := by decide +kernel
theorem s135_198 {v1 v2 v3 v4 v5 v6 v7 v8 : Value} {l1 : Nat} {st : List Value} {im : IM} {rm : RM}  : ev 135 198 [.ref l1, v1, v2, v3, v4, v5, v6, v7, v8] st im rm = ev 135 199 [.ref l1, v1, v2, v3, v4, v5, v6, v7, v8] (.ref l1 :: st) (im) (rm) := ev_aload_n pm_m135 d135_198 rfl rfl
theorem d135_199 : decode prog_10_method_33_code 199 = .ok (.getfield 37, 3) := by decide +kernel
theorem s135_199 {v0 v1 v2 v3 v4 v5 v6 v7 v8 : Value} {a : Nat} {st : List Value} {im : IM} {rm : RM} (hk : kd a = 18) : ev 135 199 [v0, v1, v2, v3, v4, v5, v6, v7, v8] (.ref a :: st) im rm = ev 135 202 [v0, v1, v2, v3, v4, v5, v6, v7, v8] (pm_ro (rm a 9) :: st) (im) (rm) := ev_getR pm_m135 d135_199 f8_37 rfl hk rfl
theorem d135_202 : decode prog_10_method_33_code 202 = .ok (.iconst 1, 1) := by decide +kernel
theorem s135_202 {v0 v1 v2 v3 v4 v5 v6 v7 v8 : Value}  {st : List Value} {im : IM} {rm : RM}  : ev 135 202 [v0, v1, v2, v3, v4, v5, v6, v7, v8] st im rm = ev 135 203 [v0, v1, v2, v3, v4, v5, v6, v7, v8] (.int (nI 1) :: st) (im) (rm) := ev_iconst pm_m135 d135_202 rfl rfl
theorem d135_203 : decode prog_10_method_33_code 203 = .ok (.iaload, 1) := by decide +kernel
theorem s135_203 {v0 v1 v2 v3 v4 v5 v6 v7 v8 : Value} {a : Nat} {i : Int32} {st : List Value} {im : IM} {rm : RM} (hk : kd a = 0) (hi : pm_in i (ln a) = true) : ev 135 203 [v0, v1, v2, v3, v4, v5, v6, v7, v8] (.int i :: .ref a :: st) im rm = ev 135 204 [v0, v1, v2, v3, v4, v5, v6, v7, v8] (.int (im a i.toNatClampNeg) :: st) (im) (rm) := ev_iald pm_m135 d135_203 hk hi rfl
theorem d135_204 : decode prog_10_method_33_code 204 = .ok (.if_icmp .le 28, 3) := by decide +kernel
theorem s135_204 {v0 v1 v2 v3 v4 v5 v6 v7 v8 : Value} {x : Int32} {y : Int32} {st : List Value} {im : IM} {rm : RM} : ev 135 204 [v0, v1, v2, v3, v4, v5, v6, v7, v8] (.int y :: .int x :: st) im rm = if x ≤ y then ev 135 232 [v0, v1, v2, v3, v4, v5, pm_u, pm_u, pm_u] st im rm else ev 135 207 [v0, v1, v2, v3, v4, v5, v6, v7, v8] st im rm := ev_icmp_le pm_m135 d135_204 rfl rfl rfl
theorem d135_207 : decode prog_10_method_33_code 207 = .ok (.aload_n 0, 1) := by decide +kernel
theorem s135_207 {v1 v2 v3 v4 v5 v6 v7 v8 : Value} {l1 : Nat} {st : List Value} {im : IM} {rm : RM}  : ev 135 207 [.ref l1, v1, v2, v3, v4, v5, v6, v7, v8] st im rm = ev 135 208 [.ref l1, v1, v2, v3, v4, v5, v6, v7, v8] (.ref l1 :: st) (im) (rm) := ev_aload_n pm_m135 d135_207 rfl rfl
theorem d135_208 : decode prog_10_method_33_code 208 = .ok (.getfield 106, 3) := by decide +kernel
theorem s135_208 {v0 v1 v2 v3 v4 v5 v6 v7 v8 : Value} {a : Nat} {st : List Value} {im : IM} {rm : RM} (hk : kd a = 18) : ev 135 208 [v0, v1, v2, v3, v4, v5, v6, v7, v8] (.ref a :: st) im rm = ev 135 211 [v0, v1, v2, v3, v4, v5, v6, v7, v8] (pm_ro (rm a 40) :: st) (im) (rm) := ev_getR pm_m135 d135_208 f8_106 rfl hk rfl
theorem d135_211 : decode prog_10_method_33_code 211 = .ok (.iload 5, 2) := by decide +kernel
theorem s135_211 {v0 v1 v2 v3 v4 v6 v7 v8 : Value} {l1 : Int32} {st : List Value} {im : IM} {rm : RM}  : ev 135 211 [v0, v1, v2, v3, v4, .int l1, v6, v7, v8] st im rm = ev 135 213 [v0, v1, v2, v3, v4, .int l1, v6, v7, v8] (.int l1 :: st) (im) (rm) := ev_iload pm_m135 d135_211 rfl rfl
theorem d135_213 : decode prog_10_method_33_code 213 = .ok (.dup2, 1) := by decide +kernel
theorem s135_213 {v0 v1 v2 v3 v4 v5 v6 v7 v8 : Value} {y : Int32} {x : Nat} {st : List Value} {im : IM} {rm : RM}  : ev 135 213 [v0, v1, v2, v3, v4, v5, v6, v7, v8] (.int y :: .ref x :: st) im rm = ev 135 214 [v0, v1, v2, v3, v4, v5, v6, v7, v8] (.int y :: .ref x :: .int y :: .ref x :: st) (im) (rm) := ev_dup2 pm_m135 d135_213 rfl
theorem d135_214 : decode prog_10_method_33_code 214 = .ok (.iaload, 1) := by decide +kernel
theorem s135_214 {v0 v1 v2 v3 v4 v5 v6 v7 v8 : Value} {a : Nat} {i : Int32} {st : List Value} {im : IM} {rm : RM} (hk : kd a = 0) (hi : pm_in i (ln a) = true) : ev 135 214 [v0, v1, v2, v3, v4, v5, v6, v7, v8] (.int i :: .ref a :: st) im rm = ev 135 215 [v0, v1, v2, v3, v4, v5, v6, v7, v8] (.int (im a i.toNatClampNeg) :: st) (im) (rm) := ev_iald pm_m135 d135_214 hk hi rfl
theorem d135_215 : decode prog_10_method_33_code 215 = .ok (.bipush 20, 2) := by decide +kernel
theorem s135_215 {v0 v1 v2 v3 v4 v5 v6 v7 v8 : Value}  {st : List Value} {im : IM} {rm : RM}  : ev 135 215 [v0, v1, v2, v3, v4, v5, v6, v7, v8] st im rm = ev 135 217 [v0, v1, v2, v3, v4, v5, v6, v7, v8] (.int (nI 20) :: st) (im) (rm) := ev_bipush pm_m135 d135_215 rfl rfl
theorem d135_217 : decode prog_10_method_33_code 217 = .ok (.iadd, 1) := by decide +kernel
theorem s135_217 {v0 v1 v2 v3 v4 v5 v6 v7 v8 : Value} {x : Int32} {y : Int32} {st : List Value} {im : IM} {rm : RM}  : ev 135 217 [v0, v1, v2, v3, v4, v5, v6, v7, v8] (.int y :: .int x :: st) im rm = ev 135 218 [v0, v1, v2, v3, v4, v5, v6, v7, v8] (.int (x + y) :: st) (im) (rm) := ev_iadd pm_m135 d135_217 rfl
theorem d135_218 : decode prog_10_method_33_code 218 = .ok (.iastore, 1) := by decide +kernel
theorem s135_218 {v0 v1 v2 v3 v4 v5 v6 v7 v8 : Value} {a : Nat} {i : Int32} {v : Int32} {st : List Value} {im : IM} {rm : RM} (hk : kd a = 0) (hi : pm_in i (ln a) = true) : ev 135 218 [v0, v1, v2, v3, v4, v5, v6, v7, v8] (.int v :: .int i :: .ref a :: st) im rm = ev 135 219 [v0, v1, v2, v3, v4, v5, v6, v7, v8] st (pm_w2 im a i.toNatClampNeg v) (rm) := ev_iast pm_m135 d135_218 hk hi rfl
theorem d135_219 : decode prog_10_method_33_code 219 = .ok (.iconst 0, 1) := by decide +kernel
theorem s135_219 {v0 v1 v2 v3 v4 v5 v6 v7 v8 : Value}  {st : List Value} {im : IM} {rm : RM}  : ev 135 219 [v0, v1, v2, v3, v4, v5, v6, v7, v8] st im rm = ev 135 220 [v0, v1, v2, v3, v4, v5, v6, v7, v8] (.int (nI 0) :: st) (im) (rm) := ev_iconst pm_m135 d135_219 rfl rfl
theorem d135_220 : decode prog_10_method_33_code 220 = .ok (.istore 4, 2) := by decide +kernel
theorem s135_220 {v0 v1 v2 v4 v5 v6 v7 v8 : Value} {l1 : Int32} {x2 : Int32} {st : List Value} {im : IM} {rm : RM}  : ev 135 220 [v0, v1, v2, .int l1, v4, v5, v6, v7, v8] (.int x2 :: st) im rm = ev 135 222 [v0, v1, v2, .int l1, .int x2, v5, v6, v7, v8] st (im) (rm) := ev_istore pm_m135 d135_220 (Nat.le_of_ble_eq_true rfl) rfl rfl
theorem d135_222 : decode prog_10_method_33_code 222 = .ok (.aload_n 0, 1) := by decide +kernel
theorem s135_222 {v1 v2 v3 v4 v5 v6 v7 v8 : Value} {l1 : Nat} {st : List Value} {im : IM} {rm : RM}  : ev 135 222 [.ref l1, v1, v2, v3, v4, v5, v6, v7, v8] st im rm = ev 135 223 [.ref l1, v1, v2, v3, v4, v5, v6, v7, v8] (.ref l1 :: st) (im) (rm) := ev_aload_n pm_m135 d135_222 rfl rfl
theorem d135_223 : decode prog_10_method_33_code 223 = .ok (.dup, 1) := by decide +kernel
theorem s135_223 {v0 v1 v2 v3 v4 v5 v6 v7 v8 : Value} {x1 : Nat} {st : List Value} {im : IM} {rm : RM}  : ev 135 223 [v0, v1, v2, v3, v4, v5, v6, v7, v8] (.ref x1 :: st) im rm = ev 135 224 [v0, v1, v2, v3, v4, v5, v6, v7, v8] (.ref x1 :: .ref x1 :: st) (im) (rm) := ev_dupA pm_m135 d135_223 rfl
theorem d135_224 : decode prog_10_method_33_code 224 = .ok (.getfield 255, 3) := by decide +kernel
theorem s135_224 {v0 v1 v2 v3 v4 v5 v6 v7 v8 : Value} {a : Nat} {st : List Value} {im : IM} {rm : RM} (hk : kd a = 18) : ev 135 224 [v0, v1, v2, v3, v4, v5, v6, v7, v8] (.ref a :: st) im rm = ev 135 227 [v0, v1, v2, v3, v4, v5, v6, v7, v8] (.int (im a 44) :: st) (im) (rm) := ev_getI pm_m135 d135_224 f8_255 rfl hk rfl
theorem d135_227 : decode prog_10_method_33_code 227 = .ok (.iconst 1, 1) := by decide +kernel
theorem s135_227 {v0 v1 v2 v3 v4 v5 v6 v7 v8 : Value}  {st : List Value} {im : IM} {rm : RM}  : ev 135 227 [v0, v1, v2, v3, v4, v5, v6, v7, v8] st im rm = ev 135 228 [v0, v1, v2, v3, v4, v5, v6, v7, v8] (.int (nI 1) :: st) (im) (rm) := ev_iconst pm_m135 d135_227 rfl rfl
theorem d135_228 : decode prog_10_method_33_code 228 = .ok (.iadd, 1) := by decide +kernel
theorem s135_228 {v0 v1 v2 v3 v4 v5 v6 v7 v8 : Value} {x : Int32} {y : Int32} {st : List Value} {im : IM} {rm : RM}  : ev 135 228 [v0, v1, v2, v3, v4, v5, v6, v7, v8] (.int y :: .int x :: st) im rm = ev 135 229 [v0, v1, v2, v3, v4, v5, v6, v7, v8] (.int (x + y) :: st) (im) (rm) := ev_iadd pm_m135 d135_228 rfl
theorem d135_229 : decode prog_10_method_33_code 229 = .ok (.putfield 255, 3) := by decide +kernel
theorem s135_229 {v0 v1 v2 v3 v4 v5 v6 v7 v8 : Value} {a : Nat} {v : Int32} {st : List Value} {im : IM} {rm : RM} (hk : kd a = 18) : ev 135 229 [v0, v1, v2, v3, v4, v5, v6, v7, v8] (.int v :: .ref a :: st) im rm = ev 135 232 [v0, v1, v2, v3, v4, v5, pm_u, pm_u, pm_u] st (pm_w2 im a 44 v) (rm) := ev_putI pm_m135 d135_229 f8_255 rfl rfl hk rfl
theorem d135_232 : decode prog_10_method_33_code 232 = .ok (.aload_n 0, 1) := by decide +kernel
theorem s135_232 {v1 v2 v3 v4 v5 v6 v7 v8 : Value} {l1 : Nat} {st : List Value} {im : IM} {rm : RM}  : ev 135 232 [.ref l1, v1, v2, v3, v4, v5, v6, v7, v8] st im rm = ev 135 233 [.ref l1, v1, v2, v3, v4, v5, v6, v7, v8] (.ref l1 :: st) (im) (rm) := ev_aload_n pm_m135 d135_232 rfl rfl
theorem d135_233 : decode prog_10_method_33_code 233 = .ok (.dup, 1) := by decide +kernel
theorem s135_233 {v0 v1 v2 v3 v4 v5 v6 v7 v8 : Value} {x1 : Nat} {st : List Value} {im : IM} {rm : RM}  : ev 135 233 [v0, v1, v2, v3, v4, v5, v6, v7, v8] (.ref x1 :: st) im rm = ev 135 234 [v0, v1, v2, v3, v4, v5, v6, v7, v8] (.ref x1 :: .ref x1 :: st) (im) (rm) := ev_dupA pm_m135 d135_233 rfl
theorem d135_234 : decode prog_10_method_33_code 234 = .ok (.getfield 246, 3) := by decide +kernel
theorem s135_234 {v0 v1 v2 v3 v4 v5 v6 v7 v8 : Value} {a : Nat} {st : List Value} {im : IM} {rm : RM} (hk : kd a = 18) : ev 135 234 [v0, v1, v2, v3, v4, v5, v6, v7, v8] (.ref a :: st) im rm = ev 135 237 [v0, v1, v2, v3, v4, v5, v6, v7, v8] (.int (im a 41) :: st) (im) (rm) := ev_getI pm_m135 d135_234 f8_246 rfl hk rfl
theorem d135_237 : decode prog_10_method_33_code 237 = .ok (.aload_n 0, 1) := by decide +kernel
theorem s135_237 {v1 v2 v3 v4 v5 v6 v7 v8 : Value} {l1 : Nat} {st : List Value} {im : IM} {rm : RM}  : ev 135 237 [.ref l1, v1, v2, v3, v4, v5, v6, v7, v8] st im rm = ev 135 238 [.ref l1, v1, v2, v3, v4, v5, v6, v7, v8] (.ref l1 :: st) (im) (rm) := ev_aload_n pm_m135 d135_237 rfl rfl
theorem d135_238 : decode prog_10_method_33_code 238 = .ok (.getfield 100, 3) := by decide +kernel
theorem s135_238 {v0 v1 v2 v3 v4 v5 v6 v7 v8 : Value} {a : Nat} {st : List Value} {im : IM} {rm : RM} (hk : kd a = 18) : ev 135 238 [v0, v1, v2, v3, v4, v5, v6, v7, v8] (.ref a :: st) im rm = ev 135 241 [v0, v1, v2, v3, v4, v5, v6, v7, v8] (pm_ro (rm a 38) :: st) (im) (rm) := ev_getR pm_m135 d135_238 f8_100 rfl hk rfl
theorem d135_241 : decode prog_10_method_33_code 241 = .ok (.iload 5, 2) := by decide +kernel
theorem s135_241 {v0 v1 v2 v3 v4 v6 v7 v8 : Value} {l1 : Int32} {st : List Value} {im : IM} {rm : RM}  : ev 135 241 [v0, v1, v2, v3, v4, .int l1, v6, v7, v8] st im rm = ev 135 243 [v0, v1, v2, v3, v4, .int l1, v6, v7, v8] (.int l1 :: st) (im) (rm) := ev_iload pm_m135 d135_241 rfl rfl
theorem d135_243 : decode prog_10_method_33_code 243 = .ok (.iaload, 1) := by decide +kernel
theorem s135_243 {v0 v1 v2 v3 v4 v5 v6 v7 v8 : Value} {a : Nat} {i : Int32} {st : List Value} {im : IM} {rm : RM} (hk : kd a = 0) (hi : pm_in i (ln a) = true) : ev 135 243 [v0, v1, v2, v3, v4, v5, v6, v7, v8] (.int i :: .ref a :: st) im rm = ev 135 244 [v0, v1, v2, v3, v4, v5, v6, v7, v8] (.int (im a i.toNatClampNeg) :: st) (im) (rm) := ev_iald pm_m135 d135_243 hk hi rfl
theorem d135_244 : decode prog_10_method_33_code 244 = .ok (.iadd, 1) := by decide +kernel
theorem s135_244 {v0 v1 v2 v3 v4 v5 v6 v7 v8 : Value} {x : Int32} {y : Int32} {st : List Value} {im : IM} {rm : RM}  : ev 135 244 [v0, v1, v2, v3, v4, v5, v6, v7, v8] (.int y :: .int x :: st) im rm = ev 135 245 [v0, v1, v2, v3, v4, v5, v6, v7, v8] (.int (x + y) :: st) (im) (rm) := ev_iadd pm_m135 d135_244 rfl
theorem d135_245 : decode prog_10_method_33_code 245 = .ok (.putfield 246, 3) := by decide +kernel
theorem s135_245 {v0 v1 v2 v3 v4 v5 v6 v7 v8 : Value} {a : Nat} {v : Int32} {st : List Value} {im : IM} {rm : RM} (hk : kd a = 18) : ev 135 245 [v0, v1, v2, v3, v4, v5, v6, v7, v8] (.int v :: .ref a :: st) im rm = ev 135 248 [v0, v1, v2, v3, v4, v5, v6, v7, v8] st (pm_w2 im a 41 v) (rm) := ev_putI pm_m135 d135_245 f8_246 rfl rfl hk rfl
theorem d135_248 : decode prog_10_method_33_code 248 = .ok (.aload_n 0, 1) := by decide +kernel
theorem s135_248 {v1 v2 v3 v4 v5 v6 v7 v8 : Value} {l1 : Nat} {st : List Value} {im : IM} {rm : RM}  : ev 135 248 [.ref l1, v1, v2, v3, v4, v5, v6, v7, v8] st im rm = ev 135 249 [.ref l1, v1, v2, v3, v4, v5, v6, v7, v8] (.ref l1 :: st) (im) (rm) := ev_aload_n pm_m135 d135_248 rfl rfl
theorem d135_249 : decode prog_10_method_33_code 249 = .ok (.dup, 1) := by decide +kernel
theorem s135_249 {v0 v1 v2 v3 v4 v5 v6 v7 v8 : Value} {x1 : Nat} {st : List Value} {im : IM} {rm : RM}  : ev 135 249 [v0, v1, v2, v3, v4, v5, v6, v7, v8] (.ref x1 :: st) im rm = ev 135 250 [v0, v1, v2, v3, v4, v5, v6, v7, v8] (.ref x1 :: .ref x1 :: st) (im) (rm) := ev_dupA pm_m135 d135_249 rfl
theorem d135_250 : decode prog_10_method_33_code 250 = .ok (.getfield 249, 3) := by decide +kernel
theorem s135_250 {v0 v1 v2 v3 v4 v5 v6 v7 v8 : Value} {a : Nat} {st : List Value} {im : IM} {rm : RM} (hk : kd a = 18) : ev 135 250 [v0, v1, v2, v3, v4, v5, v6, v7, v8] (.ref a :: st) im rm = ev 135 253 [v0, v1, v2, v3, v4, v5, v6, v7, v8] (.int (im a 42) :: st) (im) (rm) := ev_getI pm_m135 d135_250 f8_249 rfl hk rfl
theorem d135_253 : decode prog_10_method_33_code 253 = .ok (.aload_n 0, 1) := by decide +kernel
theorem s135_253 {v1 v2 v3 v4 v5 v6 v7 v8 : Value} {l1 : Nat} {st : List Value} {im : IM} {rm : RM}  : ev 135 253 [.ref l1, v1, v2, v3, v4, v5, v6, v7, v8] st im rm = ev 135 254 [.ref l1, v1, v2, v3, v4, v5, v6, v7, v8] (.ref l1 :: st) (im) (rm) := ev_aload_n pm_m135 d135_253 rfl rfl
theorem d135_254 : decode prog_10_method_33_code 254 = .ok (.getfield 103, 3) := by decide +kernel
theorem s135_254 {v0 v1 v2 v3 v4 v5 v6 v7 v8 : Value} {a : Nat} {st : List Value} {im : IM} {rm : RM} (hk : kd a = 18) : ev 135 254 [v0, v1, v2, v3, v4, v5, v6, v7, v8] (.ref a :: st) im rm = ev 135 257 [v0, v1, v2, v3, v4, v5, v6, v7, v8] (pm_ro (rm a 39) :: st) (im) (rm) := ev_getR pm_m135 d135_254 f8_103 rfl hk rfl
theorem d135_257 : decode prog_10_method_33_code 257 = .ok (.iload 5, 2) := by decide +kernel
theorem s135_257 {v0 v1 v2 v3 v4 v6 v7 v8 : Value} {l1 : Int32} {st : List Value} {im : IM} {rm : RM}  : ev 135 257 [v0, v1, v2, v3, v4, .int l1, v6, v7, v8] st im rm = ev 135 259 [v0, v1, v2, v3, v4, .int l1, v6, v7, v8] (.int l1 :: st) (im) (rm) := ev_iload pm_m135 d135_257 rfl rfl
theorem d135_259 : decode prog_10_method_33_code 259 = .ok (.iaload, 1) := by decide +kernel
theorem s135_259 {v0 v1 v2 v3 v4 v5 v6 v7 v8 : Value} {a : Nat} {i : Int32} {st : List Value} {im : IM} {rm : RM} (hk : kd a = 0) (hi : pm_in i (ln a) = true) : ev 135 259 [v0, v1, v2, v3, v4, v5, v6, v7, v8] (.int i :: .ref a :: st) im rm = ev 135 260 [v0, v1, v2, v3, v4, v5, v6, v7, v8] (.int (im a i.toNatClampNeg) :: st) (im) (rm) := ev_iald pm_m135 d135_259 hk hi rfl
theorem d135_260 : decode prog_10_method_33_code 260 = .ok (.iadd, 1) := by decide +kernel
theorem s135_260 {v0 v1 v2 v3 v4 v5 v6 v7 v8 : Value} {x : Int32} {y : Int32} {st : List Value} {im : IM} {rm : RM}  : ev 135 260 [v0, v1, v2, v3, v4, v5, v6, v7, v8] (.int y :: .int x :: st) im rm = ev 135 261 [v0, v1, v2, v3, v4, v5, v6, v7, v8] (.int (x + y) :: st) (im) (rm) := ev_iadd pm_m135 d135_260 rfl
theorem d135_261 : decode prog_10_method_33_code 261 = .ok (.putfield 249, 3) := by decide +kernel
theorem s135_261 {v0 v1 v2 v3 v4 v5 v6 v7 v8 : Value} {a : Nat} {v : Int32} {st : List Value} {im : IM} {rm : RM} (hk : kd a = 18) : ev 135 261 [v0, v1, v2, v3, v4, v5, v6, v7, v8] (.int v :: .ref a :: st) im rm = ev 135 264 [v0, v1, v2, v3, v4, v5, v6, v7, v8] st (pm_w2 im a 42 v) (rm) := ev_putI pm_m135 d135_261 f8_249 rfl rfl hk rfl
theorem d135_264 : decode prog_10_method_33_code 264 = .ok (.aload_n 0, 1) := by decide +kernel
theorem s135_264 {v1 v2 v3 v4 v5 v6 v7 v8 : Value} {l1 : Nat} {st : List Value} {im : IM} {rm : RM}  : ev 135 264 [.ref l1, v1, v2, v3, v4, v5, v6, v7, v8] st im rm = ev 135 265 [.ref l1, v1, v2, v3, v4, v5, v6, v7, v8] (.ref l1 :: st) (im) (rm) := ev_aload_n pm_m135 d135_264 rfl rfl
theorem d135_265 : decode prog_10_method_33_code 265 = .ok (.dup, 1) := by decide +kernel
theorem s135_265 {v0 v1 v2 v3 v4 v5 v6 v7 v8 : Value} {x1 : Nat} {st : List Value} {im : IM} {rm : RM}  : ev 135 265 [v0, v1, v2, v3, v4, v5, v6, v7, v8] (.ref x1 :: st) im rm = ev 135 266 [v0, v1, v2, v3, v4, v5, v6, v7, v8] (.ref x1 :: .ref x1 :: st) (im) (rm) := ev_dupA pm_m135 d135_265 rfl
theorem d135_266 : decode prog_10_method_33_code 266 = .ok (.getfield 252, 3) := by decide +kernel
theorem s135_266 {v0 v1 v2 v3 v4 v5 v6 v7 v8 : Value} {a : Nat} {st : List Value} {im : IM} {rm : RM} (hk : kd a = 18) : ev 135 266 [v0, v1, v2, v3, v4, v5, v6, v7, v8] (.ref a :: st) im rm = ev 135 269 [v0, v1, v2, v3, v4, v5, v6, v7, v8] (.int (im a 43) :: st) (im) (rm) := ev_getI pm_m135 d135_266 f8_252 rfl hk rfl
theorem d135_269 : decode prog_10_method_33_code 269 = .ok (.aload_n 0, 1) := by decide +kernel
theorem s135_269 {v1 v2 v3 v4 v5 v6 v7 v8 : Value} {l1 : Nat} {st : List Value} {im : IM} {rm : RM}  : ev 135 269 [.ref l1, v1, v2, v3, v4, v5, v6, v7, v8] st im rm = ev 135 270 [.ref l1, v1, v2, v3, v4, v5, v6, v7, v8] (.ref l1 :: st) (im) (rm) := ev_aload_n pm_m135 d135_269 rfl rfl
theorem d135_270 : decode prog_10_method_33_code 270 = .ok (.getfield 106, 3) := by decide +kernel
theorem s135_270 {v0 v1 v2 v3 v4 v5 v6 v7 v8 : Value} {a : Nat} {st : List Value} {im : IM} {rm : RM} (hk : kd a = 18) : ev 135 270 [v0, v1, v2, v3, v4, v5, v6, v7, v8] (.ref a :: st) im rm = ev 135 273 [v0, v1, v2, v3, v4, v5, v6, v7, v8] (pm_ro (rm a 40) :: st) (im) (rm) := ev_getR pm_m135 d135_270 f8_106 rfl hk rfl
theorem d135_273 : decode prog_10_method_33_code 273 = .ok (.iload 5, 2) := by decide +kernel
theorem s135_273 {v0 v1 v2 v3 v4 v6 v7 v8 : Value} {l1 : Int32} {st : List Value} {im : IM} {rm : RM}  : ev 135 273 [v0, v1, v2, v3, v4, .int l1, v6, v7, v8] st im rm = ev 135 275 [v0, v1, v2, v3, v4, .int l1, v6, v7, v8] (.int l1 :: st) (im) (rm) := ev_iload pm_m135 d135_273 rfl rfl
theorem d135_275 : decode prog_10_method_33_code 275 = .ok (.iaload, 1) := by decide +kernel
theorem s135_275 {v0 v1 v2 v3 v4 v5 v6 v7 v8 : Value} {a : Nat} {i : Int32} {st : List Value} {im : IM} {rm : RM} (hk : kd a = 0) (hi : pm_in i (ln a) = true) : ev 135 275 [v0, v1, v2, v3, v4, v5, v6, v7, v8] (.int i :: .ref a :: st) im rm = ev 135 276 [v0, v1, v2, v3, v4, v5, v6, v7, v8] (.int (im a i.toNatClampNeg) :: st) (im) (rm) := ev_iald pm_m135 d135_275 hk hi rfl
theorem d135_276 : decode prog_10_method_33_code 276 = .ok (.iadd, 1) := by decide +kernel
theorem s135_276 {v0 v1 v2 v3 v4 v5 v6 v7 v8 : Value} {x : Int32} {y : Int32} {st : List Value} {im : IM} {rm : RM}  : ev 135 276 [v0, v1, v2, v3, v4, v5, v6, v7, v8] (.int y :: .int x :: st) im rm = ev 135 277 [v0, v1, v2, v3, v4, v5, v6, v7, v8] (.int (x + y) :: st) (im) (rm) := ev_iadd pm_m135 d135_276 rfl
theorem d135_277 : decode prog_10_method_33_code 277 = .ok (.putfield 252, 3) := by decide +kernel
theorem s135_277 {v0 v1 v2 v3 v4 v5 v6 v7 v8 : Value} {a : Nat} {v : Int32} {st : List Value} {im : IM} {rm : RM} (hk : kd a = 18) : ev 135 277 [v0, v1, v2, v3, v4, v5, v6, v7, v8] (.int v :: .ref a :: st) im rm = ev 135 280 [v0, v1, v2, v3, v4, v5, v6, v7, v8] st (pm_w2 im a 43 v) (rm) := ev_putI pm_m135 d135_277 f8_252 rfl rfl hk rfl
theorem d135_280 : decode prog_10_method_33_code 280 = .ok (.iinc 5 1, 3) := by decide +kernel
theorem s135_280 {v0 v1 v2 v3 v6 v7 v8 : Value} {l1 : Int32} {l2 : Int32} {st : List Value} {im : IM} {rm : RM}  : ev 135 280 [v0, v1, v2, v3, .int l1, .int l2, v6, v7, v8] st im rm = ev 135 283 [v0, v1, v2, v3, .int l1, .int (l2 + nI 1), v6, v7, v8] st (im) (rm) := ev_iinc pm_m135 d135_280 rfl rfl rfl rfl
theorem d135_283 : decode prog_10_method_33_code 283 = .ok (.goto (-250), 3) := by decide +kernel
theorem s135_283 {v0 v1 v2 v3 v4 v5 v6 v7 v8 : Value}  {st : List Value} {im : IM} {rm : RM}  : ev 135 283 [v0, v1, v2, v3, v4, v5, v6, v7, v8] st im rm = ev 135 33 [v0, v1, v2, v3, v4, v5, pm_u, pm_u, pm_u] st (im) (rm) := ev_goto pm_m135 d135_283 rfl rfl
theorem d135_286 : decode prog_10_method_33_code 286 = .ok (.return_, 1) := by decide +kernel
theorem s135_286 {v0 v1 v2 v3 v4 v5 v6 v7 v8 : Value} {im : IM} {rm : RM} : ev 135 286 [v0, v1, v2, v3, v4, v5, v6, v7, v8] [] im rm = some (none, im, rm) := ev_return pm_m135 d135_286 rfl
theorem d136_0 : decode prog_10_method_34_code 0 = .ok (.iload_n 1, 1) := by decide +kernel
theorem s136_0 {v0 v2 v3 v4 : Value} {l1 : Int32} {st : List Value} {im : IM} {rm : RM}  : ev 136 0 [v0, .int l1, v2, v3, v4] st im rm = ev 136 1 [v0, .int l1, v2, v3, v4] (.int l1 :: st) (im) (rm) := ev_iload_n pm_m136 d136_0 rfl rfl
theorem d136_1 : decode prog_10_method_34_code 1 = .ok (.invokestatic 130, 3) := by decide +kernel
theorem s136_1 {v0 v1 v2 v3 v4 : Value} {p1 : Int32} {im : IM} {rm : RM}  : ev 136 1 [v0, v1, v2, v3, v4] [.int p1] im rm = (ev 106 0 [.int p1] [] im rm).bind (fun r => ev 136 4 [v0, v1, v2, v3, v4] (r.1.toList ++ []) r.2.1 r.2.2) := ev_callS pm_m136 d136_1 (by decide) l8_130 rfl pm_m106 rfl ⟨rfl, rfl⟩ rfl rfl
theorem d136_4 : decode prog_10_method_34_code 4 = .ok (.ifCond .eq 12, 3) := by decide +kernel
theorem s136_4 {v0 v1 v2 v3 v4 : Value} {x : Int32} {st : List Value} {im : IM} {rm : RM} : ev 136 4 [v0, v1, v2, v3, v4] (.int x :: st) im rm = if x = nI 0 then ev 136 16 [pm_u, pm_u, pm_u, pm_u, pm_u] st im rm else ev 136 7 [v0, v1, v2, v3, v4] st im rm := ev_if_eq (y := 0) pm_m136 d136_4 rfl rfl rfl
theorem d136_7 : decode prog_10_method_34_code 7 = .ok (.aload_n 0, 1) := by decide +kernel
theorem s136_7 {v1 v2 v3 v4 : Value} {l1 : Nat} {st : List Value} {im : IM} {rm : RM}  : ev 136 7 [.ref l1, v1, v2, v3, v4] st im rm = ev 136 8 [.ref l1, v1, v2, v3, v4] (.ref l1 :: st) (im) (rm) := ev_aload_n pm_m136 d136_7 rfl rfl
theorem d136_8 : decode prog_10_method_34_code 8 = .ok (.iload_n 2, 1) := by decide +kernel
theorem s136_8 {v0 v1 v3 v4 : Value} {l1 : Int32} {st : List Value} {im : IM} {rm : RM}  : ev 136 8 [v0, v1, .int l1, v3, v4] st im rm = ev 136 9 [v0, v1, .int l1, v3, v4] (.int l1 :: st) (im) (rm) := ev_iload_n pm_m136 d136_8 rfl rfl
theorem d136_9 : decode prog_10_method_34_code 9 = .ok (.iload_n 3, 1) := by decide +kernel
theorem s136_9 {v0 v1 v2 v4 : Value} {l1 : Int32} {st : List Value} {im : IM} {rm : RM}  : ev 136 9 [v0, v1, v2, .int l1, v4] st im rm = ev 136 10 [v0, v1, v2, .int l1, v4] (.int l1 :: st) (im) (rm) := ev_iload_n pm_m136 d136_9 rfl rfl
theorem d136_10 : decode prog_10_method_34_code 10 = .ok (.invokevirtual 162, 3) := by decide +kernel
theorem s136_10 {v0 v1 v2 v3 v4 : Value} {a : Nat} {p1 : Int32} {p2 : Int32} {im : IM} {rm : RM} (hk : kd a = 18) : ev 136 10 [v0, v1, v2, v3, v4] [.int p2, .int p1, .ref a] im rm = (ev 108 0 [.ref a, .int p1, .int p2] [] im rm).bind (fun r => ev 136 13 [v0, v1, v2, v3, v4] (r.1.toList ++ []) r.2.1 r.2.2) := ev_callV pm_m136 d136_10 l8_162 rfl pm_m108 (by decide) hk rfl ⟨rfl, rfl⟩ rfl rfl
theorem d136_13 : decode prog_10_method_34_code 13 = .ok (.ifCond .ne 6, 3) := by decide +kernel
theorem s136_13 {v0 v1 v2 v3 v4 : Value} {x : Int32} {st : List Value} {im : IM} {rm : RM} : ev 136 13 [v0, v1, v2, v3, v4] (.int x :: st) im rm = if x = nI 0 then ev 136 16 [pm_u, pm_u, pm_u, pm_u, pm_u] st im rm else ev 136 19 [v0, v1, v2, v3, v4] st im rm := ev_if_ne (y := 0) pm_m136 d136_13 rfl rfl rfl
theorem d136_16 : decode prog_10_method_34_code 16 = .ok (.bipush (-2), 2) := by decide +kernel
theorem s136_16 {v0 v1 v2 v3 v4 : Value}  {st : List Value} {im : IM} {rm : RM}  : ev 136 16 [v0, v1, v2, v3, v4] st im rm = ev 136 18 [v0, v1, v2, v3, v4] (.int ((-2 : Int32)) :: st) (im) (rm) := ev_bipush pm_m136 d136_16 rfl rfl
theorem d136_18 : decode prog_10_method_34_code 18 = .ok (.ireturn, 1) := by decide +kernel
theorem s136_18 {v0 v1 v2 v3 v4 : Value} {x : Int32} {im : IM} {rm : RM} : ev 136 18 [v0, v1, v2, v3, v4] [.int x] im rm = some (some (.int x), im, rm) := ev_ireturn pm_m136 d136_18 rfl
theorem d136_19 : decode prog_10_method_34_code 19 = .ok (.iload 4, 2) := by decide +kernel
theorem s136_19 {v0 v1 v2 v3 : Value} {l1 : Int32} {st : List Value} {im : IM} {rm : RM}  : ev 136 19 [v0, v1, v2, v3, .int l1] st im rm = ev 136 21 [v0, v1, v2, v3, .int l1] (.int l1 :: st) (im) (rm) := ev_iload pm_m136 d136_19 rfl rfl
theorem d136_21 : decode prog_10_method_34_code 21 = .ok (.i2l, 1) := by decide +kernel
theorem s136_21 {v0 v1 v2 v3 v4 : Value} {x : Int32} {st : List Value} {im : IM} {rm : RM}  : ev 136 21 [v0, v1, v2, v3, v4] (.int x :: st) im rm = ev 136 22 [v0, v1, v2, v3, v4] (.long x.toInt64 :: st) (im) (rm) := ev_i2l pm_m136 d136_21 rfl
theorem d136_22 : decode prog_10_method_34_code 22 = .ok (.lconst 0, 1) := by decide +kernel
theorem s136_22 {v0 v1 v2 v3 v4 : Value}  {st : List Value} {im : IM} {rm : RM}  : ev 136 22 [v0, v1, v2, v3, v4] st im rm = ev 136 23 [v0, v1, v2, v3, v4] (.long (lN 0) :: st) (im) (rm) := ev_lconst pm_m136 d136_22 rfl rfl
theorem d136_23 : decode prog_10_method_34_code 23 = .ok (.ldc2_w 261, 3) := by decide +kernel
theorem s136_23 {v0 v1 v2 v3 v4 : Value}  {st : List Value} {im : IM} {rm : RM}  : ev 136 23 [v0, v1, v2, v3, v4] st im rm = ev 136 26 [v0, v1, v2, v3, v4] (.long (lN 4) :: st) (im) (rm) := ev_ldc2 pm_m136 d136_23 (by decide +kernel) rfl
theorem d136_26 : decode prog_10_method_34_code 26 = .ok (.invokestatic 120, 3) := by decide +kernel
theorem s136_26 {v0 v1 v2 v3 v4 : Value} {p1 : Int64} {p2 : Int64} {p3 : Int64} {im : IM} {rm : RM}  : ev 136 26 [v0, v1, v2, v3, v4] [.long p3, .long p2, .long p1] im rm = (ev 104 0 [.long p1, pm_u, .long p2, pm_u, .long p3, pm_u] [] im rm).bind (fun r => ev 136 29 [v0, v1, v2, v3, v4] (r.1.toList ++ []) r.2.1 r.2.2) := ev_callS pm_m136 d136_26 (by decide) l8_120 rfl pm_m104 rfl ⟨rfl, rfl⟩ rfl rfl
theorem d136_29 : decode prog_10_method_34_code 29 = .ok (.ifCond .ne 6, 3) := by decide +kernel
theorem s136_29 {v0 v1 v2 v3 v4 : Value} {x : Int32} {st : List Value} {im : IM} {rm : RM} : ev 136 29 [v0, v1, v2, v3, v4] (.int x :: st) im rm = if x = nI 0 then ev 136 32 [v0, v1, v2, v3, v4] st im rm else ev 136 35 [v0, v1, v2, v3, v4] st im rm := ev_if_ne (y := 0) pm_m136 d136_29 rfl rfl rfl
theorem d136_32 : decode prog_10_method_34_code 32 = .ok (.bipush (-3), 2) := by decide +kernel
theorem s136_32 {v0 v1 v2 v3 v4 : Value}  {st : List Value} {im : IM} {rm : RM}  : ev 136 32 [v0, v1, v2, v3, v4] st im rm = ev 136 34 [v0, v1, v2, v3, v4] (.int ((-3 : Int32)) :: st) (im) (rm) := ev_bipush pm_m136 d136_32 rfl rfl
theorem d136_34 : decode prog_10_method_34_code 34 = .ok (.ireturn, 1) := by decide +kernel
theorem s136_34 {v0 v1 v2 v3 v4 : Value} {x : Int32} {im : IM} {rm : RM} : ev 136 34 [v0, v1, v2, v3, v4] [.int x] im rm = some (some (.int x), im, rm) := ev_ireturn pm_m136 d136_34 rfl
theorem d136_35 : decode prog_10_method_34_code 35 = .ok (.aload_n 0, 1) := by decide +kernel
theorem s136_35 {v1 v2 v3 v4 : Value} {l1 : Nat} {st : List Value} {im : IM} {rm : RM}  : ev 136 35 [.ref l1, v1, v2, v3, v4] st im rm = ev 136 36 [.ref l1, v1, v2, v3, v4] (.ref l1 :: st) (im) (rm) := ev_aload_n pm_m136 d136_35 rfl rfl
theorem d136_36 : decode prog_10_method_34_code 36 = .ok (.iload_n 1, 1) := by decide +kernel
theorem s136_36 {v0 v2 v3 v4 : Value} {l1 : Int32} {st : List Value} {im : IM} {rm : RM}  : ev 136 36 [v0, .int l1, v2, v3, v4] st im rm = ev 136 37 [v0, .int l1, v2, v3, v4] (.int l1 :: st) (im) (rm) := ev_iload_n pm_m136 d136_36 rfl rfl
theorem d136_37 : decode prog_10_method_34_code 37 = .ok (.iload_n 2, 1) := by decide +kernel
theorem s136_37 {v0 v1 v3 v4 : Value} {l1 : Int32} {st : List Value} {im : IM} {rm : RM}  : ev 136 37 [v0, v1, .int l1, v3, v4] st im rm = ev 136 38 [v0, v1, .int l1, v3, v4] (.int l1 :: st) (im) (rm) := ev_iload_n pm_m136 d136_37 rfl rfl
theorem d136_38 : decode prog_10_method_34_code 38 = .ok (.invokevirtual 263, 3) := by decide +kernel
theorem s136_38 {v0 v1 v2 v3 v4 : Value} {a : Nat} {p1 : Int32} {p2 : Int32} {im : IM} {rm : RM} (hk : kd a = 18) : ev 136 38 [v0, v1, v2, v3, v4] [.int p2, .int p1, .ref a] im rm = (ev 135 0 [.ref a, .int p1, .int p2, pm_u, pm_u, pm_u, pm_u, pm_u, pm_u] [] im rm).bind (fun r => ev 136 41 [v0, v1, v2, v3, v4] (r.1.toList ++ []) r.2.1 r.2.2) := ev_callV pm_m136 d136_38 l8_263 rfl pm_m135 (by decide) hk rfl ⟨rfl, rfl⟩ rfl rfl
theorem d136_41 : decode prog_10_method_34_code 41 = .ok (.iload 4, 2) := by decide +kernel
theorem s136_41 {v0 v1 v2 v3 : Value} {l1 : Int32} {st : List Value} {im : IM} {rm : RM}  : ev 136 41 [v0, v1, v2, v3, .int l1] st im rm = ev 136 43 [v0, v1, v2, v3, .int l1] (.int l1 :: st) (im) (rm) := ev_iload pm_m136 d136_41 rfl rfl
theorem d136_43 : decode prog_10_method_34_code 43 = .ok (.ifCond .ne 13, 3) := by decide +kernel
theorem s136_43 {v0 v1 v2 v3 v4 : Value} {x : Int32} {st : List Value} {im : IM} {rm : RM} : ev 136 43 [v0, v1, v2, v3, v4] (.int x :: st) im rm = if x = nI 0 then ev 136 46 [v0, v1, v2, v3, v4] st im rm else ev 136 56 [v0, v1, v2, v3, v4] st im rm := ev_if_ne (y := 0) pm_m136 d136_43 rfl rfl rfl
theorem d136_46 : decode prog_10_method_34_code 46 = .ok (.aload_n 0, 1) := by decide +kernel
theorem s136_46 {v1 v2 v3 v4 : Value} {l1 : Nat} {st : List Value} {im : IM} {rm : RM}  : ev 136 46 [.ref l1, v1, v2, v3, v4] st im rm = ev 136 47 [.ref l1, v1, v2, v3, v4] (.ref l1 :: st) (im) (rm) := ev_aload_n pm_m136 d136_46 rfl rfl
theorem d136_47 : decode prog_10_method_34_code 47 = .ok (.iload_n 1, 1) := by decide +kernel
theorem s136_47 {v0 v2 v3 v4 : Value} {l1 : Int32} {st : List Value} {im : IM} {rm : RM}  : ev 136 47 [v0, .int l1, v2, v3, v4] st im rm = ev 136 48 [v0, .int l1, v2, v3, v4] (.int l1 :: st) (im) (rm) := ev_iload_n pm_m136 d136_47 rfl rfl
theorem d136_48 : decode prog_10_method_34_code 48 = .ok (.iload_n 2, 1) := by decide +kernel
theorem s136_48 {v0 v1 v3 v4 : Value} {l1 : Int32} {st : List Value} {im : IM} {rm : RM}  : ev 136 48 [v0, v1, .int l1, v3, v4] st im rm = ev 136 49 [v0, v1, .int l1, v3, v4] (.int l1 :: st) (im) (rm) := ev_iload_n pm_m136 d136_48 rfl rfl
theorem d136_49 : decode prog_10_method_34_code 49 = .ok (.iload_n 3, 1) := by decide +kernel
theorem s136_49 {v0 v1 v2 v4 : Value} {l1 : Int32} {st : List Value} {im : IM} {rm : RM}  : ev 136 49 [v0, v1, v2, .int l1, v4] st im rm = ev 136 50 [v0, v1, v2, .int l1, v4] (.int l1 :: st) (im) (rm) := ev_iload_n pm_m136 d136_49 rfl rfl
theorem d136_50 : decode prog_10_method_34_code 50 = .ok (.invokevirtual 258, 3) := by decide +kernel
theorem s136_50 {v0 v1 v2 v3 v4 : Value} {a : Nat} {p1 : Int32} {p2 : Int32} {p3 : Int32} {im : IM} {rm : RM} (hk : kd a = 18) : ev 136 50 [v0, v1, v2, v3, v4] [.int p3, .int p2, .int p1, .ref a] im rm = (ev 134 0 [.ref a, .int p1, .int p2, .int p3, pm_u] [] im rm).bind (fun r => ev 136 53 [v0, v1, v2, v3, v4] (r.1.toList ++ []) r.2.1 r.2.2) := ev_callV pm_m136 d136_50 l8_258 rfl pm_m134 (by decide) hk rfl ⟨rfl, rfl⟩ rfl rfl
theorem d136_53 : decode prog_10_method_34_code 53 = .ok (.goto 55, 3) := by decide +kernel
theorem s136_53 {v0 v1 v2 v3 v4 : Value}  {st : List Value} {im : IM} {rm : RM}  : ev 136 53 [v0, v1, v2, v3, v4] st im rm = ev 136 108 [pm_u, pm_u, pm_u, pm_u, pm_u] st (im) (rm) := ev_goto pm_m136 d136_53 rfl rfl
theorem d136_56 : decode prog_10_method_34_code 56 = .ok (.iload 4, 2) := by decide +kernel
theorem s136_56 {v0 v1 v2 v3 : Value} {l1 : Int32} {st : List Value} {im : IM} {rm : RM}  : ev 136 56 [v0, v1, v2, v3, .int l1] st im rm = ev 136 58 [v0, v1, v2, v3, .int l1] (.int l1 :: st) (im) (rm) := ev_iload pm_m136 d136_56 rfl rfl
theorem d136_58 : decode prog_10_method_34_code 58 = .ok (.iconst 1, 1) := by decide +kernel
theorem s136_58 {v0 v1 v2 v3 v4 : Value}  {st : List Value} {im : IM} {rm : RM}  : ev 136 58 [v0, v1, v2, v3, v4] st im rm = ev 136 59 [v0, v1, v2, v3, v4] (.int (nI 1) :: st) (im) (rm) := ev_iconst pm_m136 d136_58 rfl rfl
theorem d136_59 : decode prog_10_method_34_code 59 = .ok (.if_icmp .ne 13, 3) := by decide +kernel
theorem s136_59 {v0 v1 v2 v3 v4 : Value} {x : Int32} {y : Int32} {st : List Value} {im : IM} {rm : RM} : ev 136 59 [v0, v1, v2, v3, v4] (.int y :: .int x :: st) im rm = if x = y then ev 136 62 [v0, v1, v2, v3, v4] st im rm else ev 136 72 [v0, pm_u, pm_u, v3, v4] st im rm := ev_icmp_ne pm_m136 d136_59 rfl rfl rfl
theorem d136_62 : decode prog_10_method_34_code 62 = .ok (.aload_n 0, 1) := by decide +kernel
theorem s136_62 {v1 v2 v3 v4 : Value} {l1 : Nat} {st : List Value} {im : IM} {rm : RM}  : ev 136 62 [.ref l1, v1, v2, v3, v4] st im rm = ev 136 63 [.ref l1, v1, v2, v3, v4] (.ref l1 :: st) (im) (rm) := ev_aload_n pm_m136 d136_62 rfl rfl
theorem d136_63 : decode prog_10_method_34_code 63 = .ok (.iload_n 1, 1) := by decide +kernel
theorem s136_63 {v0 v2 v3 v4 : Value} {l1 : Int32} {st : List Value} {im : IM} {rm : RM}  : ev 136 63 [v0, .int l1, v2, v3, v4] st im rm = ev 136 64 [v0, .int l1, v2, v3, v4] (.int l1 :: st) (im) (rm) := ev_iload_n pm_m136 d136_63 rfl rfl
theorem d136_64 : decode prog_10_method_34_code 64 = .ok (.iload_n 2, 1) := by decide +kernel
theorem s136_64 {v0 v1 v3 v4 : Value} {l1 : Int32} {st : List Value} {im : IM} {rm : RM}  : ev 136 64 [v0, v1, .int l1, v3, v4] st im rm = ev 136 65 [v0, v1, .int l1, v3, v4] (.int l1 :: st) (im) (rm) := ev_iload_n pm_m136 d136_64 rfl rfl
theorem d136_65 : decode prog_10_method_34_code 65 = .ok (.iload_n 3, 1) := by decide +kernel
theorem s136_65 {v0 v1 v2 v4 : Value} {l1 : Int32} {st : List Value} {im : IM} {rm : RM}  : ev 136 65 [v0, v1, v2, .int l1, v4] st im rm = ev 136 66 [v0, v1, v2, .int l1, v4] (.int l1 :: st) (im) (rm) := ev_iload_n pm_m136 d136_65 rfl rfl
theorem d136_66 : decode prog_10_method_34_code 66 = .ok (.invokevirtual 243, 3) := by decide +kernel
theorem s136_66 {v0 v1 v2 v3 v4 : Value} {a : Nat} {p1 : Int32} {p2 : Int32} {p3 : Int32} {im : IM} {rm : RM} (hk : kd a = 18) : ev 136 66 [v0, v1, v2, v3, v4] [.int p3, .int p2, .int p1, .ref a] im rm = (ev 133 0 [.ref a, .int p1, .int p2, .int p3, pm_u, pm_u, pm_u, pm_u] [] im rm).bind (fun r => ev 136 69 [v0, v1, v2, v3, v4] (r.1.toList ++ []) r.2.1 r.2.2) := ev_callV pm_m136 d136_66 l8_243 rfl pm_m133 (by decide) hk rfl ⟨rfl, rfl⟩ rfl rfl
theorem d136_69 : decode prog_10_method_34_code 69 = .ok (.goto 39, 3) := by decide +kernel
theorem s136_69 {v0 v1 v2 v3 v4 : Value}  {st : List Value} {im : IM} {rm : RM}  : ev 136 69 [v0, v1, v2, v3, v4] st im rm = ev 136 108 [pm_u, pm_u, pm_u, pm_u, pm_u] st (im) (rm) := ev_goto pm_m136 d136_69 rfl rfl
theorem d136_72 : decode prog_10_method_34_code 72 = .ok (.iload 4, 2) := by decide +kernel
theorem s136_72 {v0 v1 v2 v3 : Value} {l1 : Int32} {st : List Value} {im : IM} {rm : RM}  : ev 136 72 [v0, v1, v2, v3, .int l1] st im rm = ev 136 74 [v0, v1, v2, v3, .int l1] (.int l1 :: st) (im) (rm) := ev_iload pm_m136 d136_72 rfl rfl
theorem d136_74 : decode prog_10_method_34_code 74 = .ok (.iconst 2, 1) := by decide +kernel
theorem s136_74 {v0 v1 v2 v3 v4 : Value}  {st : List Value} {im : IM} {rm : RM}  : ev 136 74 [v0, v1, v2, v3, v4] st im rm = ev 136 75 [v0, v1, v2, v3, v4] (.int (nI 2) :: st) (im) (rm) := ev_iconst pm_m136 d136_74 rfl rfl
theorem d136_75 : decode prog_10_method_34_code 75 = .ok (.if_icmp .ne 12, 3) := by decide +kernel
theorem s136_75 {v0 v1 v2 v3 v4 : Value} {x : Int32} {y : Int32} {st : List Value} {im : IM} {rm : RM} : ev 136 75 [v0, v1, v2, v3, v4] (.int y :: .int x :: st) im rm = if x = y then ev 136 78 [v0, v1, v2, v3, v4] st im rm else ev 136 87 [v0, pm_u, pm_u, v3, v4] st im rm := ev_icmp_ne pm_m136 d136_75 rfl rfl rfl
theorem d136_78 : decode prog_10_method_34_code 78 = .ok (.aload_n 0, 1) := by decide +kernel
theorem s136_78 {v1 v2 v3 v4 : Value} {l1 : Nat} {st : List Value} {im : IM} {rm : RM}  : ev 136 78 [.ref l1, v1, v2, v3, v4] st im rm = ev 136 79 [.ref l1, v1, v2, v3, v4] (.ref l1 :: st) (im) (rm) := ev_aload_n pm_m136 d136_78 rfl rfl
theorem d136_79 : decode prog_10_method_34_code 79 = .ok (.getfield 100, 3) := by decide +kernel
theorem s136_79 {v0 v1 v2 v3 v4 : Value} {a : Nat} {st : List Value} {im : IM} {rm : RM} (hk : kd a = 18) : ev 136 79 [v0, v1, v2, v3, v4] (.ref a :: st) im rm = ev 136 82 [v0, v1, v2, v3, v4] (pm_ro (rm a 38) :: st) (im) (rm) := ev_getR pm_m136 d136_79 f8_100 rfl hk rfl
theorem d136_82 : decode prog_10_method_34_code 82 = .ok (.iload_n 3, 1) := by decide +kernel
theorem s136_82 {v0 v1 v2 v4 : Value} {l1 : Int32} {st : List Value} {im : IM} {rm : RM}  : ev 136 82 [v0, v1, v2, .int l1, v4] st im rm = ev 136 83 [v0, v1, v2, .int l1, v4] (.int l1 :: st) (im) (rm) := ev_iload_n pm_m136 d136_82 rfl rfl
theorem d136_83 : decode prog_10_method_34_code 83 = .ok (.iaload, 1) := by decide +kernel
theorem s136_83 {v0 v1 v2 v3 v4 : Value} {a : Nat} {i : Int32} {st : List Value} {im : IM} {rm : RM} (hk : kd a = 0) (hi : pm_in i (ln a) = true) : ev 136 83 [v0, v1, v2, v3, v4] (.int i :: .ref a :: st) im rm = ev 136 84 [v0, v1, v2, v3, v4] (.int (im a i.toNatClampNeg) :: st) (im) (rm) := ev_iald pm_m136 d136_83 hk hi rfl
theorem d136_84 : decode prog_10_method_34_code 84 = .ok (.goto 24, 3) := by decide +kernel
theorem s136_84 {v0 v1 v2 v3 v4 : Value}  {st : List Value} {im : IM} {rm : RM}  : ev 136 84 [v0, v1, v2, v3, v4] st im rm = ev 136 108 [pm_u, pm_u, pm_u, pm_u, pm_u] st (im) (rm) := ev_goto pm_m136 d136_84 rfl rfl
theorem d136_87 : decode prog_10_method_34_code 87 = .ok (.iload 4, 2) := by decide +kernel
theorem s136_87 {v0 v1 v2 v3 : Value} {l1 : Int32} {st : List Value} {im : IM} {rm : RM}  : ev 136 87 [v0, v1, v2, v3, .int l1] st im rm = ev 136 89 [v0, v1, v2, v3, .int l1] (.int l1 :: st) (im) (rm) := ev_iload pm_m136 d136_87 rfl rfl
theorem d136_89 : decode prog_10_method_34_code 89 = .ok (.iconst 3, 1) := by decide +kernel
theorem s136_89 {v0 v1 v2 v3 v4 : Value}  {st : List Value} {im : IM} {rm : RM}  : ev 136 89 [v0, v1, v2, v3, v4] st im rm = ev 136 90 [v0, v1, v2, v3, v4] (.int (nI 3) :: st) (im) (rm) := ev_iconst pm_m136 d136_89 rfl rfl
theorem d136_90 : decode prog_10_method_34_code 90 = .ok (.if_icmp .ne 12, 3) := by decide +kernel
theorem s136_90 {v0 v1 v2 v3 v4 : Value} {x : Int32} {y : Int32} {st : List Value} {im : IM} {rm : RM} : ev 136 90 [v0, v1, v2, v3, v4] (.int y :: .int x :: st) im rm = if x = y then ev 136 93 [v0, v1, v2, v3, v4] st im rm else ev 136 102 [v0, pm_u, pm_u, v3, pm_u] st im rm := ev_icmp_ne pm_m136 d136_90 rfl rfl rfl
theorem d136_93 : decode prog_10_method_34_code 93 = .ok (.aload_n 0, 1) := by decide +kernel
theorem s136_93 {v1 v2 v3 v4 : Value} {l1 : Nat} {st : List Value} {im : IM} {rm : RM}  : ev 136 93 [.ref l1, v1, v2, v3, v4] st im rm = ev 136 94 [.ref l1, v1, v2, v3, v4] (.ref l1 :: st) (im) (rm) := ev_aload_n pm_m136 d136_93 rfl rfl
theorem d136_94 : decode prog_10_method_34_code 94 = .ok (.getfield 103, 3) := by decide +kernel
theorem s136_94 {v0 v1 v2 v3 v4 : Value} {a : Nat} {st : List Value} {im : IM} {rm : RM} (hk : kd a = 18) : ev 136 94 [v0, v1, v2, v3, v4] (.ref a :: st) im rm = ev 136 97 [v0, v1, v2, v3, v4] (pm_ro (rm a 39) :: st) (im) (rm) := ev_getR pm_m136 d136_94 f8_103 rfl hk rfl
theorem d136_97 : decode prog_10_method_34_code 97 = .ok (.iload_n 3, 1) := by decide +kernel
theorem s136_97 {v0 v1 v2 v4 : Value} {l1 : Int32} {st : List Value} {im : IM} {rm : RM}  : ev 136 97 [v0, v1, v2, .int l1, v4] st im rm = ev 136 98 [v0, v1, v2, .int l1, v4] (.int l1 :: st) (im) (rm) := ev_iload_n pm_m136 d136_97 rfl rfl
theorem d136_98 : decode prog_10_method_34_code 98 = .ok (.iaload, 1) := by decide +kernel
theorem s136_98 {v0 v1 v2 v3 v4 : Value} {a : Nat} {i : Int32} {st : List Value} {im : IM} {rm : RM} (hk : kd a = 0) (hi : pm_in i (ln a) = true) : ev 136 98 [v0, v1, v2, v3, v4] (.int i :: .ref a :: st) im rm = ev 136 99 [v0, v1, v2, v3, v4] (.int (im a i.toNatClampNeg) :: st) (im) (rm) := ev_iald pm_m136 d136_98 hk hi rfl
theorem d136_99 : decode prog_10_method_34_code 99 = .ok (.goto 9, 3) := by decide +kernel
theorem s136_99 {v0 v1 v2 v3 v4 : Value}  {st : List Value} {im : IM} {rm : RM}  : ev 136 99 [v0, v1, v2, v3, v4] st im rm = ev 136 108 [pm_u, pm_u, pm_u, pm_u, pm_u] st (im) (rm) := ev_goto pm_m136 d136_99 rfl rfl
theorem d136_102 : decode prog_10_method_34_code 102 = .ok (.aload_n 0, 1) := by decide +kernel
theorem s136_102 {v1 v2 v3 v4 : Value} {l1 : Nat} {st : List Value} {im : IM} {rm : RM}  : ev 136 102 [.ref l1, v1, v2, v3, v4] st im rm = ev 136 103 [.ref l1, v1, v2, v3, v4] (.ref l1 :: st) (im) (rm) := ev_aload_n pm_m136 d136_102 rfl rfl
theorem d136_103 : decode prog_10_method_34_code 103 = .ok (.getfield 106, 3) := by decide +kernel
theorem s136_103 {v0 v1 v2 v3 v4 : Value} {a : Nat} {st : List Value} {im : IM} {rm : RM} (hk : kd a = 18) : ev 136 103 [v0, v1, v2, v3, v4] (.ref a :: st) im rm = ev 136 106 [v0, v1, v2, v3, v4] (pm_ro (rm a 40) :: st) (im) (rm) := ev_getR pm_m136 d136_103 f8_106 rfl hk rfl
theorem d136_106 : decode prog_10_method_34_code 106 = .ok (.iload_n 3, 1) := by decide +kernel
theorem s136_106 {v0 v1 v2 v4 : Value} {l1 : Int32} {st : List Value} {im : IM} {rm : RM}  : ev 136 106 [v0, v1, v2, .int l1, v4] st im rm = ev 136 107 [v0, v1, v2, .int l1, v4] (.int l1 :: st) (im) (rm) := ev_iload_n pm_m136 d136_106 rfl rfl
theorem d136_107 : decode prog_10_method_34_code 107 = .ok (.iaload, 1) := by decide +kernel
theorem s136_107 {v0 v1 v2 v3 v4 : Value} {a : Nat} {i : Int32} {st : List Value} {im : IM} {rm : RM} (hk : kd a = 0) (hi : pm_in i (ln a) = true) : ev 136 107 [v0, v1, v2, v3, v4] (.int i :: .ref a :: st) im rm = ev 136 108 [pm_u, pm_u, pm_u, pm_u, pm_u] (.int (im a i.toNatClampNeg) :: st) (im) (rm) := ev_iald pm_m136 d136_107 hk hi rfl
theorem d136_108 : decode prog_10_method_34_code 108 = .ok (.ireturn, 1) := by decide +kernel
theorem s136_108 {v0 v1 v2 v3 v4 : Value} {x : Int32} {im : IM} {rm : RM} : ev 136 108 [v0, v1, v2, v3, v4] [.int x] im rm = some (some (.int x), im, rm) := ev_ireturn pm_m136 d136_108 rfl
theorem d137_0 : decode prog_10_method_35_code 0 = .ok (.iload_n 1, 1) := by decide +kernel
theorem s137_0 {v0 v2 v3 : Value} {l1 : Int32} {st : List Value} {im : IM} {rm : RM}  : ev 137 0 [v0, .int l1, v2, v3] st im rm = ev 137 1 [v0, .int l1, v2, v3] (.int l1 :: st) (im) (rm) := ev_iload_n pm_m137 d137_0 rfl rfl
theorem d137_1 : decode prog_10_method_35_code 1 = .ok (.invokestatic 130, 3) := by decide +kernel
theorem s137_1 {v0 v1 v2 v3 : Value} {p1 : Int32} {im : IM} {rm : RM}  : ev 137 1 [v0, v1, v2, v3] [.int p1] im rm = (ev 106 0 [.int p1] [] im rm).bind (fun r => ev 137 4 [v0, v1, v2, v3] (r.1.toList ++ []) r.2.1 r.2.2) := ev_callS pm_m137 d137_1 (by decide) l8_130 rfl pm_m106 rfl ⟨rfl, rfl⟩ rfl rfl
theorem d137_4 : decode prog_10_method_35_code 4 = .ok (.ifCond .eq 10, 3) := by decide +kernel
theorem s137_4 {v0 v1 v2 v3 : Value} {x : Int32} {st : List Value} {im : IM} {rm : RM} : ev 137 4 [v0, v1, v2, v3] (.int x :: st) im rm = if x = nI 0 then ev 137 14 [pm_u, pm_u, pm_u, pm_u] st im rm else ev 137 7 [v0, v1, v2, v3] st im rm := ev_if_eq (y := 0) pm_m137 d137_4 rfl rfl rfl
theorem d137_7 : decode prog_10_method_35_code 7 = .ok (.iload_n 2, 1) := by decide +kernel
theorem s137_7 {v0 v1 v3 : Value} {l1 : Int32} {st : List Value} {im : IM} {rm : RM}  : ev 137 7 [v0, v1, .int l1, v3] st im rm = ev 137 8 [v0, v1, .int l1, v3] (.int l1 :: st) (im) (rm) := ev_iload_n pm_m137 d137_7 rfl rfl
theorem d137_8 : decode prog_10_method_35_code 8 = .ok (.invokestatic 126, 3) := by decide +kernel
theorem s137_8 {v0 v1 v2 v3 : Value} {p1 : Int32} {im : IM} {rm : RM}  : ev 137 8 [v0, v1, v2, v3] [.int p1] im rm = (ev 105 0 [.int p1] [] im rm).bind (fun r => ev 137 11 [v0, v1, v2, v3] (r.1.toList ++ []) r.2.1 r.2.2) := ev_callS pm_m137 d137_8 (by decide) l8_126 rfl pm_m105 rfl ⟨rfl, rfl⟩ rfl rfl
theorem d137_11 : decode prog_10_method_35_code 11 = .ok (.ifCond .ne 6, 3) := by decide +kernel
theorem s137_11 {v0 v1 v2 v3 : Value} {x : Int32} {st : List Value} {im : IM} {rm : RM} : ev 137 11 [v0, v1, v2, v3] (.int x :: st) im rm = if x = nI 0 then ev 137 14 [pm_u, pm_u, pm_u, pm_u] st im rm else ev 137 17 [v0, v1, v2, v3] st im rm := ev_if_ne (y := 0) pm_m137 d137_11 rfl rfl rfl
theorem d137_14 : decode prog_10_method_35_code 14 = .ok (.bipush (-2), 2) := by decide +kernel
theorem s137_14 {v0 v1 v2 v3 : Value}  {st : List Value} {im : IM} {rm : RM}  : ev 137 14 [v0, v1, v2, v3] st im rm = ev 137 16 [v0, v1, v2, v3] (.int ((-2 : Int32)) :: st) (im) (rm) := ev_bipush pm_m137 d137_14 rfl rfl
theorem d137_16 : decode prog_10_method_35_code 16 = .ok (.ireturn, 1) := by decide +kernel
theorem s137_16 {v0 v1 v2 v3 : Value} {x : Int32} {im : IM} {rm : RM} : ev 137 16 [v0, v1, v2, v3] [.int x] im rm = some (some (.int x), im, rm) := ev_ireturn pm_m137 d137_16 rfl
theorem d137_17 : decode prog_10_method_35_code 17 = .ok (.iload_n 3, 1) := by decide +kernel
theorem s137_17 {v0 v1 v2 : Value} {l1 : Int32} {st : List Value} {im : IM} {rm : RM}  : ev 137 17 [v0, v1, v2, .int l1] st im rm = ev 137 18 [v0, v1, v2, .int l1] (.int l1 :: st) (im) (rm) := ev_iload_n pm_m137 d137_17 rfl rfl
theorem d137_18 : decode prog_10_method_35_code 18 = .ok (.i2l, 1) := by decide +kernel
theorem s137_18 {v0 v1 v2 v3 : Value} {x : Int32} {st : List Value} {im : IM} {rm : RM}  : ev 137 18 [v0, v1, v2, v3] (.int x :: st) im rm = ev 137 19 [v0, v1, v2, v3] (.long x.toInt64 :: st) (im) (rm) := ev_i2l pm_m137 d137_18 rfl
theorem d137_19 : decode prog_10_method_35_code 19 = .ok (.ldc2_w 267, 3) := by decide +kernel
theorem s137_19 {v0 v1 v2 v3 : Value}  {st : List Value} {im : IM} {rm : RM}  : ev 137 19 [v0, v1, v2, v3] st im rm = ev 137 22 [v0, v1, v2, v3] (.long (lN 2) :: st) (im) (rm) := ev_ldc2 pm_m137 d137_19 (by decide +kernel) rfl
theorem d137_22 : decode prog_10_method_35_code 22 = .ok (.ldc2_w 118, 3) := by decide +kernel
theorem s137_22 {v0 v1 v2 v3 : Value}  {st : List Value} {im : IM} {rm : RM}  : ev 137 22 [v0, v1, v2, v3] st im rm = ev 137 25 [v0, v1, v2, v3] (.long (lN 5) :: st) (im) (rm) := ev_ldc2 pm_m137 d137_22 (by decide +kernel) rfl
theorem d137_25 : decode prog_10_method_35_code 25 = .ok (.invokestatic 120, 3) := by decide +kernel
theorem s137_25 {v0 v1 v2 v3 : Value} {p1 : Int64} {p2 : Int64} {p3 : Int64} {im : IM} {rm : RM}  : ev 137 25 [v0, v1, v2, v3] [.long p3, .long p2, .long p1] im rm = (ev 104 0 [.long p1, pm_u, .long p2, pm_u, .long p3, pm_u] [] im rm).bind (fun r => ev 137 28 [v0, v1, v2, v3] (r.1.toList ++ []) r.2.1 r.2.2) := ev_callS pm_m137 d137_25 (by decide) l8_120 rfl pm_m104 rfl ⟨rfl, rfl⟩ rfl rfl
theorem d137_28 : decode prog_10_method_35_code 28 = .ok (.ifCond .ne 6, 3) := by decide +kernel
theorem s137_28 {v0 v1 v2 v3 : Value} {x : Int32} {st : List Value} {im : IM} {rm : RM} : ev 137 28 [v0, v1, v2, v3] (.int x :: st) im rm = if x = nI 0 then ev 137 31 [v0, v1, v2, v3] st im rm else ev 137 34 [v0, v1, v2, v3] st im rm := ev_if_ne (y := 0) pm_m137 d137_28 rfl rfl rfl
theorem d137_31 : decode prog_10_method_35_code 31 = .ok (.bipush (-3), 2) := by decide +kernel
theorem s137_31 {v0 v1 v2 v3 : Value}  {st : List Value} {im : IM} {rm : RM}  : ev 137 31 [v0, v1, v2, v3] st im rm = ev 137 33 [v0, v1, v2, v3] (.int ((-3 : Int32)) :: st) (im) (rm) := ev_bipush pm_m137 d137_31 rfl rfl
theorem d137_33 : decode prog_10_method_35_code 33 = .ok (.ireturn, 1) := by decide +kernel
theorem s137_33 {v0 v1 v2 v3 : Value} {x : Int32} {im : IM} {rm : RM} : ev 137 33 [v0, v1, v2, v3] [.int x] im rm = some (some (.int x), im, rm) := ev_ireturn pm_m137 d137_33 rfl
theorem d137_34 : decode prog_10_method_35_code 34 = .ok (.aload_n 0, 1) := by decide +kernel
theorem s137_34 {v1 v2 v3 : Value} {l1 : Nat} {st : List Value} {im : IM} {rm : RM}  : ev 137 34 [.ref l1, v1, v2, v3] st im rm = ev 137 35 [.ref l1, v1, v2, v3] (.ref l1 :: st) (im) (rm) := ev_aload_n pm_m137 d137_34 rfl rfl
theorem d137_35 : decode prog_10_method_35_code 35 = .ok (.iload_n 1, 1) := by decide +kernel
theorem s137_35 {v0 v2 v3 : Value} {l1 : Int32} {st : List Value} {im : IM} {rm : RM}  : ev 137 35 [v0, .int l1, v2, v3] st im rm = ev 137 36 [v0, .int l1, v2, v3] (.int l1 :: st) (im) (rm) := ev_iload_n pm_m137 d137_35 rfl rfl
theorem d137_36 : decode prog_10_method_35_code 36 = .ok (.iload_n 2, 1) := by decide +kernel
theorem s137_36 {v0 v1 v3 : Value} {l1 : Int32} {st : List Value} {im : IM} {rm : RM}  : ev 137 36 [v0, v1, .int l1, v3] st im rm = ev 137 37 [v0, v1, .int l1, v3] (.int l1 :: st) (im) (rm) := ev_iload_n pm_m137 d137_36 rfl rfl
theorem d137_37 : decode prog_10_method_35_code 37 = .ok (.invokevirtual 263, 3) := by decide +kernel
theorem s137_37 {v0 v1 v2 v3 : Value} {a : Nat} {p1 : Int32} {p2 : Int32} {im : IM} {rm : RM} (hk : kd a = 18) : ev 137 37 [v0, v1, v2, v3] [.int p2, .int p1, .ref a] im rm = (ev 135 0 [.ref a, .int p1, .int p2, pm_u, pm_u, pm_u, pm_u, pm_u, pm_u] [] im rm).bind (fun r => ev 137 40 [v0, v1, v2, v3] (r.1.toList ++ []) r.2.1 r.2.2) := ev_callV pm_m137 d137_37 l8_263 rfl pm_m135 (by decide) hk rfl ⟨rfl, rfl⟩ rfl rfl
theorem d137_40 : decode prog_10_method_35_code 40 = .ok (.iload_n 3, 1) := by decide +kernel
theorem s137_40 {v0 v1 v2 : Value} {l1 : Int32} {st : List Value} {im : IM} {rm : RM}  : ev 137 40 [v0, v1, v2, .int l1] st im rm = ev 137 41 [v0, v1, v2, .int l1] (.int l1 :: st) (im) (rm) := ev_iload_n pm_m137 d137_40 rfl rfl
theorem d137_41 : decode prog_10_method_35_code 41 = .ok (.iconst 2, 1) := by decide +kernel
theorem s137_41 {v0 v1 v2 v3 : Value}  {st : List Value} {im : IM} {rm : RM}  : ev 137 41 [v0, v1, v2, v3] st im rm = ev 137 42 [v0, v1, v2, v3] (.int (nI 2) :: st) (im) (rm) := ev_iconst pm_m137 d137_41 rfl rfl
theorem d137_42 : decode prog_10_method_35_code 42 = .ok (.if_icmp .ne 10, 3) := by decide +kernel
theorem s137_42 {v0 v1 v2 v3 : Value} {x : Int32} {y : Int32} {st : List Value} {im : IM} {rm : RM} : ev 137 42 [v0, v1, v2, v3] (.int y :: .int x :: st) im rm = if x = y then ev 137 45 [v0, v1, v2, v3] st im rm else ev 137 52 [v0, pm_u, pm_u, v3] st im rm := ev_icmp_ne pm_m137 d137_42 rfl rfl rfl
theorem d137_45 : decode prog_10_method_35_code 45 = .ok (.aload_n 0, 1) := by decide +kernel
theorem s137_45 {v1 v2 v3 : Value} {l1 : Nat} {st : List Value} {im : IM} {rm : RM}  : ev 137 45 [.ref l1, v1, v2, v3] st im rm = ev 137 46 [.ref l1, v1, v2, v3] (.ref l1 :: st) (im) (rm) := ev_aload_n pm_m137 d137_45 rfl rfl
theorem d137_46 : decode prog_10_method_35_code 46 = .ok (.getfield 246, 3) := by decide +kernel
theorem s137_46 {v0 v1 v2 v3 : Value} {a : Nat} {st : List Value} {im : IM} {rm : RM} (hk : kd a = 18) : ev 137 46 [v0, v1, v2, v3] (.ref a :: st) im rm = ev 137 49 [v0, v1, v2, v3] (.int (im a 41) :: st) (im) (rm) := ev_getI pm_m137 d137_46 f8_246 rfl hk rfl
theorem d137_49 : decode prog_10_method_35_code 49 = .ok (.goto 31, 3) := by decide +kernel
theorem s137_49 {v0 v1 v2 v3 : Value}  {st : List Value} {im : IM} {rm : RM}  : ev 137 49 [v0, v1, v2, v3] st im rm = ev 137 80 [pm_u, pm_u, pm_u, pm_u] st (im) (rm) := ev_goto pm_m137 d137_49 rfl rfl
theorem d137_52 : decode prog_10_method_35_code 52 = .ok (.iload_n 3, 1) := by decide +kernel
theorem s137_52 {v0 v1 v2 : Value} {l1 : Int32} {st : List Value} {im : IM} {rm : RM}  : ev 137 52 [v0, v1, v2, .int l1] st im rm = ev 137 53 [v0, v1, v2, .int l1] (.int l1 :: st) (im) (rm) := ev_iload_n pm_m137 d137_52 rfl rfl
theorem d137_53 : decode prog_10_method_35_code 53 = .ok (.iconst 3, 1) := by decide +kernel
theorem s137_53 {v0 v1 v2 v3 : Value}  {st : List Value} {im : IM} {rm : RM}  : ev 137 53 [v0, v1, v2, v3] st im rm = ev 137 54 [v0, v1, v2, v3] (.int (nI 3) :: st) (im) (rm) := ev_iconst pm_m137 d137_53 rfl rfl
theorem d137_54 : decode prog_10_method_35_code 54 = .ok (.if_icmp .ne 10, 3) := by decide +kernel
theorem s137_54 {v0 v1 v2 v3 : Value} {x : Int32} {y : Int32} {st : List Value} {im : IM} {rm : RM} : ev 137 54 [v0, v1, v2, v3] (.int y :: .int x :: st) im rm = if x = y then ev 137 57 [v0, v1, v2, v3] st im rm else ev 137 64 [v0, pm_u, pm_u, v3] st im rm := ev_icmp_ne pm_m137 d137_54 rfl rfl rfl
theorem d137_57 : decode prog_10_method_35_code 57 = .ok (.aload_n 0, 1) := by decide +kernel
theorem s137_57 {v1 v2 v3 : Value} {l1 : Nat} {st : List Value} {im : IM} {rm : RM}  : ev 137 57 [.ref l1, v1, v2, v3] st im rm = ev 137 58 [.ref l1, v1, v2, v3] (.ref l1 :: st) (im) (rm) := ev_aload_n pm_m137 d137_57 rfl rfl
theorem d137_58 : decode prog_10_method_35_code 58 = .ok (.getfield 249, 3) := by decide +kernel
theorem s137_58 {v0 v1 v2 v3 : Value} {a : Nat} {st : List Value} {im : IM} {rm : RM} (hk : kd a = 18) : ev 137 58 [v0, v1, v2, v3] (.ref a :: st) im rm = ev 137 61 [v0, v1, v2, v3] (.int (im a 42) :: st) (im) (rm) := ev_getI pm_m137 d137_58 f8_249 rfl hk rfl
theorem d137_61 : decode prog_10_method_35_code 61 = .ok (.goto 19, 3) := by decide +kernel
theorem s137_61 {v0 v1 v2 v3 : Value}  {st : List Value} {im : IM} {rm : RM}  : ev 137 61 [v0, v1, v2, v3] st im rm = ev 137 80 [pm_u, pm_u, pm_u, pm_u] st (im) (rm) := ev_goto pm_m137 d137_61 rfl rfl
theorem d137_64 : decode prog_10_method_35_code 64 = .ok (.iload_n 3, 1) := by decide +kernel
theorem s137_64 {v0 v1 v2 : Value} {l1 : Int32} {st : List Value} {im : IM} {rm : RM}  : ev 137 64 [v0, v1, v2, .int l1] st im rm = ev 137 65 [v0, v1, v2, .int l1] (.int l1 :: st) (im) (rm) := ev_iload_n pm_m137 d137_64 rfl rfl
theorem d137_65 : decode prog_10_method_35_code 65 = .ok (.iconst 4, 1) := by decide +kernel
theorem s137_65 {v0 v1 v2 v3 : Value}  {st : List Value} {im : IM} {rm : RM}  : ev 137 65 [v0, v1, v2, v3] st im rm = ev 137 66 [v0, v1, v2, v3] (.int (nI 4) :: st) (im) (rm) := ev_iconst pm_m137 d137_65 rfl rfl
theorem d137_66 : decode prog_10_method_35_code 66 = .ok (.if_icmp .ne 10, 3) := by decide +kernel
theorem s137_66 {v0 v1 v2 v3 : Value} {x : Int32} {y : Int32} {st : List Value} {im : IM} {rm : RM} : ev 137 66 [v0, v1, v2, v3] (.int y :: .int x :: st) im rm = if x = y then ev 137 69 [v0, v1, v2, v3] st im rm else ev 137 76 [v0, pm_u, pm_u, pm_u] st im rm := ev_icmp_ne pm_m137 d137_66 rfl rfl rfl
theorem d137_69 : decode prog_10_method_35_code 69 = .ok (.aload_n 0, 1) := by decide +kernel
theorem s137_69 {v1 v2 v3 : Value} {l1 : Nat} {st : List Value} {im : IM} {rm : RM}  : ev 137 69 [.ref l1, v1, v2, v3] st im rm = ev 137 70 [.ref l1, v1, v2, v3] (.ref l1 :: st) (im) (rm) := ev_aload_n pm_m137 d137_69 rfl rfl
theorem d137_70 : decode prog_10_method_35_code 70 = .ok (.getfield 252, 3) := by decide +kernel
theorem s137_70 {v0 v1 v2 v3 : Value} {a : Nat} {st : List Value} {im : IM} {rm : RM} (hk : kd a = 18) : ev 137 70 [v0, v1, v2, v3] (.ref a :: st) im rm = ev 137 73 [v0, v1, v2, v3] (.int (im a 43) :: st) (im) (rm) := ev_getI pm_m137 d137_70 f8_252 rfl hk rfl
theorem d137_73 : decode prog_10_method_35_code 73 = .ok (.goto 7, 3) := by decide +kernel
theorem s137_73 {v0 v1 v2 v3 : Value}  {st : List Value} {im : IM} {rm : RM}  : ev 137 73 [v0, v1, v2, v3] st im rm = ev 137 80 [pm_u, pm_u, pm_u, pm_u] st (im) (rm) := ev_goto pm_m137 d137_73 rfl rfl
theorem d137_76 : decode prog_10_method_35_code 76 = .ok (.aload_n 0, 1) := by decide +kernel
theorem s137_76 {v1 v2 v3 : Value} {l1 : Nat} {st : List Value} {im : IM} {rm : RM}  : ev 137 76 [.ref l1, v1, v2, v3] st im rm = ev 137 77 [.ref l1, v1, v2, v3] (.ref l1 :: st) (im) (rm) := ev_aload_n pm_m137 d137_76 rfl rfl
theorem d137_77 : decode prog_10_method_35_code 77 = .ok (.getfield 255, 3) := by decide +kernel
theorem s137_77 {v0 v1 v2 v3 : Value} {a : Nat} {st : List Value} {im : IM} {rm : RM} (hk : kd a = 18) : ev 137 77 [v0, v1, v2, v3] (.ref a :: st) im rm = ev 137 80 [pm_u, pm_u, pm_u, pm_u] (.int (im a 44) :: st) (im) (rm) := ev_getI pm_m137 d137_77 f8_255 rfl hk rfl
theorem d137_80 : decode prog_10_method_35_code 80 = .ok (.ireturn, 1) := by decide +kernel
theorem s137_80 {v0 v1 v2 v3 : Value} {x : Int32} {im : IM} {rm : RM} : ev 137 80 [v0, v1, v2, v3] [.int x] im rm = some (some (.int x), im, rm) := ev_ireturn pm_m137 d137_80 rfl
theorem d138_0 : decode prog_10_method_36_code 0 = .ok (.ldc_w 269, 3) := by decide +kernel
theorem s138_0 {v0 v1 v2 v3 v4 v5 v6 : Value}  {st : List Value} {im : IM} {rm : RM}  : ev 138 0 [v0, v1, v2, v3, v4, v5, v6] st im rm = ev 138 3 [v0, v1, v2, v3, v4, v5, v6] (.int (nI 268435456) :: st) (im) (rm) := ev_ldcw pm_m138 d138_0 (by decide +kernel) rfl
theorem d138_3 : decode prog_10_method_36_code 3 = .ok (.istore_n 2, 1) := by decide +kernel
theorem s138_3 {v0 v2 v3 v4 v5 v6 : Value} {l1 : Int32} {x2 : Int32} {st : List Value} {im : IM} {rm : RM}  : ev 138 3 [v0, .int l1, v2, v3, v4, v5, v6] (.int x2 :: st) im rm = ev 138 4 [v0, .int l1, .int x2, v3, v4, v5, v6] st (im) (rm) := ev_istore_n pm_m138 d138_3 (Nat.le_of_ble_eq_true rfl) rfl rfl
theorem d138_4 : decode prog_10_method_36_code 4 = .ok (.iconst (-1), 1) := by decide +kernel
theorem s138_4 {v0 v1 v2 v3 v4 v5 v6 : Value}  {st : List Value} {im : IM} {rm : RM}  : ev 138 4 [v0, v1, v2, v3, v4, v5, v6] st im rm = ev 138 5 [v0, v1, v2, v3, v4, v5, v6] (.int ((-1 : Int32)) :: st) (im) (rm) := ev_iconst pm_m138 d138_4 rfl rfl
theorem d138_5 : decode prog_10_method_36_code 5 = .ok (.istore_n 3, 1) := by decide +kernel
theorem s138_5 {v0 v1 v3 v4 v5 v6 : Value} {l1 : Int32} {x2 : Int32} {st : List Value} {im : IM} {rm : RM}  : ev 138 5 [v0, v1, .int l1, v3, v4, v5, v6] (.int x2 :: st) im rm = ev 138 6 [v0, v1, .int l1, .int x2, v4, v5, v6] st (im) (rm) := ev_istore_n pm_m138 d138_5 (Nat.le_of_ble_eq_true rfl) rfl rfl
theorem d138_6 : decode prog_10_method_36_code 6 = .ok (.iconst 0, 1) := by decide +kernel
theorem s138_6 {v0 v1 v2 v3 v4 v5 v6 : Value}  {st : List Value} {im : IM} {rm : RM}  : ev 138 6 [v0, v1, v2, v3, v4, v5, v6] st im rm = ev 138 7 [v0, v1, v2, v3, v4, v5, v6] (.int (nI 0) :: st) (im) (rm) := ev_iconst pm_m138 d138_6 rfl rfl
theorem d138_7 : decode prog_10_method_36_code 7 = .ok (.istore 4, 2) := by decide +kernel
theorem s138_7 {v0 v1 v2 v4 v5 v6 : Value} {l1 : Int32} {x2 : Int32} {st : List Value} {im : IM} {rm : RM}  : ev 138 7 [v0, v1, v2, .int l1, v4, v5, v6] (.int x2 :: st) im rm = ev 138 9 [v0, v1, v2, .int l1, .int x2, pm_u, pm_u] st (im) (rm) := ev_istore pm_m138 d138_7 (Nat.le_of_ble_eq_true rfl) rfl rfl
theorem d138_9 : decode prog_10_method_36_code 9 = .ok (.iload 4, 2) := by decide +kernel
theorem s138_9 {v0 v1 v2 v3 v5 v6 : Value} {l1 : Int32} {st : List Value} {im : IM} {rm : RM}  : ev 138 9 [v0, v1, v2, v3, .int l1, v5, v6] st im rm = ev 138 11 [v0, v1, v2, v3, .int l1, v5, v6] (.int l1 :: st) (im) (rm) := ev_iload pm_m138 d138_9 rfl rfl
theorem d138_11 : decode prog_10_method_36_code 11 = .ok (.bipush 6, 2) := by decide +kernel
theorem s138_11 {v0 v1 v2 v3 v4 v5 v6 : Value}  {st : List Value} {im : IM} {rm : RM}  : ev 138 11 [v0, v1, v2, v3, v4, v5, v6] st im rm = ev 138 13 [v0, v1, v2, v3, v4, v5, v6] (.int (nI 6) :: st) (im) (rm) := ev_bipush pm_m138 d138_11 rfl rfl
theorem d138_13 : decode prog_10_method_36_code 13 = .ok (.if_icmp .ge 79, 3) := by decide +kernel
theorem s138_13 {v0 v1 v2 v3 v4 v5 v6 : Value} {x : Int32} {y : Int32} {st : List Value} {im : IM} {rm : RM} : ev 138 13 [v0, v1, v2, v3, v4, v5, v6] (.int y :: .int x :: st) im rm = if y ≤ x then ev 138 92 [pm_u, v1, v2, v3, pm_u, pm_u, pm_u] st im rm else ev 138 16 [v0, v1, v2, v3, v4, v5, v6] st im rm := ev_icmp_ge pm_m138 d138_13 rfl rfl rfl
theorem d138_16 : decode prog_10_method_36_code 16 = .ok (.iconst 0, 1) := by decide +kernel
theorem s138_16 {v0 v1 v2 v3 v4 v5 v6 : Value}  {st : List Value} {im : IM} {rm : RM}  : ev 138 16 [v0, v1, v2, v3, v4, v5, v6] st im rm = ev 138 17 [v0, v1, v2, v3, v4, v5, v6] (.int (nI 0) :: st) (im) (rm) := ev_iconst pm_m138 d138_16 rfl rfl
theorem d138_17 : decode prog_10_method_36_code 17 = .ok (.istore 5, 2) := by decide +kernel
theorem s138_17 {v0 v1 v2 v3 v5 v6 : Value} {l1 : Int32} {x2 : Int32} {st : List Value} {im : IM} {rm : RM}  : ev 138 17 [v0, v1, v2, v3, .int l1, v5, v6] (.int x2 :: st) im rm = ev 138 19 [v0, v1, v2, v3, .int l1, .int x2, pm_u] st (im) (rm) := ev_istore pm_m138 d138_17 (Nat.le_of_ble_eq_true rfl) rfl rfl
theorem d138_19 : decode prog_10_method_36_code 19 = .ok (.iload 5, 2) := by decide +kernel
theorem s138_19 {v0 v1 v2 v3 v4 v6 : Value} {l1 : Int32} {st : List Value} {im : IM} {rm : RM}  : ev 138 19 [v0, v1, v2, v3, v4, .int l1, v6] st im rm = ev 138 21 [v0, v1, v2, v3, v4, .int l1, v6] (.int l1 :: st) (im) (rm) := ev_iload pm_m138 d138_19 rfl rfl
theorem d138_21 : decode prog_10_method_36_code 21 = .ok (.aload_n 0, 1) := by decide +kernel
theorem s138_21 {v1 v2 v3 v4 v5 v6 : Value} {l1 : Nat} {st : List Value} {im : IM} {rm : RM}  : ev 138 21 [.ref l1, v1, v2, v3, v4, v5, v6] st im rm = ev 138 22 [.ref l1, v1, v2, v3, v4, v5, v6] (.ref l1 :: st) (im) (rm) := ev_aload_n pm_m138 d138_21 rfl rfl
theorem d138_22 : decode prog_10_method_36_code 22 = .ok (.getfield 16, 3) := by decide +kernel
theorem s138_22 {v0 v1 v2 v3 v4 v5 v6 : Value} {a : Nat} {st : List Value} {im : IM} {rm : RM} (hk : kd a = 18) : ev 138 22 [v0, v1, v2, v3, v4, v5, v6] (.ref a :: st) im rm = ev 138 25 [v0, v1, v2, v3, v4, v5, v6] (pm_ro (rm a 2) :: st) (im) (rm) := ev_getR pm_m138 d138_22 f8_16 rfl hk rfl
theorem d138_25 : decode prog_10_method_36_code 25 = .ok (.iload 4, 2) := by decide +kernel
theorem s138_25 {v0 v1 v2 v3 v5 v6 : Value} {l1 : Int32} {st : List Value} {im : IM} {rm : RM}  : ev 138 25 [v0, v1, v2, v3, .int l1, v5, v6] st im rm = ev 138 27 [v0, v1, v2, v3, .int l1, v5, v6] (.int l1 :: st) (im) (rm) := ev_iload pm_m138 d138_25 rfl rfl
theorem d138_27 : decode prog_10_method_36_code 27 = .ok (.iaload, 1) := by decide +kernel
theorem s138_27 {v0 v1 v2 v3 v4 v5 v6 : Value} {a : Nat} {i : Int32} {st : List Value} {im : IM} {rm : RM} (hk : kd a = 0) (hi : pm_in i (ln a) = true) : ev 138 27 [v0, v1, v2, v3, v4, v5, v6] (.int i :: .ref a :: st) im rm = ev 138 28 [v0, v1, v2, v3, v4, v5, v6] (.int (im a i.toNatClampNeg) :: st) (im) (rm) := ev_iald pm_m138 d138_27 hk hi rfl
theorem d138_28 : decode prog_10_method_36_code 28 = .ok (.if_icmp .ge 58, 3) := by decide +kernel
theorem s138_28 {v0 v1 v2 v3 v4 v5 v6 : Value} {x : Int32} {y : Int32} {st : List Value} {im : IM} {rm : RM} : ev 138 28 [v0, v1, v2, v3, v4, v5, v6] (.int y :: .int x :: st) im rm = if y ≤ x then ev 138 86 [v0, v1, v2, v3, v4, pm_u, pm_u] st im rm else ev 138 31 [v0, v1, v2, v3, v4, v5, v6] st im rm := ev_icmp_ge pm_m138 d138_28 rfl rfl rfl
theorem d138_31 : decode prog_10_method_36_code 31 = .ok (.aload_n 0, 1) := by decide +kernel
theorem s138_31 {v1 v2 v3 v4 v5 v6 : Value} {l1 : Nat} {st : List Value} {im : IM} {rm : RM}  : ev 138 31 [.ref l1, v1, v2, v3, v4, v5, v6] st im rm = ev 138 32 [.ref l1, v1, v2, v3, v4, v5, v6] (.ref l1 :: st) (im) (rm) := ev_aload_n pm_m138 d138_31 rfl rfl
theorem d138_32 : decode prog_10_method_36_code 32 = .ok (.getfield 7, 3) := by decide +kernel
theorem s138_32 {v0 v1 v2 v3 v4 v5 v6 : Value} {a : Nat} {st : List Value} {im : IM} {rm : RM} (hk : kd a = 18) : ev 138 32 [v0, v1, v2, v3, v4, v5, v6] (.ref a :: st) im rm = ev 138 35 [v0, v1, v2, v3, v4, v5, v6] (pm_ro (rm a 0) :: st) (im) (rm) := ev_getR pm_m138 d138_32 f8_7 rfl hk rfl
theorem d138_35 : decode prog_10_method_36_code 35 = .ok (.iload 4, 2) := by decide +kernel
theorem s138_35 {v0 v1 v2 v3 v5 v6 : Value} {l1 : Int32} {st : List Value} {im : IM} {rm : RM}  : ev 138 35 [v0, v1, v2, v3, .int l1, v5, v6] st im rm = ev 138 37 [v0, v1, v2, v3, .int l1, v5, v6] (.int l1 :: st) (im) (rm) := ev_iload pm_m138 d138_35 rfl rfl
theorem d138_37 : decode prog_10_method_36_code 37 = .ok (.iaload, 1) := by decide +kernel
theorem s138_37 {v0 v1 v2 v3 v4 v5 v6 : Value} {a : Nat} {i : Int32} {st : List Value} {im : IM} {rm : RM} (hk : kd a = 0) (hi : pm_in i (ln a) = true) : ev 138 37 [v0, v1, v2, v3, v4, v5, v6] (.int i :: .ref a :: st) im rm = ev 138 38 [v0, v1, v2, v3, v4, v5, v6] (.int (im a i.toNatClampNeg) :: st) (im) (rm) := ev_iald pm_m138 d138_37 hk hi rfl
theorem d138_38 : decode prog_10_method_36_code 38 = .ok (.ifCond .ne 48, 3) := by decide +kernel
theorem s138_38 {v0 v1 v2 v3 v4 v5 v6 : Value} {x : Int32} {st : List Value} {im : IM} {rm : RM} : ev 138 38 [v0, v1, v2, v3, v4, v5, v6] (.int x :: st) im rm = if x = nI 0 then ev 138 41 [v0, v1, v2, v3, v4, v5, v6] st im rm else ev 138 86 [v0, v1, v2, v3, v4, pm_u, pm_u] st im rm := ev_if_ne (y := 0) pm_m138 d138_38 rfl rfl rfl
theorem d138_41 : decode prog_10_method_36_code 41 = .ok (.aload_n 0, 1) := by decide +kernel
theorem s138_41 {v1 v2 v3 v4 v5 v6 : Value} {l1 : Nat} {st : List Value} {im : IM} {rm : RM}  : ev 138 41 [.ref l1, v1, v2, v3, v4, v5, v6] st im rm = ev 138 42 [.ref l1, v1, v2, v3, v4, v5, v6] (.ref l1 :: st) (im) (rm) := ev_aload_n pm_m138 d138_41 rfl rfl
theorem d138_42 : decode prog_10_method_36_code 42 = .ok (.iload 4, 2) := by decide +kernel
theorem s138_42 {v0 v1 v2 v3 v5 v6 : Value} {l1 : Int32} {st : List Value} {im : IM} {rm : RM}  : ev 138 42 [v0, v1, v2, v3, .int l1, v5, v6] st im rm = ev 138 44 [v0, v1, v2, v3, .int l1, v5, v6] (.int l1 :: st) (im) (rm) := ev_iload pm_m138 d138_42 rfl rfl
theorem d138_44 : decode prog_10_method_36_code 44 = .ok (.iload 5, 2) := by decide +kernel
theorem s138_44 {v0 v1 v2 v3 v4 v6 : Value} {l1 : Int32} {st : List Value} {im : IM} {rm : RM}  : ev 138 44 [v0, v1, v2, v3, v4, .int l1, v6] st im rm = ev 138 46 [v0, v1, v2, v3, v4, .int l1, v6] (.int l1 :: st) (im) (rm) := ev_iload pm_m138 d138_44 rfl rfl
theorem d138_46 : decode prog_10_method_36_code 46 = .ok (.iload_n 1, 1) := by decide +kernel
theorem s138_46 {v0 v2 v3 v4 v5 v6 : Value} {l1 : Int32} {st : List Value} {im : IM} {rm : RM}  : ev 138 46 [v0, .int l1, v2, v3, v4, v5, v6] st im rm = ev 138 47 [v0, .int l1, v2, v3, v4, v5, v6] (.int l1 :: st) (im) (rm) := ev_iload_n pm_m138 d138_46 rfl rfl
theorem d138_47 : decode prog_10_method_36_code 47 = .ok (.iconst 2, 1) := by decide +kernel
theorem s138_47 {v0 v1 v2 v3 v4 v5 v6 : Value}  {st : List Value} {im : IM} {rm : RM}  : ev 138 47 [v0, v1, v2, v3, v4, v5, v6] st im rm = ev 138 48 [v0, v1, v2, v3, v4, v5, v6] (.int (nI 2) :: st) (im) (rm) := ev_iconst pm_m138 d138_47 rfl rfl
theorem d138_48 : decode prog_10_method_36_code 48 = .ok (.idiv, 1) := by decide +kernel
theorem s138_48 {v0 v1 v2 v3 v4 v5 v6 : Value} {x : Int32} {y : Int32} {st : List Value} {im : IM} {rm : RM} (h0 : ¬ y = 0) : ev 138 48 [v0, v1, v2, v3, v4, v5, v6] (.int y :: .int x :: st) im rm = ev 138 49 [v0, v1, v2, v3, v4, v5, v6] (.int (x / y) :: st) (im) (rm) := ev_idiv pm_m138 d138_48 h0 rfl
theorem d138_49 : decode prog_10_method_36_code 49 = .ok (.invokevirtual 168, 3) := by decide +kernel
theorem s138_49 {v0 v1 v2 v3 v4 v5 v6 : Value} {a : Nat} {p1 : Int32} {p2 : Int32} {p3 : Int32} {im : IM} {rm : RM} (hk : kd a = 18) : ev 138 49 [v0, v1, v2, v3, v4, v5, v6] [.int p3, .int p2, .int p1, .ref a] im rm = (ev 115 0 [.ref a, .int p1, .int p2, .int p3, pm_u, pm_u, pm_u] [] im rm).bind (fun r => ev 138 52 [v0, v1, v2, v3, v4, v5, v6] (r.1.toList ++ []) r.2.1 r.2.2) := ev_callV pm_m138 d138_49 l8_168 rfl pm_m115 (by decide) hk rfl ⟨rfl, rfl⟩ rfl rfl
theorem d138_52 : decode prog_10_method_36_code 52 = .ok (.istore 6, 2) := by decide +kernel
theorem s138_52 {v0 v1 v2 v3 v4 v6 : Value} {l1 : Int32} {x2 : Int32} {st : List Value} {im : IM} {rm : RM}  : ev 138 52 [v0, v1, v2, v3, v4, .int l1, v6] (.int x2 :: st) im rm = ev 138 54 [v0, v1, v2, v3, v4, .int l1, .int x2] st (im) (rm) := ev_istore pm_m138 d138_52 (Nat.le_of_ble_eq_true rfl) rfl rfl
theorem d138_54 : decode prog_10_method_36_code 54 = .ok (.iload 6, 2) := by decide +kernel
theorem s138_54 {v0 v1 v2 v3 v4 v5 : Value} {l1 : Int32} {st : List Value} {im : IM} {rm : RM}  : ev 138 54 [v0, v1, v2, v3, v4, v5, .int l1] st im rm = ev 138 56 [v0, v1, v2, v3, v4, v5, .int l1] (.int l1 :: st) (im) (rm) := ev_iload pm_m138 d138_54 rfl rfl
theorem d138_56 : decode prog_10_method_36_code 56 = .ok (.iload_n 2, 1) := by decide +kernel
theorem s138_56 {v0 v1 v3 v4 v5 v6 : Value} {l1 : Int32} {st : List Value} {im : IM} {rm : RM}  : ev 138 56 [v0, v1, .int l1, v3, v4, v5, v6] st im rm = ev 138 57 [v0, v1, .int l1, v3, v4, v5, v6] (.int l1 :: st) (im) (rm) := ev_iload_n pm_m138 d138_56 rfl rfl
theorem d138_57 : decode prog_10_method_36_code 57 = .ok (.if_icmp .ge 8, 3) := by decide +kernel
theorem s138_57 {v0 v1 v2 v3 v4 v5 v6 : Value} {x : Int32} {y : Int32} {st : List Value} {im : IM} {rm : RM} : ev 138 57 [v0, v1, v2, v3, v4, v5, v6] (.int y :: .int x :: st) im rm = if y ≤ x then ev 138 65 [v0, v1, v2, v3, v4, v5, v6] st im rm else ev 138 60 [v0, v1, v2, v3, v4, v5, v6] st im rm := ev_icmp_ge pm_m138 d138_57 rfl rfl rfl
theorem d138_60 : decode prog_10_method_36_code 60 = .ok (.iload 6, 2) := by decide +kernel
theorem s138_60 {v0 v1 v2 v3 v4 v5 : Value} {l1 : Int32} {st : List Value} {im : IM} {rm : RM}  : ev 138 60 [v0, v1, v2, v3, v4, v5, .int l1] st im rm = ev 138 62 [v0, v1, v2, v3, v4, v5, .int l1] (.int l1 :: st) (im) (rm) := ev_iload pm_m138 d138_60 rfl rfl
theorem d138_62 : decode prog_10_method_36_code 62 = .ok (.goto 4, 3) := by decide +kernel
theorem s138_62 {v0 v1 v2 v3 v4 v5 v6 : Value}  {st : List Value} {im : IM} {rm : RM}  : ev 138 62 [v0, v1, v2, v3, v4, v5, v6] st im rm = ev 138 66 [v0, v1, pm_u, v3, v4, v5, v6] st (im) (rm) := ev_goto pm_m138 d138_62 rfl rfl
theorem d138_65 : decode prog_10_method_36_code 65 = .ok (.iload_n 2, 1) := by decide +kernel
theorem s138_65 {v0 v1 v3 v4 v5 v6 : Value} {l1 : Int32} {st : List Value} {im : IM} {rm : RM}  : ev 138 65 [v0, v1, .int l1, v3, v4, v5, v6] st im rm = ev 138 66 [v0, v1, pm_u, v3, v4, v5, v6] (.int l1 :: st) (im) (rm) := ev_iload_n pm_m138 d138_65 rfl rfl
theorem d138_66 : decode prog_10_method_36_code 66 = .ok (.istore_n 2, 1) := by decide +kernel
theorem s138_66 {v0 v2 v3 v4 v5 v6 : Value} {l1 : Int32} {x2 : Int32} {st : List Value} {im : IM} {rm : RM}  : ev 138 66 [v0, .int l1, v2, v3, v4, v5, v6] (.int x2 :: st) im rm = ev 138 67 [v0, .int l1, .int x2, v3, v4, v5, v6] st (im) (rm) := ev_istore_n pm_m138 d138_66 (Nat.le_of_ble_eq_true rfl) rfl rfl
theorem d138_67 : decode prog_10_method_36_code 67 = .ok (.iload 6, 2) := by decide +kernel
theorem s138_67 {v0 v1 v2 v3 v4 v5 : Value} {l1 : Int32} {st : List Value} {im : IM} {rm : RM}  : ev 138 67 [v0, v1, v2, v3, v4, v5, .int l1] st im rm = ev 138 69 [v0, v1, v2, v3, v4, v5, .int l1] (.int l1 :: st) (im) (rm) := ev_iload pm_m138 d138_67 rfl rfl
theorem d138_69 : decode prog_10_method_36_code 69 = .ok (.iload_n 3, 1) := by decide +kernel
theorem s138_69 {v0 v1 v2 v4 v5 v6 : Value} {l1 : Int32} {st : List Value} {im : IM} {rm : RM}  : ev 138 69 [v0, v1, v2, .int l1, v4, v5, v6] st im rm = ev 138 70 [v0, v1, v2, .int l1, v4, v5, v6] (.int l1 :: st) (im) (rm) := ev_iload_n pm_m138 d138_69 rfl rfl
theorem d138_70 : decode prog_10_method_36_code 70 = .ok (.if_icmp .le 8, 3) := by decide +kernel
theorem s138_70 {v0 v1 v2 v3 v4 v5 v6 : Value} {x : Int32} {y : Int32} {st : List Value} {im : IM} {rm : RM} : ev 138 70 [v0, v1, v2, v3, v4, v5, v6] (.int y :: .int x :: st) im rm = if x ≤ y then ev 138 78 [v0, v1, v2, v3, v4, v5, pm_u] st im rm else ev 138 73 [v0, v1, v2, v3, v4, v5, v6] st im rm := ev_icmp_le pm_m138 d138_70 rfl rfl rfl
theorem d138_73 : decode prog_10_method_36_code 73 = .ok (.iload 6, 2) := by decide +kernel
theorem s138_73 {v0 v1 v2 v3 v4 v5 : Value} {l1 : Int32} {st : List Value} {im : IM} {rm : RM}  : ev 138 73 [v0, v1, v2, v3, v4, v5, .int l1] st im rm = ev 138 75 [v0, v1, v2, v3, v4, v5, .int l1] (.int l1 :: st) (im) (rm) := ev_iload pm_m138 d138_73 rfl rfl
theorem d138_75 : decode prog_10_method_36_code 75 = .ok (.goto 4, 3) := by decide +kernel
theorem s138_75 {v0 v1 v2 v3 v4 v5 v6 : Value}  {st : List Value} {im : IM} {rm : RM}  : ev 138 75 [v0, v1, v2, v3, v4, v5, v6] st im rm = ev 138 79 [v0, v1, v2, pm_u, v4, v5, pm_u] st (im) (rm) := ev_goto pm_m138 d138_75 rfl rfl
theorem d138_78 : decode prog_10_method_36_code 78 = .ok (.iload_n 3, 1) := by decide +kernel
theorem s138_78 {v0 v1 v2 v4 v5 v6 : Value} {l1 : Int32} {st : List Value} {im : IM} {rm : RM}  : ev 138 78 [v0, v1, v2, .int l1, v4, v5, v6] st im rm = ev 138 79 [v0, v1, v2, pm_u, v4, v5, pm_u] (.int l1 :: st) (im) (rm) := ev_iload_n pm_m138 d138_78 rfl rfl
theorem d138_79 : decode prog_10_method_36_code 79 = .ok (.istore_n 3, 1) := by decide +kernel
theorem s138_79 {v0 v1 v3 v4 v5 v6 : Value} {l1 : Int32} {x2 : Int32} {st : List Value} {im : IM} {rm : RM}  : ev 138 79 [v0, v1, .int l1, v3, v4, v5, v6] (.int x2 :: st) im rm = ev 138 80 [v0, v1, .int l1, .int x2, v4, v5, v6] st (im) (rm) := ev_istore_n pm_m138 d138_79 (Nat.le_of_ble_eq_true rfl) rfl rfl
theorem d138_80 : decode prog_10_method_36_code 80 = .ok (.iinc 5 1, 3) := by decide +kernel
theorem s138_80 {v0 v1 v2 v3 v6 : Value} {l1 : Int32} {l2 : Int32} {st : List Value} {im : IM} {rm : RM}  : ev 138 80 [v0, v1, v2, v3, .int l1, .int l2, v6] st im rm = ev 138 83 [v0, v1, v2, v3, .int l1, .int (l2 + nI 1), v6] st (im) (rm) := ev_iinc pm_m138 d138_80 rfl rfl rfl rfl
theorem d138_83 : decode prog_10_method_36_code 83 = .ok (.goto (-64), 3) := by decide +kernel
theorem s138_83 {v0 v1 v2 v3 v4 v5 v6 : Value}  {st : List Value} {im : IM} {rm : RM}  : ev 138 83 [v0, v1, v2, v3, v4, v5, v6] st im rm = ev 138 19 [v0, v1, v2, v3, v4, v5, pm_u] st (im) (rm) := ev_goto pm_m138 d138_83 rfl rfl
theorem d138_86 : decode prog_10_method_36_code 86 = .ok (.iinc 4 1, 3) := by decide +kernel
theorem s138_86 {v0 v1 v2 v5 v6 : Value} {l1 : Int32} {l2 : Int32} {st : List Value} {im : IM} {rm : RM}  : ev 138 86 [v0, v1, v2, .int l1, .int l2, v5, v6] st im rm = ev 138 89 [v0, v1, v2, .int l1, .int (l2 + nI 1), v5, v6] st (im) (rm) := ev_iinc pm_m138 d138_86 rfl rfl rfl rfl
theorem d138_89 : decode prog_10_method_36_code 89 = .ok (.goto (-80), 3) := by decide +kernel
theorem s138_89 {v0 v1 v2 v3 v4 v5 v6 : Value}  {st : List Value} {im : IM} {rm : RM}  : ev 138 89 [v0, v1, v2, v3, v4, v5, v6] st im rm = ev 138 9 [v0, v1, v2, v3, v4, pm_u, pm_u] st (im) (rm) := ev_goto pm_m138 d138_89 rfl rfl
theorem d138_92 : decode prog_10_method_36_code 92 = .ok (.iload_n 3, 1) := by decide +kernel
theorem s138_92 {v0 v1 v2 v4 v5 v6 : Value} {l1 : Int32} {st : List Value} {im : IM} {rm : RM}  : ev 138 92 [v0, v1, v2, .int l1, v4, v5, v6] st im rm = ev 138 93 [v0, v1, v2, .int l1, v4, v5, v6] (.int l1 :: st) (im) (rm) := ev_iload_n pm_m138 d138_92 rfl rfl
theorem d138_93 : decode prog_10_method_36_code 93 = .ok (.iconst (-1), 1) := by decide +kernel
theorem s138_93 {v0 v1 v2 v3 v4 v5 v6 : Value}  {st : List Value} {im : IM} {rm : RM}  : ev 138 93 [v0, v1, v2, v3, v4, v5, v6] st im rm = ev 138 94 [v0, v1, v2, v3, v4, v5, v6] (.int ((-1 : Int32)) :: st) (im) (rm) := ev_iconst pm_m138 d138_93 rfl rfl
theorem d138_94 : decode prog_10_method_36_code 94 = .ok (.if_icmp .ne 7, 3) := by decide +kernel
theorem s138_94 {v0 v1 v2 v3 v4 v5 v6 : Value} {x : Int32} {y : Int32} {st : List Value} {im : IM} {rm : RM} : ev 138 94 [v0, v1, v2, v3, v4, v5, v6] (.int y :: .int x :: st) im rm = if x = y then ev 138 97 [v0, v1, v2, v3, v4, v5, v6] st im rm else ev 138 101 [pm_u, v1, v2, v3, pm_u, pm_u, pm_u] st im rm := ev_icmp_ne pm_m138 d138_94 rfl rfl rfl
theorem d138_97 : decode prog_10_method_36_code 97 = .ok (.iconst (-1), 1) := by decide +kernel
theorem s138_97 {v0 v1 v2 v3 v4 v5 v6 : Value}  {st : List Value} {im : IM} {rm : RM}  : ev 138 97 [v0, v1, v2, v3, v4, v5, v6] st im rm = ev 138 98 [v0, v1, v2, v3, v4, v5, v6] (.int ((-1 : Int32)) :: st) (im) (rm) := ev_iconst pm_m138 d138_97 rfl rfl
theorem d138_98 : decode prog_10_method_36_code 98 = .ok (.goto 18, 3) := by decide +kernel
theorem s138_98 {v0 v1 v2 v3 v4 v5 v6 : Value}  {st : List Value} {im : IM} {rm : RM}  : ev 138 98 [v0, v1, v2, v3, v4, v5, v6] st im rm = ev 138 116 [pm_u, pm_u, pm_u, pm_u, pm_u, pm_u, pm_u] st (im) (rm) := ev_goto pm_m138 d138_98 rfl rfl
theorem d138_101 : decode prog_10_method_36_code 101 = .ok (.iload_n 1, 1) := by decide +kernel
theorem s138_101 {v0 v2 v3 v4 v5 v6 : Value} {l1 : Int32} {st : List Value} {im : IM} {rm : RM}  : ev 138 101 [v0, .int l1, v2, v3, v4, v5, v6] st im rm = ev 138 102 [v0, .int l1, v2, v3, v4, v5, v6] (.int l1 :: st) (im) (rm) := ev_iload_n pm_m138 d138_101 rfl rfl
theorem d138_102 : decode prog_10_method_36_code 102 = .ok (.iconst 2, 1) := by decide +kernel
theorem s138_102 {v0 v1 v2 v3 v4 v5 v6 : Value}  {st : List Value} {im : IM} {rm : RM}  : ev 138 102 [v0, v1, v2, v3, v4, v5, v6] st im rm = ev 138 103 [v0, v1, v2, v3, v4, v5, v6] (.int (nI 2) :: st) (im) (rm) := ev_iconst pm_m138 d138_102 rfl rfl
theorem d138_103 : decode prog_10_method_36_code 103 = .ok (.irem, 1) := by decide +kernel
theorem s138_103 {v0 v1 v2 v3 v4 v5 v6 : Value} {x : Int32} {y : Int32} {st : List Value} {im : IM} {rm : RM} (h0 : ¬ y = 0) : ev 138 103 [v0, v1, v2, v3, v4, v5, v6] (.int y :: .int x :: st) im rm = ev 138 104 [v0, v1, v2, v3, v4, v5, v6] (.int (x - x / y * y) :: st) (im) (rm) := ev_irem pm_m138 d138_103 h0 rfl
theorem d138_104 : decode prog_10_method_36_code 104 = .ok (.ifCond .ne 9, 3) := by decide +kernel
theorem s138_104 {v0 v1 v2 v3 v4 v5 v6 : Value} {x : Int32} {st : List Value} {im : IM} {rm : RM} : ev 138 104 [v0, v1, v2, v3, v4, v5, v6] (.int x :: st) im rm = if x = nI 0 then ev 138 107 [v0, v1, v2, v3, v4, v5, v6] st im rm else ev 138 113 [pm_u, pm_u, v2, pm_u, pm_u, pm_u, pm_u] st im rm := ev_if_ne (y := 0) pm_m138 d138_104 rfl rfl rfl
theorem d138_107 : decode prog_10_method_36_code 107 = .ok (.iload_n 3, 1) := by decide +kernel
theorem s138_107 {v0 v1 v2 v4 v5 v6 : Value} {l1 : Int32} {st : List Value} {im : IM} {rm : RM}  : ev 138 107 [v0, v1, v2, .int l1, v4, v5, v6] st im rm = ev 138 108 [v0, v1, v2, .int l1, v4, v5, v6] (.int l1 :: st) (im) (rm) := ev_iload_n pm_m138 d138_107 rfl rfl
theorem d138_108 : decode prog_10_method_36_code 108 = .ok (.iconst 1, 1) := by decide +kernel
theorem s138_108 {v0 v1 v2 v3 v4 v5 v6 : Value}  {st : List Value} {im : IM} {rm : RM}  : ev 138 108 [v0, v1, v2, v3, v4, v5, v6] st im rm = ev 138 109 [v0, v1, v2, v3, v4, v5, v6] (.int (nI 1) :: st) (im) (rm) := ev_iconst pm_m138 d138_108 rfl rfl
theorem d138_109 : decode prog_10_method_36_code 109 = .ok (.iadd, 1) := by decide +kernel
theorem s138_109 {v0 v1 v2 v3 v4 v5 v6 : Value} {x : Int32} {y : Int32} {st : List Value} {im : IM} {rm : RM}  : ev 138 109 [v0, v1, v2, v3, v4, v5, v6] (.int y :: .int x :: st) im rm = ev 138 110 [v0, v1, v2, v3, v4, v5, v6] (.int (x + y) :: st) (im) (rm) := ev_iadd pm_m138 d138_109 rfl
theorem d138_110 : decode prog_10_method_36_code 110 = .ok (.goto 6, 3) := by decide +kernel
theorem s138_110 {v0 v1 v2 v3 v4 v5 v6 : Value}  {st : List Value} {im : IM} {rm : RM}  : ev 138 110 [v0, v1, v2, v3, v4, v5, v6] st im rm = ev 138 116 [pm_u, pm_u, pm_u, pm_u, pm_u, pm_u, pm_u] st (im) (rm) := ev_goto pm_m138 d138_110 rfl rfl
theorem d138_113 : decode prog_10_method_36_code 113 = .ok (.iload_n 2, 1) := by decide +kernel
theorem s138_113 {v0 v1 v3 v4 v5 v6 : Value} {l1 : Int32} {st : List Value} {im : IM} {rm : RM}  : ev 138 113 [v0, v1, .int l1, v3, v4, v5, v6] st im rm = ev 138 114 [v0, v1, .int l1, v3, v4, v5, v6] (.int l1 :: st) (im) (rm) := ev_iload_n pm_m138 d138_113 rfl rfl
theorem d138_114 : decode prog_10_method_36_code 114 = .ok (.iconst 1, 1) := by decide +kernel
theorem s138_114 {v0 v1 v2 v3 v4 v5 v6 : Value}  {st : List Value} {im : IM} {rm : RM}  : ev 138 114 [v0, v1, v2, v3, v4, v5, v6] st im rm = ev 138 115 [v0, v1, v2, v3, v4, v5, v6] (.int (nI 1) :: st) (im) (rm) := ev_iconst pm_m138 d138_114 rfl rfl
theorem d138_115 : decode prog_10_method_36_code 115 = .ok (.isub, 1) := by decide +kernel
theorem s138_115 {v0 v1 v2 v3 v4 v5 v6 : Value} {x : Int32} {y : Int32} {st : List Value} {im : IM} {rm : RM}  : ev 138 115 [v0, v1, v2, v3, v4, v5, v6] (.int y :: .int x :: st) im rm = ev 138 116 [pm_u, pm_u, pm_u, pm_u, pm_u, pm_u, pm_u] (.int (x - y) :: st) (im) (rm) := ev_isub pm_m138 d138_115 rfl
theorem d138_116 : decode prog_10_method_36_code 116 = .ok (.ireturn, 1) := by decide +kernel
theorem s138_116 {v0 v1 v2 v3 v4 v5 v6 : Value} {x : Int32} {im : IM} {rm : RM} : ev 138 116 [v0, v1, v2, v3, v4, v5, v6] [.int x] im rm = some (some (.int x), im, rm) := ev_ireturn pm_m138 d138_116 rfl
