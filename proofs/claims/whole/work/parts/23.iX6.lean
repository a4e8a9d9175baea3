theorem d25_0 : decode prog_8_method_2_code 0 = .ok (.iconst 0, 1) := by decide +kernel
theorem s25_0 {v0 v1 v2 v3 v4 : Value}  {st : List Value} {im : IM} {rm : RM}  : ev 25 0 [v0, v1, v2, v3, v4] st im rm = ev 25 1 [v0, v1, v2, v3, v4] (.int (nI 0) :: st) (im) (rm) := ev_iconst pm_m25 d25_0 rfl rfl
theorem d25_1 : decode prog_8_method_2_code 1 = .ok (.istore 4, 2) := by decide +kernel
theorem s25_1 {v0 v1 v2 v4 : Value} {l1 : Int32} {x2 : Int32} {st : List Value} {im : IM} {rm : RM}  : ev 25 1 [v0, v1, v2, .int l1, v4] (.int x2 :: st) im rm = ev 25 3 [v0, v1, pm_u, .int l1, .int x2] st (im) (rm) := ev_istore pm_m25 d25_1 (Nat.le_of_ble_eq_true rfl) rfl rfl
theorem d25_3 : decode prog_8_method_2_code 3 = .ok (.iload 4, 2) := by decide +kernel
theorem s25_3 {v0 v1 v2 v3 : Value} {l1 : Int32} {st : List Value} {im : IM} {rm : RM}  : ev 25 3 [v0, v1, v2, v3, .int l1] st im rm = ev 25 5 [v0, v1, v2, v3, .int l1] (.int l1 :: st) (im) (rm) := ev_iload pm_m25 d25_3 rfl rfl
theorem d25_5 : decode prog_8_method_2_code 5 = .ok (.iload_n 3, 1) := by decide +kernel
theorem s25_5 {v0 v1 v2 v4 : Value} {l1 : Int32} {st : List Value} {im : IM} {rm : RM}  : ev 25 5 [v0, v1, v2, .int l1, v4] st im rm = ev 25 6 [v0, v1, v2, .int l1, v4] (.int l1 :: st) (im) (rm) := ev_iload_n pm_m25 d25_5 rfl rfl
theorem d25_6 : decode prog_8_method_2_code 6 = .ok (.if_icmp .ge 50, 3) := by decide +kernel
theorem s25_6 {v0 v1 v2 v3 v4 : Value} {x : Int32} {y : Int32} {st : List Value} {im : IM} {rm : RM} : ev 25 6 [v0, v1, v2, v3, v4] (.int y :: .int x :: st) im rm = if y ≤ x then ev 25 56 [pm_u, pm_u, pm_u, pm_u, pm_u] st im rm else ev 25 9 [v0, v1, v2, v3, v4] st im rm := ev_icmp_ge pm_m25 d25_6 rfl rfl rfl
theorem d25_9 : decode prog_8_method_2_code 9 = .ok (.aload_n 0, 1) := by decide +kernel
theorem s25_9 {v1 v2 v3 v4 : Value} {l1 : Nat} {st : List Value} {im : IM} {rm : RM}  : ev 25 9 [.ref l1, v1, v2, v3, v4] st im rm = ev 25 10 [.ref l1, v1, v2, v3, v4] (.ref l1 :: st) (im) (rm) := ev_aload_n pm_m25 d25_9 rfl rfl
theorem d25_10 : decode prog_8_method_2_code 10 = .ok (.getfield 9, 3) := by decide +kernel
theorem s25_10 {v0 v1 v2 v3 v4 : Value} {a : Nat} {st : List Value} {im : IM} {rm : RM} (hk : kd a = 16) : ev 25 10 [v0, v1, v2, v3, v4] (.ref a :: st) im rm = ev 25 13 [v0, v1, v2, v3, v4] (.int (im a 0) :: st) (im) (rm) := ev_getI pm_m25 d25_10 f6_9 rfl hk rfl
theorem d25_13 : decode prog_8_method_2_code 13 = .ok (.sipush 160, 3) := by decide +kernel
theorem s25_13 {v0 v1 v2 v3 v4 : Value}  {st : List Value} {im : IM} {rm : RM}  : ev 25 13 [v0, v1, v2, v3, v4] st im rm = ev 25 16 [v0, v1, v2, v3, v4] (.int (nI 160) :: st) (im) (rm) := ev_sipush pm_m25 d25_13 rfl rfl
theorem d25_16 : decode prog_8_method_2_code 16 = .ok (.if_icmp .ge 40, 3) := by decide +kernel
theorem s25_16 {v0 v1 v2 v3 v4 : Value} {x : Int32} {y : Int32} {st : List Value} {im : IM} {rm : RM} : ev 25 16 [v0, v1, v2, v3, v4] (.int y :: .int x :: st) im rm = if y ≤ x then ev 25 56 [pm_u, pm_u, pm_u, pm_u, pm_u] st im rm else ev 25 19 [v0, v1, v2, v3, v4] st im rm := ev_icmp_ge pm_m25 d25_16 rfl rfl rfl
theorem d25_19 : decode prog_8_method_2_code 19 = .ok (.aload_n 0, 1) := by decide +kernel
theorem s25_19 {v1 v2 v3 v4 : Value} {l1 : Nat} {st : List Value} {im : IM} {rm : RM}  : ev 25 19 [.ref l1, v1, v2, v3, v4] st im rm = ev 25 20 [.ref l1, v1, v2, v3, v4] (.ref l1 :: st) (im) (rm) := ev_aload_n pm_m25 d25_19 rfl rfl
theorem d25_20 : decode prog_8_method_2_code 20 = .ok (.getfield 15, 3) := by decide +kernel
theorem s25_20 {v0 v1 v2 v3 v4 : Value} {a : Nat} {st : List Value} {im : IM} {rm : RM} (hk : kd a = 16) : ev 25 20 [v0, v1, v2, v3, v4] (.ref a :: st) im rm = ev 25 23 [v0, v1, v2, v3, v4] (pm_ro (rm a 1) :: st) (im) (rm) := ev_getR pm_m25 d25_20 f6_15 rfl hk rfl
theorem d25_23 : decode prog_8_method_2_code 23 = .ok (.aload_n 0, 1) := by decide +kernel
theorem s25_23 {v1 v2 v3 v4 : Value} {l1 : Nat} {st : List Value} {im : IM} {rm : RM}  : ev 25 23 [.ref l1, v1, v2, v3, v4] st im rm = ev 25 24 [.ref l1, v1, v2, v3, v4] (.ref l1 :: st) (im) (rm) := ev_aload_n pm_m25 d25_23 rfl rfl
theorem d25_24 : decode prog_8_method_2_code 24 = .ok (.getfield 9, 3) := by decide +kernel
theorem s25_24 {v0 v1 v2 v3 v4 : Value} {a : Nat} {st : List Value} {im : IM} {rm : RM} (hk : kd a = 16) : ev 25 24 [v0, v1, v2, v3, v4] (.ref a :: st) im rm = ev 25 27 [v0, v1, v2, v3, v4] (.int (im a 0) :: st) (im) (rm) := ev_getI pm_m25 d25_24 f6_9 rfl hk rfl
theorem d25_27 : decode prog_8_method_2_code 27 = .ok (.lload_n 1, 1) := by decide +kernel
theorem s25_27 {v0 v2 v3 v4 : Value} {l1 : Int64} {st : List Value} {im : IM} {rm : RM}  : ev 25 27 [v0, .long l1, v2, v3, v4] st im rm = ev 25 28 [v0, .long l1, v2, v3, v4] (.long l1 :: st) (im) (rm) := ev_lload_n pm_m25 d25_27 rfl rfl
theorem d25_28 : decode prog_8_method_2_code 28 = .ok (.bipush 8, 2) := by decide +kernel
theorem s25_28 {v0 v1 v2 v3 v4 : Value}  {st : List Value} {im : IM} {rm : RM}  : ev 25 28 [v0, v1, v2, v3, v4] st im rm = ev 25 30 [v0, v1, v2, v3, v4] (.int (nI 8) :: st) (im) (rm) := ev_bipush pm_m25 d25_28 rfl rfl
theorem d25_30 : decode prog_8_method_2_code 30 = .ok (.iload 4, 2) := by decide +kernel
theorem s25_30 {v0 v1 v2 v3 : Value} {l1 : Int32} {st : List Value} {im : IM} {rm : RM}  : ev 25 30 [v0, v1, v2, v3, .int l1] st im rm = ev 25 32 [v0, v1, v2, v3, .int l1] (.int l1 :: st) (im) (rm) := ev_iload pm_m25 d25_30 rfl rfl
theorem d25_32 : decode prog_8_method_2_code 32 = .ok (.imul, 1) := by decide +kernel
theorem s25_32 {v0 v1 v2 v3 v4 : Value} {x : Int32} {y : Int32} {st : List Value} {im : IM} {rm : RM}  : ev 25 32 [v0, v1, v2, v3, v4] (.int y :: .int x :: st) im rm = ev 25 33 [v0, v1, v2, v3, v4] (.int (x * y) :: st) (im) (rm) := ev_imul pm_m25 d25_32 rfl
theorem d25_33 : decode prog_8_method_2_code 33 = .ok (.lshr, 1) := by decide +kernel
theorem s25_33 {v0 v1 v2 v3 v4 : Value} {x : Int64} {y : Int32} {st : List Value} {im : IM} {rm : RM}  : ev 25 33 [v0, v1, v2, v3, v4] (.int y :: .long x :: st) im rm = ev 25 34 [v0, v1, v2, v3, v4] (.long (x >>> (y.toInt64 &&& 63)) :: st) (im) (rm) := ev_lshr pm_m25 d25_33 rfl
theorem d25_34 : decode prog_8_method_2_code 34 = .ok (.ldc2_w 25, 3) := by decide +kernel
theorem s25_34 {v0 v1 v2 v3 v4 : Value}  {st : List Value} {im : IM} {rm : RM}  : ev 25 34 [v0, v1, v2, v3, v4] st im rm = ev 25 37 [v0, v1, v2, v3, v4] (.long (lN 255) :: st) (im) (rm) := ev_ldc2 pm_m25 d25_34 (by decide +kernel) rfl
theorem d25_37 : decode prog_8_method_2_code 37 = .ok (.land, 1) := by decide +kernel
theorem s25_37 {v0 v1 v2 v3 v4 : Value} {x : Int64} {y : Int64} {st : List Value} {im : IM} {rm : RM}  : ev 25 37 [v0, v1, v2, v3, v4] (.long y :: .long x :: st) im rm = ev 25 38 [v0, v1, v2, v3, v4] (.long (x &&& y) :: st) (im) (rm) := ev_land pm_m25 d25_37 rfl
theorem d25_38 : decode prog_8_method_2_code 38 = .ok (.l2i, 1) := by decide +kernel
theorem s25_38 {v0 v1 v2 v3 v4 : Value} {x : Int64} {st : List Value} {im : IM} {rm : RM}  : ev 25 38 [v0, v1, v2, v3, v4] (.long x :: st) im rm = ev 25 39 [v0, v1, v2, v3, v4] (.int x.toInt32 :: st) (im) (rm) := ev_l2i pm_m25 d25_38 rfl
theorem d25_39 : decode prog_8_method_2_code 39 = .ok (.iastore, 1) := by decide +kernel
theorem s25_39 {v0 v1 v2 v3 v4 : Value} {a : Nat} {i : Int32} {v : Int32} {st : List Value} {im : IM} {rm : RM} (hk : kd a = 0) (hi : pm_in i (ln a) = true) : ev 25 39 [v0, v1, v2, v3, v4] (.int v :: .int i :: .ref a :: st) im rm = ev 25 40 [v0, v1, v2, v3, v4] st (pm_w2 im a i.toNatClampNeg v) (rm) := ev_iast pm_m25 d25_39 hk hi rfl
theorem d25_40 : decode prog_8_method_2_code 40 = .ok (.aload_n 0, 1) := by decide +kernel
theorem s25_40 {v1 v2 v3 v4 : Value} {l1 : Nat} {st : List Value} {im : IM} {rm : RM}  : ev 25 40 [.ref l1, v1, v2, v3, v4] st im rm = ev 25 41 [.ref l1, v1, v2, v3, v4] (.ref l1 :: st) (im) (rm) := ev_aload_n pm_m25 d25_40 rfl rfl
theorem d25_41 : decode prog_8_method_2_code 41 = .ok (.dup, 1) := by decide +kernel
theorem s25_41 {v0 v1 v2 v3 v4 : Value} {x1 : Nat} {st : List Value} {im : IM} {rm : RM}  : ev 25 41 [v0, v1, v2, v3, v4] (.ref x1 :: st) im rm = ev 25 42 [v0, v1, v2, v3, v4] (.ref x1 :: .ref x1 :: st) (im) (rm) := ev_dupA pm_m25 d25_41 rfl
theorem d25_42 : decode prog_8_method_2_code 42 = .ok (.getfield 9, 3) := by decide +kernel
theorem s25_42 {v0 v1 v2 v3 v4 : Value} {a : Nat} {st : List Value} {im : IM} {rm : RM} (hk : kd a = 16) : ev 25 42 [v0, v1, v2, v3, v4] (.ref a :: st) im rm = ev 25 45 [v0, v1, v2, v3, v4] (.int (im a 0) :: st) (im) (rm) := ev_getI pm_m25 d25_42 f6_9 rfl hk rfl
theorem d25_45 : decode prog_8_method_2_code 45 = .ok (.iconst 1, 1) := by decide +kernel
theorem s25_45 {v0 v1 v2 v3 v4 : Value}  {st : List Value} {im : IM} {rm : RM}  : ev 25 45 [v0, v1, v2, v3, v4] st im rm = ev 25 46 [v0, v1, v2, v3, v4] (.int (nI 1) :: st) (im) (rm) := ev_iconst pm_m25 d25_45 rfl rfl
theorem d25_46 : decode prog_8_method_2_code 46 = .ok (.iadd, 1) := by decide +kernel
theorem s25_46 {v0 v1 v2 v3 v4 : Value} {x : Int32} {y : Int32} {st : List Value} {im : IM} {rm : RM}  : ev 25 46 [v0, v1, v2, v3, v4] (.int y :: .int x :: st) im rm = ev 25 47 [v0, v1, v2, v3, v4] (.int (x + y) :: st) (im) (rm) := ev_iadd pm_m25 d25_46 rfl
theorem d25_47 : decode prog_8_method_2_code 47 = .ok (.putfield 9, 3) := by decide +kernel
theorem s25_47 {v0 v1 v2 v3 v4 : Value} {a : Nat} {v : Int32} {st : List Value} {im : IM} {rm : RM} (hk : kd a = 16) : ev 25 47 [v0, v1, v2, v3, v4] (.int v :: .ref a :: st) im rm = ev 25 50 [v0, v1, v2, v3, v4] st (pm_w2 im a 0 v) (rm) := ev_putI pm_m25 d25_47 f6_9 rfl rfl hk rfl
theorem d25_50 : decode prog_8_method_2_code 50 = .ok (.iinc 4 1, 3) := by decide +kernel
theorem s25_50 {v0 v1 v2 : Value} {l1 : Int32} {l2 : Int32} {st : List Value} {im : IM} {rm : RM}  : ev 25 50 [v0, v1, v2, .int l1, .int l2] st im rm = ev 25 53 [v0, v1, v2, .int l1, .int (l2 + nI 1)] st (im) (rm) := ev_iinc pm_m25 d25_50 rfl rfl rfl rfl
theorem d25_53 : decode prog_8_method_2_code 53 = .ok (.goto (-50), 3) := by decide +kernel
theorem s25_53 {v0 v1 v2 v3 v4 : Value}  {st : List Value} {im : IM} {rm : RM}  : ev 25 53 [v0, v1, v2, v3, v4] st im rm = ev 25 3 [v0, v1, pm_u, v3, v4] st (im) (rm) := ev_goto pm_m25 d25_53 rfl rfl
theorem d25_56 : decode prog_8_method_2_code 56 = .ok (.return_, 1) := by decide +kernel
theorem s25_56 {v0 v1 v2 v3 v4 : Value} {im : IM} {rm : RM} : ev 25 56 [v0, v1, v2, v3, v4] [] im rm = some (none, im, rm) := ev_return pm_m25 d25_56 rfl
theorem d26_0 : decode prog_8_method_3_code 0 = .ok (.aload_n 0, 1) := by decide +kernel
theorem s26_0 {v1 v2 v3 : Value} {l1 : Nat} {st : List Value} {im : IM} {rm : RM}  : ev 26 0 [.ref l1, v1, v2, v3] st im rm = ev 26 1 [.ref l1, v1, v2, v3] (.ref l1 :: st) (im) (rm) := ev_aload_n pm_m26 d26_0 rfl rfl
theorem d26_1 : decode prog_8_method_3_code 1 = .ok (.invokevirtual 27, 3) := by decide +kernel
theorem s26_1 {v0 v1 v2 v3 : Value} {a : Nat} {im : IM} {rm : RM} (hk : kd a = 16) : ev 26 1 [v0, v1, v2, v3] [.ref a] im rm = (ev 34 0 [.ref a] [] im rm).bind (fun r => ev 26 4 [v0, v1, v2, v3] (r.1.toList ++ []) r.2.1 r.2.2) := ev_callV pm_m26 d26_1 l6_27 rfl pm_m34 (by decide) hk rfl ⟨rfl, rfl⟩ rfl rfl
theorem d26_4 : decode prog_8_method_3_code 4 = .ok (.aload_n 1, 1) := by decide +kernel
theorem s26_4 {v0 v2 v3 : Value} {l1 : Nat} {st : List Value} {im : IM} {rm : RM}  : ev 26 4 [v0, .ref l1, v2, v3] st im rm = ev 26 5 [v0, .ref l1, v2, v3] (.ref l1 :: st) (im) (rm) := ev_aload_n pm_m26 d26_4 rfl rfl
theorem d26_5 : decode prog_8_method_3_code 5 = .ok (.iconst 0, 1) := by decide +kernel
theorem s26_5 {v0 v1 v2 v3 : Value}  {st : List Value} {im : IM} {rm : RM}  : ev 26 5 [v0, v1, v2, v3] st im rm = ev 26 6 [v0, v1, v2, v3] (.int (nI 0) :: st) (im) (rm) := ev_iconst pm_m26 d26_5 rfl rfl
theorem d26_6 : decode prog_8_method_3_code 6 = .ok (.putfield 30, 3) := by decide +kernel
theorem s26_6 {v0 v1 v2 v3 : Value} {a : Nat} {v : Int32} {st : List Value} {im : IM} {rm : RM} (hk : kd a = 14) : ev 26 6 [v0, v1, v2, v3] (.int v :: .ref a :: st) im rm = ev 26 9 [v0, v1, v2, v3] st (pm_w2 im a 0 v) (rm) := ev_putI pm_m26 d26_6 f6_30 rfl rfl hk rfl
theorem d26_9 : decode prog_8_method_3_code 9 = .ok (.iconst 1, 1) := by decide +kernel
theorem s26_9 {v0 v1 v2 v3 : Value}  {st : List Value} {im : IM} {rm : RM}  : ev 26 9 [v0, v1, v2, v3] st im rm = ev 26 10 [v0, v1, v2, v3] (.int (nI 1) :: st) (im) (rm) := ev_iconst pm_m26 d26_9 rfl rfl
theorem d26_10 : decode prog_8_method_3_code 10 = .ok (.istore_n 2, 1) := by decide +kernel
theorem s26_10 {v0 v2 v3 : Value} {l1 : Nat} {x2 : Int32} {st : List Value} {im : IM} {rm : RM}  : ev 26 10 [v0, .ref l1, v2, v3] (.int x2 :: st) im rm = ev 26 11 [v0, .ref l1, .int x2, v3] st (im) (rm) := ev_istore_n pm_m26 d26_10 (Nat.le_of_ble_eq_true rfl) rfl rfl
theorem d26_11 : decode prog_8_method_3_code 11 = .ok (.iconst 0, 1) := by decide +kernel
theorem s26_11 {v0 v1 v2 v3 : Value}  {st : List Value} {im : IM} {rm : RM}  : ev 26 11 [v0, v1, v2, v3] st im rm = ev 26 12 [v0, v1, v2, v3] (.int (nI 0) :: st) (im) (rm) := ev_iconst pm_m26 d26_11 rfl rfl
theorem d26_12 : decode prog_8_method_3_code 12 = .ok (.istore_n 3, 1) := by decide +kernel
theorem s26_12 {v0 v1 v3 : Value} {l1 : Int32} {x2 : Int32} {st : List Value} {im : IM} {rm : RM}  : ev 26 12 [v0, v1, .int l1, v3] (.int x2 :: st) im rm = ev 26 13 [v0, v1, .int l1, .int x2] st (im) (rm) := ev_istore_n pm_m26 d26_12 (Nat.le_of_ble_eq_true rfl) rfl rfl
theorem d26_13 : decode prog_8_method_3_code 13 = .ok (.iload_n 2, 1) := by decide +kernel
theorem s26_13 {v0 v1 v3 : Value} {l1 : Int32} {st : List Value} {im : IM} {rm : RM}  : ev 26 13 [v0, v1, .int l1, v3] st im rm = ev 26 14 [v0, v1, .int l1, v3] (.int l1 :: st) (im) (rm) := ev_iload_n pm_m26 d26_13 rfl rfl
theorem d26_14 : decode prog_8_method_3_code 14 = .ok (.ifCond .eq 60, 3) := by decide +kernel
theorem s26_14 {v0 v1 v2 v3 : Value} {x : Int32} {st : List Value} {im : IM} {rm : RM} : ev 26 14 [v0, v1, v2, v3] (.int x :: st) im rm = if x = nI 0 then ev 26 74 [v0, pm_u, pm_u, pm_u] st im rm else ev 26 17 [v0, v1, v2, v3] st im rm := ev_if_eq (y := 0) pm_m26 d26_14 rfl rfl rfl
theorem d26_17 : decode prog_8_method_3_code 17 = .ok (.iload_n 3, 1) := by decide +kernel
theorem s26_17 {v0 v1 v2 : Value} {l1 : Int32} {st : List Value} {im : IM} {rm : RM}  : ev 26 17 [v0, v1, v2, .int l1] st im rm = ev 26 18 [v0, v1, v2, .int l1] (.int l1 :: st) (im) (rm) := ev_iload_n pm_m26 d26_17 rfl rfl
theorem d26_18 : decode prog_8_method_3_code 18 = .ok (.bipush 6, 2) := by decide +kernel
theorem s26_18 {v0 v1 v2 v3 : Value}  {st : List Value} {im : IM} {rm : RM}  : ev 26 18 [v0, v1, v2, v3] st im rm = ev 26 20 [v0, v1, v2, v3] (.int (nI 6) :: st) (im) (rm) := ev_bipush pm_m26 d26_18 rfl rfl
theorem d26_20 : decode prog_8_method_3_code 20 = .ok (.if_icmp .ge 54, 3) := by decide +kernel
theorem s26_20 {v0 v1 v2 v3 : Value} {x : Int32} {y : Int32} {st : List Value} {im : IM} {rm : RM} : ev 26 20 [v0, v1, v2, v3] (.int y :: .int x :: st) im rm = if y ≤ x then ev 26 74 [v0, pm_u, pm_u, pm_u] st im rm else ev 26 23 [v0, v1, v2, v3] st im rm := ev_icmp_ge pm_m26 d26_20 rfl rfl rfl
theorem d26_23 : decode prog_8_method_3_code 23 = .ok (.aload_n 0, 1) := by decide +kernel
theorem s26_23 {v1 v2 v3 : Value} {l1 : Nat} {st : List Value} {im : IM} {rm : RM}  : ev 26 23 [.ref l1, v1, v2, v3] st im rm = ev 26 24 [.ref l1, v1, v2, v3] (.ref l1 :: st) (im) (rm) := ev_aload_n pm_m26 d26_23 rfl rfl
theorem d26_24 : decode prog_8_method_3_code 24 = .ok (.aload_n 1, 1) := by decide +kernel
theorem s26_24 {v0 v2 v3 : Value} {l1 : Nat} {st : List Value} {im : IM} {rm : RM}  : ev 26 24 [v0, .ref l1, v2, v3] st im rm = ev 26 25 [v0, .ref l1, v2, v3] (.ref l1 :: st) (im) (rm) := ev_aload_n pm_m26 d26_24 rfl rfl
theorem d26_25 : decode prog_8_method_3_code 25 = .ok (.iload_n 3, 1) := by decide +kernel
theorem s26_25 {v0 v1 v2 : Value} {l1 : Int32} {st : List Value} {im : IM} {rm : RM}  : ev 26 25 [v0, v1, v2, .int l1] st im rm = ev 26 26 [v0, v1, v2, .int l1] (.int l1 :: st) (im) (rm) := ev_iload_n pm_m26 d26_25 rfl rfl
theorem d26_26 : decode prog_8_method_3_code 26 = .ok (.invokevirtual 35, 3) := by decide +kernel
theorem s26_26 {v0 v1 v2 v3 : Value} {a : Nat} {p1 : Nat} {p2 : Int32} {im : IM} {rm : RM} (hk : kd a = 16) : ev 26 26 [v0, v1, v2, v3] [.int p2, .ref p1, .ref a] im rm = (ev 28 0 [.ref a, .ref p1, .int p2, pm_u, pm_u] [] im rm).bind (fun r => ev 26 29 [v0, v1, v2, v3] (r.1.toList ++ []) r.2.1 r.2.2) := ev_callV pm_m26 d26_26 l6_35 rfl pm_m28 (by decide) hk rfl ⟨rfl, rfl⟩ rfl rfl
theorem d26_29 : decode prog_8_method_3_code 29 = .ok (.ifCond .ne 8, 3) := by decide +kernel
theorem s26_29 {v0 v1 v2 v3 : Value} {x : Int32} {st : List Value} {im : IM} {rm : RM} : ev 26 29 [v0, v1, v2, v3] (.int x :: st) im rm = if x = nI 0 then ev 26 32 [v0, v1, v2, v3] st im rm else ev 26 37 [v0, v1, pm_u, v3] st im rm := ev_if_ne (y := 0) pm_m26 d26_29 rfl rfl rfl
theorem d26_32 : decode prog_8_method_3_code 32 = .ok (.aload_n 0, 1) := by decide +kernel
theorem s26_32 {v1 v2 v3 : Value} {l1 : Nat} {st : List Value} {im : IM} {rm : RM}  : ev 26 32 [.ref l1, v1, v2, v3] st im rm = ev 26 33 [.ref l1, v1, v2, v3] (.ref l1 :: st) (im) (rm) := ev_aload_n pm_m26 d26_32 rfl rfl
theorem d26_33 : decode prog_8_method_3_code 33 = .ok (.getfield 19, 3) := by decide +kernel
theorem s26_33 {v0 v1 v2 v3 : Value} {a : Nat} {st : List Value} {im : IM} {rm : RM} (hk : kd a = 16) : ev 26 33 [v0, v1, v2, v3] (.ref a :: st) im rm = ev 26 36 [v0, v1, v2, v3] (.int (im a 2) :: st) (im) (rm) := ev_getI pm_m26 d26_33 f6_19 rfl hk rfl
theorem d26_36 : decode prog_8_method_3_code 36 = .ok (.ireturn, 1) := by decide +kernel
theorem s26_36 {v0 v1 v2 v3 : Value} {x : Int32} {im : IM} {rm : RM} : ev 26 36 [v0, v1, v2, v3] [.int x] im rm = some (some (.int x), im, rm) := ev_ireturn pm_m26 d26_36 rfl
theorem d26_37 : decode prog_8_method_3_code 37 = .ok (.aload_n 1, 1) := by decide +kernel
theorem s26_37 {v0 v2 v3 : Value} {l1 : Nat} {st : List Value} {im : IM} {rm : RM}  : ev 26 37 [v0, .ref l1, v2, v3] st im rm = ev 26 38 [v0, .ref l1, v2, v3] (.ref l1 :: st) (im) (rm) := ev_aload_n pm_m26 d26_37 rfl rfl
theorem d26_38 : decode prog_8_method_3_code 38 = .ok (.iload_n 3, 1) := by decide +kernel
theorem s26_38 {v0 v1 v2 : Value} {l1 : Int32} {st : List Value} {im : IM} {rm : RM}  : ev 26 38 [v0, v1, v2, .int l1] st im rm = ev 26 39 [v0, v1, v2, .int l1] (.int l1 :: st) (im) (rm) := ev_iload_n pm_m26 d26_38 rfl rfl
theorem d26_39 : decode prog_8_method_3_code 39 = .ok (.iconst 1, 1) := by decide +kernel
theorem s26_39 {v0 v1 v2 v3 : Value}  {st : List Value} {im : IM} {rm : RM}  : ev 26 39 [v0, v1, v2, v3] st im rm = ev 26 40 [v0, v1, v2, v3] (.int (nI 1) :: st) (im) (rm) := ev_iconst pm_m26 d26_39 rfl rfl
theorem d26_40 : decode prog_8_method_3_code 40 = .ok (.iadd, 1) := by decide +kernel
theorem s26_40 {v0 v1 v2 v3 : Value} {x : Int32} {y : Int32} {st : List Value} {im : IM} {rm : RM}  : ev 26 40 [v0, v1, v2, v3] (.int y :: .int x :: st) im rm = ev 26 41 [v0, v1, v2, v3] (.int (x + y) :: st) (im) (rm) := ev_iadd pm_m26 d26_40 rfl
theorem d26_41 : decode prog_8_method_3_code 41 = .ok (.putfield 30, 3) := by decide +kernel
theorem s26_41 {v0 v1 v2 v3 : Value} {a : Nat} {v : Int32} {st : List Value} {im : IM} {rm : RM} (hk : kd a = 14) : ev 26 41 [v0, v1, v2, v3] (.int v :: .ref a :: st) im rm = ev 26 44 [v0, v1, v2, v3] st (pm_w2 im a 0 v) (rm) := ev_putI pm_m26 d26_41 f6_30 rfl rfl hk rfl
theorem d26_44 : decode prog_8_method_3_code 44 = .ok (.aload_n 1, 1) := by decide +kernel
theorem s26_44 {v0 v2 v3 : Value} {l1 : Nat} {st : List Value} {im : IM} {rm : RM}  : ev 26 44 [v0, .ref l1, v2, v3] st im rm = ev 26 45 [v0, .ref l1, v2, v3] (.ref l1 :: st) (im) (rm) := ev_aload_n pm_m26 d26_44 rfl rfl
theorem d26_45 : decode prog_8_method_3_code 45 = .ok (.getfield 30, 3) := by decide +kernel
theorem s26_45 {v0 v1 v2 v3 : Value} {a : Nat} {st : List Value} {im : IM} {rm : RM} (hk : kd a = 14) : ev 26 45 [v0, v1, v2, v3] (.ref a :: st) im rm = ev 26 48 [v0, v1, v2, v3] (.int (im a 0) :: st) (im) (rm) := ev_getI pm_m26 d26_45 f6_30 rfl hk rfl
theorem d26_48 : decode prog_8_method_3_code 48 = .ok (.bipush 6, 2) := by decide +kernel
theorem s26_48 {v0 v1 v2 v3 : Value}  {st : List Value} {im : IM} {rm : RM}  : ev 26 48 [v0, v1, v2, v3] st im rm = ev 26 50 [v0, v1, v2, v3] (.int (nI 6) :: st) (im) (rm) := ev_bipush pm_m26 d26_48 rfl rfl
theorem d26_50 : decode prog_8_method_3_code 50 = .ok (.if_icmp .ge 16, 3) := by decide +kernel
theorem s26_50 {v0 v1 v2 v3 : Value} {x : Int32} {y : Int32} {st : List Value} {im : IM} {rm : RM} : ev 26 50 [v0, v1, v2, v3] (.int y :: .int x :: st) im rm = if y ≤ x then ev 26 66 [v0, v1, pm_u, v3] st im rm else ev 26 53 [v0, v1, v2, v3] st im rm := ev_icmp_ge pm_m26 d26_50 rfl rfl rfl
theorem d26_53 : decode prog_8_method_3_code 53 = .ok (.aload_n 0, 1) := by decide +kernel
theorem s26_53 {v1 v2 v3 : Value} {l1 : Nat} {st : List Value} {im : IM} {rm : RM}  : ev 26 53 [.ref l1, v1, v2, v3] st im rm = ev 26 54 [.ref l1, v1, v2, v3] (.ref l1 :: st) (im) (rm) := ev_aload_n pm_m26 d26_53 rfl rfl
theorem d26_54 : decode prog_8_method_3_code 54 = .ok (.ldc 39, 2) := by decide +kernel
theorem s26_54 {v0 v1 v2 v3 : Value}  {st : List Value} {im : IM} {rm : RM}  : ev 26 54 [v0, v1, v2, v3] st im rm = ev 26 56 [v0, v1, v2, v3] (.ref (1000000 + 0) :: st) (im) (rm) := ev_ldcS pm_m26 d26_54 (by decide +kernel) (by decide +kernel) rfl
theorem d26_56 : decode prog_8_method_3_code 56 = .ok (.invokevirtual 41, 3) := by decide +kernel
theorem s26_56 {v0 v1 v2 v3 : Value} {a : Nat} {p1 : Nat} {im : IM} {rm : RM} (hk : kd a = 16) : ev 26 56 [v0, v1, v2, v3] [.ref p1, .ref a] im rm = (ev 38 0 [.ref a, .ref p1] [] im rm).bind (fun r => ev 26 59 [v0, v1, v2, v3] (r.1.toList ++ []) r.2.1 r.2.2) := ev_callV pm_m26 d26_56 l6_41 rfl pm_m38 (by decide) hk rfl ⟨rfl, rfl⟩ rfl rfl
theorem d26_59 : decode prog_8_method_3_code 59 = .ok (.ifCond .eq 7, 3) := by decide +kernel
theorem s26_59 {v0 v1 v2 v3 : Value} {x : Int32} {st : List Value} {im : IM} {rm : RM} : ev 26 59 [v0, v1, v2, v3] (.int x :: st) im rm = if x = nI 0 then ev 26 66 [v0, v1, pm_u, v3] st im rm else ev 26 62 [v0, v1, v2, v3] st im rm := ev_if_eq (y := 0) pm_m26 d26_59 rfl rfl rfl
theorem d26_62 : decode prog_8_method_3_code 62 = .ok (.iconst 1, 1) := by decide +kernel
theorem s26_62 {v0 v1 v2 v3 : Value}  {st : List Value} {im : IM} {rm : RM}  : ev 26 62 [v0, v1, v2, v3] st im rm = ev 26 63 [v0, v1, v2, v3] (.int (nI 1) :: st) (im) (rm) := ev_iconst pm_m26 d26_62 rfl rfl
theorem d26_63 : decode prog_8_method_3_code 63 = .ok (.goto 4, 3) := by decide +kernel
theorem s26_63 {v0 v1 v2 v3 : Value}  {st : List Value} {im : IM} {rm : RM}  : ev 26 63 [v0, v1, v2, v3] st im rm = ev 26 67 [v0, v1, pm_u, v3] st (im) (rm) := ev_goto pm_m26 d26_63 rfl rfl
theorem d26_66 : decode prog_8_method_3_code 66 = .ok (.iconst 0, 1) := by decide +kernel
theorem s26_66 {v0 v1 v2 v3 : Value}  {st : List Value} {im : IM} {rm : RM}  : ev 26 66 [v0, v1, v2, v3] st im rm = ev 26 67 [v0, v1, pm_u, v3] (.int (nI 0) :: st) (im) (rm) := ev_iconst pm_m26 d26_66 rfl rfl
theorem d26_67 : decode prog_8_method_3_code 67 = .ok (.istore_n 2, 1) := by decide +kernel
theorem s26_67 {v0 v2 v3 : Value} {l1 : Nat} {x2 : Int32} {st : List Value} {im : IM} {rm : RM}  : ev 26 67 [v0, .ref l1, v2, v3] (.int x2 :: st) im rm = ev 26 68 [v0, .ref l1, .int x2, v3] st (im) (rm) := ev_istore_n pm_m26 d26_67 (Nat.le_of_ble_eq_true rfl) rfl rfl
theorem d26_68 : decode prog_8_method_3_code 68 = .ok (.iinc 3 1, 3) := by decide +kernel
theorem s26_68 {v0 v1 : Value} {l1 : Int32} {l2 : Int32} {st : List Value} {im : IM} {rm : RM}  : ev 26 68 [v0, v1, .int l1, .int l2] st im rm = ev 26 71 [v0, v1, .int l1, .int (l2 + nI 1)] st (im) (rm) := ev_iinc pm_m26 d26_68 rfl rfl rfl rfl
theorem d26_71 : decode prog_8_method_3_code 71 = .ok (.goto (-58), 3) := by decide +kernel
theorem s26_71 {v0 v1 v2 v3 : Value}  {st : List Value} {im : IM} {rm : RM}  : ev 26 71 [v0, v1, v2, v3] st im rm = ev 26 13 [v0, v1, v2, v3] st (im) (rm) := ev_goto pm_m26 d26_71 rfl rfl
theorem d26_74 : decode prog_8_method_3_code 74 = .ok (.aload_n 0, 1) := by decide +kernel
theorem s26_74 {v1 v2 v3 : Value} {l1 : Nat} {st : List Value} {im : IM} {rm : RM}  : ev 26 74 [.ref l1, v1, v2, v3] st im rm = ev 26 75 [.ref l1, v1, v2, v3] (.ref l1 :: st) (im) (rm) := ev_aload_n pm_m26 d26_74 rfl rfl
theorem d26_75 : decode prog_8_method_3_code 75 = .ok (.getfield 19, 3) := by decide +kernel
theorem s26_75 {v0 v1 v2 v3 : Value} {a : Nat} {st : List Value} {im : IM} {rm : RM} (hk : kd a = 16) : ev 26 75 [v0, v1, v2, v3] (.ref a :: st) im rm = ev 26 78 [v0, v1, v2, v3] (.int (im a 2) :: st) (im) (rm) := ev_getI pm_m26 d26_75 f6_19 rfl hk rfl
theorem d26_78 : decode prog_8_method_3_code 78 = .ok (.aload_n 0, 1) := by decide +kernel
theorem s26_78 {v1 v2 v3 : Value} {l1 : Nat} {st : List Value} {im : IM} {rm : RM}  : ev 26 78 [.ref l1, v1, v2, v3] st im rm = ev 26 79 [.ref l1, v1, v2, v3] (.ref l1 :: st) (im) (rm) := ev_aload_n pm_m26 d26_78 rfl rfl
theorem d26_79 : decode prog_8_method_3_code 79 = .ok (.getfield 9, 3) := by decide +kernel
theorem s26_79 {v0 v1 v2 v3 : Value} {a : Nat} {st : List Value} {im : IM} {rm : RM} (hk : kd a = 16) : ev 26 79 [v0, v1, v2, v3] (.ref a :: st) im rm = ev 26 82 [v0, v1, v2, v3] (.int (im a 0) :: st) (im) (rm) := ev_getI pm_m26 d26_79 f6_9 rfl hk rfl
theorem d26_82 : decode prog_8_method_3_code 82 = .ok (.if_icmp .ne 7, 3) := by decide +kernel
theorem s26_82 {v0 v1 v2 v3 : Value} {x : Int32} {y : Int32} {st : List Value} {im : IM} {rm : RM} : ev 26 82 [v0, v1, v2, v3] (.int y :: .int x :: st) im rm = if x = y then ev 26 85 [v0, v1, v2, v3] st im rm else ev 26 89 [v0, pm_u, pm_u, pm_u] st im rm := ev_icmp_ne pm_m26 d26_82 rfl rfl rfl
theorem d26_85 : decode prog_8_method_3_code 85 = .ok (.iconst (-1), 1) := by decide +kernel
theorem s26_85 {v0 v1 v2 v3 : Value}  {st : List Value} {im : IM} {rm : RM}  : ev 26 85 [v0, v1, v2, v3] st im rm = ev 26 86 [v0, v1, v2, v3] (.int ((-1 : Int32)) :: st) (im) (rm) := ev_iconst pm_m26 d26_85 rfl rfl
theorem d26_86 : decode prog_8_method_3_code 86 = .ok (.goto 7, 3) := by decide +kernel
theorem s26_86 {v0 v1 v2 v3 : Value}  {st : List Value} {im : IM} {rm : RM}  : ev 26 86 [v0, v1, v2, v3] st im rm = ev 26 93 [pm_u, pm_u, pm_u, pm_u] st (im) (rm) := ev_goto pm_m26 d26_86 rfl rfl
theorem d26_89 : decode prog_8_method_3_code 89 = .ok (.aload_n 0, 1) := by decide +kernel
theorem s26_89 {v1 v2 v3 : Value} {l1 : Nat} {st : List Value} {im : IM} {rm : RM}  : ev 26 89 [.ref l1, v1, v2, v3] st im rm = ev 26 90 [.ref l1, v1, v2, v3] (.ref l1 :: st) (im) (rm) := ev_aload_n pm_m26 d26_89 rfl rfl
theorem d26_90 : decode prog_8_method_3_code 90 = .ok (.getfield 19, 3) := by decide +kernel
theorem s26_90 {v0 v1 v2 v3 : Value} {a : Nat} {st : List Value} {im : IM} {rm : RM} (hk : kd a = 16) : ev 26 90 [v0, v1, v2, v3] (.ref a :: st) im rm = ev 26 93 [pm_u, pm_u, pm_u, pm_u] (.int (im a 2) :: st) (im) (rm) := ev_getI pm_m26 d26_90 f6_19 rfl hk rfl
theorem d26_93 : decode prog_8_method_3_code 93 = .ok (.ireturn, 1) := by decide +kernel
theorem s26_93 {v0 v1 v2 v3 : Value} {x : Int32} {im : IM} {rm : RM} : ev 26 93 [v0, v1, v2, v3] [.int x] im rm = some (some (.int x), im, rm) := ev_ireturn pm_m26 d26_93 rfl
theorem d27_0 : decode prog_8_method_4_code 0 = .ok (.aload_n 0, 1) := by decide +kernel
theorem s27_0 {v1 v2 v3 : Value} {l1 : Nat} {st : List Value} {im : IM} {rm : RM}  : ev 27 0 [.ref l1, v1, v2, v3] st im rm = ev 27 1 [.ref l1, v1, v2, v3] (.ref l1 :: st) (im) (rm) := ev_aload_n pm_m27 d27_0 rfl rfl
theorem d27_1 : decode prog_8_method_4_code 1 = .ok (.invokevirtual 27, 3) := by decide +kernel
theorem s27_1 {v0 v1 v2 v3 : Value} {a : Nat} {im : IM} {rm : RM} (hk : kd a = 16) : ev 27 1 [v0, v1, v2, v3] [.ref a] im rm = (ev 34 0 [.ref a] [] im rm).bind (fun r => ev 27 4 [v0, v1, v2, v3] (r.1.toList ++ []) r.2.1 r.2.2) := ev_callV pm_m27 d27_1 l6_27 rfl pm_m34 (by decide) hk rfl ⟨rfl, rfl⟩ rfl rfl
theorem d27_4 : decode prog_8_method_4_code 4 = .ok (.aload_n 1, 1) := by decide +kernel
theorem s27_4 {v0 v2 v3 : Value} {l1 : Nat} {st : List Value} {im : IM} {rm : RM}  : ev 27 4 [v0, .ref l1, v2, v3] st im rm = ev 27 5 [v0, .ref l1, v2, v3] (.ref l1 :: st) (im) (rm) := ev_aload_n pm_m27 d27_4 rfl rfl
theorem d27_5 : decode prog_8_method_4_code 5 = .ok (.iconst 0, 1) := by decide +kernel
theorem s27_5 {v0 v1 v2 v3 : Value}  {st : List Value} {im : IM} {rm : RM}  : ev 27 5 [v0, v1, v2, v3] st im rm = ev 27 6 [v0, v1, v2, v3] (.int (nI 0) :: st) (im) (rm) := ev_iconst pm_m27 d27_5 rfl rfl
theorem d27_6 : decode prog_8_method_4_code 6 = .ok (.putfield 45, 3) := by decide +kernel
theorem s27_6 {v0 v1 v2 v3 : Value} {a : Nat} {v : Int32} {st : List Value} {im : IM} {rm : RM} (hk : kd a = 11) : ev 27 6 [v0, v1, v2, v3] (.int v :: .ref a :: st) im rm = ev 27 9 [v0, v1, v2, v3] st (pm_w2 im a 0 v) (rm) := ev_putI pm_m27 d27_6 f6_45 rfl rfl hk rfl
theorem d27_9 : decode prog_8_method_4_code 9 = .ok (.iconst 1, 1) := by decide +kernel
theorem s27_9 {v0 v1 v2 v3 : Value}  {st : List Value} {im : IM} {rm : RM}  : ev 27 9 [v0, v1, v2, v3] st im rm = ev 27 10 [v0, v1, v2, v3] (.int (nI 1) :: st) (im) (rm) := ev_iconst pm_m27 d27_9 rfl rfl
theorem d27_10 : decode prog_8_method_4_code 10 = .ok (.istore_n 2, 1) := by decide +kernel
theorem s27_10 {v0 v2 v3 : Value} {l1 : Nat} {x2 : Int32} {st : List Value} {im : IM} {rm : RM}  : ev 27 10 [v0, .ref l1, v2, v3] (.int x2 :: st) im rm = ev 27 11 [v0, .ref l1, .int x2, v3] st (im) (rm) := ev_istore_n pm_m27 d27_10 (Nat.le_of_ble_eq_true rfl) rfl rfl
theorem d27_11 : decode prog_8_method_4_code 11 = .ok (.iconst 0, 1) := by decide +kernel
theorem s27_11 {v0 v1 v2 v3 : Value}  {st : List Value} {im : IM} {rm : RM}  : ev 27 11 [v0, v1, v2, v3] st im rm = ev 27 12 [v0, v1, v2, v3] (.int (nI 0) :: st) (im) (rm) := ev_iconst pm_m27 d27_11 rfl rfl
theorem d27_12 : decode prog_8_method_4_code 12 = .ok (.istore_n 3, 1) := by decide +kernel
theorem s27_12 {v0 v1 v3 : Value} {l1 : Int32} {x2 : Int32} {st : List Value} {im : IM} {rm : RM}  : ev 27 12 [v0, v1, .int l1, v3] (.int x2 :: st) im rm = ev 27 13 [v0, v1, .int l1, .int x2] st (im) (rm) := ev_istore_n pm_m27 d27_12 (Nat.le_of_ble_eq_true rfl) rfl rfl
theorem d27_13 : decode prog_8_method_4_code 13 = .ok (.iload_n 2, 1) := by decide +kernel
theorem s27_13 {v0 v1 v3 : Value} {l1 : Int32} {st : List Value} {im : IM} {rm : RM}  : ev 27 13 [v0, v1, .int l1, v3] st im rm = ev 27 14 [v0, v1, .int l1, v3] (.int l1 :: st) (im) (rm) := ev_iload_n pm_m27 d27_13 rfl rfl
theorem d27_14 : decode prog_8_method_4_code 14 = .ok (.ifCond .eq 60, 3) := by decide +kernel
theorem s27_14 {v0 v1 v2 v3 : Value} {x : Int32} {st : List Value} {im : IM} {rm : RM} : ev 27 14 [v0, v1, v2, v3] (.int x :: st) im rm = if x = nI 0 then ev 27 74 [v0, pm_u, pm_u, pm_u] st im rm else ev 27 17 [v0, v1, v2, v3] st im rm := ev_if_eq (y := 0) pm_m27 d27_14 rfl rfl rfl
theorem d27_17 : decode prog_8_method_4_code 17 = .ok (.iload_n 3, 1) := by decide +kernel
theorem s27_17 {v0 v1 v2 : Value} {l1 : Int32} {st : List Value} {im : IM} {rm : RM}  : ev 27 17 [v0, v1, v2, .int l1] st im rm = ev 27 18 [v0, v1, v2, .int l1] (.int l1 :: st) (im) (rm) := ev_iload_n pm_m27 d27_17 rfl rfl
theorem d27_18 : decode prog_8_method_4_code 18 = .ok (.bipush 8, 2) := by decide +kernel
theorem s27_18 {v0 v1 v2 v3 : Value}  {st : List Value} {im : IM} {rm : RM}  : ev 27 18 [v0, v1, v2, v3] st im rm = ev 27 20 [v0, v1, v2, v3] (.int (nI 8) :: st) (im) (rm) := ev_bipush pm_m27 d27_18 rfl rfl
theorem d27_20 : decode prog_8_method_4_code 20 = .ok (.if_icmp .ge 54, 3) := by decide +kernel
theorem s27_20 {v0 v1 v2 v3 : Value} {x : Int32} {y : Int32} {st : List Value} {im : IM} {rm : RM} : ev 27 20 [v0, v1, v2, v3] (.int y :: .int x :: st) im rm = if y ≤ x then ev 27 74 [v0, pm_u, pm_u, pm_u] st im rm else ev 27 23 [v0, v1, v2, v3] st im rm := ev_icmp_ge pm_m27 d27_20 rfl rfl rfl
theorem d27_23 : decode prog_8_method_4_code 23 = .ok (.aload_n 0, 1) := by decide +kernel
theorem s27_23 {v1 v2 v3 : Value} {l1 : Nat} {st : List Value} {im : IM} {rm : RM}  : ev 27 23 [.ref l1, v1, v2, v3] st im rm = ev 27 24 [.ref l1, v1, v2, v3] (.ref l1 :: st) (im) (rm) := ev_aload_n pm_m27 d27_23 rfl rfl
theorem d27_24 : decode prog_8_method_4_code 24 = .ok (.aload_n 1, 1) := by decide +kernel
theorem s27_24 {v0 v2 v3 : Value} {l1 : Nat} {st : List Value} {im : IM} {rm : RM}  : ev 27 24 [v0, .ref l1, v2, v3] st im rm = ev 27 25 [v0, .ref l1, v2, v3] (.ref l1 :: st) (im) (rm) := ev_aload_n pm_m27 d27_24 rfl rfl
theorem d27_25 : decode prog_8_method_4_code 25 = .ok (.iload_n 3, 1) := by decide +kernel
theorem s27_25 {v0 v1 v2 : Value} {l1 : Int32} {st : List Value} {im : IM} {rm : RM}  : ev 27 25 [v0, v1, v2, .int l1] st im rm = ev 27 26 [v0, v1, v2, .int l1] (.int l1 :: st) (im) (rm) := ev_iload_n pm_m27 d27_25 rfl rfl
theorem d27_26 : decode prog_8_method_4_code 26 = .ok (.invokevirtual 48, 3) := by decide +kernel
theorem s27_26 {v0 v1 v2 v3 : Value} {a : Nat} {p1 : Nat} {p2 : Int32} {im : IM} {rm : RM} (hk : kd a = 16) : ev 27 26 [v0, v1, v2, v3] [.int p2, .ref p1, .ref a] im rm = (ev 30 0 [.ref a, .ref p1, .int p2, pm_u] [] im rm).bind (fun r => ev 27 29 [v0, v1, v2, v3] (r.1.toList ++ []) r.2.1 r.2.2) := ev_callV pm_m27 d27_26 l6_48 rfl pm_m30 (by decide) hk rfl ⟨rfl, rfl⟩ rfl rfl
theorem d27_29 : decode prog_8_method_4_code 29 = .ok (.ifCond .ne 8, 3) := by decide +kernel
theorem s27_29 {v0 v1 v2 v3 : Value} {x : Int32} {st : List Value} {im : IM} {rm : RM} : ev 27 29 [v0, v1, v2, v3] (.int x :: st) im rm = if x = nI 0 then ev 27 32 [v0, v1, v2, v3] st im rm else ev 27 37 [v0, v1, pm_u, v3] st im rm := ev_if_ne (y := 0) pm_m27 d27_29 rfl rfl rfl
theorem d27_32 : decode prog_8_method_4_code 32 = .ok (.aload_n 0, 1) := by decide +kernel
theorem s27_32 {v1 v2 v3 : Value} {l1 : Nat} {st : List Value} {im : IM} {rm : RM}  : ev 27 32 [.ref l1, v1, v2, v3] st im rm = ev 27 33 [.ref l1, v1, v2, v3] (.ref l1 :: st) (im) (rm) := ev_aload_n pm_m27 d27_32 rfl rfl
theorem d27_33 : decode prog_8_method_4_code 33 = .ok (.getfield 19, 3) := by decide +kernel
theorem s27_33 {v0 v1 v2 v3 : Value} {a : Nat} {st : List Value} {im : IM} {rm : RM} (hk : kd a = 16) : ev 27 33 [v0, v1, v2, v3] (.ref a :: st) im rm = ev 27 36 [v0, v1, v2, v3] (.int (im a 2) :: st) (im) (rm) := ev_getI pm_m27 d27_33 f6_19 rfl hk rfl
theorem d27_36 : decode prog_8_method_4_code 36 = .ok (.ireturn, 1) := by decide +kernel
theorem s27_36 {v0 v1 v2 v3 : Value} {x : Int32} {im : IM} {rm : RM} : ev 27 36 [v0, v1, v2, v3] [.int x] im rm = some (some (.int x), im, rm) := ev_ireturn pm_m27 d27_36 rfl
theorem d27_37 : decode prog_8_method_4_code 37 = .ok (.aload_n 1, 1) := by decide +kernel
theorem s27_37 {v0 v2 v3 : Value} {l1 : Nat} {st : List Value} {im : IM} {rm : RM}  : ev 27 37 [v0, .ref l1, v2, v3] st im rm = ev 27 38 [v0, .ref l1, v2, v3] (.ref l1 :: st) (im) (rm) := ev_aload_n pm_m27 d27_37 rfl rfl
theorem d27_38 : decode prog_8_method_4_code 38 = .ok (.iload_n 3, 1) := by decide +kernel
theorem s27_38 {v0 v1 v2 : Value} {l1 : Int32} {st : List Value} {im : IM} {rm : RM}  : ev 27 38 [v0, v1, v2, .int l1] st im rm = ev 27 39 [v0, v1, v2, .int l1] (.int l1 :: st) (im) (rm) := ev_iload_n pm_m27 d27_38 rfl rfl
theorem d27_39 : decode prog_8_method_4_code 39 = .ok (.iconst 1, 1) := by decide +kernel
theorem s27_39 {v0 v1 v2 v3 : Value}  {st : List Value} {im : IM} {rm : RM}  : ev 27 39 [v0, v1, v2, v3] st im rm = ev 27 40 [v0, v1, v2, v3] (.int (nI 1) :: st) (im) (rm) := ev_iconst pm_m27 d27_39 rfl rfl
theorem d27_40 : decode prog_8_method_4_code 40 = .ok (.iadd, 1) := by decide +kernel
theorem s27_40 {v0 v1 v2 v3 : Value} {x : Int32} {y : Int32} {st : List Value} {im : IM} {rm : RM}  : ev 27 40 [v0, v1, v2, v3] (.int y :: .int x :: st) im rm = ev 27 41 [v0, v1, v2, v3] (.int (x + y) :: st) (im) (rm) := ev_iadd pm_m27 d27_40 rfl
theorem d27_41 : decode prog_8_method_4_code 41 = .ok (.putfield 45, 3) := by decide +kernel
theorem s27_41 {v0 v1 v2 v3 : Value} {a : Nat} {v : Int32} {st : List Value} {im : IM} {rm : RM} (hk : kd a = 11) : ev 27 41 [v0, v1, v2, v3] (.int v :: .ref a :: st) im rm = ev 27 44 [v0, v1, v2, v3] st (pm_w2 im a 0 v) (rm) := ev_putI pm_m27 d27_41 f6_45 rfl rfl hk rfl
theorem d27_44 : decode prog_8_method_4_code 44 = .ok (.aload_n 1, 1) := by decide +kernel
theorem s27_44 {v0 v2 v3 : Value} {l1 : Nat} {st : List Value} {im : IM} {rm : RM}  : ev 27 44 [v0, .ref l1, v2, v3] st im rm = ev 27 45 [v0, .ref l1, v2, v3] (.ref l1 :: st) (im) (rm) := ev_aload_n pm_m27 d27_44 rfl rfl
theorem d27_45 : decode prog_8_method_4_code 45 = .ok (.getfield 45, 3) := by decide +kernel
theorem s27_45 {v0 v1 v2 v3 : Value} {a : Nat} {st : List Value} {im : IM} {rm : RM} (hk : kd a = 11) : ev 27 45 [v0, v1, v2, v3] (.ref a :: st) im rm = ev 27 48 [v0, v1, v2, v3] (.int (im a 0) :: st) (im) (rm) := ev_getI pm_m27 d27_45 f6_45 rfl hk rfl
theorem d27_48 : decode prog_8_method_4_code 48 = .ok (.bipush 8, 2) := by decide +kernel
theorem s27_48 {v0 v1 v2 v3 : Value}  {st : List Value} {im : IM} {rm : RM}  : ev 27 48 [v0, v1, v2, v3] st im rm = ev 27 50 [v0, v1, v2, v3] (.int (nI 8) :: st) (im) (rm) := ev_bipush pm_m27 d27_48 rfl rfl
theorem d27_50 : decode prog_8_method_4_code 50 = .ok (.if_icmp .ge 16, 3) := by decide +kernel
theorem s27_50 {v0 v1 v2 v3 : Value} {x : Int32} {y : Int32} {st : List Value} {im : IM} {rm : RM} : ev 27 50 [v0, v1, v2, v3] (.int y :: .int x :: st) im rm = if y ≤ x then ev 27 66 [v0, v1, pm_u, v3] st im rm else ev 27 53 [v0, v1, v2, v3] st im rm := ev_icmp_ge pm_m27 d27_50 rfl rfl rfl
theorem d27_53 : decode prog_8_method_4_code 53 = .ok (.aload_n 0, 1) := by decide +kernel
theorem s27_53 {v1 v2 v3 : Value} {l1 : Nat} {st : List Value} {im : IM} {rm : RM}  : ev 27 53 [.ref l1, v1, v2, v3] st im rm = ev 27 54 [.ref l1, v1, v2, v3] (.ref l1 :: st) (im) (rm) := ev_aload_n pm_m27 d27_53 rfl rfl
theorem d27_54 : decode prog_8_method_4_code 54 = .ok (.ldc 39, 2) := by decide +kernel
theorem s27_54 {v0 v1 v2 v3 : Value}  {st : List Value} {im : IM} {rm : RM}  : ev 27 54 [v0, v1, v2, v3] st im rm = ev 27 56 [v0, v1, v2, v3] (.ref (1000000 + 0) :: st) (im) (rm) := ev_ldcS pm_m27 d27_54 (by decide +kernel) (by decide +kernel) rfl
theorem d27_56 : decode prog_8_method_4_code 56 = .ok (.invokevirtual 41, 3) := by decide +kernel
theorem s27_56 {v0 v1 v2 v3 : Value} {a : Nat} {p1 : Nat} {im : IM} {rm : RM} (hk : kd a = 16) : ev 27 56 [v0, v1, v2, v3] [.ref p1, .ref a] im rm = (ev 38 0 [.ref a, .ref p1] [] im rm).bind (fun r => ev 27 59 [v0, v1, v2, v3] (r.1.toList ++ []) r.2.1 r.2.2) := ev_callV pm_m27 d27_56 l6_41 rfl pm_m38 (by decide) hk rfl ⟨rfl, rfl⟩ rfl rfl
theorem d27_59 : decode prog_8_method_4_code 59 = .ok (.ifCond .eq 7, 3) := by decide +kernel
theorem s27_59 {v0 v1 v2 v3 : Value} {x : Int32} {st : List Value} {im : IM} {rm : RM} : ev 27 59 [v0, v1, v2, v3] (.int x :: st) im rm = if x = nI 0 then ev 27 66 [v0, v1, pm_u, v3] st im rm else ev 27 62 [v0, v1, v2, v3] st im rm := ev_if_eq (y := 0) pm_m27 d27_59 rfl rfl rfl
theorem d27_62 : decode prog_8_method_4_code 62 = .ok (.iconst 1, 1) := by decide +kernel
theorem s27_62 {v0 v1 v2 v3 : Value}  {st : List Value} {im : IM} {rm : RM}  : ev 27 62 [v0, v1, v2, v3] st im rm = ev 27 63 [v0, v1, v2, v3] (.int (nI 1) :: st) (im) (rm) := ev_iconst pm_m27 d27_62 rfl rfl
theorem d27_63 : decode prog_8_method_4_code 63 = .ok (.goto 4, 3) := by decide +kernel
theorem s27_63 {v0 v1 v2 v3 : Value}  {st : List Value} {im : IM} {rm : RM}  : ev 27 63 [v0, v1, v2, v3] st im rm = ev 27 67 [v0, v1, pm_u, v3] st (im) (rm) := ev_goto pm_m27 d27_63 rfl rfl
theorem d27_66 : decode prog_8_method_4_code 66 = .ok (.iconst 0, 1) := by decide +kernel
theorem s27_66 {v0 v1 v2 v3 : Value}  {st : List Value} {im : IM} {rm : RM}  : ev 27 66 [v0, v1, v2, v3] st im rm = ev 27 67 [v0, v1, pm_u, v3] (.int (nI 0) :: st) (im) (rm) := ev_iconst pm_m27 d27_66 rfl rfl
theorem d27_67 : decode prog_8_method_4_code 67 = .ok (.istore_n 2, 1) := by decide +kernel
theorem s27_67 {v0 v2 v3 : Value} {l1 : Nat} {x2 : Int32} {st : List Value} {im : IM} {rm : RM}  : ev 27 67 [v0, .ref l1, v2, v3] (.int x2 :: st) im rm = ev 27 68 [v0, .ref l1, .int x2, v3] st (im) (rm) := ev_istore_n pm_m27 d27_67 (Nat.le_of_ble_eq_true rfl) rfl rfl
theorem d27_68 : decode prog_8_method_4_code 68 = .ok (.iinc 3 1, 3) := by decide +kernel
theorem s27_68 {v0 v1 : Value} {l1 : Int32} {l2 : Int32} {st : List Value} {im : IM} {rm : RM}  : ev 27 68 [v0, v1, .int l1, .int l2] st im rm = ev 27 71 [v0, v1, .int l1, .int (l2 + nI 1)] st (im) (rm) := ev_iinc pm_m27 d27_68 rfl rfl rfl rfl
theorem d27_71 : decode prog_8_method_4_code 71 = .ok (.goto (-58), 3) := by decide +kernel
theorem s27_71 {v0 v1 v2 v3 : Value}  {st : List Value} {im : IM} {rm : RM}  : ev 27 71 [v0, v1, v2, v3] st im rm = ev 27 13 [v0, v1, v2, v3] st (im) (rm) := ev_goto pm_m27 d27_71 rfl rfl
theorem d27_74 : decode prog_8_method_4_code 74 = .ok (.aload_n 0, 1) := by decide +kernel
theorem s27_74 {v1 v2 v3 : Value} {l1 : Nat} {st : List Value} {im : IM} {rm : RM}  : ev 27 74 [.ref l1, v1, v2, v3] st im rm = ev 27 75 [.ref l1, v1, v2, v3] (.ref l1 :: st) (im) (rm) := ev_aload_n pm_m27 d27_74 rfl rfl
theorem d27_75 : decode prog_8_method_4_code 75 = .ok (.getfield 19, 3) := by decide +kernel
theorem s27_75 {v0 v1 v2 v3 : Value} {a : Nat} {st : List Value} {im : IM} {rm : RM} (hk : kd a = 16) : ev 27 75 [v0, v1, v2, v3] (.ref a :: st) im rm = ev 27 78 [v0, v1, v2, v3] (.int (im a 2) :: st) (im) (rm) := ev_getI pm_m27 d27_75 f6_19 rfl hk rfl
theorem d27_78 : decode prog_8_method_4_code 78 = .ok (.aload_n 0, 1) := by decide +kernel
theorem s27_78 {v1 v2 v3 : Value} {l1 : Nat} {st : List Value} {im : IM} {rm : RM}  : ev 27 78 [.ref l1, v1, v2, v3] st im rm = ev 27 79 [.ref l1, v1, v2, v3] (.ref l1 :: st) (im) (rm) := ev_aload_n pm_m27 d27_78 rfl rfl
theorem d27_79 : decode prog_8_method_4_code 79 = .ok (.getfield 9, 3) := by decide +kernel
theorem s27_79 {v0 v1 v2 v3 : Value} {a : Nat} {st : List Value} {im : IM} {rm : RM} (hk : kd a = 16) : ev 27 79 [v0, v1, v2, v3] (.ref a :: st) im rm = ev 27 82 [v0, v1, v2, v3] (.int (im a 0) :: st) (im) (rm) := ev_getI pm_m27 d27_79 f6_9 rfl hk rfl
theorem d27_82 : decode prog_8_method_4_code 82 = .ok (.if_icmp .ne 7, 3) := by decide +kernel
theorem s27_82 {v0 v1 v2 v3 : Value} {x : Int32} {y : Int32} {st : List Value} {im : IM} {rm : RM} : ev 27 82 [v0, v1, v2, v3] (.int y :: .int x :: st) im rm = if x = y then ev 27 85 [v0, v1, v2, v3] st im rm else ev 27 89 [v0, pm_u, pm_u, pm_u] st im rm := ev_icmp_ne pm_m27 d27_82 rfl rfl rfl
theorem d27_85 : decode prog_8_method_4_code 85 = .ok (.iconst (-1), 1) := by decide +kernel
theorem s27_85 {v0 v1 v2 v3 : Value}  {st : List Value} {im : IM} {rm : RM}  : ev 27 85 [v0, v1, v2, v3] st im rm = ev 27 86 [v0, v1, v2, v3] (.int ((-1 : Int32)) :: st) (im) (rm) := ev_iconst pm_m27 d27_85 rfl rfl
theorem d27_86 : decode prog_8_method_4_code 86 = .ok (.goto 7, 3) := by decide +kernel
theorem s27_86 {v0 v1 v2 v3 : Value}  {st : List Value} {im : IM} {rm : RM}  : ev 27 86 [v0, v1, v2, v3] st im rm = ev 27 93 [pm_u, pm_u, pm_u, pm_u] st (im) (rm) := ev_goto pm_m27 d27_86 rfl rfl
theorem d27_89 : decode prog_8_method_4_code 89 = .ok (.aload_n 0, 1) := by decide +kernel
theorem s27_89 {v1 v2 v3 : Value} {l1 : Nat} {st : List Value} {im : IM} {rm : RM}  : ev 27 89 [.ref l1, v1, v2, v3] st im rm = ev 27 90 [.ref l1, v1, v2, v3] (.ref l1 :: st) (im) (rm) := ev_aload_n pm_m27 d27_89 rfl rfl
theorem d27_90 : decode prog_8_method_4_code 90 = .ok (.getfield 19, 3) := by decide +kernel
theorem s27_90 {v0 v1 v2 v3 : Value} {a : Nat} {st : List Value} {im : IM} {rm : RM} (hk : kd a = 16) : ev 27 90 [v0, v1, v2, v3] (.ref a :: st) im rm = ev 27 93 [pm_u, pm_u, pm_u, pm_u] (.int (im a 2) :: st) (im) (rm) := ev_getI pm_m27 d27_90 f6_19 rfl hk rfl
theorem d27_93 : decode prog_8_method_4_code 93 = .ok (.ireturn, 1) := by decide +kernel
theorem s27_93 {v0 v1 v2 v3 : Value} {x : Int32} {im : IM} {rm : RM} : ev 27 93 [v0, v1, v2, v3] [.int x] im rm = some (some (.int x), im, rm) := ev_ireturn pm_m27 d27_93 rfl
theorem d28_0 : decode prog_8_method_5_code 0 = .ok (.aload_n 1, 1) := by decide +kernel
theorem s28_0 {v0 v2 v3 v4 : Value} {l1 : Nat} {st : List Value} {im : IM} {rm : RM}  : ev 28 0 [v0, .ref l1, v2, v3, v4] st im rm = ev 28 1 [v0, .ref l1, v2, v3, v4] (.ref l1 :: st) (im) (rm) := ev_aload_n pm_m28 d28_0 rfl rfl
theorem d28_1 : decode prog_8_method_5_code 1 = .ok (.getfield 52, 3) := by decide +kernel
theorem s28_1 {v0 v1 v2 v3 v4 : Value} {a : Nat} {st : List Value} {im : IM} {rm : RM} (hk : kd a = 14) : ev 28 1 [v0, v1, v2, v3, v4] (.ref a :: st) im rm = ev 28 4 [v0, v1, v2, v3, v4] (pm_ro (rm a 2) :: st) (im) (rm) := ev_getR pm_m28 d28_1 f6_52 rfl hk rfl
theorem d28_4 : decode prog_8_method_5_code 4 = .ok (.iload_n 2, 1) := by decide +kernel
theorem s28_4 {v0 v1 v3 v4 : Value} {l1 : Int32} {st : List Value} {im : IM} {rm : RM}  : ev 28 4 [v0, v1, .int l1, v3, v4] st im rm = ev 28 5 [v0, v1, .int l1, v3, v4] (.int l1 :: st) (im) (rm) := ev_iload_n pm_m28 d28_4 rfl rfl
theorem d28_5 : decode prog_8_method_5_code 5 = .ok (.iconst 0, 1) := by decide +kernel
theorem s28_5 {v0 v1 v2 v3 v4 : Value}  {st : List Value} {im : IM} {rm : RM}  : ev 28 5 [v0, v1, v2, v3, v4] st im rm = ev 28 6 [v0, v1, v2, v3, v4] (.int (nI 0) :: st) (im) (rm) := ev_iconst pm_m28 d28_5 rfl rfl
theorem d28_6 : decode prog_8_method_5_code 6 = .ok (.iastore, 1) := by decide +kernel
theorem s28_6 {v0 v1 v2 v3 v4 : Value} {a : Nat} {i : Int32} {v : Int32} {st : List Value} {im : IM} {rm : RM} (hk : kd a = 0) (hi : pm_in i (ln a) = true) : ev 28 6 [v0, v1, v2, v3, v4] (.int v :: .int i :: .ref a :: st) im rm = ev 28 7 [v0, v1, v2, v3, v4] st (pm_w2 im a i.toNatClampNeg v) (rm) := ev_iast pm_m28 d28_6 hk hi rfl
theorem d28_7 : decode prog_8_method_5_code 7 = .ok (.aload_n 0, 1) := by decide +kernel
theorem s28_7 {v1 v2 v3 v4 : Value} {l1 : Nat} {st : List Value} {im : IM} {rm : RM}  : ev 28 7 [.ref l1, v1, v2, v3, v4] st im rm = ev 28 8 [.ref l1, v1, v2, v3, v4] (.ref l1 :: st) (im) (rm) := ev_aload_n pm_m28 d28_7 rfl rfl
theorem d28_8 : decode prog_8_method_5_code 8 = .ok (.ldc 55, 2) := by decide +kernel
theorem s28_8 {v0 v1 v2 v3 v4 : Value}  {st : List Value} {im : IM} {rm : RM}  : ev 28 8 [v0, v1, v2, v3, v4] st im rm = ev 28 10 [v0, v1, v2, v3, v4] (.ref (1000000 + 1) :: st) (im) (rm) := ev_ldcS pm_m28 d28_8 (by decide +kernel) (by decide +kernel) rfl
theorem d28_10 : decode prog_8_method_5_code 10 = .ok (.invokevirtual 41, 3) := by decide +kernel
theorem s28_10 {v0 v1 v2 v3 v4 : Value} {a : Nat} {p1 : Nat} {im : IM} {rm : RM} (hk : kd a = 16) : ev 28 10 [v0, v1, v2, v3, v4] [.ref p1, .ref a] im rm = (ev 38 0 [.ref a, .ref p1] [] im rm).bind (fun r => ev 28 13 [v0, v1, v2, v3, v4] (r.1.toList ++ []) r.2.1 r.2.2) := ev_callV pm_m28 d28_10 l6_41 rfl pm_m38 (by decide) hk rfl ⟨rfl, rfl⟩ rfl rfl
theorem d28_13 : decode prog_8_method_5_code 13 = .ok (.ifCond .ne 5, 3) := by decide +kernel
theorem s28_13 {v0 v1 v2 v3 v4 : Value} {x : Int32} {st : List Value} {im : IM} {rm : RM} : ev 28 13 [v0, v1, v2, v3, v4] (.int x :: st) im rm = if x = nI 0 then ev 28 16 [v0, v1, v2, v3, v4] st im rm else ev 28 18 [v0, v1, v2, pm_u, pm_u] st im rm := ev_if_ne (y := 0) pm_m28 d28_13 rfl rfl rfl
theorem d28_16 : decode prog_8_method_5_code 16 = .ok (.iconst 0, 1) := by decide +kernel
theorem s28_16 {v0 v1 v2 v3 v4 : Value}  {st : List Value} {im : IM} {rm : RM}  : ev 28 16 [v0, v1, v2, v3, v4] st im rm = ev 28 17 [v0, v1, v2, v3, v4] (.int (nI 0) :: st) (im) (rm) := ev_iconst pm_m28 d28_16 rfl rfl
theorem d28_17 : decode prog_8_method_5_code 17 = .ok (.ireturn, 1) := by decide +kernel
theorem s28_17 {v0 v1 v2 v3 v4 : Value} {x : Int32} {im : IM} {rm : RM} (hx : x = 0 ∨ x = 1) : ev 28 17 [v0, v1, v2, v3, v4] [.int x] im rm = some (some (.int x), im, rm) := ev_zreturn pm_m28 d28_17 rfl hx
theorem d28_18 : decode prog_8_method_5_code 18 = .ok (.aload_n 1, 1) := by decide +kernel
theorem s28_18 {v0 v2 v3 v4 : Value} {l1 : Nat} {st : List Value} {im : IM} {rm : RM}  : ev 28 18 [v0, .ref l1, v2, v3, v4] st im rm = ev 28 19 [v0, .ref l1, v2, v3, v4] (.ref l1 :: st) (im) (rm) := ev_aload_n pm_m28 d28_18 rfl rfl
theorem d28_19 : decode prog_8_method_5_code 19 = .ok (.getfield 57, 3) := by decide +kernel
theorem s28_19 {v0 v1 v2 v3 v4 : Value} {a : Nat} {st : List Value} {im : IM} {rm : RM} (hk : kd a = 14) : ev 28 19 [v0, v1, v2, v3, v4] (.ref a :: st) im rm = ev 28 22 [v0, v1, v2, v3, v4] (pm_ro (rm a 1) :: st) (im) (rm) := ev_getR pm_m28 d28_19 f6_57 rfl hk rfl
theorem d28_22 : decode prog_8_method_5_code 22 = .ok (.iload_n 2, 1) := by decide +kernel
theorem s28_22 {v0 v1 v3 v4 : Value} {l1 : Int32} {st : List Value} {im : IM} {rm : RM}  : ev 28 22 [v0, v1, .int l1, v3, v4] st im rm = ev 28 23 [v0, v1, .int l1, v3, v4] (.int l1 :: st) (im) (rm) := ev_iload_n pm_m28 d28_22 rfl rfl
theorem d28_23 : decode prog_8_method_5_code 23 = .ok (.aload_n 0, 1) := by decide +kernel
theorem s28_23 {v1 v2 v3 v4 : Value} {l1 : Nat} {st : List Value} {im : IM} {rm : RM}  : ev 28 23 [.ref l1, v1, v2, v3, v4] st im rm = ev 28 24 [.ref l1, v1, v2, v3, v4] (.ref l1 :: st) (im) (rm) := ev_aload_n pm_m28 d28_23 rfl rfl
theorem d28_24 : decode prog_8_method_5_code 24 = .ok (.iconst 3, 1) := by decide +kernel
theorem s28_24 {v0 v1 v2 v3 v4 : Value}  {st : List Value} {im : IM} {rm : RM}  : ev 28 24 [v0, v1, v2, v3, v4] st im rm = ev 28 25 [v0, v1, v2, v3, v4] (.int (nI 3) :: st) (im) (rm) := ev_iconst pm_m28 d28_24 rfl rfl
theorem d28_25 : decode prog_8_method_5_code 25 = .ok (.invokevirtual 59, 3) := by decide +kernel
theorem s28_25 {v0 v1 v2 v3 v4 : Value} {a : Nat} {p1 : Int32} {r2 : Int32} {r3 : Nat} {im : IM} {rm : RM} (hk : kd a = 16) : ev 28 25 [v0, v1, v2, v3, v4] [.int p1, .ref a, .int r2, .ref r3] im rm = (ev 39 0 [.ref a, .int p1, pm_u, pm_u] [] im rm).bind (fun r => ev 28 28 [v0, v1, v2, v3, v4] (r.1.toList ++ [.int r2, .ref r3]) r.2.1 r.2.2) := ev_callV pm_m28 d28_25 l6_59 rfl pm_m39 (by decide) hk rfl ⟨rfl, rfl⟩ rfl rfl
theorem d28_28 : decode prog_8_method_5_code 28 = .ok (.iastore, 1) := by decide +kernel
theorem s28_28 {v0 v1 v2 v3 v4 : Value} {a : Nat} {i : Int32} {v : Int32} {st : List Value} {im : IM} {rm : RM} (hk : kd a = 0) (hi : pm_in i (ln a) = true) : ev 28 28 [v0, v1, v2, v3, v4] (.int v :: .int i :: .ref a :: st) im rm = ev 28 29 [v0, v1, v2, v3, v4] st (pm_w2 im a i.toNatClampNeg v) (rm) := ev_iast pm_m28 d28_28 hk hi rfl
theorem d28_29 : decode prog_8_method_5_code 29 = .ok (.aload_n 1, 1) := by decide +kernel
theorem s28_29 {v0 v2 v3 v4 : Value} {l1 : Nat} {st : List Value} {im : IM} {rm : RM}  : ev 28 29 [v0, .ref l1, v2, v3, v4] st im rm = ev 28 30 [v0, .ref l1, v2, v3, v4] (.ref l1 :: st) (im) (rm) := ev_aload_n pm_m28 d28_29 rfl rfl
theorem d28_30 : decode prog_8_method_5_code 30 = .ok (.getfield 57, 3) := by decide +kernel
theorem s28_30 {v0 v1 v2 v3 v4 : Value} {a : Nat} {st : List Value} {im : IM} {rm : RM} (hk : kd a = 14) : ev 28 30 [v0, v1, v2, v3, v4] (.ref a :: st) im rm = ev 28 33 [v0, v1, v2, v3, v4] (pm_ro (rm a 1) :: st) (im) (rm) := ev_getR pm_m28 d28_30 f6_57 rfl hk rfl
theorem d28_33 : decode prog_8_method_5_code 33 = .ok (.iload_n 2, 1) := by decide +kernel
theorem s28_33 {v0 v1 v3 v4 : Value} {l1 : Int32} {st : List Value} {im : IM} {rm : RM}  : ev 28 33 [v0, v1, .int l1, v3, v4] st im rm = ev 28 34 [v0, v1, .int l1, v3, v4] (.int l1 :: st) (im) (rm) := ev_iload_n pm_m28 d28_33 rfl rfl
theorem d28_34 : decode prog_8_method_5_code 34 = .ok (.iaload, 1) := by decide +kernel
theorem s28_34 {v0 v1 v2 v3 v4 : Value} {a : Nat} {i : Int32} {st : List Value} {im : IM} {rm : RM} (hk : kd a = 0) (hi : pm_in i (ln a) = true) : ev 28 34 [v0, v1, v2, v3, v4] (.int i :: .ref a :: st) im rm = ev 28 35 [v0, v1, v2, v3, v4] (.int (im a i.toNatClampNeg) :: st) (im) (rm) := ev_iald pm_m28 d28_34 hk hi rfl
theorem d28_35 : decode prog_8_method_5_code 35 = .ok (.iconst (-1), 1) := by decide +kernel
theorem s28_35 {v0 v1 v2 v3 v4 : Value}  {st : List Value} {im : IM} {rm : RM}  : ev 28 35 [v0, v1, v2, v3, v4] st im rm = ev 28 36 [v0, v1, v2, v3, v4] (.int ((-1 : Int32)) :: st) (im) (rm) := ev_iconst pm_m28 d28_35 rfl rfl
theorem d28_36 : decode prog_8_method_5_code 36 = .ok (.if_icmp .ne 5, 3) := by decide +kernel
theorem s28_36 {v0 v1 v2 v3 v4 : Value} {x : Int32} {y : Int32} {st : List Value} {im : IM} {rm : RM} : ev 28 36 [v0, v1, v2, v3, v4] (.int y :: .int x :: st) im rm = if x = y then ev 28 39 [v0, v1, v2, v3, v4] st im rm else ev 28 41 [v0, v1, v2, pm_u, pm_u] st im rm := ev_icmp_ne pm_m28 d28_36 rfl rfl rfl
theorem d28_39 : decode prog_8_method_5_code 39 = .ok (.iconst 0, 1) := by decide +kernel
theorem s28_39 {v0 v1 v2 v3 v4 : Value}  {st : List Value} {im : IM} {rm : RM}  : ev 28 39 [v0, v1, v2, v3, v4] st im rm = ev 28 40 [v0, v1, v2, v3, v4] (.int (nI 0) :: st) (im) (rm) := ev_iconst pm_m28 d28_39 rfl rfl
theorem d28_40 : decode prog_8_method_5_code 40 = .ok (.ireturn, 1) := by decide +kernel
theorem s28_40 {v0 v1 v2 v3 v4 : Value} {x : Int32} {im : IM} {rm : RM} (hx : x = 0 ∨ x = 1) : ev 28 40 [v0, v1, v2, v3, v4] [.int x] im rm = some (some (.int x), im, rm) := ev_zreturn pm_m28 d28_40 rfl hx
theorem d28_41 : decode prog_8_method_5_code 41 = .ok (.aload_n 0, 1) := by decide +kernel
theorem s28_41 {v1 v2 v3 v4 : Value} {l1 : Nat} {st : List Value} {im : IM} {rm : RM}  : ev 28 41 [.ref l1, v1, v2, v3, v4] st im rm = ev 28 42 [.ref l1, v1, v2, v3, v4] (.ref l1 :: st) (im) (rm) := ev_aload_n pm_m28 d28_41 rfl rfl
theorem d28_42 : decode prog_8_method_5_code 42 = .ok (.ldc 63, 2) := by decide +kernel
theorem s28_42 {v0 v1 v2 v3 v4 : Value}  {st : List Value} {im : IM} {rm : RM}  : ev 28 42 [v0, v1, v2, v3, v4] st im rm = ev 28 44 [v0, v1, v2, v3, v4] (.ref (1000000 + 2) :: st) (im) (rm) := ev_ldcS pm_m28 d28_42 (by decide +kernel) (by decide +kernel) rfl
theorem d28_44 : decode prog_8_method_5_code 44 = .ok (.invokevirtual 41, 3) := by decide +kernel
theorem s28_44 {v0 v1 v2 v3 v4 : Value} {a : Nat} {p1 : Nat} {im : IM} {rm : RM} (hk : kd a = 16) : ev 28 44 [v0, v1, v2, v3, v4] [.ref p1, .ref a] im rm = (ev 38 0 [.ref a, .ref p1] [] im rm).bind (fun r => ev 28 47 [v0, v1, v2, v3, v4] (r.1.toList ++ []) r.2.1 r.2.2) := ev_callV pm_m28 d28_44 l6_41 rfl pm_m38 (by decide) hk rfl ⟨rfl, rfl⟩ rfl rfl
theorem d28_47 : decode prog_8_method_5_code 47 = .ok (.istore_n 3, 1) := by decide +kernel
theorem s28_47 {v0 v1 v3 v4 : Value} {l1 : Int32} {x2 : Int32} {st : List Value} {im : IM} {rm : RM}  : ev 28 47 [v0, v1, .int l1, v3, v4] (.int x2 :: st) im rm = ev 28 48 [v0, v1, .int l1, .int x2, v4] st (im) (rm) := ev_istore_n pm_m28 d28_47 (Nat.le_of_ble_eq_true rfl) rfl rfl
theorem d28_48 : decode prog_8_method_5_code 48 = .ok (.iconst 0, 1) := by decide +kernel
theorem s28_48 {v0 v1 v2 v3 v4 : Value}  {st : List Value} {im : IM} {rm : RM}  : ev 28 48 [v0, v1, v2, v3, v4] st im rm = ev 28 49 [v0, v1, v2, v3, v4] (.int (nI 0) :: st) (im) (rm) := ev_iconst pm_m28 d28_48 rfl rfl
theorem d28_49 : decode prog_8_method_5_code 49 = .ok (.istore 4, 2) := by decide +kernel
theorem s28_49 {v0 v1 v2 v4 : Value} {l1 : Int32} {x2 : Int32} {st : List Value} {im : IM} {rm : RM}  : ev 28 49 [v0, v1, v2, .int l1, v4] (.int x2 :: st) im rm = ev 28 51 [v0, v1, v2, .int l1, .int x2] st (im) (rm) := ev_istore pm_m28 d28_49 (Nat.le_of_ble_eq_true rfl) rfl rfl
theorem d28_51 : decode prog_8_method_5_code 51 = .ok (.iload_n 3, 1) := by decide +kernel
theorem s28_51 {v0 v1 v2 v4 : Value} {l1 : Int32} {st : List Value} {im : IM} {rm : RM}  : ev 28 51 [v0, v1, v2, .int l1, v4] st im rm = ev 28 52 [v0, v1, v2, .int l1, v4] (.int l1 :: st) (im) (rm) := ev_iload_n pm_m28 d28_51 rfl rfl
theorem d28_52 : decode prog_8_method_5_code 52 = .ok (.ifCond .eq 66, 3) := by decide +kernel
theorem s28_52 {v0 v1 v2 v3 v4 : Value} {x : Int32} {st : List Value} {im : IM} {rm : RM} : ev 28 52 [v0, v1, v2, v3, v4] (.int x :: st) im rm = if x = nI 0 then ev 28 118 [pm_u, pm_u, pm_u, pm_u, pm_u] st im rm else ev 28 55 [v0, v1, v2, v3, v4] st im rm := ev_if_eq (y := 0) pm_m28 d28_52 rfl rfl rfl
theorem d28_55 : decode prog_8_method_5_code 55 = .ok (.iload 4, 2) := by decide +kernel
theorem s28_55 {v0 v1 v2 v3 : Value} {l1 : Int32} {st : List Value} {im : IM} {rm : RM}  : ev 28 55 [v0, v1, v2, v3, .int l1] st im rm = ev 28 57 [v0, v1, v2, v3, .int l1] (.int l1 :: st) (im) (rm) := ev_iload pm_m28 d28_55 rfl rfl
theorem d28_57 : decode prog_8_method_5_code 57 = .ok (.iconst 4, 1) := by decide +kernel
theorem s28_57 {v0 v1 v2 v3 v4 : Value}  {st : List Value} {im : IM} {rm : RM}  : ev 28 57 [v0, v1, v2, v3, v4] st im rm = ev 28 58 [v0, v1, v2, v3, v4] (.int (nI 4) :: st) (im) (rm) := ev_iconst pm_m28 d28_57 rfl rfl
theorem d28_58 : decode prog_8_method_5_code 58 = .ok (.if_icmp .ge 60, 3) := by decide +kernel
theorem s28_58 {v0 v1 v2 v3 v4 : Value} {x : Int32} {y : Int32} {st : List Value} {im : IM} {rm : RM} : ev 28 58 [v0, v1, v2, v3, v4] (.int y :: .int x :: st) im rm = if y ≤ x then ev 28 118 [pm_u, pm_u, pm_u, pm_u, pm_u] st im rm else ev 28 61 [v0, v1, v2, v3, v4] st im rm := ev_icmp_ge pm_m28 d28_58 rfl rfl rfl
theorem d28_61 : decode prog_8_method_5_code 61 = .ok (.aload_n 0, 1) := by decide +kernel
theorem s28_61 {v1 v2 v3 v4 : Value} {l1 : Nat} {st : List Value} {im : IM} {rm : RM}  : ev 28 61 [.ref l1, v1, v2, v3, v4] st im rm = ev 28 62 [.ref l1, v1, v2, v3, v4] (.ref l1 :: st) (im) (rm) := ev_aload_n pm_m28 d28_61 rfl rfl
theorem d28_62 : decode prog_8_method_5_code 62 = .ok (.aload_n 1, 1) := by decide +kernel
theorem s28_62 {v0 v2 v3 v4 : Value} {l1 : Nat} {st : List Value} {im : IM} {rm : RM}  : ev 28 62 [v0, .ref l1, v2, v3, v4] st im rm = ev 28 63 [v0, .ref l1, v2, v3, v4] (.ref l1 :: st) (im) (rm) := ev_aload_n pm_m28 d28_62 rfl rfl
theorem d28_63 : decode prog_8_method_5_code 63 = .ok (.iconst 4, 1) := by decide +kernel
theorem s28_63 {v0 v1 v2 v3 v4 : Value}  {st : List Value} {im : IM} {rm : RM}  : ev 28 63 [v0, v1, v2, v3, v4] st im rm = ev 28 64 [v0, v1, v2, v3, v4] (.int (nI 4) :: st) (im) (rm) := ev_iconst pm_m28 d28_63 rfl rfl
theorem d28_64 : decode prog_8_method_5_code 64 = .ok (.iload_n 2, 1) := by decide +kernel
theorem s28_64 {v0 v1 v3 v4 : Value} {l1 : Int32} {st : List Value} {im : IM} {rm : RM}  : ev 28 64 [v0, v1, .int l1, v3, v4] st im rm = ev 28 65 [v0, v1, .int l1, v3, v4] (.int l1 :: st) (im) (rm) := ev_iload_n pm_m28 d28_64 rfl rfl
theorem d28_65 : decode prog_8_method_5_code 65 = .ok (.imul, 1) := by decide +kernel
theorem s28_65 {v0 v1 v2 v3 v4 : Value} {x : Int32} {y : Int32} {st : List Value} {im : IM} {rm : RM}  : ev 28 65 [v0, v1, v2, v3, v4] (.int y :: .int x :: st) im rm = ev 28 66 [v0, v1, v2, v3, v4] (.int (x * y) :: st) (im) (rm) := ev_imul pm_m28 d28_65 rfl
theorem d28_66 : decode prog_8_method_5_code 66 = .ok (.iload 4, 2) := by decide +kernel
theorem s28_66 {v0 v1 v2 v3 : Value} {l1 : Int32} {st : List Value} {im : IM} {rm : RM}  : ev 28 66 [v0, v1, v2, v3, .int l1] st im rm = ev 28 68 [v0, v1, v2, v3, .int l1] (.int l1 :: st) (im) (rm) := ev_iload pm_m28 d28_66 rfl rfl
theorem d28_68 : decode prog_8_method_5_code 68 = .ok (.iadd, 1) := by decide +kernel
theorem s28_68 {v0 v1 v2 v3 v4 : Value} {x : Int32} {y : Int32} {st : List Value} {im : IM} {rm : RM}  : ev 28 68 [v0, v1, v2, v3, v4] (.int y :: .int x :: st) im rm = ev 28 69 [v0, v1, v2, v3, v4] (.int (x + y) :: st) (im) (rm) := ev_iadd pm_m28 d28_68 rfl
theorem d28_69 : decode prog_8_method_5_code 69 = .ok (.invokevirtual 65, 3) := by decide +kernel
theorem s28_69 {v0 v1 v2 v3 v4 : Value} {a : Nat} {p1 : Nat} {p2 : Int32} {im : IM} {rm : RM} (hk : kd a = 16) : ev 28 69 [v0, v1, v2, v3, v4] [.int p2, .ref p1, .ref a] im rm = (ev 29 0 [.ref a, .ref p1, .int p2] [] im rm).bind (fun r => ev 28 72 [v0, v1, v2, v3, v4] (r.1.toList ++ []) r.2.1 r.2.2) := ev_callV pm_m28 d28_69 l6_65 rfl pm_m29 (by decide) hk rfl ⟨rfl, rfl⟩ rfl rfl
theorem d28_72 : decode prog_8_method_5_code 72 = .ok (.ifCond .ne 5, 3) := by decide +kernel
theorem s28_72 {v0 v1 v2 v3 v4 : Value} {x : Int32} {st : List Value} {im : IM} {rm : RM} : ev 28 72 [v0, v1, v2, v3, v4] (.int x :: st) im rm = if x = nI 0 then ev 28 75 [v0, v1, v2, v3, v4] st im rm else ev 28 77 [v0, v1, v2, pm_u, v4] st im rm := ev_if_ne (y := 0) pm_m28 d28_72 rfl rfl rfl
theorem d28_75 : decode prog_8_method_5_code 75 = .ok (.iconst 0, 1) := by decide +kernel
theorem s28_75 {v0 v1 v2 v3 v4 : Value}  {st : List Value} {im : IM} {rm : RM}  : ev 28 75 [v0, v1, v2, v3, v4] st im rm = ev 28 76 [v0, v1, v2, v3, v4] (.int (nI 0) :: st) (im) (rm) := ev_iconst pm_m28 d28_75 rfl rfl
theorem d28_76 : decode prog_8_method_5_code 76 = .ok (.ireturn, 1) := by decide +kernel
theorem s28_76 {v0 v1 v2 v3 v4 : Value} {x : Int32} {im : IM} {rm : RM} (hx : x = 0 ∨ x = 1) : ev 28 76 [v0, v1, v2, v3, v4] [.int x] im rm = some (some (.int x), im, rm) := ev_zreturn pm_m28 d28_76 rfl hx
theorem d28_77 : decode prog_8_method_5_code 77 = .ok (.aload_n 1, 1) := by decide +kernel
theorem s28_77 {v0 v2 v3 v4 : Value} {l1 : Nat} {st : List Value} {im : IM} {rm : RM}  : ev 28 77 [v0, .ref l1, v2, v3, v4] st im rm = ev 28 78 [v0, .ref l1, v2, v3, v4] (.ref l1 :: st) (im) (rm) := ev_aload_n pm_m28 d28_77 rfl rfl
theorem d28_78 : decode prog_8_method_5_code 78 = .ok (.getfield 52, 3) := by decide +kernel
theorem s28_78 {v0 v1 v2 v3 v4 : Value} {a : Nat} {st : List Value} {im : IM} {rm : RM} (hk : kd a = 14) : ev 28 78 [v0, v1, v2, v3, v4] (.ref a :: st) im rm = ev 28 81 [v0, v1, v2, v3, v4] (pm_ro (rm a 2) :: st) (im) (rm) := ev_getR pm_m28 d28_78 f6_52 rfl hk rfl
theorem d28_81 : decode prog_8_method_5_code 81 = .ok (.iload_n 2, 1) := by decide +kernel
theorem s28_81 {v0 v1 v3 v4 : Value} {l1 : Int32} {st : List Value} {im : IM} {rm : RM}  : ev 28 81 [v0, v1, .int l1, v3, v4] st im rm = ev 28 82 [v0, v1, .int l1, v3, v4] (.int l1 :: st) (im) (rm) := ev_iload_n pm_m28 d28_81 rfl rfl
theorem d28_82 : decode prog_8_method_5_code 82 = .ok (.iload 4, 2) := by decide +kernel
theorem s28_82 {v0 v1 v2 v3 : Value} {l1 : Int32} {st : List Value} {im : IM} {rm : RM}  : ev 28 82 [v0, v1, v2, v3, .int l1] st im rm = ev 28 84 [v0, v1, v2, v3, .int l1] (.int l1 :: st) (im) (rm) := ev_iload pm_m28 d28_82 rfl rfl
theorem d28_84 : decode prog_8_method_5_code 84 = .ok (.iconst 1, 1) := by decide +kernel
theorem s28_84 {v0 v1 v2 v3 v4 : Value}  {st : List Value} {im : IM} {rm : RM}  : ev 28 84 [v0, v1, v2, v3, v4] st im rm = ev 28 85 [v0, v1, v2, v3, v4] (.int (nI 1) :: st) (im) (rm) := ev_iconst pm_m28 d28_84 rfl rfl
theorem d28_85 : decode prog_8_method_5_code 85 = .ok (.iadd, 1) := by decide +kernel
theorem s28_85 {v0 v1 v2 v3 v4 : Value} {x : Int32} {y : Int32} {st : List Value} {im : IM} {rm : RM}  : ev 28 85 [v0, v1, v2, v3, v4] (.int y :: .int x :: st) im rm = ev 28 86 [v0, v1, v2, v3, v4] (.int (x + y) :: st) (im) (rm) := ev_iadd pm_m28 d28_85 rfl
theorem d28_86 : decode prog_8_method_5_code 86 = .ok (.iastore, 1) := by decide +kernel
theorem s28_86 {v0 v1 v2 v3 v4 : Value} {a : Nat} {i : Int32} {v : Int32} {st : List Value} {im : IM} {rm : RM} (hk : kd a = 0) (hi : pm_in i (ln a) = true) : ev 28 86 [v0, v1, v2, v3, v4] (.int v :: .int i :: .ref a :: st) im rm = ev 28 87 [v0, v1, v2, v3, v4] st (pm_w2 im a i.toNatClampNeg v) (rm) := ev_iast pm_m28 d28_86 hk hi rfl
theorem d28_87 : decode prog_8_method_5_code 87 = .ok (.aload_n 1, 1) := by decide +kernel
theorem s28_87 {v0 v2 v3 v4 : Value} {l1 : Nat} {st : List Value} {im : IM} {rm : RM}  : ev 28 87 [v0, .ref l1, v2, v3, v4] st im rm = ev 28 88 [v0, .ref l1, v2, v3, v4] (.ref l1 :: st) (im) (rm) := ev_aload_n pm_m28 d28_87 rfl rfl
theorem d28_88 : decode prog_8_method_5_code 88 = .ok (.getfield 52, 3) := by decide +kernel
theorem s28_88 {v0 v1 v2 v3 v4 : Value} {a : Nat} {st : List Value} {im : IM} {rm : RM} (hk : kd a = 14) : ev 28 88 [v0, v1, v2, v3, v4] (.ref a :: st) im rm = ev 28 91 [v0, v1, v2, v3, v4] (pm_ro (rm a 2) :: st) (im) (rm) := ev_getR pm_m28 d28_88 f6_52 rfl hk rfl
theorem d28_91 : decode prog_8_method_5_code 91 = .ok (.iload_n 2, 1) := by decide +kernel
theorem s28_91 {v0 v1 v3 v4 : Value} {l1 : Int32} {st : List Value} {im : IM} {rm : RM}  : ev 28 91 [v0, v1, .int l1, v3, v4] st im rm = ev 28 92 [v0, v1, .int l1, v3, v4] (.int l1 :: st) (im) (rm) := ev_iload_n pm_m28 d28_91 rfl rfl
theorem d28_92 : decode prog_8_method_5_code 92 = .ok (.iaload, 1) := by decide +kernel
theorem s28_92 {v0 v1 v2 v3 v4 : Value} {a : Nat} {i : Int32} {st : List Value} {im : IM} {rm : RM} (hk : kd a = 0) (hi : pm_in i (ln a) = true) : ev 28 92 [v0, v1, v2, v3, v4] (.int i :: .ref a :: st) im rm = ev 28 93 [v0, v1, v2, v3, v4] (.int (im a i.toNatClampNeg) :: st) (im) (rm) := ev_iald pm_m28 d28_92 hk hi rfl
theorem d28_93 : decode prog_8_method_5_code 93 = .ok (.iconst 4, 1) := by decide +kernel
theorem s28_93 {v0 v1 v2 v3 v4 : Value}  {st : List Value} {im : IM} {rm : RM}  : ev 28 93 [v0, v1, v2, v3, v4] st im rm = ev 28 94 [v0, v1, v2, v3, v4] (.int (nI 4) :: st) (im) (rm) := ev_iconst pm_m28 d28_93 rfl rfl
theorem d28_94 : decode prog_8_method_5_code 94 = .ok (.if_icmp .ge 16, 3) := by decide +kernel
theorem s28_94 {v0 v1 v2 v3 v4 : Value} {x : Int32} {y : Int32} {st : List Value} {im : IM} {rm : RM} : ev 28 94 [v0, v1, v2, v3, v4] (.int y :: .int x :: st) im rm = if y ≤ x then ev 28 110 [v0, v1, v2, pm_u, v4] st im rm else ev 28 97 [v0, v1, v2, v3, v4] st im rm := ev_icmp_ge pm_m28 d28_94 rfl rfl rfl
theorem d28_97 : decode prog_8_method_5_code 97 = .ok (.aload_n 0, 1) := by decide +kernel
theorem s28_97 {v1 v2 v3 v4 : Value} {l1 : Nat} {st : List Value} {im : IM} {rm : RM}  : ev 28 97 [.ref l1, v1, v2, v3, v4] st im rm = ev 28 98 [.ref l1, v1, v2, v3, v4] (.ref l1 :: st) (im) (rm) := ev_aload_n pm_m28 d28_97 rfl rfl
theorem d28_98 : decode prog_8_method_5_code 98 = .ok (.ldc 68, 2) := by decide +kernel
theorem s28_98 {v0 v1 v2 v3 v4 : Value}  {st : List Value} {im : IM} {rm : RM}  : ev 28 98 [v0, v1, v2, v3, v4] st im rm = ev 28 100 [v0, v1, v2, v3, v4] (.ref (1000000 + 3) :: st) (im) (rm) := ev_ldcS pm_m28 d28_98 (by decide +kernel) (by decide +kernel) rfl
theorem d28_100 : decode prog_8_method_5_code 100 = .ok (.invokevirtual 41, 3) := by decide +kernel
theorem s28_100 {v0 v1 v2 v3 v4 : Value} {a : Nat} {p1 : Nat} {im : IM} {rm : RM} (hk : kd a = 16) : ev 28 100 [v0, v1, v2, v3, v4] [.ref p1, .ref a] im rm = (ev 38 0 [.ref a, .ref p1] [] im rm).bind (fun r => ev 28 103 [v0, v1, v2, v3, v4] (r.1.toList ++ []) r.2.1 r.2.2) := ev_callV pm_m28 d28_100 l6_41 rfl pm_m38 (by decide) hk rfl ⟨rfl, rfl⟩ rfl rfl
theorem d28_103 : decode prog_8_method_5_code 103 = .ok (.ifCond .eq 7, 3) := by decide +kernel
theorem s28_103 {v0 v1 v2 v3 v4 : Value} {x : Int32} {st : List Value} {im : IM} {rm : RM} : ev 28 103 [v0, v1, v2, v3, v4] (.int x :: st) im rm = if x = nI 0 then ev 28 110 [v0, v1, v2, pm_u, v4] st im rm else ev 28 106 [v0, v1, v2, v3, v4] st im rm := ev_if_eq (y := 0) pm_m28 d28_103 rfl rfl rfl
theorem d28_106 : decode prog_8_method_5_code 106 = .ok (.iconst 1, 1) := by decide +kernel
theorem s28_106 {v0 v1 v2 v3 v4 : Value}  {st : List Value} {im : IM} {rm : RM}  : ev 28 106 [v0, v1, v2, v3, v4] st im rm = ev 28 107 [v0, v1, v2, v3, v4] (.int (nI 1) :: st) (im) (rm) := ev_iconst pm_m28 d28_106 rfl rfl
theorem d28_107 : decode prog_8_method_5_code 107 = .ok (.goto 4, 3) := by decide +kernel
theorem s28_107 {v0 v1 v2 v3 v4 : Value}  {st : List Value} {im : IM} {rm : RM}  : ev 28 107 [v0, v1, v2, v3, v4] st im rm = ev 28 111 [v0, v1, v2, pm_u, v4] st (im) (rm) := ev_goto pm_m28 d28_107 rfl rfl
theorem d28_110 : decode prog_8_method_5_code 110 = .ok (.iconst 0, 1) := by decide +kernel
theorem s28_110 {v0 v1 v2 v3 v4 : Value}  {st : List Value} {im : IM} {rm : RM}  : ev 28 110 [v0, v1, v2, v3, v4] st im rm = ev 28 111 [v0, v1, v2, pm_u, v4] (.int (nI 0) :: st) (im) (rm) := ev_iconst pm_m28 d28_110 rfl rfl
theorem d28_111 : decode prog_8_method_5_code 111 = .ok (.istore_n 3, 1) := by decide +kernel
theorem s28_111 {v0 v1 v3 v4 : Value} {l1 : Int32} {x2 : Int32} {st : List Value} {im : IM} {rm : RM}  : ev 28 111 [v0, v1, .int l1, v3, v4] (.int x2 :: st) im rm = ev 28 112 [v0, v1, .int l1, .int x2, v4] st (im) (rm) := ev_istore_n pm_m28 d28_111 (Nat.le_of_ble_eq_true rfl) rfl rfl
theorem d28_112 : decode prog_8_method_5_code 112 = .ok (.iinc 4 1, 3) := by decide +kernel
theorem s28_112 {v0 v1 v2 : Value} {l1 : Int32} {l2 : Int32} {st : List Value} {im : IM} {rm : RM}  : ev 28 112 [v0, v1, v2, .int l1, .int l2] st im rm = ev 28 115 [v0, v1, v2, .int l1, .int (l2 + nI 1)] st (im) (rm) := ev_iinc pm_m28 d28_112 rfl rfl rfl rfl
theorem d28_115 : decode prog_8_method_5_code 115 = .ok (.goto (-64), 3) := by decide +kernel
theorem s28_115 {v0 v1 v2 v3 v4 : Value}  {st : List Value} {im : IM} {rm : RM}  : ev 28 115 [v0, v1, v2, v3, v4] st im rm = ev 28 51 [v0, v1, v2, v3, v4] st (im) (rm) := ev_goto pm_m28 d28_115 rfl rfl
theorem d28_118 : decode prog_8_method_5_code 118 = .ok (.iconst 1, 1) := by decide +kernel
theorem s28_118 {v0 v1 v2 v3 v4 : Value}  {st : List Value} {im : IM} {rm : RM}  : ev 28 118 [v0, v1, v2, v3, v4] st im rm = ev 28 119 [v0, v1, v2, v3, v4] (.int (nI 1) :: st) (im) (rm) := ev_iconst pm_m28 d28_118 rfl rfl
theorem d28_119 : decode prog_8_method_5_code 119 = .ok (.ireturn, 1) := by decide +kernel
theorem s28_119 {v0 v1 v2 v3 v4 : Value} {x : Int32} {im : IM} {rm : RM} (hx : x = 0 ∨ x = 1) : ev 28 119 [v0, v1, v2, v3, v4] [.int x] im rm = some (some (.int x), im, rm) := ev_zreturn pm_m28 d28_119 rfl hx
theorem d29_0 : decode prog_8_method_6_code 0 = .ok (.aload_n 1, 1) := by decide +kernel
theorem s29_0 {v0 v2 : Value} {l1 : Nat} {st : List Value} {im : IM} {rm : RM}  : ev 29 0 [v0, .ref l1, v2] st im rm = ev 29 1 [v0, .ref l1, v2] (.ref l1 :: st) (im) (rm) := ev_aload_n pm_m29 d29_0 rfl rfl
theorem d29_1 : decode prog_8_method_6_code 1 = .ok (.getfield 70, 3) := by decide +kernel
theorem s29_1 {v0 v1 v2 : Value} {a : Nat} {st : List Value} {im : IM} {rm : RM} (hk : kd a = 14) : ev 29 1 [v0, v1, v2] (.ref a :: st) im rm = ev 29 4 [v0, v1, v2] (pm_ro (rm a 3) :: st) (im) (rm) := ev_getR pm_m29 d29_1 f6_70 rfl hk rfl
theorem d29_4 : decode prog_8_method_6_code 4 = .ok (.iload_n 2, 1) := by decide +kernel
theorem s29_4 {v0 v1 : Value} {l1 : Int32} {st : List Value} {im : IM} {rm : RM}  : ev 29 4 [v0, v1, .int l1] st im rm = ev 29 5 [v0, v1, .int l1] (.int l1 :: st) (im) (rm) := ev_iload_n pm_m29 d29_4 rfl rfl
theorem d29_5 : decode prog_8_method_6_code 5 = .ok (.aload_n 0, 1) := by decide +kernel
theorem s29_5 {v1 v2 : Value} {l1 : Nat} {st : List Value} {im : IM} {rm : RM}  : ev 29 5 [.ref l1, v1, v2] st im rm = ev 29 6 [.ref l1, v1, v2] (.ref l1 :: st) (im) (rm) := ev_aload_n pm_m29 d29_5 rfl rfl
theorem d29_6 : decode prog_8_method_6_code 6 = .ok (.invokevirtual 73, 3) := by decide +kernel
theorem s29_6 {v0 v1 v2 : Value} {a : Nat} {r1 : Int32} {r2 : Nat} {im : IM} {rm : RM} (hk : kd a = 16) : ev 29 6 [v0, v1, v2] [.ref a, .int r1, .ref r2] im rm = (ev 32 0 [.ref a, pm_u] [] im rm).bind (fun r => ev 29 9 [v0, v1, v2] (r.1.toList ++ [.int r1, .ref r2]) r.2.1 r.2.2) := ev_callV pm_m29 d29_6 l6_73 rfl pm_m32 (by decide) hk rfl ⟨rfl, rfl⟩ rfl rfl
theorem d29_9 : decode prog_8_method_6_code 9 = .ok (.iastore, 1) := by decide +kernel
theorem s29_9 {v0 v1 v2 : Value} {a : Nat} {i : Int32} {v : Int32} {st : List Value} {im : IM} {rm : RM} (hk : kd a = 0) (hi : pm_in i (ln a) = true) : ev 29 9 [v0, v1, v2] (.int v :: .int i :: .ref a :: st) im rm = ev 29 10 [v0, v1, v2] st (pm_w2 im a i.toNatClampNeg v) (rm) := ev_iast pm_m29 d29_9 hk hi rfl
theorem d29_10 : decode prog_8_method_6_code 10 = .ok (.aload_n 1, 1) := by decide +kernel
theorem s29_10 {v0 v2 : Value} {l1 : Nat} {st : List Value} {im : IM} {rm : RM}  : ev 29 10 [v0, .ref l1, v2] st im rm = ev 29 11 [v0, .ref l1, v2] (.ref l1 :: st) (im) (rm) := ev_aload_n pm_m29 d29_10 rfl rfl
theorem d29_11 : decode prog_8_method_6_code 11 = .ok (.getfield 70, 3) := by decide +kernel
theorem s29_11 {v0 v1 v2 : Value} {a : Nat} {st : List Value} {im : IM} {rm : RM} (hk : kd a = 14) : ev 29 11 [v0, v1, v2] (.ref a :: st) im rm = ev 29 14 [v0, v1, v2] (pm_ro (rm a 3) :: st) (im) (rm) := ev_getR pm_m29 d29_11 f6_70 rfl hk rfl
theorem d29_14 : decode prog_8_method_6_code 14 = .ok (.iload_n 2, 1) := by decide +kernel
theorem s29_14 {v0 v1 : Value} {l1 : Int32} {st : List Value} {im : IM} {rm : RM}  : ev 29 14 [v0, v1, .int l1] st im rm = ev 29 15 [v0, v1, .int l1] (.int l1 :: st) (im) (rm) := ev_iload_n pm_m29 d29_14 rfl rfl
theorem d29_15 : decode prog_8_method_6_code 15 = .ok (.iaload, 1) := by decide +kernel
theorem s29_15 {v0 v1 v2 : Value} {a : Nat} {i : Int32} {st : List Value} {im : IM} {rm : RM} (hk : kd a = 0) (hi : pm_in i (ln a) = true) : ev 29 15 [v0, v1, v2] (.int i :: .ref a :: st) im rm = ev 29 16 [v0, v1, v2] (.int (im a i.toNatClampNeg) :: st) (im) (rm) := ev_iald pm_m29 d29_15 hk hi rfl
theorem d29_16 : decode prog_8_method_6_code 16 = .ok (.iconst (-1), 1) := by decide +kernel
theorem s29_16 {v0 v1 v2 : Value}  {st : List Value} {im : IM} {rm : RM}  : ev 29 16 [v0, v1, v2] st im rm = ev 29 17 [v0, v1, v2] (.int ((-1 : Int32)) :: st) (im) (rm) := ev_iconst pm_m29 d29_16 rfl rfl
theorem d29_17 : decode prog_8_method_6_code 17 = .ok (.if_icmp .ne 5, 3) := by decide +kernel
theorem s29_17 {v0 v1 v2 : Value} {x : Int32} {y : Int32} {st : List Value} {im : IM} {rm : RM} : ev 29 17 [v0, v1, v2] (.int y :: .int x :: st) im rm = if x = y then ev 29 20 [v0, v1, v2] st im rm else ev 29 22 [v0, v1, v2] st im rm := ev_icmp_ne pm_m29 d29_17 rfl rfl rfl
theorem d29_20 : decode prog_8_method_6_code 20 = .ok (.iconst 0, 1) := by decide +kernel
theorem s29_20 {v0 v1 v2 : Value}  {st : List Value} {im : IM} {rm : RM}  : ev 29 20 [v0, v1, v2] st im rm = ev 29 21 [v0, v1, v2] (.int (nI 0) :: st) (im) (rm) := ev_iconst pm_m29 d29_20 rfl rfl
theorem d29_21 : decode prog_8_method_6_code 21 = .ok (.ireturn, 1) := by decide +kernel
theorem s29_21 {v0 v1 v2 : Value} {x : Int32} {im : IM} {rm : RM} (hx : x = 0 ∨ x = 1) : ev 29 21 [v0, v1, v2] [.int x] im rm = some (some (.int x), im, rm) := ev_zreturn pm_m29 d29_21 rfl hx
theorem d29_22 : decode prog_8_method_6_code 22 = .ok (.aload_n 1, 1) := by decide +kernel
theorem s29_22 {v0 v2 : Value} {l1 : Nat} {st : List Value} {im : IM} {rm : RM}  : ev 29 22 [v0, .ref l1, v2] st im rm = ev 29 23 [v0, .ref l1, v2] (.ref l1 :: st) (im) (rm) := ev_aload_n pm_m29 d29_22 rfl rfl
theorem d29_23 : decode prog_8_method_6_code 23 = .ok (.getfield 77, 3) := by decide +kernel
theorem s29_23 {v0 v1 v2 : Value} {a : Nat} {st : List Value} {im : IM} {rm : RM} (hk : kd a = 14) : ev 29 23 [v0, v1, v2] (.ref a :: st) im rm = ev 29 26 [v0, v1, v2] (pm_ro (rm a 4) :: st) (im) (rm) := ev_getR pm_m29 d29_23 f6_77 rfl hk rfl
theorem d29_26 : decode prog_8_method_6_code 26 = .ok (.iload_n 2, 1) := by decide +kernel
theorem s29_26 {v0 v1 : Value} {l1 : Int32} {st : List Value} {im : IM} {rm : RM}  : ev 29 26 [v0, v1, .int l1] st im rm = ev 29 27 [v0, v1, .int l1] (.int l1 :: st) (im) (rm) := ev_iload_n pm_m29 d29_26 rfl rfl
theorem d29_27 : decode prog_8_method_6_code 27 = .ok (.aload_n 0, 1) := by decide +kernel
theorem s29_27 {v1 v2 : Value} {l1 : Nat} {st : List Value} {im : IM} {rm : RM}  : ev 29 27 [.ref l1, v1, v2] st im rm = ev 29 28 [.ref l1, v1, v2] (.ref l1 :: st) (im) (rm) := ev_aload_n pm_m29 d29_27 rfl rfl
theorem d29_28 : decode prog_8_method_6_code 28 = .ok (.ldc 81, 2) := by decide +kernel
theorem s29_28 {v0 v1 v2 : Value}  {st : List Value} {im : IM} {rm : RM}  : ev 29 28 [v0, v1, v2] st im rm = ev 29 30 [v0, v1, v2] (.ref (1000000 + 4) :: st) (im) (rm) := ev_ldcS pm_m29 d29_28 (by decide +kernel) (by decide +kernel) rfl
theorem d29_30 : decode prog_8_method_6_code 30 = .ok (.invokevirtual 41, 3) := by decide +kernel
theorem s29_30 {v0 v1 v2 : Value} {a : Nat} {p1 : Nat} {r2 : Int32} {r3 : Nat} {im : IM} {rm : RM} (hk : kd a = 16) : ev 29 30 [v0, v1, v2] [.ref p1, .ref a, .int r2, .ref r3] im rm = (ev 38 0 [.ref a, .ref p1] [] im rm).bind (fun r => ev 29 33 [v0, v1, v2] (r.1.toList ++ [.int r2, .ref r3]) r.2.1 r.2.2) := ev_callV pm_m29 d29_30 l6_41 rfl pm_m38 (by decide) hk rfl ⟨rfl, rfl⟩ rfl rfl
theorem d29_33 : decode prog_8_method_6_code 33 = .ok (.bastore, 1) := by decide +kernel
theorem s29_33 {v0 v1 v2 : Value} {a : Nat} {i : Int32} {v : Int32} {st : List Value} {im : IM} {rm : RM} (hk : kd a = 1) (hi : pm_in i (ln a) = true) (hv : v = 0 ∨ v = 1) : ev 29 33 [v0, v1, v2] (.int v :: .int i :: .ref a :: st) im rm = ev 29 34 [v0, v1, v2] st (pm_w2 im a i.toNatClampNeg v) (rm) := ev_zast pm_m29 d29_33 hk hi hv rfl
theorem d29_34 : decode prog_8_method_6_code 34 = .ok (.aload_n 1, 1) := by decide +kernel
theorem s29_34 {v0 v2 : Value} {l1 : Nat} {st : List Value} {im : IM} {rm : RM}  : ev 29 34 [v0, .ref l1, v2] st im rm = ev 29 35 [v0, .ref l1, v2] (.ref l1 :: st) (im) (rm) := ev_aload_n pm_m29 d29_34 rfl rfl
theorem d29_35 : decode prog_8_method_6_code 35 = .ok (.getfield 77, 3) := by decide +kernel
theorem s29_35 {v0 v1 v2 : Value} {a : Nat} {st : List Value} {im : IM} {rm : RM} (hk : kd a = 14) : ev 29 35 [v0, v1, v2] (.ref a :: st) im rm = ev 29 38 [v0, v1, v2] (pm_ro (rm a 4) :: st) (im) (rm) := ev_getR pm_m29 d29_35 f6_77 rfl hk rfl
theorem d29_38 : decode prog_8_method_6_code 38 = .ok (.iload_n 2, 1) := by decide +kernel
theorem s29_38 {v0 v1 : Value} {l1 : Int32} {st : List Value} {im : IM} {rm : RM}  : ev 29 38 [v0, v1, .int l1] st im rm = ev 29 39 [v0, v1, .int l1] (.int l1 :: st) (im) (rm) := ev_iload_n pm_m29 d29_38 rfl rfl
theorem d29_39 : decode prog_8_method_6_code 39 = .ok (.baload, 1) := by decide +kernel
theorem s29_39 {v0 v1 v2 : Value} {a : Nat} {i : Int32} {st : List Value} {im : IM} {rm : RM} (hk : kd a = 1) (hi : pm_in i (ln a) = true) : ev 29 39 [v0, v1, v2] (.int i :: .ref a :: st) im rm = ev 29 40 [v0, v1, v2] (.int (im a i.toNatClampNeg) :: st) (im) (rm) := ev_zald pm_m29 d29_39 hk hi rfl
theorem d29_40 : decode prog_8_method_6_code 40 = .ok (.ifCond .ne 14, 3) := by decide +kernel
theorem s29_40 {v0 v1 v2 : Value} {x : Int32} {st : List Value} {im : IM} {rm : RM} : ev 29 40 [v0, v1, v2] (.int x :: st) im rm = if x = nI 0 then ev 29 43 [v0, v1, v2] st im rm else ev 29 54 [v0, v1, v2] st im rm := ev_if_ne (y := 0) pm_m29 d29_40 rfl rfl rfl
theorem d29_43 : decode prog_8_method_6_code 43 = .ok (.aload_n 0, 1) := by decide +kernel
theorem s29_43 {v1 v2 : Value} {l1 : Nat} {st : List Value} {im : IM} {rm : RM}  : ev 29 43 [.ref l1, v1, v2] st im rm = ev 29 44 [.ref l1, v1, v2] (.ref l1 :: st) (im) (rm) := ev_aload_n pm_m29 d29_43 rfl rfl
theorem d29_44 : decode prog_8_method_6_code 44 = .ok (.ldc 82, 2) := by decide +kernel
theorem s29_44 {v0 v1 v2 : Value}  {st : List Value} {im : IM} {rm : RM}  : ev 29 44 [v0, v1, v2] st im rm = ev 29 46 [v0, v1, v2] (.ref (1000000 + 5) :: st) (im) (rm) := ev_ldcS pm_m29 d29_44 (by decide +kernel) (by decide +kernel) rfl
theorem d29_46 : decode prog_8_method_6_code 46 = .ok (.invokevirtual 41, 3) := by decide +kernel
theorem s29_46 {v0 v1 v2 : Value} {a : Nat} {p1 : Nat} {im : IM} {rm : RM} (hk : kd a = 16) : ev 29 46 [v0, v1, v2] [.ref p1, .ref a] im rm = (ev 38 0 [.ref a, .ref p1] [] im rm).bind (fun r => ev 29 49 [v0, v1, v2] (r.1.toList ++ []) r.2.1 r.2.2) := ev_callV pm_m29 d29_46 l6_41 rfl pm_m38 (by decide) hk rfl ⟨rfl, rfl⟩ rfl rfl
theorem d29_49 : decode prog_8_method_6_code 49 = .ok (.ifCond .ne 5, 3) := by decide +kernel
theorem s29_49 {v0 v1 v2 : Value} {x : Int32} {st : List Value} {im : IM} {rm : RM} : ev 29 49 [v0, v1, v2] (.int x :: st) im rm = if x = nI 0 then ev 29 52 [v0, v1, v2] st im rm else ev 29 54 [v0, v1, v2] st im rm := ev_if_ne (y := 0) pm_m29 d29_49 rfl rfl rfl
theorem d29_52 : decode prog_8_method_6_code 52 = .ok (.iconst 0, 1) := by decide +kernel
theorem s29_52 {v0 v1 v2 : Value}  {st : List Value} {im : IM} {rm : RM}  : ev 29 52 [v0, v1, v2] st im rm = ev 29 53 [v0, v1, v2] (.int (nI 0) :: st) (im) (rm) := ev_iconst pm_m29 d29_52 rfl rfl
theorem d29_53 : decode prog_8_method_6_code 53 = .ok (.ireturn, 1) := by decide +kernel
theorem s29_53 {v0 v1 v2 : Value} {x : Int32} {im : IM} {rm : RM} (hx : x = 0 ∨ x = 1) : ev 29 53 [v0, v1, v2] [.int x] im rm = some (some (.int x), im, rm) := ev_zreturn pm_m29 d29_53 rfl hx
theorem d29_54 : decode prog_8_method_6_code 54 = .ok (.aload_n 1, 1) := by decide +kernel
theorem s29_54 {v0 v2 : Value} {l1 : Nat} {st : List Value} {im : IM} {rm : RM}  : ev 29 54 [v0, .ref l1, v2] st im rm = ev 29 55 [v0, .ref l1, v2] (.ref l1 :: st) (im) (rm) := ev_aload_n pm_m29 d29_54 rfl rfl
theorem d29_55 : decode prog_8_method_6_code 55 = .ok (.getfield 84, 3) := by decide +kernel
theorem s29_55 {v0 v1 v2 : Value} {a : Nat} {st : List Value} {im : IM} {rm : RM} (hk : kd a = 14) : ev 29 55 [v0, v1, v2] (.ref a :: st) im rm = ev 29 58 [v0, v1, v2] (pm_ro (rm a 5) :: st) (im) (rm) := ev_getR pm_m29 d29_55 f6_84 rfl hk rfl
theorem d29_58 : decode prog_8_method_6_code 58 = .ok (.iload_n 2, 1) := by decide +kernel
theorem s29_58 {v0 v1 : Value} {l1 : Int32} {st : List Value} {im : IM} {rm : RM}  : ev 29 58 [v0, v1, .int l1] st im rm = ev 29 59 [v0, v1, .int l1] (.int l1 :: st) (im) (rm) := ev_iload_n pm_m29 d29_58 rfl rfl
theorem d29_59 : decode prog_8_method_6_code 59 = .ok (.aload_n 0, 1) := by decide +kernel
theorem s29_59 {v1 v2 : Value} {l1 : Nat} {st : List Value} {im : IM} {rm : RM}  : ev 29 59 [.ref l1, v1, v2] st im rm = ev 29 60 [.ref l1, v1, v2] (.ref l1 :: st) (im) (rm) := ev_aload_n pm_m29 d29_59 rfl rfl
theorem d29_60 : decode prog_8_method_6_code 60 = .ok (.sipush 999, 3) := by decide +kernel
theorem s29_60 {v0 v1 v2 : Value}  {st : List Value} {im : IM} {rm : RM}  : ev 29 60 [v0, v1, v2] st im rm = ev 29 63 [v0, v1, v2] (.int (nI 999) :: st) (im) (rm) := ev_sipush pm_m29 d29_60 rfl rfl
theorem d29_63 : decode prog_8_method_6_code 63 = .ok (.invokevirtual 59, 3) := by decide +kernel
theorem s29_63 {v0 v1 v2 : Value} {a : Nat} {p1 : Int32} {r2 : Int32} {r3 : Nat} {im : IM} {rm : RM} (hk : kd a = 16) : ev 29 63 [v0, v1, v2] [.int p1, .ref a, .int r2, .ref r3] im rm = (ev 39 0 [.ref a, .int p1, pm_u, pm_u] [] im rm).bind (fun r => ev 29 66 [v0, v1, v2] (r.1.toList ++ [.int r2, .ref r3]) r.2.1 r.2.2) := ev_callV pm_m29 d29_63 l6_59 rfl pm_m39 (by decide) hk rfl ⟨rfl, rfl⟩ rfl rfl
theorem d29_66 : decode prog_8_method_6_code 66 = .ok (.iastore, 1) := by decide +kernel
theorem s29_66 {v0 v1 v2 : Value} {a : Nat} {i : Int32} {v : Int32} {st : List Value} {im : IM} {rm : RM} (hk : kd a = 0) (hi : pm_in i (ln a) = true) : ev 29 66 [v0, v1, v2] (.int v :: .int i :: .ref a :: st) im rm = ev 29 67 [v0, v1, v2] st (pm_w2 im a i.toNatClampNeg v) (rm) := ev_iast pm_m29 d29_66 hk hi rfl
theorem d29_67 : decode prog_8_method_6_code 67 = .ok (.aload_n 1, 1) := by decide +kernel
theorem s29_67 {v0 v2 : Value} {l1 : Nat} {st : List Value} {im : IM} {rm : RM}  : ev 29 67 [v0, .ref l1, v2] st im rm = ev 29 68 [v0, .ref l1, v2] (.ref l1 :: st) (im) (rm) := ev_aload_n pm_m29 d29_67 rfl rfl
theorem d29_68 : decode prog_8_method_6_code 68 = .ok (.getfield 84, 3) := by decide +kernel
theorem s29_68 {v0 v1 v2 : Value} {a : Nat} {st : List Value} {im : IM} {rm : RM} (hk : kd a = 14) : ev 29 68 [v0, v1, v2] (.ref a :: st) im rm = ev 29 71 [v0, v1, v2] (pm_ro (rm a 5) :: st) (im) (rm) := ev_getR pm_m29 d29_68 f6_84 rfl hk rfl
theorem d29_71 : decode prog_8_method_6_code 71 = .ok (.iload_n 2, 1) := by decide +kernel
theorem s29_71 {v0 v1 : Value} {l1 : Int32} {st : List Value} {im : IM} {rm : RM}  : ev 29 71 [v0, v1, .int l1] st im rm = ev 29 72 [v0, v1, .int l1] (.int l1 :: st) (im) (rm) := ev_iload_n pm_m29 d29_71 rfl rfl
theorem d29_72 : decode prog_8_method_6_code 72 = .ok (.iaload, 1) := by decide +kernel
theorem s29_72 {v0 v1 v2 : Value} {a : Nat} {i : Int32} {st : List Value} {im : IM} {rm : RM} (hk : kd a = 0) (hi : pm_in i (ln a) = true) : ev 29 72 [v0, v1, v2] (.int i :: .ref a :: st) im rm = ev 29 73 [v0, v1, v2] (.int (im a i.toNatClampNeg) :: st) (im) (rm) := ev_iald pm_m29 d29_72 hk hi rfl
theorem d29_73 : decode prog_8_method_6_code 73 = .ok (.iconst (-1), 1) := by decide +kernel
theorem s29_73 {v0 v1 v2 : Value}  {st : List Value} {im : IM} {rm : RM}  : ev 29 73 [v0, v1, v2] st im rm = ev 29 74 [v0, v1, v2] (.int ((-1 : Int32)) :: st) (im) (rm) := ev_iconst pm_m29 d29_73 rfl rfl
theorem d29_74 : decode prog_8_method_6_code 74 = .ok (.if_icmp .eq 7, 3) := by decide +kernel
theorem s29_74 {v0 v1 v2 : Value} {x : Int32} {y : Int32} {st : List Value} {im : IM} {rm : RM} : ev 29 74 [v0, v1, v2] (.int y :: .int x :: st) im rm = if x = y then ev 29 81 [pm_u, pm_u, pm_u] st im rm else ev 29 77 [v0, v1, v2] st im rm := ev_icmp_eq pm_m29 d29_74 rfl rfl rfl
theorem d29_77 : decode prog_8_method_6_code 77 = .ok (.iconst 1, 1) := by decide +kernel
theorem s29_77 {v0 v1 v2 : Value}  {st : List Value} {im : IM} {rm : RM}  : ev 29 77 [v0, v1, v2] st im rm = ev 29 78 [v0, v1, v2] (.int (nI 1) :: st) (im) (rm) := ev_iconst pm_m29 d29_77 rfl rfl
theorem d29_78 : decode prog_8_method_6_code 78 = .ok (.goto 4, 3) := by decide +kernel
theorem s29_78 {v0 v1 v2 : Value}  {st : List Value} {im : IM} {rm : RM}  : ev 29 78 [v0, v1, v2] st im rm = ev 29 82 [pm_u, pm_u, pm_u] st (im) (rm) := ev_goto pm_m29 d29_78 rfl rfl
theorem d29_81 : decode prog_8_method_6_code 81 = .ok (.iconst 0, 1) := by decide +kernel
theorem s29_81 {v0 v1 v2 : Value}  {st : List Value} {im : IM} {rm : RM}  : ev 29 81 [v0, v1, v2] st im rm = ev 29 82 [pm_u, pm_u, pm_u] (.int (nI 0) :: st) (im) (rm) := ev_iconst pm_m29 d29_81 rfl rfl
theorem d29_82 : decode prog_8_method_6_code 82 = .ok (.ireturn, 1) := by decide +kernel
theorem s29_82 {v0 v1 v2 : Value} {x : Int32} {im : IM} {rm : RM} (hx : x = 0 ∨ x = 1) : ev 29 82 [v0, v1, v2] [.int x] im rm = some (some (.int x), im, rm) := ev_zreturn pm_m29 d29_82 rfl hx
theorem d30_0 : decode prog_8_method_7_code 0 = .ok (.aload_n 1, 1) := by decide +kernel
theorem s30_0 {v0 v2 v3 : Value} {l1 : Nat} {st : List Value} {im : IM} {rm : RM}  : ev 30 0 [v0, .ref l1, v2, v3] st im rm = ev 30 1 [v0, .ref l1, v2, v3] (.ref l1 :: st) (im) (rm) := ev_aload_n pm_m30 d30_0 rfl rfl
theorem d30_1 : decode prog_8_method_7_code 1 = .ok (.getfield 87, 3) := by decide +kernel
theorem s30_1 {v0 v1 v2 v3 : Value} {a : Nat} {st : List Value} {im : IM} {rm : RM} (hk : kd a = 11) : ev 30 1 [v0, v1, v2, v3] (.ref a :: st) im rm = ev 30 4 [v0, v1, v2, v3] (pm_ro (rm a 1) :: st) (im) (rm) := ev_getR pm_m30 d30_1 f6_87 rfl hk rfl
theorem d30_4 : decode prog_8_method_7_code 4 = .ok (.iload_n 2, 1) := by decide +kernel
theorem s30_4 {v0 v1 v3 : Value} {l1 : Int32} {st : List Value} {im : IM} {rm : RM}  : ev 30 4 [v0, v1, .int l1, v3] st im rm = ev 30 5 [v0, v1, .int l1, v3] (.int l1 :: st) (im) (rm) := ev_iload_n pm_m30 d30_4 rfl rfl
theorem d30_5 : decode prog_8_method_7_code 5 = .ok (.aload_n 0, 1) := by decide +kernel
theorem s30_5 {v1 v2 v3 : Value} {l1 : Nat} {st : List Value} {im : IM} {rm : RM}  : ev 30 5 [.ref l1, v1, v2, v3] st im rm = ev 30 6 [.ref l1, v1, v2, v3] (.ref l1 :: st) (im) (rm) := ev_aload_n pm_m30 d30_5 rfl rfl
theorem d30_6 : decode prog_8_method_7_code 6 = .ok (.invokevirtual 90, 3) := by decide +kernel
theorem s30_6 {v0 v1 v2 v3 : Value} {a : Nat} {r1 : Int32} {r2 : Nat} {im : IM} {rm : RM} (hk : kd a = 16) : ev 30 6 [v0, v1, v2, v3] [.ref a, .int r1, .ref r2] im rm = (ev 31 0 [.ref a] [] im rm).bind (fun r => ev 30 9 [v0, v1, v2, v3] (r.1.toList ++ [.int r1, .ref r2]) r.2.1 r.2.2) := ev_callV pm_m30 d30_6 l6_90 rfl pm_m31 (by decide) hk rfl ⟨rfl, rfl⟩ rfl rfl
theorem d30_9 : decode prog_8_method_7_code 9 = .ok (.iastore, 1) := by decide +kernel
theorem s30_9 {v0 v1 v2 v3 : Value} {a : Nat} {i : Int32} {v : Int32} {st : List Value} {im : IM} {rm : RM} (hk : kd a = 0) (hi : pm_in i (ln a) = true) : ev 30 9 [v0, v1, v2, v3] (.int v :: .int i :: .ref a :: st) im rm = ev 30 10 [v0, v1, v2, v3] st (pm_w2 im a i.toNatClampNeg v) (rm) := ev_iast pm_m30 d30_9 hk hi rfl
theorem d30_10 : decode prog_8_method_7_code 10 = .ok (.aload_n 1, 1) := by decide +kernel
theorem s30_10 {v0 v2 v3 : Value} {l1 : Nat} {st : List Value} {im : IM} {rm : RM}  : ev 30 10 [v0, .ref l1, v2, v3] st im rm = ev 30 11 [v0, .ref l1, v2, v3] (.ref l1 :: st) (im) (rm) := ev_aload_n pm_m30 d30_10 rfl rfl
theorem d30_11 : decode prog_8_method_7_code 11 = .ok (.getfield 87, 3) := by decide +kernel
theorem s30_11 {v0 v1 v2 v3 : Value} {a : Nat} {st : List Value} {im : IM} {rm : RM} (hk : kd a = 11) : ev 30 11 [v0, v1, v2, v3] (.ref a :: st) im rm = ev 30 14 [v0, v1, v2, v3] (pm_ro (rm a 1) :: st) (im) (rm) := ev_getR pm_m30 d30_11 f6_87 rfl hk rfl
theorem d30_14 : decode prog_8_method_7_code 14 = .ok (.iload_n 2, 1) := by decide +kernel
theorem s30_14 {v0 v1 v3 : Value} {l1 : Int32} {st : List Value} {im : IM} {rm : RM}  : ev 30 14 [v0, v1, .int l1, v3] st im rm = ev 30 15 [v0, v1, .int l1, v3] (.int l1 :: st) (im) (rm) := ev_iload_n pm_m30 d30_14 rfl rfl
theorem d30_15 : decode prog_8_method_7_code 15 = .ok (.iaload, 1) := by decide +kernel
theorem s30_15 {v0 v1 v2 v3 : Value} {a : Nat} {i : Int32} {st : List Value} {im : IM} {rm : RM} (hk : kd a = 0) (hi : pm_in i (ln a) = true) : ev 30 15 [v0, v1, v2, v3] (.int i :: .ref a :: st) im rm = ev 30 16 [v0, v1, v2, v3] (.int (im a i.toNatClampNeg) :: st) (im) (rm) := ev_iald pm_m30 d30_15 hk hi rfl
theorem d30_16 : decode prog_8_method_7_code 16 = .ok (.iconst (-1), 1) := by decide +kernel
theorem s30_16 {v0 v1 v2 v3 : Value}  {st : List Value} {im : IM} {rm : RM}  : ev 30 16 [v0, v1, v2, v3] st im rm = ev 30 17 [v0, v1, v2, v3] (.int ((-1 : Int32)) :: st) (im) (rm) := ev_iconst pm_m30 d30_16 rfl rfl
theorem d30_17 : decode prog_8_method_7_code 17 = .ok (.if_icmp .ne 5, 3) := by decide +kernel
theorem s30_17 {v0 v1 v2 v3 : Value} {x : Int32} {y : Int32} {st : List Value} {im : IM} {rm : RM} : ev 30 17 [v0, v1, v2, v3] (.int y :: .int x :: st) im rm = if x = y then ev 30 20 [v0, v1, v2, v3] st im rm else ev 30 22 [v0, v1, v2, pm_u] st im rm := ev_icmp_ne pm_m30 d30_17 rfl rfl rfl
theorem d30_20 : decode prog_8_method_7_code 20 = .ok (.iconst 0, 1) := by decide +kernel
theorem s30_20 {v0 v1 v2 v3 : Value}  {st : List Value} {im : IM} {rm : RM}  : ev 30 20 [v0, v1, v2, v3] st im rm = ev 30 21 [v0, v1, v2, v3] (.int (nI 0) :: st) (im) (rm) := ev_iconst pm_m30 d30_20 rfl rfl
theorem d30_21 : decode prog_8_method_7_code 21 = .ok (.ireturn, 1) := by decide +kernel
theorem s30_21 {v0 v1 v2 v3 : Value} {x : Int32} {im : IM} {rm : RM} (hx : x = 0 ∨ x = 1) : ev 30 21 [v0, v1, v2, v3] [.int x] im rm = some (some (.int x), im, rm) := ev_zreturn pm_m30 d30_21 rfl hx
theorem d30_22 : decode prog_8_method_7_code 22 = .ok (.aload_n 1, 1) := by decide +kernel
theorem s30_22 {v0 v2 v3 : Value} {l1 : Nat} {st : List Value} {im : IM} {rm : RM}  : ev 30 22 [v0, .ref l1, v2, v3] st im rm = ev 30 23 [v0, .ref l1, v2, v3] (.ref l1 :: st) (im) (rm) := ev_aload_n pm_m30 d30_22 rfl rfl
theorem d30_23 : decode prog_8_method_7_code 23 = .ok (.getfield 87, 3) := by decide +kernel
theorem s30_23 {v0 v1 v2 v3 : Value} {a : Nat} {st : List Value} {im : IM} {rm : RM} (hk : kd a = 11) : ev 30 23 [v0, v1, v2, v3] (.ref a :: st) im rm = ev 30 26 [v0, v1, v2, v3] (pm_ro (rm a 1) :: st) (im) (rm) := ev_getR pm_m30 d30_23 f6_87 rfl hk rfl
theorem d30_26 : decode prog_8_method_7_code 26 = .ok (.iload_n 2, 1) := by decide +kernel
theorem s30_26 {v0 v1 v3 : Value} {l1 : Int32} {st : List Value} {im : IM} {rm : RM}  : ev 30 26 [v0, v1, .int l1, v3] st im rm = ev 30 27 [v0, v1, .int l1, v3] (.int l1 :: st) (im) (rm) := ev_iload_n pm_m30 d30_26 rfl rfl
theorem d30_27 : decode prog_8_method_7_code 27 = .ok (.iaload, 1) := by decide +kernel
theorem s30_27 {v0 v1 v2 v3 : Value} {a : Nat} {i : Int32} {st : List Value} {im : IM} {rm : RM} (hk : kd a = 0) (hi : pm_in i (ln a) = true) : ev 30 27 [v0, v1, v2, v3] (.int i :: .ref a :: st) im rm = ev 30 28 [v0, v1, v2, v3] (.int (im a i.toNatClampNeg) :: st) (im) (rm) := ev_iald pm_m30 d30_27 hk hi rfl
theorem d30_28 : decode prog_8_method_7_code 28 = .ok (.iconst 2, 1) := by decide +kernel
theorem s30_28 {v0 v1 v2 v3 : Value}  {st : List Value} {im : IM} {rm : RM}  : ev 30 28 [v0, v1, v2, v3] st im rm = ev 30 29 [v0, v1, v2, v3] (.int (nI 2) :: st) (im) (rm) := ev_iconst pm_m30 d30_28 rfl rfl
theorem d30_29 : decode prog_8_method_7_code 29 = .ok (.if_icmp .eq 13, 3) := by decide +kernel
theorem s30_29 {v0 v1 v2 v3 : Value} {x : Int32} {y : Int32} {st : List Value} {im : IM} {rm : RM} : ev 30 29 [v0, v1, v2, v3] (.int y :: .int x :: st) im rm = if x = y then ev 30 42 [v0, v1, v2, pm_u] st im rm else ev 30 32 [v0, v1, v2, v3] st im rm := ev_icmp_eq pm_m30 d30_29 rfl rfl rfl
theorem d30_32 : decode prog_8_method_7_code 32 = .ok (.aload_n 1, 1) := by decide +kernel
theorem s30_32 {v0 v2 v3 : Value} {l1 : Nat} {st : List Value} {im : IM} {rm : RM}  : ev 30 32 [v0, .ref l1, v2, v3] st im rm = ev 30 33 [v0, .ref l1, v2, v3] (.ref l1 :: st) (im) (rm) := ev_aload_n pm_m30 d30_32 rfl rfl
theorem d30_33 : decode prog_8_method_7_code 33 = .ok (.getfield 87, 3) := by decide +kernel
theorem s30_33 {v0 v1 v2 v3 : Value} {a : Nat} {st : List Value} {im : IM} {rm : RM} (hk : kd a = 11) : ev 30 33 [v0, v1, v2, v3] (.ref a :: st) im rm = ev 30 36 [v0, v1, v2, v3] (pm_ro (rm a 1) :: st) (im) (rm) := ev_getR pm_m30 d30_33 f6_87 rfl hk rfl
theorem d30_36 : decode prog_8_method_7_code 36 = .ok (.iload_n 2, 1) := by decide +kernel
theorem s30_36 {v0 v1 v3 : Value} {l1 : Int32} {st : List Value} {im : IM} {rm : RM}  : ev 30 36 [v0, v1, .int l1, v3] st im rm = ev 30 37 [v0, v1, .int l1, v3] (.int l1 :: st) (im) (rm) := ev_iload_n pm_m30 d30_36 rfl rfl
theorem d30_37 : decode prog_8_method_7_code 37 = .ok (.iaload, 1) := by decide +kernel
theorem s30_37 {v0 v1 v2 v3 : Value} {a : Nat} {i : Int32} {st : List Value} {im : IM} {rm : RM} (hk : kd a = 0) (hi : pm_in i (ln a) = true) : ev 30 37 [v0, v1, v2, v3] (.int i :: .ref a :: st) im rm = ev 30 38 [v0, v1, v2, v3] (.int (im a i.toNatClampNeg) :: st) (im) (rm) := ev_iald pm_m30 d30_37 hk hi rfl
theorem d30_38 : decode prog_8_method_7_code 38 = .ok (.iconst 3, 1) := by decide +kernel
theorem s30_38 {v0 v1 v2 v3 : Value}  {st : List Value} {im : IM} {rm : RM}  : ev 30 38 [v0, v1, v2, v3] st im rm = ev 30 39 [v0, v1, v2, v3] (.int (nI 3) :: st) (im) (rm) := ev_iconst pm_m30 d30_38 rfl rfl
theorem d30_39 : decode prog_8_method_7_code 39 = .ok (.if_icmp .ne 7, 3) := by decide +kernel
theorem s30_39 {v0 v1 v2 v3 : Value} {x : Int32} {y : Int32} {st : List Value} {im : IM} {rm : RM} : ev 30 39 [v0, v1, v2, v3] (.int y :: .int x :: st) im rm = if x = y then ev 30 42 [v0, v1, v2, pm_u] st im rm else ev 30 46 [v0, v1, v2, pm_u] st im rm := ev_icmp_ne pm_m30 d30_39 rfl rfl rfl
theorem d30_42 : decode prog_8_method_7_code 42 = .ok (.iconst 1, 1) := by decide +kernel
theorem s30_42 {v0 v1 v2 v3 : Value}  {st : List Value} {im : IM} {rm : RM}  : ev 30 42 [v0, v1, v2, v3] st im rm = ev 30 43 [v0, v1, v2, v3] (.int (nI 1) :: st) (im) (rm) := ev_iconst pm_m30 d30_42 rfl rfl
theorem d30_43 : decode prog_8_method_7_code 43 = .ok (.goto 4, 3) := by decide +kernel
theorem s30_43 {v0 v1 v2 v3 : Value}  {st : List Value} {im : IM} {rm : RM}  : ev 30 43 [v0, v1, v2, v3] st im rm = ev 30 47 [v0, v1, v2, pm_u] st (im) (rm) := ev_goto pm_m30 d30_43 rfl rfl
theorem d30_46 : decode prog_8_method_7_code 46 = .ok (.iconst 0, 1) := by decide +kernel
theorem s30_46 {v0 v1 v2 v3 : Value}  {st : List Value} {im : IM} {rm : RM}  : ev 30 46 [v0, v1, v2, v3] st im rm = ev 30 47 [v0, v1, v2, pm_u] (.int (nI 0) :: st) (im) (rm) := ev_iconst pm_m30 d30_46 rfl rfl
theorem d30_47 : decode prog_8_method_7_code 47 = .ok (.istore_n 3, 1) := by decide +kernel
theorem s30_47 {v0 v1 v3 : Value} {l1 : Int32} {x2 : Int32} {st : List Value} {im : IM} {rm : RM}  : ev 30 47 [v0, v1, .int l1, v3] (.int x2 :: st) im rm = ev 30 48 [v0, v1, .int l1, .int x2] st (im) (rm) := ev_istore_n pm_m30 d30_47 (Nat.le_of_ble_eq_true rfl) rfl rfl
theorem d30_48 : decode prog_8_method_7_code 48 = .ok (.aload_n 1, 1) := by decide +kernel
theorem s30_48 {v0 v2 v3 : Value} {l1 : Nat} {st : List Value} {im : IM} {rm : RM}  : ev 30 48 [v0, .ref l1, v2, v3] st im rm = ev 30 49 [v0, .ref l1, v2, v3] (.ref l1 :: st) (im) (rm) := ev_aload_n pm_m30 d30_48 rfl rfl
theorem d30_49 : decode prog_8_method_7_code 49 = .ok (.getfield 93, 3) := by decide +kernel
theorem s30_49 {v0 v1 v2 v3 : Value} {a : Nat} {st : List Value} {im : IM} {rm : RM} (hk : kd a = 11) : ev 30 49 [v0, v1, v2, v3] (.ref a :: st) im rm = ev 30 52 [v0, v1, v2, v3] (pm_ro (rm a 2) :: st) (im) (rm) := ev_getR pm_m30 d30_49 f6_93 rfl hk rfl
theorem d30_52 : decode prog_8_method_7_code 52 = .ok (.iload_n 2, 1) := by decide +kernel
theorem s30_52 {v0 v1 v3 : Value} {l1 : Int32} {st : List Value} {im : IM} {rm : RM}  : ev 30 52 [v0, v1, .int l1, v3] st im rm = ev 30 53 [v0, v1, .int l1, v3] (.int l1 :: st) (im) (rm) := ev_iload_n pm_m30 d30_52 rfl rfl
theorem d30_53 : decode prog_8_method_7_code 53 = .ok (.iload_n 3, 1) := by decide +kernel
theorem s30_53 {v0 v1 v2 : Value} {l1 : Int32} {st : List Value} {im : IM} {rm : RM}  : ev 30 53 [v0, v1, v2, .int l1] st im rm = ev 30 54 [v0, v1, v2, .int l1] (.int l1 :: st) (im) (rm) := ev_iload_n pm_m30 d30_53 rfl rfl
theorem d30_54 : decode prog_8_method_7_code 54 = .ok (.ifCond .eq 10, 3) := by decide +kernel
theorem s30_54 {v0 v1 v2 v3 : Value} {x : Int32} {st : List Value} {im : IM} {rm : RM} : ev 30 54 [v0, v1, v2, v3] (.int x :: st) im rm = if x = nI 0 then ev 30 64 [v0, v1, v2, pm_u] st im rm else ev 30 57 [v0, v1, v2, v3] st im rm := ev_if_eq (y := 0) pm_m30 d30_54 rfl rfl rfl
theorem d30_57 : decode prog_8_method_7_code 57 = .ok (.aload_n 0, 1) := by decide +kernel
theorem s30_57 {v1 v2 v3 : Value} {l1 : Nat} {st : List Value} {im : IM} {rm : RM}  : ev 30 57 [.ref l1, v1, v2, v3] st im rm = ev 30 58 [.ref l1, v1, v2, v3] (.ref l1 :: st) (im) (rm) := ev_aload_n pm_m30 d30_57 rfl rfl
theorem d30_58 : decode prog_8_method_7_code 58 = .ok (.invokevirtual 73, 3) := by decide +kernel
theorem s30_58 {v0 v1 v2 v3 : Value} {a : Nat} {r1 : Int32} {r2 : Nat} {im : IM} {rm : RM} (hk : kd a = 16) : ev 30 58 [v0, v1, v2, v3] [.ref a, .int r1, .ref r2] im rm = (ev 32 0 [.ref a, pm_u] [] im rm).bind (fun r => ev 30 61 [v0, v1, v2, v3] (r.1.toList ++ [.int r1, .ref r2]) r.2.1 r.2.2) := ev_callV pm_m30 d30_58 l6_73 rfl pm_m32 (by decide) hk rfl ⟨rfl, rfl⟩ rfl rfl
theorem d30_61 : decode prog_8_method_7_code 61 = .ok (.goto 10, 3) := by decide +kernel
theorem s30_61 {v0 v1 v2 v3 : Value}  {st : List Value} {im : IM} {rm : RM}  : ev 30 61 [v0, v1, v2, v3] st im rm = ev 30 71 [pm_u, v1, v2, pm_u] st (im) (rm) := ev_goto pm_m30 d30_61 rfl rfl
theorem d30_64 : decode prog_8_method_7_code 64 = .ok (.aload_n 0, 1) := by decide +kernel
theorem s30_64 {v1 v2 v3 : Value} {l1 : Nat} {st : List Value} {im : IM} {rm : RM}  : ev 30 64 [.ref l1, v1, v2, v3] st im rm = ev 30 65 [.ref l1, v1, v2, v3] (.ref l1 :: st) (im) (rm) := ev_aload_n pm_m30 d30_64 rfl rfl
theorem d30_65 : decode prog_8_method_7_code 65 = .ok (.sipush 999, 3) := by decide +kernel
theorem s30_65 {v0 v1 v2 v3 : Value}  {st : List Value} {im : IM} {rm : RM}  : ev 30 65 [v0, v1, v2, v3] st im rm = ev 30 68 [v0, v1, v2, v3] (.int (nI 999) :: st) (im) (rm) := ev_sipush pm_m30 d30_65 rfl rfl
theorem d30_68 : decode prog_8_method_7_code 68 = .ok (.invokevirtual 59, 3) := by decide +kernel
theorem s30_68 {v0 v1 v2 v3 : Value} {a : Nat} {p1 : Int32} {r2 : Int32} {r3 : Nat} {im : IM} {rm : RM} (hk : kd a = 16) : ev 30 68 [v0, v1, v2, v3] [.int p1, .ref a, .int r2, .ref r3] im rm = (ev 39 0 [.ref a, .int p1, pm_u, pm_u] [] im rm).bind (fun r => ev 30 71 [pm_u, v1, v2, pm_u] (r.1.toList ++ [.int r2, .ref r3]) r.2.1 r.2.2) := ev_callV pm_m30 d30_68 l6_59 rfl pm_m39 (by decide) hk rfl ⟨rfl, rfl⟩ rfl rfl
theorem d30_71 : decode prog_8_method_7_code 71 = .ok (.iastore, 1) := by decide +kernel
theorem s30_71 {v0 v1 v2 v3 : Value} {a : Nat} {i : Int32} {v : Int32} {st : List Value} {im : IM} {rm : RM} (hk : kd a = 0) (hi : pm_in i (ln a) = true) : ev 30 71 [v0, v1, v2, v3] (.int v :: .int i :: .ref a :: st) im rm = ev 30 72 [v0, v1, v2, v3] st (pm_w2 im a i.toNatClampNeg v) (rm) := ev_iast pm_m30 d30_71 hk hi rfl
theorem d30_72 : decode prog_8_method_7_code 72 = .ok (.aload_n 1, 1) := by decide +kernel
theorem s30_72 {v0 v2 v3 : Value} {l1 : Nat} {st : List Value} {im : IM} {rm : RM}  : ev 30 72 [v0, .ref l1, v2, v3] st im rm = ev 30 73 [v0, .ref l1, v2, v3] (.ref l1 :: st) (im) (rm) := ev_aload_n pm_m30 d30_72 rfl rfl
theorem d30_73 : decode prog_8_method_7_code 73 = .ok (.getfield 93, 3) := by decide +kernel
theorem s30_73 {v0 v1 v2 v3 : Value} {a : Nat} {st : List Value} {im : IM} {rm : RM} (hk : kd a = 11) : ev 30 73 [v0, v1, v2, v3] (.ref a :: st) im rm = ev 30 76 [v0, v1, v2, v3] (pm_ro (rm a 2) :: st) (im) (rm) := ev_getR pm_m30 d30_73 f6_93 rfl hk rfl
theorem d30_76 : decode prog_8_method_7_code 76 = .ok (.iload_n 2, 1) := by decide +kernel
theorem s30_76 {v0 v1 v3 : Value} {l1 : Int32} {st : List Value} {im : IM} {rm : RM}  : ev 30 76 [v0, v1, .int l1, v3] st im rm = ev 30 77 [v0, v1, .int l1, v3] (.int l1 :: st) (im) (rm) := ev_iload_n pm_m30 d30_76 rfl rfl
theorem d30_77 : decode prog_8_method_7_code 77 = .ok (.iaload, 1) := by decide +kernel
theorem s30_77 {v0 v1 v2 v3 : Value} {a : Nat} {i : Int32} {st : List Value} {im : IM} {rm : RM} (hk : kd a = 0) (hi : pm_in i (ln a) = true) : ev 30 77 [v0, v1, v2, v3] (.int i :: .ref a :: st) im rm = ev 30 78 [v0, v1, v2, v3] (.int (im a i.toNatClampNeg) :: st) (im) (rm) := ev_iald pm_m30 d30_77 hk hi rfl
theorem d30_78 : decode prog_8_method_7_code 78 = .ok (.iconst (-1), 1) := by decide +kernel
theorem s30_78 {v0 v1 v2 v3 : Value}  {st : List Value} {im : IM} {rm : RM}  : ev 30 78 [v0, v1, v2, v3] st im rm = ev 30 79 [v0, v1, v2, v3] (.int ((-1 : Int32)) :: st) (im) (rm) := ev_iconst pm_m30 d30_78 rfl rfl
theorem d30_79 : decode prog_8_method_7_code 79 = .ok (.if_icmp .eq 7, 3) := by decide +kernel
theorem s30_79 {v0 v1 v2 v3 : Value} {x : Int32} {y : Int32} {st : List Value} {im : IM} {rm : RM} : ev 30 79 [v0, v1, v2, v3] (.int y :: .int x :: st) im rm = if x = y then ev 30 86 [pm_u, pm_u, pm_u, pm_u] st im rm else ev 30 82 [v0, v1, v2, v3] st im rm := ev_icmp_eq pm_m30 d30_79 rfl rfl rfl
theorem d30_82 : decode prog_8_method_7_code 82 = .ok (.iconst 1, 1) := by decide +kernel
theorem s30_82 {v0 v1 v2 v3 : Value}  {st : List Value} {im : IM} {rm : RM}  : ev 30 82 [v0, v1, v2, v3] st im rm = ev 30 83 [v0, v1, v2, v3] (.int (nI 1) :: st) (im) (rm) := ev_iconst pm_m30 d30_82 rfl rfl
theorem d30_83 : decode prog_8_method_7_code 83 = .ok (.goto 4, 3) := by decide +kernel
theorem s30_83 {v0 v1 v2 v3 : Value}  {st : List Value} {im : IM} {rm : RM}  : ev 30 83 [v0, v1, v2, v3] st im rm = ev 30 87 [pm_u, pm_u, pm_u, pm_u] st (im) (rm) := ev_goto pm_m30 d30_83 rfl rfl
theorem d30_86 : decode prog_8_method_7_code 86 = .ok (.iconst 0, 1) := by decide +kernel
theorem s30_86 {v0 v1 v2 v3 : Value}  {st : List Value} {im : IM} {rm : RM}  : ev 30 86 [v0, v1, v2, v3] st im rm = ev 30 87 [pm_u, pm_u, pm_u, pm_u] (.int (nI 0) :: st) (im) (rm) := ev_iconst pm_m30 d30_86 rfl rfl
theorem d30_87 : decode prog_8_method_7_code 87 = .ok (.ireturn, 1) := by decide +kernel
theorem s30_87 {v0 v1 v2 v3 : Value} {x : Int32} {im : IM} {rm : RM} (hx : x = 0 ∨ x = 1) : ev 30 87 [v0, v1, v2, v3] [.int x] im rm = some (some (.int x), im, rm) := ev_zreturn pm_m30 d30_87 rfl hx
theorem d31_0 : decode prog_8_method_8_code 0 = .ok (.aload_n 0, 1) := by decide +kernel
theorem s31_0 {l1 : Nat} {st : List Value} {im : IM} {rm : RM}  : ev 31 0 [.ref l1] st im rm = ev 31 1 [.ref l1] (.ref l1 :: st) (im) (rm) := ev_aload_n pm_m31 d31_0 rfl rfl
theorem d31_1 : decode prog_8_method_8_code 1 = .ok (.ldc 94, 2) := by decide +kernel
theorem s31_1 {v0 : Value}  {st : List Value} {im : IM} {rm : RM}  : ev 31 1 [v0] st im rm = ev 31 3 [v0] (.ref (1000000 + 6) :: st) (im) (rm) := ev_ldcS pm_m31 d31_1 (by decide +kernel) (by decide +kernel) rfl
theorem d31_3 : decode prog_8_method_8_code 3 = .ok (.invokevirtual 41, 3) := by decide +kernel
theorem s31_3 {v0 : Value} {a : Nat} {p1 : Nat} {im : IM} {rm : RM} (hk : kd a = 16) : ev 31 3 [v0] [.ref p1, .ref a] im rm = (ev 38 0 [.ref a, .ref p1] [] im rm).bind (fun r => ev 31 6 [v0] (r.1.toList ++ []) r.2.1 r.2.2) := ev_callV pm_m31 d31_3 l6_41 rfl pm_m38 (by decide) hk rfl ⟨rfl, rfl⟩ rfl rfl
theorem d31_6 : decode prog_8_method_8_code 6 = .ok (.ifCond .eq 5, 3) := by decide +kernel
theorem s31_6 {v0 : Value} {x : Int32} {st : List Value} {im : IM} {rm : RM} : ev 31 6 [v0] (.int x :: st) im rm = if x = nI 0 then ev 31 11 [v0] st im rm else ev 31 9 [v0] st im rm := ev_if_eq (y := 0) pm_m31 d31_6 rfl rfl rfl
theorem d31_9 : decode prog_8_method_8_code 9 = .ok (.iconst 0, 1) := by decide +kernel
theorem s31_9 {v0 : Value}  {st : List Value} {im : IM} {rm : RM}  : ev 31 9 [v0] st im rm = ev 31 10 [v0] (.int (nI 0) :: st) (im) (rm) := ev_iconst pm_m31 d31_9 rfl rfl
theorem d31_10 : decode prog_8_method_8_code 10 = .ok (.ireturn, 1) := by decide +kernel
theorem s31_10 {v0 : Value} {x : Int32} {im : IM} {rm : RM} : ev 31 10 [v0] [.int x] im rm = some (some (.int x), im, rm) := ev_ireturn pm_m31 d31_10 rfl
theorem d31_11 : decode prog_8_method_8_code 11 = .ok (.aload_n 0, 1) := by decide +kernel
theorem s31_11 {l1 : Nat} {st : List Value} {im : IM} {rm : RM}  : ev 31 11 [.ref l1] st im rm = ev 31 12 [.ref l1] (.ref l1 :: st) (im) (rm) := ev_aload_n pm_m31 d31_11 rfl rfl
theorem d31_12 : decode prog_8_method_8_code 12 = .ok (.ldc 96, 2) := by decide +kernel
theorem s31_12 {v0 : Value}  {st : List Value} {im : IM} {rm : RM}  : ev 31 12 [v0] st im rm = ev 31 14 [v0] (.ref (1000000 + 7) :: st) (im) (rm) := ev_ldcS pm_m31 d31_12 (by decide +kernel) (by decide +kernel) rfl
theorem d31_14 : decode prog_8_method_8_code 14 = .ok (.invokevirtual 41, 3) := by decide +kernel
theorem s31_14 {v0 : Value} {a : Nat} {p1 : Nat} {im : IM} {rm : RM} (hk : kd a = 16) : ev 31 14 [v0] [.ref p1, .ref a] im rm = (ev 38 0 [.ref a, .ref p1] [] im rm).bind (fun r => ev 31 17 [v0] (r.1.toList ++ []) r.2.1 r.2.2) := ev_callV pm_m31 d31_14 l6_41 rfl pm_m38 (by decide) hk rfl ⟨rfl, rfl⟩ rfl rfl
theorem d31_17 : decode prog_8_method_8_code 17 = .ok (.ifCond .eq 5, 3) := by decide +kernel
theorem s31_17 {v0 : Value} {x : Int32} {st : List Value} {im : IM} {rm : RM} : ev 31 17 [v0] (.int x :: st) im rm = if x = nI 0 then ev 31 22 [v0] st im rm else ev 31 20 [v0] st im rm := ev_if_eq (y := 0) pm_m31 d31_17 rfl rfl rfl
theorem d31_20 : decode prog_8_method_8_code 20 = .ok (.iconst 1, 1) := by decide +kernel
theorem s31_20 {v0 : Value}  {st : List Value} {im : IM} {rm : RM}  : ev 31 20 [v0] st im rm = ev 31 21 [v0] (.int (nI 1) :: st) (im) (rm) := ev_iconst pm_m31 d31_20 rfl rfl
theorem d31_21 : decode prog_8_method_8_code 21 = .ok (.ireturn, 1) := by decide +kernel
theorem s31_21 {v0 : Value} {x : Int32} {im : IM} {rm : RM} : ev 31 21 [v0] [.int x] im rm = some (some (.int x), im, rm) := ev_ireturn pm_m31 d31_21 rfl
theorem d31_22 : decode prog_8_method_8_code 22 = .ok (.aload_n 0, 1) := by decide +kernel
theorem s31_22 {l1 : Nat} {st : List Value} {im : IM} {rm : RM}  : ev 31 22 [.ref l1] st im rm = ev 31 23 [.ref l1] (.ref l1 :: st) (im) (rm) := ev_aload_n pm_m31 d31_22 rfl rfl
theorem d31_23 : decode prog_8_method_8_code 23 = .ok (.ldc 98, 2) := by decide +kernel
theorem s31_23 {v0 : Value}  {st : List Value} {im : IM} {rm : RM}  : ev 31 23 [v0] st im rm = ev 31 25 [v0] (.ref (1000000 + 8) :: st) (im) (rm) := ev_ldcS pm_m31 d31_23 (by decide +kernel) (by decide +kernel) rfl
theorem d31_25 : decode prog_8_method_8_code 25 = .ok (.invokevirtual 41, 3) := by decide +kernel
theorem s31_25 {v0 : Value} {a : Nat} {p1 : Nat} {im : IM} {rm : RM} (hk : kd a = 16) : ev 31 25 [v0] [.ref p1, .ref a] im rm = (ev 38 0 [.ref a, .ref p1] [] im rm).bind (fun r => ev 31 28 [v0] (r.1.toList ++ []) r.2.1 r.2.2) := ev_callV pm_m31 d31_25 l6_41 rfl pm_m38 (by decide) hk rfl ⟨rfl, rfl⟩ rfl rfl
theorem d31_28 : decode prog_8_method_8_code 28 = .ok (.ifCond .eq 5, 3) := by decide +kernel
theorem s31_28 {v0 : Value} {x : Int32} {st : List Value} {im : IM} {rm : RM} : ev 31 28 [v0] (.int x :: st) im rm = if x = nI 0 then ev 31 33 [v0] st im rm else ev 31 31 [v0] st im rm := ev_if_eq (y := 0) pm_m31 d31_28 rfl rfl rfl
theorem d31_31 : decode prog_8_method_8_code 31 = .ok (.iconst 2, 1) := by decide +kernel
theorem s31_31 {v0 : Value}  {st : List Value} {im : IM} {rm : RM}  : ev 31 31 [v0] st im rm = ev 31 32 [v0] (.int (nI 2) :: st) (im) (rm) := ev_iconst pm_m31 d31_31 rfl rfl
theorem d31_32 : decode prog_8_method_8_code 32 = .ok (.ireturn, 1) := by decide +kernel
theorem s31_32 {v0 : Value} {x : Int32} {im : IM} {rm : RM} : ev 31 32 [v0] [.int x] im rm = some (some (.int x), im, rm) := ev_ireturn pm_m31 d31_32 rfl
theorem d31_33 : decode prog_8_method_8_code 33 = .ok (.aload_n 0, 1) := by decide +kernel
theorem s31_33 {l1 : Nat} {st : List Value} {im : IM} {rm : RM}  : ev 31 33 [.ref l1] st im rm = ev 31 34 [.ref l1] (.ref l1 :: st) (im) (rm) := ev_aload_n pm_m31 d31_33 rfl rfl
theorem d31_34 : decode prog_8_method_8_code 34 = .ok (.ldc 100, 2) := by decide +kernel
theorem s31_34 {v0 : Value}  {st : List Value} {im : IM} {rm : RM}  : ev 31 34 [v0] st im rm = ev 31 36 [v0] (.ref (1000000 + 9) :: st) (im) (rm) := ev_ldcS pm_m31 d31_34 (by decide +kernel) (by decide +kernel) rfl
theorem d31_36 : decode prog_8_method_8_code 36 = .ok (.invokevirtual 41, 3) := by decide +kernel
theorem s31_36 {v0 : Value} {a : Nat} {p1 : Nat} {im : IM} {rm : RM} (hk : kd a = 16) : ev 31 36 [v0] [.ref p1, .ref a] im rm = (ev 38 0 [.ref a, .ref p1] [] im rm).bind (fun r => ev 31 39 [v0] (r.1.toList ++ []) r.2.1 r.2.2) := ev_callV pm_m31 d31_36 l6_41 rfl pm_m38 (by decide) hk rfl ⟨rfl, rfl⟩ rfl rfl
theorem d31_39 : decode prog_8_method_8_code 39 = .ok (.ifCond .eq 7, 3) := by decide +kernel
theorem s31_39 {v0 : Value} {x : Int32} {st : List Value} {im : IM} {rm : RM} : ev 31 39 [v0] (.int x :: st) im rm = if x = nI 0 then ev 31 46 [pm_u] st im rm else ev 31 42 [v0] st im rm := ev_if_eq (y := 0) pm_m31 d31_39 rfl rfl rfl
theorem d31_42 : decode prog_8_method_8_code 42 = .ok (.iconst 3, 1) := by decide +kernel
theorem s31_42 {v0 : Value}  {st : List Value} {im : IM} {rm : RM}  : ev 31 42 [v0] st im rm = ev 31 43 [v0] (.int (nI 3) :: st) (im) (rm) := ev_iconst pm_m31 d31_42 rfl rfl
theorem d31_43 : decode prog_8_method_8_code 43 = .ok (.goto 4, 3) := by decide +kernel
theorem s31_43 {v0 : Value}  {st : List Value} {im : IM} {rm : RM}  : ev 31 43 [v0] st im rm = ev 31 47 [pm_u] st (im) (rm) := ev_goto pm_m31 d31_43 rfl rfl
theorem d31_46 : decode prog_8_method_8_code 46 = .ok (.iconst (-1), 1) := by decide +kernel
theorem s31_46 {v0 : Value}  {st : List Value} {im : IM} {rm : RM}  : ev 31 46 [v0] st im rm = ev 31 47 [pm_u] (.int ((-1 : Int32)) :: st) (im) (rm) := ev_iconst pm_m31 d31_46 rfl rfl
theorem d31_47 : decode prog_8_method_8_code 47 = .ok (.ireturn, 1) := by decide +kernel
theorem s31_47 {v0 : Value} {x : Int32} {im : IM} {rm : RM} : ev 31 47 [v0] [.int x] im rm = some (some (.int x), im, rm) := ev_ireturn pm_m31 d31_47 rfl
theorem d32_0 : decode prog_8_method_9_code 0 = .ok (.iconst 0, 1) := by decide +kernel
theorem s32_0 {v0 v1 : Value}  {st : List Value} {im : IM} {rm : RM}  : ev 32 0 [v0, v1] st im rm = ev 32 1 [v0, v1] (.int (nI 0) :: st) (im) (rm) := ev_iconst pm_m32 d32_0 rfl rfl
theorem d32_1 : decode prog_8_method_9_code 1 = .ok (.istore_n 1, 1) := by decide +kernel
theorem s32_1 {v1 : Value} {l1 : Nat} {x2 : Int32} {st : List Value} {im : IM} {rm : RM}  : ev 32 1 [.ref l1, v1] (.int x2 :: st) im rm = ev 32 2 [.ref l1, .int x2] st (im) (rm) := ev_istore_n pm_m32 d32_1 (Nat.le_of_ble_eq_true rfl) rfl rfl
theorem d32_2 : decode prog_8_method_9_code 2 = .ok (.iload_n 1, 1) := by decide +kernel
theorem s32_2 {v0 : Value} {l1 : Int32} {st : List Value} {im : IM} {rm : RM}  : ev 32 2 [v0, .int l1] st im rm = ev 32 3 [v0, .int l1] (.int l1 :: st) (im) (rm) := ev_iload_n pm_m32 d32_2 rfl rfl
theorem d32_3 : decode prog_8_method_9_code 3 = .ok (.bipush 8, 2) := by decide +kernel
theorem s32_3 {v0 v1 : Value}  {st : List Value} {im : IM} {rm : RM}  : ev 32 3 [v0, v1] st im rm = ev 32 5 [v0, v1] (.int (nI 8) :: st) (im) (rm) := ev_bipush pm_m32 d32_3 rfl rfl
theorem d32_5 : decode prog_8_method_9_code 5 = .ok (.if_icmp .ge 26, 3) := by decide +kernel
theorem s32_5 {v0 v1 : Value} {x : Int32} {y : Int32} {st : List Value} {im : IM} {rm : RM} : ev 32 5 [v0, v1] (.int y :: .int x :: st) im rm = if y ≤ x then ev 32 31 [pm_u, pm_u] st im rm else ev 32 8 [v0, v1] st im rm := ev_icmp_ge pm_m32 d32_5 rfl rfl rfl
theorem d32_8 : decode prog_8_method_9_code 8 = .ok (.aload_n 0, 1) := by decide +kernel
theorem s32_8 {v1 : Value} {l1 : Nat} {st : List Value} {im : IM} {rm : RM}  : ev 32 8 [.ref l1, v1] st im rm = ev 32 9 [.ref l1, v1] (.ref l1 :: st) (im) (rm) := ev_aload_n pm_m32 d32_8 rfl rfl
theorem d32_9 : decode prog_8_method_9_code 9 = .ok (.iload_n 1, 1) := by decide +kernel
theorem s32_9 {v0 : Value} {l1 : Int32} {st : List Value} {im : IM} {rm : RM}  : ev 32 9 [v0, .int l1] st im rm = ev 32 10 [v0, .int l1] (.int l1 :: st) (im) (rm) := ev_iload_n pm_m32 d32_9 rfl rfl
theorem d32_10 : decode prog_8_method_9_code 10 = .ok (.invokestatic 102, 3) := by decide +kernel
theorem s32_10 {v0 v1 : Value} {p1 : Int32} {r2 : Nat} {im : IM} {rm : RM}  : ev 32 10 [v0, v1] [.int p1, .ref r2] im rm = (ev 33 0 [.int p1] [] im rm).bind (fun r => ev 32 13 [v0, v1] (r.1.toList ++ [.ref r2]) r.2.1 r.2.2) := ev_callS pm_m32 d32_10 (by decide) l6_102 rfl pm_m33 rfl ⟨rfl, rfl⟩ rfl rfl
theorem d32_13 : decode prog_8_method_9_code 13 = .ok (.invokevirtual 106, 3) := by decide +kernel
theorem s32_13 {v0 v1 : Value} {a : Nat} {p1 : Nat} {im : IM} {rm : RM} (hk : kd a = 16) : ev 32 13 [v0, v1] [.ref p1, .ref a] im rm = (ev 37 0 [.ref a, .ref p1, pm_u] [] im rm).bind (fun r => ev 32 16 [v0, v1] (r.1.toList ++ []) r.2.1 r.2.2) := ev_callV pm_m32 d32_13 l6_106 rfl pm_m37 (by decide) hk rfl ⟨rfl, rfl⟩ rfl rfl
theorem d32_16 : decode prog_8_method_9_code 16 = .ok (.ifCond .eq 9, 3) := by decide +kernel
theorem s32_16 {v0 v1 : Value} {x : Int32} {st : List Value} {im : IM} {rm : RM} : ev 32 16 [v0, v1] (.int x :: st) im rm = if x = nI 0 then ev 32 25 [v0, v1] st im rm else ev 32 19 [v0, v1] st im rm := ev_if_eq (y := 0) pm_m32 d32_16 rfl rfl rfl
theorem d32_19 : decode prog_8_method_9_code 19 = .ok (.aload_n 0, 1) := by decide +kernel
theorem s32_19 {v1 : Value} {l1 : Nat} {st : List Value} {im : IM} {rm : RM}  : ev 32 19 [.ref l1, v1] st im rm = ev 32 20 [.ref l1, v1] (.ref l1 :: st) (im) (rm) := ev_aload_n pm_m32 d32_19 rfl rfl
theorem d32_20 : decode prog_8_method_9_code 20 = .ok (.invokevirtual 109, 3) := by decide +kernel
theorem s32_20 {v0 v1 : Value} {a : Nat} {im : IM} {rm : RM} (hk : kd a = 16) : ev 32 20 [v0, v1] [.ref a] im rm = (ev 35 0 [.ref a] [] im rm).bind (fun r => ev 32 23 [v0, v1] (r.1.toList ++ []) r.2.1 r.2.2) := ev_callV pm_m32 d32_20 l6_109 rfl pm_m35 (by decide) hk rfl ⟨rfl, rfl⟩ rfl rfl
theorem d32_23 : decode prog_8_method_9_code 23 = .ok (.iload_n 1, 1) := by decide +kernel
theorem s32_23 {v0 : Value} {l1 : Int32} {st : List Value} {im : IM} {rm : RM}  : ev 32 23 [v0, .int l1] st im rm = ev 32 24 [v0, .int l1] (.int l1 :: st) (im) (rm) := ev_iload_n pm_m32 d32_23 rfl rfl
theorem d32_24 : decode prog_8_method_9_code 24 = .ok (.ireturn, 1) := by decide +kernel
theorem s32_24 {v0 v1 : Value} {x : Int32} {im : IM} {rm : RM} : ev 32 24 [v0, v1] [.int x] im rm = some (some (.int x), im, rm) := ev_ireturn pm_m32 d32_24 rfl
theorem d32_25 : decode prog_8_method_9_code 25 = .ok (.iinc 1 1, 3) := by decide +kernel
theorem s32_25 {l1 : Nat} {l2 : Int32} {st : List Value} {im : IM} {rm : RM}  : ev 32 25 [.ref l1, .int l2] st im rm = ev 32 28 [.ref l1, .int (l2 + nI 1)] st (im) (rm) := ev_iinc pm_m32 d32_25 rfl rfl rfl rfl
theorem d32_28 : decode prog_8_method_9_code 28 = .ok (.goto (-26), 3) := by decide +kernel
theorem s32_28 {v0 v1 : Value}  {st : List Value} {im : IM} {rm : RM}  : ev 32 28 [v0, v1] st im rm = ev 32 2 [v0, v1] st (im) (rm) := ev_goto pm_m32 d32_28 rfl rfl
theorem d32_31 : decode prog_8_method_9_code 31 = .ok (.iconst (-1), 1) := by decide +kernel
theorem s32_31 {v0 v1 : Value}  {st : List Value} {im : IM} {rm : RM}  : ev 32 31 [v0, v1] st im rm = ev 32 32 [v0, v1] (.int ((-1 : Int32)) :: st) (im) (rm) := ev_iconst pm_m32 d32_31 rfl rfl
theorem d32_32 : decode prog_8_method_9_code 32 = .ok (.ireturn, 1) := by decide +kernel
theorem s32_32 {v0 v1 : Value} {x : Int32} {im : IM} {rm : RM} : ev 32 32 [v0, v1] [.int x] im rm = some (some (.int x), im, rm) := ev_ireturn pm_m32 d32_32 rfl
theorem d33_0 : decode prog_8_method_10_code 0 = .ok (.iload_n 0, 1) := by decide +kernel
theorem s33_0 {l1 : Int32} {st : List Value} {im : IM} {rm : RM}  : ev 33 0 [.int l1] st im rm = ev 33 1 [.int l1] (.int l1 :: st) (im) (rm) := ev_iload_n pm_m33 d33_0 rfl rfl
theorem d33_1 : decode prog_8_method_10_code 1 = .ok (.tableswitch 64 0 6 #[43, 46, 49, 52, 55, 58, 61], 43) := by decide +kernel
theorem s33_1_0 {v0 : Value}  {st : List Value} {im : IM} {rm : RM}  : ev 33 1 [v0] (.int (nI 0) :: st) im rm = ev 33 44 [pm_u] st (im) (rm) := ev_swI pm_m33 d33_1 (by decide) rfl rfl rfl
theorem s33_1_1 {v0 : Value}  {st : List Value} {im : IM} {rm : RM}  : ev 33 1 [v0] (.int (nI 1) :: st) im rm = ev 33 47 [pm_u] st (im) (rm) := ev_swI pm_m33 d33_1 (by decide) rfl rfl rfl
theorem s33_1_2 {v0 : Value}  {st : List Value} {im : IM} {rm : RM}  : ev 33 1 [v0] (.int (nI 2) :: st) im rm = ev 33 50 [pm_u] st (im) (rm) := ev_swI pm_m33 d33_1 (by decide) rfl rfl rfl
theorem s33_1_3 {v0 : Value}  {st : List Value} {im : IM} {rm : RM}  : ev 33 1 [v0] (.int (nI 3) :: st) im rm = ev 33 53 [pm_u] st (im) (rm) := ev_swI pm_m33 d33_1 (by decide) rfl rfl rfl
theorem s33_1_4 {v0 : Value}  {st : List Value} {im : IM} {rm : RM}  : ev 33 1 [v0] (.int (nI 4) :: st) im rm = ev 33 56 [pm_u] st (im) (rm) := ev_swI pm_m33 d33_1 (by decide) rfl rfl rfl
theorem s33_1_5 {v0 : Value}  {st : List Value} {im : IM} {rm : RM}  : ev 33 1 [v0] (.int (nI 5) :: st) im rm = ev 33 59 [pm_u] st (im) (rm) := ev_swI pm_m33 d33_1 (by decide) rfl rfl rfl
theorem s33_1_6 {v0 : Value}  {st : List Value} {im : IM} {rm : RM}  : ev 33 1 [v0] (.int (nI 6) :: st) im rm = ev 33 62 [pm_u] st (im) (rm) := ev_swI pm_m33 d33_1 (by decide) rfl rfl rfl
theorem s33_1_o {v0 : Value} {x : Int32} {st : List Value} {im : IM} {rm : RM} (h1 : x.toInt < 0 ∨ 6 < x.toInt) : ev 33 1 [v0] (.int x :: st) im rm = ev 33 65 [pm_u] st (im) (rm) := ev_swO pm_m33 d33_1 h1 rfl rfl
theorem d33_44 : decode prog_8_method_10_code 44 = .ok (.ldc 112, 2) := by decide +kernel
theorem s33_44 {v0 : Value}  {st : List Value} {im : IM} {rm : RM}  : ev 33 44 [v0] st im rm = ev 33 46 [v0] (.ref (1000000 + 10) :: st) (im) (rm) := ev_ldcS pm_m33 d33_44 (by decide +kernel) (by decide +kernel) rfl
theorem d33_46 : decode prog_8_method_10_code 46 = .ok (.areturn, 1) := by decide +kernel
theorem s33_46 {v0 : Value} {x : Nat} {im : IM} {rm : RM} : ev 33 46 [v0] [.ref x] im rm = some (some (.ref x), im, rm) := ev_areturn pm_m33 d33_46 rfl
theorem d33_47 : decode prog_8_method_10_code 47 = .ok (.ldc 114, 2) := by decide +kernel
theorem s33_47 {v0 : Value}  {st : List Value} {im : IM} {rm : RM}  : ev 33 47 [v0] st im rm = ev 33 49 [v0] (.ref (1000000 + 11) :: st) (im) (rm) := ev_ldcS pm_m33 d33_47 (by decide +kernel) (by decide +kernel) rfl
theorem d33_49 : decode prog_8_method_10_code 49 = .ok (.areturn, 1) := by decide +kernel
theorem s33_49 {v0 : Value} {x : Nat} {im : IM} {rm : RM} : ev 33 49 [v0] [.ref x] im rm = some (some (.ref x), im, rm) := ev_areturn pm_m33 d33_49 rfl
theorem d33_50 : decode prog_8_method_10_code 50 = .ok (.ldc 116, 2) := by decide +kernel
theorem s33_50 {v0 : Value}  {st : List Value} {im : IM} {rm : RM}  : ev 33 50 [v0] st im rm = ev 33 52 [v0] (.ref (1000000 + 12) :: st) (im) (rm) := ev_ldcS pm_m33 d33_50 (by decide +kernel) (by decide +kernel) rfl
theorem d33_52 : decode prog_8_method_10_code 52 = .ok (.areturn, 1) := by decide +kernel
theorem s33_52 {v0 : Value} {x : Nat} {im : IM} {rm : RM} : ev 33 52 [v0] [.ref x] im rm = some (some (.ref x), im, rm) := ev_areturn pm_m33 d33_52 rfl
theorem d33_53 : decode prog_8_method_10_code 53 = .ok (.ldc 118, 2) := by decide +kernel
theorem s33_53 {v0 : Value}  {st : List Value} {im : IM} {rm : RM}  : ev 33 53 [v0] st im rm = ev 33 55 [v0] (.ref (1000000 + 13) :: st) (im) (rm) := ev_ldcS pm_m33 d33_53 (by decide +kernel) (by decide +kernel) rfl
theorem d33_55 : decode prog_8_method_10_code 55 = .ok (.areturn, 1) := by decide +kernel
theorem s33_55 {v0 : Value} {x : Nat} {im : IM} {rm : RM} : ev 33 55 [v0] [.ref x] im rm = some (some (.ref x), im, rm) := ev_areturn pm_m33 d33_55 rfl
theorem d33_56 : decode prog_8_method_10_code 56 = .ok (.ldc 120, 2) := by decide +kernel
theorem s33_56 {v0 : Value}  {st : List Value} {im : IM} {rm : RM}  : ev 33 56 [v0] st im rm = ev 33 58 [v0] (.ref (1000000 + 14) :: st) (im) (rm) := ev_ldcS pm_m33 d33_56 (by decide +kernel) (by decide +kernel) rfl
theorem d33_58 : decode prog_8_method_10_code 58 = .ok (.areturn, 1) := by decide +kernel
theorem s33_58 {v0 : Value} {x : Nat} {im : IM} {rm : RM} : ev 33 58 [v0] [.ref x] im rm = some (some (.ref x), im, rm) := ev_areturn pm_m33 d33_58 rfl
theorem d33_59 : decode prog_8_method_10_code 59 = .ok (.ldc 122, 2) := by decide +kernel
theorem s33_59 {v0 : Value}  {st : List Value} {im : IM} {rm : RM}  : ev 33 59 [v0] st im rm = ev 33 61 [v0] (.ref (1000000 + 15) :: st) (im) (rm) := ev_ldcS pm_m33 d33_59 (by decide +kernel) (by decide +kernel) rfl
theorem d33_61 : decode prog_8_method_10_code 61 = .ok (.areturn, 1) := by decide +kernel
theorem s33_61 {v0 : Value} {x : Nat} {im : IM} {rm : RM} : ev 33 61 [v0] [.ref x] im rm = some (some (.ref x), im, rm) := ev_areturn pm_m33 d33_61 rfl
theorem d33_62 : decode prog_8_method_10_code 62 = .ok (.ldc 124, 2) := by decide +kernel
theorem s33_62 {v0 : Value}  {st : List Value} {im : IM} {rm : RM}  : ev 33 62 [v0] st im rm = ev 33 64 [v0] (.ref (1000000 + 16) :: st) (im) (rm) := ev_ldcS pm_m33 d33_62 (by decide +kernel) (by decide +kernel) rfl
theorem d33_64 : decode prog_8_method_10_code 64 = .ok (.areturn, 1) := by decide +kernel
theorem s33_64 {v0 : Value} {x : Nat} {im : IM} {rm : RM} : ev 33 64 [v0] [.ref x] im rm = some (some (.ref x), im, rm) := ev_areturn pm_m33 d33_64 rfl
theorem d33_65 : decode prog_8_method_10_code 65 = .ok (.ldc 126, 2) := by decide +kernel
theorem s33_65 {v0 : Value}  {st : List Value} {im : IM} {rm : RM}  : ev 33 65 [v0] st im rm = ev 33 67 [v0] (.ref (1000000 + 17) :: st) (im) (rm) := ev_ldcS pm_m33 d33_65 (by decide +kernel) (by decide +kernel) rfl
theorem d33_67 : decode prog_8_method_10_code 67 = .ok (.areturn, 1) := by decide +kernel
theorem s33_67 {v0 : Value} {x : Nat} {im : IM} {rm : RM} : ev 33 67 [v0] [.ref x] im rm = some (some (.ref x), im, rm) := ev_areturn pm_m33 d33_67 rfl
theorem d34_0 : decode prog_8_method_11_code 0 = .ok (.aload_n 0, 1) := by decide +kernel
theorem s34_0 {l1 : Nat} {st : List Value} {im : IM} {rm : RM}  : ev 34 0 [.ref l1] st im rm = ev 34 1 [.ref l1] (.ref l1 :: st) (im) (rm) := ev_aload_n pm_m34 d34_0 rfl rfl
theorem d34_1 : decode prog_8_method_11_code 1 = .ok (.iconst 0, 1) := by decide +kernel
theorem s34_1 {v0 : Value}  {st : List Value} {im : IM} {rm : RM}  : ev 34 1 [v0] st im rm = ev 34 2 [v0] (.int (nI 0) :: st) (im) (rm) := ev_iconst pm_m34 d34_1 rfl rfl
theorem d34_2 : decode prog_8_method_11_code 2 = .ok (.putfield 22, 3) := by decide +kernel
theorem s34_2 {v0 : Value} {a : Nat} {v : Int32} {st : List Value} {im : IM} {rm : RM} (hk : kd a = 16) : ev 34 2 [v0] (.int v :: .ref a :: st) im rm = ev 34 5 [v0] st (pm_w2 im a 3 v) (rm) := ev_putI pm_m34 d34_2 f6_22 rfl rfl hk rfl
theorem d34_5 : decode prog_8_method_11_code 5 = .ok (.aload_n 0, 1) := by decide +kernel
theorem s34_5 {l1 : Nat} {st : List Value} {im : IM} {rm : RM}  : ev 34 5 [.ref l1] st im rm = ev 34 6 [.ref l1] (.ref l1 :: st) (im) (rm) := ev_aload_n pm_m34 d34_5 rfl rfl
theorem d34_6 : decode prog_8_method_11_code 6 = .ok (.invokevirtual 109, 3) := by decide +kernel
theorem s34_6 {v0 : Value} {a : Nat} {im : IM} {rm : RM} (hk : kd a = 16) : ev 34 6 [v0] [.ref a] im rm = (ev 35 0 [.ref a] [] im rm).bind (fun r => ev 34 9 [v0] (r.1.toList ++ []) r.2.1 r.2.2) := ev_callV pm_m34 d34_6 l6_109 rfl pm_m35 (by decide) hk rfl ⟨rfl, rfl⟩ rfl rfl
theorem d34_9 : decode prog_8_method_11_code 9 = .ok (.return_, 1) := by decide +kernel
theorem s34_9 {v0 : Value} {im : IM} {rm : RM} : ev 34 9 [v0] [] im rm = some (none, im, rm) := ev_return pm_m34 d34_9 rfl
theorem d35_0 : decode prog_8_method_12_code 0 = .ok (.aload_n 0, 1) := by decide +kernel
theorem s35_0 {l1 : Nat} {st : List Value} {im : IM} {rm : RM}  : ev 35 0 [.ref l1] st im rm = ev 35 1 [.ref l1] (.ref l1 :: st) (im) (rm) := ev_aload_n pm_m35 d35_0 rfl rfl
theorem d35_1 : decode prog_8_method_12_code 1 = .ok (.aload_n 0, 1) := by decide +kernel
theorem s35_1 {l1 : Nat} {st : List Value} {im : IM} {rm : RM}  : ev 35 1 [.ref l1] st im rm = ev 35 2 [.ref l1] (.ref l1 :: st) (im) (rm) := ev_aload_n pm_m35 d35_1 rfl rfl
theorem d35_2 : decode prog_8_method_12_code 2 = .ok (.getfield 22, 3) := by decide +kernel
theorem s35_2 {v0 : Value} {a : Nat} {st : List Value} {im : IM} {rm : RM} (hk : kd a = 16) : ev 35 2 [v0] (.ref a :: st) im rm = ev 35 5 [v0] (.int (im a 3) :: st) (im) (rm) := ev_getI pm_m35 d35_2 f6_22 rfl hk rfl
theorem d35_5 : decode prog_8_method_12_code 5 = .ok (.putfield 19, 3) := by decide +kernel
theorem s35_5 {v0 : Value} {a : Nat} {v : Int32} {st : List Value} {im : IM} {rm : RM} (hk : kd a = 16) : ev 35 5 [v0] (.int v :: .ref a :: st) im rm = ev 35 8 [v0] st (pm_w2 im a 2 v) (rm) := ev_putI pm_m35 d35_5 f6_19 rfl rfl hk rfl
theorem d35_8 : decode prog_8_method_12_code 8 = .ok (.aload_n 0, 1) := by decide +kernel
theorem s35_8 {l1 : Nat} {st : List Value} {im : IM} {rm : RM}  : ev 35 8 [.ref l1] st im rm = ev 35 9 [.ref l1] (.ref l1 :: st) (im) (rm) := ev_aload_n pm_m35 d35_8 rfl rfl
theorem d35_9 : decode prog_8_method_12_code 9 = .ok (.getfield 19, 3) := by decide +kernel
theorem s35_9 {v0 : Value} {a : Nat} {st : List Value} {im : IM} {rm : RM} (hk : kd a = 16) : ev 35 9 [v0] (.ref a :: st) im rm = ev 35 12 [v0] (.int (im a 2) :: st) (im) (rm) := ev_getI pm_m35 d35_9 f6_19 rfl hk rfl
theorem d35_12 : decode prog_8_method_12_code 12 = .ok (.aload_n 0, 1) := by decide +kernel
theorem s35_12 {l1 : Nat} {st : List Value} {im : IM} {rm : RM}  : ev 35 12 [.ref l1] st im rm = ev 35 13 [.ref l1] (.ref l1 :: st) (im) (rm) := ev_aload_n pm_m35 d35_12 rfl rfl
theorem d35_13 : decode prog_8_method_12_code 13 = .ok (.getfield 9, 3) := by decide +kernel
theorem s35_13 {v0 : Value} {a : Nat} {st : List Value} {im : IM} {rm : RM} (hk : kd a = 16) : ev 35 13 [v0] (.ref a :: st) im rm = ev 35 16 [v0] (.int (im a 0) :: st) (im) (rm) := ev_getI pm_m35 d35_13 f6_9 rfl hk rfl
theorem d35_16 : decode prog_8_method_12_code 16 = .ok (.if_icmp .ge 30, 3) := by decide +kernel
theorem s35_16 {v0 : Value} {x : Int32} {y : Int32} {st : List Value} {im : IM} {rm : RM} : ev 35 16 [v0] (.int y :: .int x :: st) im rm = if y ≤ x then ev 35 46 [v0] st im rm else ev 35 19 [v0] st im rm := ev_icmp_ge pm_m35 d35_16 rfl rfl rfl
theorem d35_19 : decode prog_8_method_12_code 19 = .ok (.aload_n 0, 1) := by decide +kernel
theorem s35_19 {l1 : Nat} {st : List Value} {im : IM} {rm : RM}  : ev 35 19 [.ref l1] st im rm = ev 35 20 [.ref l1] (.ref l1 :: st) (im) (rm) := ev_aload_n pm_m35 d35_19 rfl rfl
theorem d35_20 : decode prog_8_method_12_code 20 = .ok (.getfield 15, 3) := by decide +kernel
theorem s35_20 {v0 : Value} {a : Nat} {st : List Value} {im : IM} {rm : RM} (hk : kd a = 16) : ev 35 20 [v0] (.ref a :: st) im rm = ev 35 23 [v0] (pm_ro (rm a 1) :: st) (im) (rm) := ev_getR pm_m35 d35_20 f6_15 rfl hk rfl
theorem d35_23 : decode prog_8_method_12_code 23 = .ok (.aload_n 0, 1) := by decide +kernel
theorem s35_23 {l1 : Nat} {st : List Value} {im : IM} {rm : RM}  : ev 35 23 [.ref l1] st im rm = ev 35 24 [.ref l1] (.ref l1 :: st) (im) (rm) := ev_aload_n pm_m35 d35_23 rfl rfl
theorem d35_24 : decode prog_8_method_12_code 24 = .ok (.getfield 19, 3) := by decide +kernel
theorem s35_24 {v0 : Value} {a : Nat} {st : List Value} {im : IM} {rm : RM} (hk : kd a = 16) : ev 35 24 [v0] (.ref a :: st) im rm = ev 35 27 [v0] (.int (im a 2) :: st) (im) (rm) := ev_getI pm_m35 d35_24 f6_19 rfl hk rfl
theorem d35_27 : decode prog_8_method_12_code 27 = .ok (.iaload, 1) := by decide +kernel
theorem s35_27 {v0 : Value} {a : Nat} {i : Int32} {st : List Value} {im : IM} {rm : RM} (hk : kd a = 0) (hi : pm_in i (ln a) = true) : ev 35 27 [v0] (.int i :: .ref a :: st) im rm = ev 35 28 [v0] (.int (im a i.toNatClampNeg) :: st) (im) (rm) := ev_iald pm_m35 d35_27 hk hi rfl
theorem d35_28 : decode prog_8_method_12_code 28 = .ok (.bipush 32, 2) := by decide +kernel
theorem s35_28 {v0 : Value}  {st : List Value} {im : IM} {rm : RM}  : ev 35 28 [v0] st im rm = ev 35 30 [v0] (.int (nI 32) :: st) (im) (rm) := ev_bipush pm_m35 d35_28 rfl rfl
theorem d35_30 : decode prog_8_method_12_code 30 = .ok (.if_icmp .ne 16, 3) := by decide +kernel
theorem s35_30 {v0 : Value} {x : Int32} {y : Int32} {st : List Value} {im : IM} {rm : RM} : ev 35 30 [v0] (.int y :: .int x :: st) im rm = if x = y then ev 35 33 [v0] st im rm else ev 35 46 [v0] st im rm := ev_icmp_ne pm_m35 d35_30 rfl rfl rfl
theorem d35_33 : decode prog_8_method_12_code 33 = .ok (.aload_n 0, 1) := by decide +kernel
theorem s35_33 {l1 : Nat} {st : List Value} {im : IM} {rm : RM}  : ev 35 33 [.ref l1] st im rm = ev 35 34 [.ref l1] (.ref l1 :: st) (im) (rm) := ev_aload_n pm_m35 d35_33 rfl rfl
theorem d35_34 : decode prog_8_method_12_code 34 = .ok (.dup, 1) := by decide +kernel
theorem s35_34 {v0 : Value} {x1 : Nat} {st : List Value} {im : IM} {rm : RM}  : ev 35 34 [v0] (.ref x1 :: st) im rm = ev 35 35 [v0] (.ref x1 :: .ref x1 :: st) (im) (rm) := ev_dupA pm_m35 d35_34 rfl
theorem d35_35 : decode prog_8_method_12_code 35 = .ok (.getfield 19, 3) := by decide +kernel
theorem s35_35 {v0 : Value} {a : Nat} {st : List Value} {im : IM} {rm : RM} (hk : kd a = 16) : ev 35 35 [v0] (.ref a :: st) im rm = ev 35 38 [v0] (.int (im a 2) :: st) (im) (rm) := ev_getI pm_m35 d35_35 f6_19 rfl hk rfl
theorem d35_38 : decode prog_8_method_12_code 38 = .ok (.iconst 1, 1) := by decide +kernel
theorem s35_38 {v0 : Value}  {st : List Value} {im : IM} {rm : RM}  : ev 35 38 [v0] st im rm = ev 35 39 [v0] (.int (nI 1) :: st) (im) (rm) := ev_iconst pm_m35 d35_38 rfl rfl
theorem d35_39 : decode prog_8_method_12_code 39 = .ok (.iadd, 1) := by decide +kernel
theorem s35_39 {v0 : Value} {x : Int32} {y : Int32} {st : List Value} {im : IM} {rm : RM}  : ev 35 39 [v0] (.int y :: .int x :: st) im rm = ev 35 40 [v0] (.int (x + y) :: st) (im) (rm) := ev_iadd pm_m35 d35_39 rfl
theorem d35_40 : decode prog_8_method_12_code 40 = .ok (.putfield 19, 3) := by decide +kernel
theorem s35_40 {v0 : Value} {a : Nat} {v : Int32} {st : List Value} {im : IM} {rm : RM} (hk : kd a = 16) : ev 35 40 [v0] (.int v :: .ref a :: st) im rm = ev 35 43 [v0] st (pm_w2 im a 2 v) (rm) := ev_putI pm_m35 d35_40 f6_19 rfl rfl hk rfl
theorem d35_43 : decode prog_8_method_12_code 43 = .ok (.goto (-35), 3) := by decide +kernel
theorem s35_43 {v0 : Value}  {st : List Value} {im : IM} {rm : RM}  : ev 35 43 [v0] st im rm = ev 35 8 [v0] st (im) (rm) := ev_goto pm_m35 d35_43 rfl rfl
theorem d35_46 : decode prog_8_method_12_code 46 = .ok (.aload_n 0, 1) := by decide +kernel
theorem s35_46 {l1 : Nat} {st : List Value} {im : IM} {rm : RM}  : ev 35 46 [.ref l1] st im rm = ev 35 47 [.ref l1] (.ref l1 :: st) (im) (rm) := ev_aload_n pm_m35 d35_46 rfl rfl
theorem d35_47 : decode prog_8_method_12_code 47 = .ok (.aload_n 0, 1) := by decide +kernel
theorem s35_47 {l1 : Nat} {st : List Value} {im : IM} {rm : RM}  : ev 35 47 [.ref l1] st im rm = ev 35 48 [.ref l1] (.ref l1 :: st) (im) (rm) := ev_aload_n pm_m35 d35_47 rfl rfl
theorem d35_48 : decode prog_8_method_12_code 48 = .ok (.getfield 19, 3) := by decide +kernel
theorem s35_48 {v0 : Value} {a : Nat} {st : List Value} {im : IM} {rm : RM} (hk : kd a = 16) : ev 35 48 [v0] (.ref a :: st) im rm = ev 35 51 [v0] (.int (im a 2) :: st) (im) (rm) := ev_getI pm_m35 d35_48 f6_19 rfl hk rfl
theorem d35_51 : decode prog_8_method_12_code 51 = .ok (.iconst 1, 1) := by decide +kernel
theorem s35_51 {v0 : Value}  {st : List Value} {im : IM} {rm : RM}  : ev 35 51 [v0] st im rm = ev 35 52 [v0] (.int (nI 1) :: st) (im) (rm) := ev_iconst pm_m35 d35_51 rfl rfl
theorem d35_52 : decode prog_8_method_12_code 52 = .ok (.iadd, 1) := by decide +kernel
theorem s35_52 {v0 : Value} {x : Int32} {y : Int32} {st : List Value} {im : IM} {rm : RM}  : ev 35 52 [v0] (.int y :: .int x :: st) im rm = ev 35 53 [v0] (.int (x + y) :: st) (im) (rm) := ev_iadd pm_m35 d35_52 rfl
theorem d35_53 : decode prog_8_method_12_code 53 = .ok (.aload_n 0, 1) := by decide +kernel
theorem s35_53 {l1 : Nat} {st : List Value} {im : IM} {rm : RM}  : ev 35 53 [.ref l1] st im rm = ev 35 54 [.ref l1] (.ref l1 :: st) (im) (rm) := ev_aload_n pm_m35 d35_53 rfl rfl
theorem d35_54 : decode prog_8_method_12_code 54 = .ok (.getfield 9, 3) := by decide +kernel
theorem s35_54 {v0 : Value} {a : Nat} {st : List Value} {im : IM} {rm : RM} (hk : kd a = 16) : ev 35 54 [v0] (.ref a :: st) im rm = ev 35 57 [v0] (.int (im a 0) :: st) (im) (rm) := ev_getI pm_m35 d35_54 f6_9 rfl hk rfl
theorem d35_57 : decode prog_8_method_12_code 57 = .ok (.invokestatic 128, 3) := by decide +kernel
theorem s35_57 {v0 : Value} {p1 : Int32} {p2 : Int32} {r3 : Nat} {im : IM} {rm : RM}  : ev 35 57 [v0] [.int p2, .int p1, .ref r3] im rm = (ev 176 0 [.int p1, .int p2] [] im rm).bind (fun r => ev 35 60 [v0] (r.1.toList ++ [.ref r3]) r.2.1 r.2.2) := ev_callS pm_m35 d35_57 (by decide) l6_128 rfl pm_m176 rfl ⟨rfl, rfl⟩ rfl rfl
theorem d35_60 : decode prog_8_method_12_code 60 = .ok (.putfield 22, 3) := by decide +kernel
theorem s35_60 {v0 : Value} {a : Nat} {v : Int32} {st : List Value} {im : IM} {rm : RM} (hk : kd a = 16) : ev 35 60 [v0] (.int v :: .ref a :: st) im rm = ev 35 63 [v0] st (pm_w2 im a 3 v) (rm) := ev_putI pm_m35 d35_60 f6_22 rfl rfl hk rfl
theorem d35_63 : decode prog_8_method_12_code 63 = .ok (.aload_n 0, 1) := by decide +kernel
theorem s35_63 {l1 : Nat} {st : List Value} {im : IM} {rm : RM}  : ev 35 63 [.ref l1] st im rm = ev 35 64 [.ref l1] (.ref l1 :: st) (im) (rm) := ev_aload_n pm_m35 d35_63 rfl rfl
theorem d35_64 : decode prog_8_method_12_code 64 = .ok (.getfield 22, 3) := by decide +kernel
theorem s35_64 {v0 : Value} {a : Nat} {st : List Value} {im : IM} {rm : RM} (hk : kd a = 16) : ev 35 64 [v0] (.ref a :: st) im rm = ev 35 67 [v0] (.int (im a 3) :: st) (im) (rm) := ev_getI pm_m35 d35_64 f6_22 rfl hk rfl
theorem d35_67 : decode prog_8_method_12_code 67 = .ok (.aload_n 0, 1) := by decide +kernel
theorem s35_67 {l1 : Nat} {st : List Value} {im : IM} {rm : RM}  : ev 35 67 [.ref l1] st im rm = ev 35 68 [.ref l1] (.ref l1 :: st) (im) (rm) := ev_aload_n pm_m35 d35_67 rfl rfl
theorem d35_68 : decode prog_8_method_12_code 68 = .ok (.getfield 9, 3) := by decide +kernel
theorem s35_68 {v0 : Value} {a : Nat} {st : List Value} {im : IM} {rm : RM} (hk : kd a = 16) : ev 35 68 [v0] (.ref a :: st) im rm = ev 35 71 [v0] (.int (im a 0) :: st) (im) (rm) := ev_getI pm_m35 d35_68 f6_9 rfl hk rfl
theorem d35_71 : decode prog_8_method_12_code 71 = .ok (.if_icmp .ge 40, 3) := by decide +kernel
theorem s35_71 {v0 : Value} {x : Int32} {y : Int32} {st : List Value} {im : IM} {rm : RM} : ev 35 71 [v0] (.int y :: .int x :: st) im rm = if y ≤ x then ev 35 111 [pm_u] st im rm else ev 35 74 [v0] st im rm := ev_icmp_ge pm_m35 d35_71 rfl rfl rfl
theorem d35_74 : decode prog_8_method_12_code 74 = .ok (.aload_n 0, 1) := by decide +kernel
theorem s35_74 {l1 : Nat} {st : List Value} {im : IM} {rm : RM}  : ev 35 74 [.ref l1] st im rm = ev 35 75 [.ref l1] (.ref l1 :: st) (im) (rm) := ev_aload_n pm_m35 d35_74 rfl rfl
theorem d35_75 : decode prog_8_method_12_code 75 = .ok (.getfield 15, 3) := by decide +kernel
theorem s35_75 {v0 : Value} {a : Nat} {st : List Value} {im : IM} {rm : RM} (hk : kd a = 16) : ev 35 75 [v0] (.ref a :: st) im rm = ev 35 78 [v0] (pm_ro (rm a 1) :: st) (im) (rm) := ev_getR pm_m35 d35_75 f6_15 rfl hk rfl
theorem d35_78 : decode prog_8_method_12_code 78 = .ok (.aload_n 0, 1) := by decide +kernel
theorem s35_78 {l1 : Nat} {st : List Value} {im : IM} {rm : RM}  : ev 35 78 [.ref l1] st im rm = ev 35 79 [.ref l1] (.ref l1 :: st) (im) (rm) := ev_aload_n pm_m35 d35_78 rfl rfl
theorem d35_79 : decode prog_8_method_12_code 79 = .ok (.getfield 19, 3) := by decide +kernel
theorem s35_79 {v0 : Value} {a : Nat} {st : List Value} {im : IM} {rm : RM} (hk : kd a = 16) : ev 35 79 [v0] (.ref a :: st) im rm = ev 35 82 [v0] (.int (im a 2) :: st) (im) (rm) := ev_getI pm_m35 d35_79 f6_19 rfl hk rfl
theorem d35_82 : decode prog_8_method_12_code 82 = .ok (.iaload, 1) := by decide +kernel
theorem s35_82 {v0 : Value} {a : Nat} {i : Int32} {st : List Value} {im : IM} {rm : RM} (hk : kd a = 0) (hi : pm_in i (ln a) = true) : ev 35 82 [v0] (.int i :: .ref a :: st) im rm = ev 35 83 [v0] (.int (im a i.toNatClampNeg) :: st) (im) (rm) := ev_iald pm_m35 d35_82 hk hi rfl
theorem d35_83 : decode prog_8_method_12_code 83 = .ok (.aload_n 0, 1) := by decide +kernel
theorem s35_83 {l1 : Nat} {st : List Value} {im : IM} {rm : RM}  : ev 35 83 [.ref l1] st im rm = ev 35 84 [.ref l1] (.ref l1 :: st) (im) (rm) := ev_aload_n pm_m35 d35_83 rfl rfl
theorem d35_84 : decode prog_8_method_12_code 84 = .ok (.getfield 15, 3) := by decide +kernel
theorem s35_84 {v0 : Value} {a : Nat} {st : List Value} {im : IM} {rm : RM} (hk : kd a = 16) : ev 35 84 [v0] (.ref a :: st) im rm = ev 35 87 [v0] (pm_ro (rm a 1) :: st) (im) (rm) := ev_getR pm_m35 d35_84 f6_15 rfl hk rfl
theorem d35_87 : decode prog_8_method_12_code 87 = .ok (.aload_n 0, 1) := by decide +kernel
theorem s35_87 {l1 : Nat} {st : List Value} {im : IM} {rm : RM}  : ev 35 87 [.ref l1] st im rm = ev 35 88 [.ref l1] (.ref l1 :: st) (im) (rm) := ev_aload_n pm_m35 d35_87 rfl rfl
theorem d35_88 : decode prog_8_method_12_code 88 = .ok (.getfield 22, 3) := by decide +kernel
theorem s35_88 {v0 : Value} {a : Nat} {st : List Value} {im : IM} {rm : RM} (hk : kd a = 16) : ev 35 88 [v0] (.ref a :: st) im rm = ev 35 91 [v0] (.int (im a 3) :: st) (im) (rm) := ev_getI pm_m35 d35_88 f6_22 rfl hk rfl
theorem d35_91 : decode prog_8_method_12_code 91 = .ok (.iaload, 1) := by decide +kernel
theorem s35_91 {v0 : Value} {a : Nat} {i : Int32} {st : List Value} {im : IM} {rm : RM} (hk : kd a = 0) (hi : pm_in i (ln a) = true) : ev 35 91 [v0] (.int i :: .ref a :: st) im rm = ev 35 92 [v0] (.int (im a i.toNatClampNeg) :: st) (im) (rm) := ev_iald pm_m35 d35_91 hk hi rfl
theorem d35_92 : decode prog_8_method_12_code 92 = .ok (.invokestatic 134, 3) := by decide +kernel
theorem s35_92 {v0 : Value} {p1 : Int32} {p2 : Int32} {im : IM} {rm : RM}  : ev 35 92 [v0] [.int p2, .int p1] im rm = (ev 36 0 [.int p1, .int p2, pm_u, pm_u] [] im rm).bind (fun r => ev 35 95 [v0] (r.1.toList ++ []) r.2.1 r.2.2) := ev_callS pm_m35 d35_92 (by decide) l6_134 rfl pm_m36 rfl ⟨rfl, rfl⟩ rfl rfl
theorem d35_95 : decode prog_8_method_12_code 95 = .ok (.ifCond .eq 16, 3) := by decide +kernel
theorem s35_95 {v0 : Value} {x : Int32} {st : List Value} {im : IM} {rm : RM} : ev 35 95 [v0] (.int x :: st) im rm = if x = nI 0 then ev 35 111 [pm_u] st im rm else ev 35 98 [v0] st im rm := ev_if_eq (y := 0) pm_m35 d35_95 rfl rfl rfl
theorem d35_98 : decode prog_8_method_12_code 98 = .ok (.aload_n 0, 1) := by decide +kernel
theorem s35_98 {l1 : Nat} {st : List Value} {im : IM} {rm : RM}  : ev 35 98 [.ref l1] st im rm = ev 35 99 [.ref l1] (.ref l1 :: st) (im) (rm) := ev_aload_n pm_m35 d35_98 rfl rfl
theorem d35_99 : decode prog_8_method_12_code 99 = .ok (.dup, 1) := by decide +kernel
theorem s35_99 {v0 : Value} {x1 : Nat} {st : List Value} {im : IM} {rm : RM}  : ev 35 99 [v0] (.ref x1 :: st) im rm = ev 35 100 [v0] (.ref x1 :: .ref x1 :: st) (im) (rm) := ev_dupA pm_m35 d35_99 rfl
theorem d35_100 : decode prog_8_method_12_code 100 = .ok (.getfield 22, 3) := by decide +kernel
theorem s35_100 {v0 : Value} {a : Nat} {st : List Value} {im : IM} {rm : RM} (hk : kd a = 16) : ev 35 100 [v0] (.ref a :: st) im rm = ev 35 103 [v0] (.int (im a 3) :: st) (im) (rm) := ev_getI pm_m35 d35_100 f6_22 rfl hk rfl
theorem d35_103 : decode prog_8_method_12_code 103 = .ok (.iconst 1, 1) := by decide +kernel
theorem s35_103 {v0 : Value}  {st : List Value} {im : IM} {rm : RM}  : ev 35 103 [v0] st im rm = ev 35 104 [v0] (.int (nI 1) :: st) (im) (rm) := ev_iconst pm_m35 d35_103 rfl rfl
theorem d35_104 : decode prog_8_method_12_code 104 = .ok (.iadd, 1) := by decide +kernel
theorem s35_104 {v0 : Value} {x : Int32} {y : Int32} {st : List Value} {im : IM} {rm : RM}  : ev 35 104 [v0] (.int y :: .int x :: st) im rm = ev 35 105 [v0] (.int (x + y) :: st) (im) (rm) := ev_iadd pm_m35 d35_104 rfl
theorem d35_105 : decode prog_8_method_12_code 105 = .ok (.putfield 22, 3) := by decide +kernel
theorem s35_105 {v0 : Value} {a : Nat} {v : Int32} {st : List Value} {im : IM} {rm : RM} (hk : kd a = 16) : ev 35 105 [v0] (.int v :: .ref a :: st) im rm = ev 35 108 [v0] st (pm_w2 im a 3 v) (rm) := ev_putI pm_m35 d35_105 f6_22 rfl rfl hk rfl
theorem d35_108 : decode prog_8_method_12_code 108 = .ok (.goto (-45), 3) := by decide +kernel
theorem s35_108 {v0 : Value}  {st : List Value} {im : IM} {rm : RM}  : ev 35 108 [v0] st im rm = ev 35 63 [v0] st (im) (rm) := ev_goto pm_m35 d35_108 rfl rfl
theorem d35_111 : decode prog_8_method_12_code 111 = .ok (.return_, 1) := by decide +kernel
theorem s35_111 {v0 : Value} {im : IM} {rm : RM} : ev 35 111 [v0] [] im rm = some (none, im, rm) := ev_return pm_m35 d35_111 rfl
theorem d36_0 : decode prog_8_method_13_code 0 = .ok (.iload_n 0, 1) := by decide +kernel
theorem s36_0 {v1 v2 v3 : Value} {l1 : Int32} {st : List Value} {im : IM} {rm : RM}  : ev 36 0 [.int l1, v1, v2, v3] st im rm = ev 36 1 [.int l1, v1, v2, v3] (.int l1 :: st) (im) (rm) := ev_iload_n pm_m36 d36_0 rfl rfl
theorem d36_1 : decode prog_8_method_13_code 1 = .ok (.bipush 97, 2) := by decide +kernel
theorem s36_1 {v0 v1 v2 v3 : Value}  {st : List Value} {im : IM} {rm : RM}  : ev 36 1 [v0, v1, v2, v3] st im rm = ev 36 3 [v0, v1, v2, v3] (.int (nI 97) :: st) (im) (rm) := ev_bipush pm_m36 d36_1 rfl rfl
theorem d36_3 : decode prog_8_method_13_code 3 = .ok (.if_icmp .lt 25, 3) := by decide +kernel
theorem s36_3 {v0 v1 v2 v3 : Value} {x : Int32} {y : Int32} {st : List Value} {im : IM} {rm : RM} : ev 36 3 [v0, v1, v2, v3] (.int y :: .int x :: st) im rm = if x < y then ev 36 28 [v0, v1, pm_u, pm_u] st im rm else ev 36 6 [v0, v1, v2, v3] st im rm := ev_icmp_lt pm_m36 d36_3 rfl rfl rfl
theorem d36_6 : decode prog_8_method_13_code 6 = .ok (.iload_n 0, 1) := by decide +kernel
theorem s36_6 {v1 v2 v3 : Value} {l1 : Int32} {st : List Value} {im : IM} {rm : RM}  : ev 36 6 [.int l1, v1, v2, v3] st im rm = ev 36 7 [.int l1, v1, v2, v3] (.int l1 :: st) (im) (rm) := ev_iload_n pm_m36 d36_6 rfl rfl
theorem d36_7 : decode prog_8_method_13_code 7 = .ok (.bipush 122, 2) := by decide +kernel
theorem s36_7 {v0 v1 v2 v3 : Value}  {st : List Value} {im : IM} {rm : RM}  : ev 36 7 [v0, v1, v2, v3] st im rm = ev 36 9 [v0, v1, v2, v3] (.int (nI 122) :: st) (im) (rm) := ev_bipush pm_m36 d36_7 rfl rfl
theorem d36_9 : decode prog_8_method_13_code 9 = .ok (.if_icmp .gt 19, 3) := by decide +kernel
theorem s36_9 {v0 v1 v2 v3 : Value} {x : Int32} {y : Int32} {st : List Value} {im : IM} {rm : RM} : ev 36 9 [v0, v1, v2, v3] (.int y :: .int x :: st) im rm = if y < x then ev 36 28 [v0, v1, pm_u, pm_u] st im rm else ev 36 12 [v0, v1, v2, v3] st im rm := ev_icmp_gt pm_m36 d36_9 rfl rfl rfl
theorem d36_12 : decode prog_8_method_13_code 12 = .ok (.iload_n 1, 1) := by decide +kernel
theorem s36_12 {v0 v2 v3 : Value} {l1 : Int32} {st : List Value} {im : IM} {rm : RM}  : ev 36 12 [v0, .int l1, v2, v3] st im rm = ev 36 13 [v0, .int l1, v2, v3] (.int l1 :: st) (im) (rm) := ev_iload_n pm_m36 d36_12 rfl rfl
theorem d36_13 : decode prog_8_method_13_code 13 = .ok (.bipush 97, 2) := by decide +kernel
theorem s36_13 {v0 v1 v2 v3 : Value}  {st : List Value} {im : IM} {rm : RM}  : ev 36 13 [v0, v1, v2, v3] st im rm = ev 36 15 [v0, v1, v2, v3] (.int (nI 97) :: st) (im) (rm) := ev_bipush pm_m36 d36_13 rfl rfl
theorem d36_15 : decode prog_8_method_13_code 15 = .ok (.if_icmp .lt 13, 3) := by decide +kernel
theorem s36_15 {v0 v1 v2 v3 : Value} {x : Int32} {y : Int32} {st : List Value} {im : IM} {rm : RM} : ev 36 15 [v0, v1, v2, v3] (.int y :: .int x :: st) im rm = if x < y then ev 36 28 [v0, v1, pm_u, pm_u] st im rm else ev 36 18 [v0, v1, v2, v3] st im rm := ev_icmp_lt pm_m36 d36_15 rfl rfl rfl
theorem d36_18 : decode prog_8_method_13_code 18 = .ok (.iload_n 1, 1) := by decide +kernel
theorem s36_18 {v0 v2 v3 : Value} {l1 : Int32} {st : List Value} {im : IM} {rm : RM}  : ev 36 18 [v0, .int l1, v2, v3] st im rm = ev 36 19 [v0, .int l1, v2, v3] (.int l1 :: st) (im) (rm) := ev_iload_n pm_m36 d36_18 rfl rfl
theorem d36_19 : decode prog_8_method_13_code 19 = .ok (.bipush 122, 2) := by decide +kernel
theorem s36_19 {v0 v1 v2 v3 : Value}  {st : List Value} {im : IM} {rm : RM}  : ev 36 19 [v0, v1, v2, v3] st im rm = ev 36 21 [v0, v1, v2, v3] (.int (nI 122) :: st) (im) (rm) := ev_bipush pm_m36 d36_19 rfl rfl
theorem d36_21 : decode prog_8_method_13_code 21 = .ok (.if_icmp .gt 7, 3) := by decide +kernel
theorem s36_21 {v0 v1 v2 v3 : Value} {x : Int32} {y : Int32} {st : List Value} {im : IM} {rm : RM} : ev 36 21 [v0, v1, v2, v3] (.int y :: .int x :: st) im rm = if y < x then ev 36 28 [v0, v1, pm_u, pm_u] st im rm else ev 36 24 [v0, v1, v2, v3] st im rm := ev_icmp_gt pm_m36 d36_21 rfl rfl rfl
theorem d36_24 : decode prog_8_method_13_code 24 = .ok (.iconst 1, 1) := by decide +kernel
theorem s36_24 {v0 v1 v2 v3 : Value}  {st : List Value} {im : IM} {rm : RM}  : ev 36 24 [v0, v1, v2, v3] st im rm = ev 36 25 [v0, v1, v2, v3] (.int (nI 1) :: st) (im) (rm) := ev_iconst pm_m36 d36_24 rfl rfl
theorem d36_25 : decode prog_8_method_13_code 25 = .ok (.goto 4, 3) := by decide +kernel
theorem s36_25 {v0 v1 v2 v3 : Value}  {st : List Value} {im : IM} {rm : RM}  : ev 36 25 [v0, v1, v2, v3] st im rm = ev 36 29 [v0, v1, pm_u, pm_u] st (im) (rm) := ev_goto pm_m36 d36_25 rfl rfl
theorem d36_28 : decode prog_8_method_13_code 28 = .ok (.iconst 0, 1) := by decide +kernel
theorem s36_28 {v0 v1 v2 v3 : Value}  {st : List Value} {im : IM} {rm : RM}  : ev 36 28 [v0, v1, v2, v3] st im rm = ev 36 29 [v0, v1, pm_u, pm_u] (.int (nI 0) :: st) (im) (rm) := ev_iconst pm_m36 d36_28 rfl rfl
theorem d36_29 : decode prog_8_method_13_code 29 = .ok (.istore_n 2, 1) := by decide +kernel
theorem s36_29 {v0 v2 v3 : Value} {l1 : Int32} {x2 : Int32} {st : List Value} {im : IM} {rm : RM}  : ev 36 29 [v0, .int l1, v2, v3] (.int x2 :: st) im rm = ev 36 30 [v0, .int l1, .int x2, v3] st (im) (rm) := ev_istore_n pm_m36 d36_29 (Nat.le_of_ble_eq_true rfl) rfl rfl
theorem d36_30 : decode prog_8_method_13_code 30 = .ok (.iload_n 0, 1) := by decide +kernel
theorem s36_30 {v1 v2 v3 : Value} {l1 : Int32} {st : List Value} {im : IM} {rm : RM}  : ev 36 30 [.int l1, v1, v2, v3] st im rm = ev 36 31 [.int l1, v1, v2, v3] (.int l1 :: st) (im) (rm) := ev_iload_n pm_m36 d36_30 rfl rfl
theorem d36_31 : decode prog_8_method_13_code 31 = .ok (.bipush 48, 2) := by decide +kernel
theorem s36_31 {v0 v1 v2 v3 : Value}  {st : List Value} {im : IM} {rm : RM}  : ev 36 31 [v0, v1, v2, v3] st im rm = ev 36 33 [v0, v1, v2, v3] (.int (nI 48) :: st) (im) (rm) := ev_bipush pm_m36 d36_31 rfl rfl
theorem d36_33 : decode prog_8_method_13_code 33 = .ok (.if_icmp .lt 25, 3) := by decide +kernel
theorem s36_33 {v0 v1 v2 v3 : Value} {x : Int32} {y : Int32} {st : List Value} {im : IM} {rm : RM} : ev 36 33 [v0, v1, v2, v3] (.int y :: .int x :: st) im rm = if x < y then ev 36 58 [pm_u, pm_u, v2, pm_u] st im rm else ev 36 36 [v0, v1, v2, v3] st im rm := ev_icmp_lt pm_m36 d36_33 rfl rfl rfl
theorem d36_36 : decode prog_8_method_13_code 36 = .ok (.iload_n 0, 1) := by decide +kernel
theorem s36_36 {v1 v2 v3 : Value} {l1 : Int32} {st : List Value} {im : IM} {rm : RM}  : ev 36 36 [.int l1, v1, v2, v3] st im rm = ev 36 37 [.int l1, v1, v2, v3] (.int l1 :: st) (im) (rm) := ev_iload_n pm_m36 d36_36 rfl rfl
theorem d36_37 : decode prog_8_method_13_code 37 = .ok (.bipush 57, 2) := by decide +kernel
theorem s36_37 {v0 v1 v2 v3 : Value}  {st : List Value} {im : IM} {rm : RM}  : ev 36 37 [v0, v1, v2, v3] st im rm = ev 36 39 [v0, v1, v2, v3] (.int (nI 57) :: st) (im) (rm) := ev_bipush pm_m36 d36_37 rfl rfl
theorem d36_39 : decode prog_8_method_13_code 39 = .ok (.if_icmp .gt 19, 3) := by decide +kernel
theorem s36_39 {v0 v1 v2 v3 : Value} {x : Int32} {y : Int32} {st : List Value} {im : IM} {rm : RM} : ev 36 39 [v0, v1, v2, v3] (.int y :: .int x :: st) im rm = if y < x then ev 36 58 [pm_u, pm_u, v2, pm_u] st im rm else ev 36 42 [v0, v1, v2, v3] st im rm := ev_icmp_gt pm_m36 d36_39 rfl rfl rfl
theorem d36_42 : decode prog_8_method_13_code 42 = .ok (.iload_n 1, 1) := by decide +kernel
theorem s36_42 {v0 v2 v3 : Value} {l1 : Int32} {st : List Value} {im : IM} {rm : RM}  : ev 36 42 [v0, .int l1, v2, v3] st im rm = ev 36 43 [v0, .int l1, v2, v3] (.int l1 :: st) (im) (rm) := ev_iload_n pm_m36 d36_42 rfl rfl
theorem d36_43 : decode prog_8_method_13_code 43 = .ok (.bipush 48, 2) := by decide +kernel
theorem s36_43 {v0 v1 v2 v3 : Value}  {st : List Value} {im : IM} {rm : RM}  : ev 36 43 [v0, v1, v2, v3] st im rm = ev 36 45 [v0, v1, v2, v3] (.int (nI 48) :: st) (im) (rm) := ev_bipush pm_m36 d36_43 rfl rfl
theorem d36_45 : decode prog_8_method_13_code 45 = .ok (.if_icmp .lt 13, 3) := by decide +kernel
theorem s36_45 {v0 v1 v2 v3 : Value} {x : Int32} {y : Int32} {st : List Value} {im : IM} {rm : RM} : ev 36 45 [v0, v1, v2, v3] (.int y :: .int x :: st) im rm = if x < y then ev 36 58 [pm_u, pm_u, v2, pm_u] st im rm else ev 36 48 [v0, v1, v2, v3] st im rm := ev_icmp_lt pm_m36 d36_45 rfl rfl rfl
theorem d36_48 : decode prog_8_method_13_code 48 = .ok (.iload_n 1, 1) := by decide +kernel
theorem s36_48 {v0 v2 v3 : Value} {l1 : Int32} {st : List Value} {im : IM} {rm : RM}  : ev 36 48 [v0, .int l1, v2, v3] st im rm = ev 36 49 [v0, .int l1, v2, v3] (.int l1 :: st) (im) (rm) := ev_iload_n pm_m36 d36_48 rfl rfl
theorem d36_49 : decode prog_8_method_13_code 49 = .ok (.bipush 57, 2) := by decide +kernel
theorem s36_49 {v0 v1 v2 v3 : Value}  {st : List Value} {im : IM} {rm : RM}  : ev 36 49 [v0, v1, v2, v3] st im rm = ev 36 51 [v0, v1, v2, v3] (.int (nI 57) :: st) (im) (rm) := ev_bipush pm_m36 d36_49 rfl rfl
theorem d36_51 : decode prog_8_method_13_code 51 = .ok (.if_icmp .gt 7, 3) := by decide +kernel
theorem s36_51 {v0 v1 v2 v3 : Value} {x : Int32} {y : Int32} {st : List Value} {im : IM} {rm : RM} : ev 36 51 [v0, v1, v2, v3] (.int y :: .int x :: st) im rm = if y < x then ev 36 58 [pm_u, pm_u, v2, pm_u] st im rm else ev 36 54 [v0, v1, v2, v3] st im rm := ev_icmp_gt pm_m36 d36_51 rfl rfl rfl
theorem d36_54 : decode prog_8_method_13_code 54 = .ok (.iconst 1, 1) := by decide +kernel
theorem s36_54 {v0 v1 v2 v3 : Value}  {st : List Value} {im : IM} {rm : RM}  : ev 36 54 [v0, v1, v2, v3] st im rm = ev 36 55 [v0, v1, v2, v3] (.int (nI 1) :: st) (im) (rm) := ev_iconst pm_m36 d36_54 rfl rfl
theorem d36_55 : decode prog_8_method_13_code 55 = .ok (.goto 4, 3) := by decide +kernel
theorem s36_55 {v0 v1 v2 v3 : Value}  {st : List Value} {im : IM} {rm : RM}  : ev 36 55 [v0, v1, v2, v3] st im rm = ev 36 59 [pm_u, pm_u, v2, pm_u] st (im) (rm) := ev_goto pm_m36 d36_55 rfl rfl
theorem d36_58 : decode prog_8_method_13_code 58 = .ok (.iconst 0, 1) := by decide +kernel
theorem s36_58 {v0 v1 v2 v3 : Value}  {st : List Value} {im : IM} {rm : RM}  : ev 36 58 [v0, v1, v2, v3] st im rm = ev 36 59 [pm_u, pm_u, v2, pm_u] (.int (nI 0) :: st) (im) (rm) := ev_iconst pm_m36 d36_58 rfl rfl
theorem d36_59 : decode prog_8_method_13_code 59 = .ok (.istore_n 3, 1) := by decide +kernel
theorem s36_59 {v0 v1 v3 : Value} {l1 : Int32} {x2 : Int32} {st : List Value} {im : IM} {rm : RM}  : ev 36 59 [v0, v1, .int l1, v3] (.int x2 :: st) im rm = ev 36 60 [v0, v1, .int l1, .int x2] st (im) (rm) := ev_istore_n pm_m36 d36_59 (Nat.le_of_ble_eq_true rfl) rfl rfl
theorem d36_60 : decode prog_8_method_13_code 60 = .ok (.iload_n 2, 1) := by decide +kernel
theorem s36_60 {v0 v1 v3 : Value} {l1 : Int32} {st : List Value} {im : IM} {rm : RM}  : ev 36 60 [v0, v1, .int l1, v3] st im rm = ev 36 61 [v0, v1, .int l1, v3] (.int l1 :: st) (im) (rm) := ev_iload_n pm_m36 d36_60 rfl rfl
theorem d36_61 : decode prog_8_method_13_code 61 = .ok (.ifCond .ne 7, 3) := by decide +kernel
theorem s36_61 {v0 v1 v2 v3 : Value} {x : Int32} {st : List Value} {im : IM} {rm : RM} : ev 36 61 [v0, v1, v2, v3] (.int x :: st) im rm = if x = nI 0 then ev 36 64 [v0, v1, v2, v3] st im rm else ev 36 68 [pm_u, pm_u, pm_u, pm_u] st im rm := ev_if_ne (y := 0) pm_m36 d36_61 rfl rfl rfl
theorem d36_64 : decode prog_8_method_13_code 64 = .ok (.iload_n 3, 1) := by decide +kernel
theorem s36_64 {v0 v1 v2 : Value} {l1 : Int32} {st : List Value} {im : IM} {rm : RM}  : ev 36 64 [v0, v1, v2, .int l1] st im rm = ev 36 65 [v0, v1, v2, .int l1] (.int l1 :: st) (im) (rm) := ev_iload_n pm_m36 d36_64 rfl rfl
theorem d36_65 : decode prog_8_method_13_code 65 = .ok (.ifCond .eq 7, 3) := by decide +kernel
theorem s36_65 {v0 v1 v2 v3 : Value} {x : Int32} {st : List Value} {im : IM} {rm : RM} : ev 36 65 [v0, v1, v2, v3] (.int x :: st) im rm = if x = nI 0 then ev 36 72 [pm_u, pm_u, pm_u, pm_u] st im rm else ev 36 68 [pm_u, pm_u, pm_u, pm_u] st im rm := ev_if_eq (y := 0) pm_m36 d36_65 rfl rfl rfl
theorem d36_68 : decode prog_8_method_13_code 68 = .ok (.iconst 1, 1) := by decide +kernel
theorem s36_68 {v0 v1 v2 v3 : Value}  {st : List Value} {im : IM} {rm : RM}  : ev 36 68 [v0, v1, v2, v3] st im rm = ev 36 69 [v0, v1, v2, v3] (.int (nI 1) :: st) (im) (rm) := ev_iconst pm_m36 d36_68 rfl rfl
theorem d36_69 : decode prog_8_method_13_code 69 = .ok (.goto 4, 3) := by decide +kernel
theorem s36_69 {v0 v1 v2 v3 : Value}  {st : List Value} {im : IM} {rm : RM}  : ev 36 69 [v0, v1, v2, v3] st im rm = ev 36 73 [pm_u, pm_u, pm_u, pm_u] st (im) (rm) := ev_goto pm_m36 d36_69 rfl rfl
theorem d36_72 : decode prog_8_method_13_code 72 = .ok (.iconst 0, 1) := by decide +kernel
theorem s36_72 {v0 v1 v2 v3 : Value}  {st : List Value} {im : IM} {rm : RM}  : ev 36 72 [v0, v1, v2, v3] st im rm = ev 36 73 [pm_u, pm_u, pm_u, pm_u] (.int (nI 0) :: st) (im) (rm) := ev_iconst pm_m36 d36_72 rfl rfl
theorem d36_73 : decode prog_8_method_13_code 73 = .ok (.ireturn, 1) := by decide +kernel
theorem s36_73 {v0 v1 v2 v3 : Value} {x : Int32} {im : IM} {rm : RM} (hx : x = 0 ∨ x = 1) : ev 36 73 [v0, v1, v2, v3] [.int x] im rm = some (some (.int x), im, rm) := ev_zreturn pm_m36 d36_73 rfl hx
theorem d37_0 : decode prog_8_method_14_code 0 = .ok (.aload_n 0, 1) := by decide +kernel
theorem s37_0 {v1 v2 : Value} {l1 : Nat} {st : List Value} {im : IM} {rm : RM}  : ev 37 0 [.ref l1, v1, v2] st im rm = ev 37 1 [.ref l1, v1, v2] (.ref l1 :: st) (im) (rm) := ev_aload_n pm_m37 d37_0 rfl rfl
theorem d37_1 : decode prog_8_method_14_code 1 = .ok (.getfield 22, 3) := by decide +kernel
theorem s37_1 {v0 v1 v2 : Value} {a : Nat} {st : List Value} {im : IM} {rm : RM} (hk : kd a = 16) : ev 37 1 [v0, v1, v2] (.ref a :: st) im rm = ev 37 4 [v0, v1, v2] (.int (im a 3) :: st) (im) (rm) := ev_getI pm_m37 d37_1 f6_22 rfl hk rfl
theorem d37_4 : decode prog_8_method_14_code 4 = .ok (.aload_n 0, 1) := by decide +kernel
theorem s37_4 {v1 v2 : Value} {l1 : Nat} {st : List Value} {im : IM} {rm : RM}  : ev 37 4 [.ref l1, v1, v2] st im rm = ev 37 5 [.ref l1, v1, v2] (.ref l1 :: st) (im) (rm) := ev_aload_n pm_m37 d37_4 rfl rfl
theorem d37_5 : decode prog_8_method_14_code 5 = .ok (.getfield 19, 3) := by decide +kernel
theorem s37_5 {v0 v1 v2 : Value} {a : Nat} {st : List Value} {im : IM} {rm : RM} (hk : kd a = 16) : ev 37 5 [v0, v1, v2] (.ref a :: st) im rm = ev 37 8 [v0, v1, v2] (.int (im a 2) :: st) (im) (rm) := ev_getI pm_m37 d37_5 f6_19 rfl hk rfl
theorem d37_8 : decode prog_8_method_14_code 8 = .ok (.isub, 1) := by decide +kernel
theorem s37_8 {v0 v1 v2 : Value} {x : Int32} {y : Int32} {st : List Value} {im : IM} {rm : RM}  : ev 37 8 [v0, v1, v2] (.int y :: .int x :: st) im rm = ev 37 9 [v0, v1, v2] (.int (x - y) :: st) (im) (rm) := ev_isub pm_m37 d37_8 rfl
theorem d37_9 : decode prog_8_method_14_code 9 = .ok (.aload_n 1, 1) := by decide +kernel
theorem s37_9 {v0 v2 : Value} {l1 : Nat} {st : List Value} {im : IM} {rm : RM}  : ev 37 9 [v0, .ref l1, v2] st im rm = ev 37 10 [v0, .ref l1, v2] (.ref l1 :: st) (im) (rm) := ev_aload_n pm_m37 d37_9 rfl rfl
theorem d37_10 : decode prog_8_method_14_code 10 = .ok (.invokevirtual 138, 3) := by decide +kernel
theorem s37_10 {v0 v1 v2 : Value} {j : Nat} {r1 : Int32} {im : IM} {rm : RM} (hj : j < 18) (hk : kd (1000000 + j) = 99) : ev 37 10 [v0, v1, v2] [.ref (1000000 + j), .int r1] im rm = (ev 178 0 [.ref (1000000 + j)] [] im rm).bind (fun r => ev 37 13 [v0, v1, v2] (r.1.toList ++ [.int r1]) r.2.1 r.2.2) := ev_callT pm_m37 d37_10 l6_138 rfl pm_m178 rfl hj hk rfl ⟨rfl, rfl⟩ rfl rfl
theorem d37_13 : decode prog_8_method_14_code 13 = .ok (.if_icmp .eq 5, 3) := by decide +kernel
theorem s37_13 {v0 v1 v2 : Value} {x : Int32} {y : Int32} {st : List Value} {im : IM} {rm : RM} : ev 37 13 [v0, v1, v2] (.int y :: .int x :: st) im rm = if x = y then ev 37 18 [v0, v1, pm_u] st im rm else ev 37 16 [v0, v1, v2] st im rm := ev_icmp_eq pm_m37 d37_13 rfl rfl rfl
theorem d37_16 : decode prog_8_method_14_code 16 = .ok (.iconst 0, 1) := by decide +kernel
theorem s37_16 {v0 v1 v2 : Value}  {st : List Value} {im : IM} {rm : RM}  : ev 37 16 [v0, v1, v2] st im rm = ev 37 17 [v0, v1, v2] (.int (nI 0) :: st) (im) (rm) := ev_iconst pm_m37 d37_16 rfl rfl
theorem d37_17 : decode prog_8_method_14_code 17 = .ok (.ireturn, 1) := by decide +kernel
theorem s37_17 {v0 v1 v2 : Value} {x : Int32} {im : IM} {rm : RM} (hx : x = 0 ∨ x = 1) : ev 37 17 [v0, v1, v2] [.int x] im rm = some (some (.int x), im, rm) := ev_zreturn pm_m37 d37_17 rfl hx
theorem d37_18 : decode prog_8_method_14_code 18 = .ok (.iconst 0, 1) := by decide +kernel
theorem s37_18 {v0 v1 v2 : Value}  {st : List Value} {im : IM} {rm : RM}  : ev 37 18 [v0, v1, v2] st im rm = ev 37 19 [v0, v1, v2] (.int (nI 0) :: st) (im) (rm) := ev_iconst pm_m37 d37_18 rfl rfl
theorem d37_19 : decode prog_8_method_14_code 19 = .ok (.istore_n 2, 1) := by decide +kernel
theorem s37_19 {v0 v2 : Value} {l1 : Nat} {x2 : Int32} {st : List Value} {im : IM} {rm : RM}  : ev 37 19 [v0, .ref l1, v2] (.int x2 :: st) im rm = ev 37 20 [v0, .ref l1, .int x2] st (im) (rm) := ev_istore_n pm_m37 d37_19 (Nat.le_of_ble_eq_true rfl) rfl rfl
theorem d37_20 : decode prog_8_method_14_code 20 = .ok (.iload_n 2, 1) := by decide +kernel
theorem s37_20 {v0 v1 : Value} {l1 : Int32} {st : List Value} {im : IM} {rm : RM}  : ev 37 20 [v0, v1, .int l1] st im rm = ev 37 21 [v0, v1, .int l1] (.int l1 :: st) (im) (rm) := ev_iload_n pm_m37 d37_20 rfl rfl
theorem d37_21 : decode prog_8_method_14_code 21 = .ok (.aload_n 1, 1) := by decide +kernel
theorem s37_21 {v0 v2 : Value} {l1 : Nat} {st : List Value} {im : IM} {rm : RM}  : ev 37 21 [v0, .ref l1, v2] st im rm = ev 37 22 [v0, .ref l1, v2] (.ref l1 :: st) (im) (rm) := ev_aload_n pm_m37 d37_21 rfl rfl
theorem d37_22 : decode prog_8_method_14_code 22 = .ok (.invokevirtual 138, 3) := by decide +kernel
theorem s37_22 {v0 v1 v2 : Value} {j : Nat} {r1 : Int32} {im : IM} {rm : RM} (hj : j < 18) (hk : kd (1000000 + j) = 99) : ev 37 22 [v0, v1, v2] [.ref (1000000 + j), .int r1] im rm = (ev 178 0 [.ref (1000000 + j)] [] im rm).bind (fun r => ev 37 25 [v0, v1, v2] (r.1.toList ++ [.int r1]) r.2.1 r.2.2) := ev_callT pm_m37 d37_22 l6_138 rfl pm_m178 rfl hj hk rfl ⟨rfl, rfl⟩ rfl rfl
theorem d37_25 : decode prog_8_method_14_code 25 = .ok (.if_icmp .ge 30, 3) := by decide +kernel
theorem s37_25 {v0 v1 v2 : Value} {x : Int32} {y : Int32} {st : List Value} {im : IM} {rm : RM} : ev 37 25 [v0, v1, v2] (.int y :: .int x :: st) im rm = if y ≤ x then ev 37 55 [pm_u, pm_u, pm_u] st im rm else ev 37 28 [v0, v1, v2] st im rm := ev_icmp_ge pm_m37 d37_25 rfl rfl rfl
theorem d37_28 : decode prog_8_method_14_code 28 = .ok (.aload_n 0, 1) := by decide +kernel
theorem s37_28 {v1 v2 : Value} {l1 : Nat} {st : List Value} {im : IM} {rm : RM}  : ev 37 28 [.ref l1, v1, v2] st im rm = ev 37 29 [.ref l1, v1, v2] (.ref l1 :: st) (im) (rm) := ev_aload_n pm_m37 d37_28 rfl rfl
theorem d37_29 : decode prog_8_method_14_code 29 = .ok (.getfield 15, 3) := by decide +kernel
theorem s37_29 {v0 v1 v2 : Value} {a : Nat} {st : List Value} {im : IM} {rm : RM} (hk : kd a = 16) : ev 37 29 [v0, v1, v2] (.ref a :: st) im rm = ev 37 32 [v0, v1, v2] (pm_ro (rm a 1) :: st) (im) (rm) := ev_getR pm_m37 d37_29 f6_15 rfl hk rfl
theorem d37_32 : decode prog_8_method_14_code 32 = .ok (.aload_n 0, 1) := by decide +kernel
theorem s37_32 {v1 v2 : Value} {l1 : Nat} {st : List Value} {im : IM} {rm : RM}  : ev 37 32 [.ref l1, v1, v2] st im rm = ev 37 33 [.ref l1, v1, v2] (.ref l1 :: st) (im) (rm) := ev_aload_n pm_m37 d37_32 rfl rfl
theorem d37_33 : decode prog_8_method_14_code 33 = .ok (.getfield 19, 3) := by decide +kernel
theorem s37_33 {v0 v1 v2 : Value} {a : Nat} {st : List Value} {im : IM} {rm : RM} (hk : kd a = 16) : ev 37 33 [v0, v1, v2] (.ref a :: st) im rm = ev 37 36 [v0, v1, v2] (.int (im a 2) :: st) (im) (rm) := ev_getI pm_m37 d37_33 f6_19 rfl hk rfl
theorem d37_36 : decode prog_8_method_14_code 36 = .ok (.iload_n 2, 1) := by decide +kernel
theorem s37_36 {v0 v1 : Value} {l1 : Int32} {st : List Value} {im : IM} {rm : RM}  : ev 37 36 [v0, v1, .int l1] st im rm = ev 37 37 [v0, v1, .int l1] (.int l1 :: st) (im) (rm) := ev_iload_n pm_m37 d37_36 rfl rfl
theorem d37_37 : decode prog_8_method_14_code 37 = .ok (.iadd, 1) := by decide +kernel
theorem s37_37 {v0 v1 v2 : Value} {x : Int32} {y : Int32} {st : List Value} {im : IM} {rm : RM}  : ev 37 37 [v0, v1, v2] (.int y :: .int x :: st) im rm = ev 37 38 [v0, v1, v2] (.int (x + y) :: st) (im) (rm) := ev_iadd pm_m37 d37_37 rfl
theorem d37_38 : decode prog_8_method_14_code 38 = .ok (.iaload, 1) := by decide +kernel
theorem s37_38 {v0 v1 v2 : Value} {a : Nat} {i : Int32} {st : List Value} {im : IM} {rm : RM} (hk : kd a = 0) (hi : pm_in i (ln a) = true) : ev 37 38 [v0, v1, v2] (.int i :: .ref a :: st) im rm = ev 37 39 [v0, v1, v2] (.int (im a i.toNatClampNeg) :: st) (im) (rm) := ev_iald pm_m37 d37_38 hk hi rfl
theorem d37_39 : decode prog_8_method_14_code 39 = .ok (.aload_n 1, 1) := by decide +kernel
theorem s37_39 {v0 v2 : Value} {l1 : Nat} {st : List Value} {im : IM} {rm : RM}  : ev 37 39 [v0, .ref l1, v2] st im rm = ev 37 40 [v0, .ref l1, v2] (.ref l1 :: st) (im) (rm) := ev_aload_n pm_m37 d37_39 rfl rfl
theorem d37_40 : decode prog_8_method_14_code 40 = .ok (.iload_n 2, 1) := by decide +kernel
theorem s37_40 {v0 v1 : Value} {l1 : Int32} {st : List Value} {im : IM} {rm : RM}  : ev 37 40 [v0, v1, .int l1] st im rm = ev 37 41 [v0, v1, .int l1] (.int l1 :: st) (im) (rm) := ev_iload_n pm_m37 d37_40 rfl rfl
theorem d37_41 : decode prog_8_method_14_code 41 = .ok (.invokevirtual 142, 3) := by decide +kernel
theorem s37_41 {v0 v1 v2 : Value} {j : Nat} {p1 : Int32} {r2 : Int32} {im : IM} {rm : RM} (hj : j < 18) (hk : kd (1000000 + j) = 99) : ev 37 41 [v0, v1, v2] [.int p1, .ref (1000000 + j), .int r2] im rm = (ev 179 0 [.ref (1000000 + j), .int p1] [] im rm).bind (fun r => ev 37 44 [v0, v1, v2] (r.1.toList ++ [.int r2]) r.2.1 r.2.2) := ev_callT pm_m37 d37_41 l6_142 rfl pm_m179 rfl hj hk rfl ⟨rfl, rfl⟩ rfl rfl
theorem d37_44 : decode prog_8_method_14_code 44 = .ok (.if_icmp .eq 5, 3) := by decide +kernel
theorem s37_44 {v0 v1 v2 : Value} {x : Int32} {y : Int32} {st : List Value} {im : IM} {rm : RM} : ev 37 44 [v0, v1, v2] (.int y :: .int x :: st) im rm = if x = y then ev 37 49 [v0, v1, v2] st im rm else ev 37 47 [v0, v1, v2] st im rm := ev_icmp_eq pm_m37 d37_44 rfl rfl rfl
theorem d37_47 : decode prog_8_method_14_code 47 = .ok (.iconst 0, 1) := by decide +kernel
theorem s37_47 {v0 v1 v2 : Value}  {st : List Value} {im : IM} {rm : RM}  : ev 37 47 [v0, v1, v2] st im rm = ev 37 48 [v0, v1, v2] (.int (nI 0) :: st) (im) (rm) := ev_iconst pm_m37 d37_47 rfl rfl
theorem d37_48 : decode prog_8_method_14_code 48 = .ok (.ireturn, 1) := by decide +kernel
theorem s37_48 {v0 v1 v2 : Value} {x : Int32} {im : IM} {rm : RM} (hx : x = 0 ∨ x = 1) : ev 37 48 [v0, v1, v2] [.int x] im rm = some (some (.int x), im, rm) := ev_zreturn pm_m37 d37_48 rfl hx
theorem d37_49 : decode prog_8_method_14_code 49 = .ok (.iinc 2 1, 3) := by decide +kernel
theorem s37_49 {v0 : Value} {l1 : Nat} {l2 : Int32} {st : List Value} {im : IM} {rm : RM}  : ev 37 49 [v0, .ref l1, .int l2] st im rm = ev 37 52 [v0, .ref l1, .int (l2 + nI 1)] st (im) (rm) := ev_iinc pm_m37 d37_49 rfl rfl rfl rfl
theorem d37_52 : decode prog_8_method_14_code 52 = .ok (.goto (-32), 3) := by decide +kernel
theorem s37_52 {v0 v1 v2 : Value}  {st : List Value} {im : IM} {rm : RM}  : ev 37 52 [v0, v1, v2] st im rm = ev 37 20 [v0, v1, v2] st (im) (rm) := ev_goto pm_m37 d37_52 rfl rfl
theorem d37_55 : decode prog_8_method_14_code 55 = .ok (.iconst 1, 1) := by decide +kernel
theorem s37_55 {v0 v1 v2 : Value}  {st : List Value} {im : IM} {rm : RM}  : ev 37 55 [v0, v1, v2] st im rm = ev 37 56 [v0, v1, v2] (.int (nI 1) :: st) (im) (rm) := ev_iconst pm_m37 d37_55 rfl rfl
theorem d37_56 : decode prog_8_method_14_code 56 = .ok (.ireturn, 1) := by decide +kernel
theorem s37_56 {v0 v1 v2 : Value} {x : Int32} {im : IM} {rm : RM} (hx : x = 0 ∨ x = 1) : ev 37 56 [v0, v1, v2] [.int x] im rm = some (some (.int x), im, rm) := ev_zreturn pm_m37 d37_56 rfl hx
theorem d38_0 : decode prog_8_method_15_code 0 = .ok (.aload_n 0, 1) := by decide +kernel
theorem s38_0 {v1 : Value} {l1 : Nat} {st : List Value} {im : IM} {rm : RM}  : ev 38 0 [.ref l1, v1] st im rm = ev 38 1 [.ref l1, v1] (.ref l1 :: st) (im) (rm) := ev_aload_n pm_m38 d38_0 rfl rfl
theorem d38_1 : decode prog_8_method_15_code 1 = .ok (.aload_n 1, 1) := by decide +kernel
theorem s38_1 {v0 : Value} {l1 : Nat} {st : List Value} {im : IM} {rm : RM}  : ev 38 1 [v0, .ref l1] st im rm = ev 38 2 [v0, .ref l1] (.ref l1 :: st) (im) (rm) := ev_aload_n pm_m38 d38_1 rfl rfl
theorem d38_2 : decode prog_8_method_15_code 2 = .ok (.invokevirtual 106, 3) := by decide +kernel
theorem s38_2 {v0 v1 : Value} {a : Nat} {p1 : Nat} {im : IM} {rm : RM} (hk : kd a = 16) : ev 38 2 [v0, v1] [.ref p1, .ref a] im rm = (ev 37 0 [.ref a, .ref p1, pm_u] [] im rm).bind (fun r => ev 38 5 [v0, v1] (r.1.toList ++ []) r.2.1 r.2.2) := ev_callV pm_m38 d38_2 l6_106 rfl pm_m37 (by decide) hk rfl ⟨rfl, rfl⟩ rfl rfl
theorem d38_5 : decode prog_8_method_15_code 5 = .ok (.ifCond .ne 5, 3) := by decide +kernel
theorem s38_5 {v0 v1 : Value} {x : Int32} {st : List Value} {im : IM} {rm : RM} : ev 38 5 [v0, v1] (.int x :: st) im rm = if x = nI 0 then ev 38 8 [v0, v1] st im rm else ev 38 10 [v0, pm_u] st im rm := ev_if_ne (y := 0) pm_m38 d38_5 rfl rfl rfl
theorem d38_8 : decode prog_8_method_15_code 8 = .ok (.iconst 0, 1) := by decide +kernel
theorem s38_8 {v0 v1 : Value}  {st : List Value} {im : IM} {rm : RM}  : ev 38 8 [v0, v1] st im rm = ev 38 9 [v0, v1] (.int (nI 0) :: st) (im) (rm) := ev_iconst pm_m38 d38_8 rfl rfl
theorem d38_9 : decode prog_8_method_15_code 9 = .ok (.ireturn, 1) := by decide +kernel
theorem s38_9 {v0 v1 : Value} {x : Int32} {im : IM} {rm : RM} (hx : x = 0 ∨ x = 1) : ev 38 9 [v0, v1] [.int x] im rm = some (some (.int x), im, rm) := ev_zreturn pm_m38 d38_9 rfl hx
theorem d38_10 : decode prog_8_method_15_code 10 = .ok (.aload_n 0, 1) := by decide +kernel
theorem s38_10 {v1 : Value} {l1 : Nat} {st : List Value} {im : IM} {rm : RM}  : ev 38 10 [.ref l1, v1] st im rm = ev 38 11 [.ref l1, v1] (.ref l1 :: st) (im) (rm) := ev_aload_n pm_m38 d38_10 rfl rfl
theorem d38_11 : decode prog_8_method_15_code 11 = .ok (.invokevirtual 109, 3) := by decide +kernel
theorem s38_11 {v0 v1 : Value} {a : Nat} {im : IM} {rm : RM} (hk : kd a = 16) : ev 38 11 [v0, v1] [.ref a] im rm = (ev 35 0 [.ref a] [] im rm).bind (fun r => ev 38 14 [v0, v1] (r.1.toList ++ []) r.2.1 r.2.2) := ev_callV pm_m38 d38_11 l6_109 rfl pm_m35 (by decide) hk rfl ⟨rfl, rfl⟩ rfl rfl
theorem d38_14 : decode prog_8_method_15_code 14 = .ok (.iconst 1, 1) := by decide +kernel
theorem s38_14 {v0 v1 : Value}  {st : List Value} {im : IM} {rm : RM}  : ev 38 14 [v0, v1] st im rm = ev 38 15 [v0, v1] (.int (nI 1) :: st) (im) (rm) := ev_iconst pm_m38 d38_14 rfl rfl
theorem d38_15 : decode prog_8_method_15_code 15 = .ok (.ireturn, 1) := by decide +kernel
theorem s38_15 {v0 v1 : Value} {x : Int32} {im : IM} {rm : RM} (hx : x = 0 ∨ x = 1) : ev 38 15 [v0, v1] [.int x] im rm = some (some (.int x), im, rm) := ev_zreturn pm_m38 d38_15 rfl hx
theorem d39_0 : decode prog_8_method_16_code 0 = .ok (.aload_n 0, 1) := by decide +kernel
theorem s39_0 {v1 v2 v3 : Value} {l1 : Nat} {st : List Value} {im : IM} {rm : RM}  : ev 39 0 [.ref l1, v1, v2, v3] st im rm = ev 39 1 [.ref l1, v1, v2, v3] (.ref l1 :: st) (im) (rm) := ev_aload_n pm_m39 d39_0 rfl rfl
theorem d39_1 : decode prog_8_method_16_code 1 = .ok (.getfield 19, 3) := by decide +kernel
theorem s39_1 {v0 v1 v2 v3 : Value} {a : Nat} {st : List Value} {im : IM} {rm : RM} (hk : kd a = 16) : ev 39 1 [v0, v1, v2, v3] (.ref a :: st) im rm = ev 39 4 [v0, v1, v2, v3] (.int (im a 2) :: st) (im) (rm) := ev_getI pm_m39 d39_1 f6_19 rfl hk rfl
theorem d39_4 : decode prog_8_method_16_code 4 = .ok (.aload_n 0, 1) := by decide +kernel
theorem s39_4 {v1 v2 v3 : Value} {l1 : Nat} {st : List Value} {im : IM} {rm : RM}  : ev 39 4 [.ref l1, v1, v2, v3] st im rm = ev 39 5 [.ref l1, v1, v2, v3] (.ref l1 :: st) (im) (rm) := ev_aload_n pm_m39 d39_4 rfl rfl
theorem d39_5 : decode prog_8_method_16_code 5 = .ok (.getfield 22, 3) := by decide +kernel
theorem s39_5 {v0 v1 v2 v3 : Value} {a : Nat} {st : List Value} {im : IM} {rm : RM} (hk : kd a = 16) : ev 39 5 [v0, v1, v2, v3] (.ref a :: st) im rm = ev 39 8 [v0, v1, v2, v3] (.int (im a 3) :: st) (im) (rm) := ev_getI pm_m39 d39_5 f6_22 rfl hk rfl
theorem d39_8 : decode prog_8_method_16_code 8 = .ok (.if_icmp .eq 44, 3) := by decide +kernel
theorem s39_8 {v0 v1 v2 v3 : Value} {x : Int32} {y : Int32} {st : List Value} {im : IM} {rm : RM} : ev 39 8 [v0, v1, v2, v3] (.int y :: .int x :: st) im rm = if x = y then ev 39 52 [pm_u, pm_u, pm_u, pm_u] st im rm else ev 39 11 [v0, v1, v2, v3] st im rm := ev_icmp_eq pm_m39 d39_8 rfl rfl rfl
theorem d39_11 : decode prog_8_method_16_code 11 = .ok (.aload_n 0, 1) := by decide +kernel
theorem s39_11 {v1 v2 v3 : Value} {l1 : Nat} {st : List Value} {im : IM} {rm : RM}  : ev 39 11 [.ref l1, v1, v2, v3] st im rm = ev 39 12 [.ref l1, v1, v2, v3] (.ref l1 :: st) (im) (rm) := ev_aload_n pm_m39 d39_11 rfl rfl
theorem d39_12 : decode prog_8_method_16_code 12 = .ok (.getfield 22, 3) := by decide +kernel
theorem s39_12 {v0 v1 v2 v3 : Value} {a : Nat} {st : List Value} {im : IM} {rm : RM} (hk : kd a = 16) : ev 39 12 [v0, v1, v2, v3] (.ref a :: st) im rm = ev 39 15 [v0, v1, v2, v3] (.int (im a 3) :: st) (im) (rm) := ev_getI pm_m39 d39_12 f6_22 rfl hk rfl
theorem d39_15 : decode prog_8_method_16_code 15 = .ok (.aload_n 0, 1) := by decide +kernel
theorem s39_15 {v1 v2 v3 : Value} {l1 : Nat} {st : List Value} {im : IM} {rm : RM}  : ev 39 15 [.ref l1, v1, v2, v3] st im rm = ev 39 16 [.ref l1, v1, v2, v3] (.ref l1 :: st) (im) (rm) := ev_aload_n pm_m39 d39_15 rfl rfl
theorem d39_16 : decode prog_8_method_16_code 16 = .ok (.getfield 19, 3) := by decide +kernel
theorem s39_16 {v0 v1 v2 v3 : Value} {a : Nat} {st : List Value} {im : IM} {rm : RM} (hk : kd a = 16) : ev 39 16 [v0, v1, v2, v3] (.ref a :: st) im rm = ev 39 19 [v0, v1, v2, v3] (.int (im a 2) :: st) (im) (rm) := ev_getI pm_m39 d39_16 f6_19 rfl hk rfl
theorem d39_19 : decode prog_8_method_16_code 19 = .ok (.isub, 1) := by decide +kernel
theorem s39_19 {v0 v1 v2 v3 : Value} {x : Int32} {y : Int32} {st : List Value} {im : IM} {rm : RM}  : ev 39 19 [v0, v1, v2, v3] (.int y :: .int x :: st) im rm = ev 39 20 [v0, v1, v2, v3] (.int (x - y) :: st) (im) (rm) := ev_isub pm_m39 d39_19 rfl
theorem d39_20 : decode prog_8_method_16_code 20 = .ok (.iconst 3, 1) := by decide +kernel
theorem s39_20 {v0 v1 v2 v3 : Value}  {st : List Value} {im : IM} {rm : RM}  : ev 39 20 [v0, v1, v2, v3] st im rm = ev 39 21 [v0, v1, v2, v3] (.int (nI 3) :: st) (im) (rm) := ev_iconst pm_m39 d39_20 rfl rfl
theorem d39_21 : decode prog_8_method_16_code 21 = .ok (.if_icmp .gt 31, 3) := by decide +kernel
theorem s39_21 {v0 v1 v2 v3 : Value} {x : Int32} {y : Int32} {st : List Value} {im : IM} {rm : RM} : ev 39 21 [v0, v1, v2, v3] (.int y :: .int x :: st) im rm = if y < x then ev 39 52 [pm_u, pm_u, pm_u, pm_u] st im rm else ev 39 24 [v0, v1, v2, v3] st im rm := ev_icmp_gt pm_m39 d39_21 rfl rfl rfl
theorem d39_24 : decode prog_8_method_16_code 24 = .ok (.aload_n 0, 1) := by decide +kernel
theorem s39_24 {v1 v2 v3 : Value} {l1 : Nat} {st : List Value} {im : IM} {rm : RM}  : ev 39 24 [.ref l1, v1, v2, v3] st im rm = ev 39 25 [.ref l1, v1, v2, v3] (.ref l1 :: st) (im) (rm) := ev_aload_n pm_m39 d39_24 rfl rfl
theorem d39_25 : decode prog_8_method_16_code 25 = .ok (.getfield 15, 3) := by decide +kernel
theorem s39_25 {v0 v1 v2 v3 : Value} {a : Nat} {st : List Value} {im : IM} {rm : RM} (hk : kd a = 16) : ev 39 25 [v0, v1, v2, v3] (.ref a :: st) im rm = ev 39 28 [v0, v1, v2, v3] (pm_ro (rm a 1) :: st) (im) (rm) := ev_getR pm_m39 d39_25 f6_15 rfl hk rfl
theorem d39_28 : decode prog_8_method_16_code 28 = .ok (.aload_n 0, 1) := by decide +kernel
theorem s39_28 {v1 v2 v3 : Value} {l1 : Nat} {st : List Value} {im : IM} {rm : RM}  : ev 39 28 [.ref l1, v1, v2, v3] st im rm = ev 39 29 [.ref l1, v1, v2, v3] (.ref l1 :: st) (im) (rm) := ev_aload_n pm_m39 d39_28 rfl rfl
theorem d39_29 : decode prog_8_method_16_code 29 = .ok (.getfield 19, 3) := by decide +kernel
theorem s39_29 {v0 v1 v2 v3 : Value} {a : Nat} {st : List Value} {im : IM} {rm : RM} (hk : kd a = 16) : ev 39 29 [v0, v1, v2, v3] (.ref a :: st) im rm = ev 39 32 [v0, v1, v2, v3] (.int (im a 2) :: st) (im) (rm) := ev_getI pm_m39 d39_29 f6_19 rfl hk rfl
theorem d39_32 : decode prog_8_method_16_code 32 = .ok (.iaload, 1) := by decide +kernel
theorem s39_32 {v0 v1 v2 v3 : Value} {a : Nat} {i : Int32} {st : List Value} {im : IM} {rm : RM} (hk : kd a = 0) (hi : pm_in i (ln a) = true) : ev 39 32 [v0, v1, v2, v3] (.int i :: .ref a :: st) im rm = ev 39 33 [v0, v1, v2, v3] (.int (im a i.toNatClampNeg) :: st) (im) (rm) := ev_iald pm_m39 d39_32 hk hi rfl
theorem d39_33 : decode prog_8_method_16_code 33 = .ok (.bipush 48, 2) := by decide +kernel
theorem s39_33 {v0 v1 v2 v3 : Value}  {st : List Value} {im : IM} {rm : RM}  : ev 39 33 [v0, v1, v2, v3] st im rm = ev 39 35 [v0, v1, v2, v3] (.int (nI 48) :: st) (im) (rm) := ev_bipush pm_m39 d39_33 rfl rfl
theorem d39_35 : decode prog_8_method_16_code 35 = .ok (.if_icmp .lt 17, 3) := by decide +kernel
theorem s39_35 {v0 v1 v2 v3 : Value} {x : Int32} {y : Int32} {st : List Value} {im : IM} {rm : RM} : ev 39 35 [v0, v1, v2, v3] (.int y :: .int x :: st) im rm = if x < y then ev 39 52 [pm_u, pm_u, pm_u, pm_u] st im rm else ev 39 38 [v0, v1, v2, v3] st im rm := ev_icmp_lt pm_m39 d39_35 rfl rfl rfl
theorem d39_38 : decode prog_8_method_16_code 38 = .ok (.aload_n 0, 1) := by decide +kernel
theorem s39_38 {v1 v2 v3 : Value} {l1 : Nat} {st : List Value} {im : IM} {rm : RM}  : ev 39 38 [.ref l1, v1, v2, v3] st im rm = ev 39 39 [.ref l1, v1, v2, v3] (.ref l1 :: st) (im) (rm) := ev_aload_n pm_m39 d39_38 rfl rfl
theorem d39_39 : decode prog_8_method_16_code 39 = .ok (.getfield 15, 3) := by decide +kernel
theorem s39_39 {v0 v1 v2 v3 : Value} {a : Nat} {st : List Value} {im : IM} {rm : RM} (hk : kd a = 16) : ev 39 39 [v0, v1, v2, v3] (.ref a :: st) im rm = ev 39 42 [v0, v1, v2, v3] (pm_ro (rm a 1) :: st) (im) (rm) := ev_getR pm_m39 d39_39 f6_15 rfl hk rfl
theorem d39_42 : decode prog_8_method_16_code 42 = .ok (.aload_n 0, 1) := by decide +kernel
theorem s39_42 {v1 v2 v3 : Value} {l1 : Nat} {st : List Value} {im : IM} {rm : RM}  : ev 39 42 [.ref l1, v1, v2, v3] st im rm = ev 39 43 [.ref l1, v1, v2, v3] (.ref l1 :: st) (im) (rm) := ev_aload_n pm_m39 d39_42 rfl rfl
theorem d39_43 : decode prog_8_method_16_code 43 = .ok (.getfield 19, 3) := by decide +kernel
theorem s39_43 {v0 v1 v2 v3 : Value} {a : Nat} {st : List Value} {im : IM} {rm : RM} (hk : kd a = 16) : ev 39 43 [v0, v1, v2, v3] (.ref a :: st) im rm = ev 39 46 [v0, v1, v2, v3] (.int (im a 2) :: st) (im) (rm) := ev_getI pm_m39 d39_43 f6_19 rfl hk rfl
theorem d39_46 : decode prog_8_method_16_code 46 = .ok (.iaload, 1) := by decide +kernel
theorem s39_46 {v0 v1 v2 v3 : Value} {a : Nat} {i : Int32} {st : List Value} {im : IM} {rm : RM} (hk : kd a = 0) (hi : pm_in i (ln a) = true) : ev 39 46 [v0, v1, v2, v3] (.int i :: .ref a :: st) im rm = ev 39 47 [v0, v1, v2, v3] (.int (im a i.toNatClampNeg) :: st) (im) (rm) := ev_iald pm_m39 d39_46 hk hi rfl
theorem d39_47 : decode prog_8_method_16_code 47 = .ok (.bipush 57, 2) := by decide +kernel
theorem s39_47 {v0 v1 v2 v3 : Value}  {st : List Value} {im : IM} {rm : RM}  : ev 39 47 [v0, v1, v2, v3] st im rm = ev 39 49 [v0, v1, v2, v3] (.int (nI 57) :: st) (im) (rm) := ev_bipush pm_m39 d39_47 rfl rfl
theorem d39_49 : decode prog_8_method_16_code 49 = .ok (.if_icmp .le 5, 3) := by decide +kernel
theorem s39_49 {v0 v1 v2 v3 : Value} {x : Int32} {y : Int32} {st : List Value} {im : IM} {rm : RM} : ev 39 49 [v0, v1, v2, v3] (.int y :: .int x :: st) im rm = if x ≤ y then ev 39 54 [v0, v1, pm_u, pm_u] st im rm else ev 39 52 [pm_u, pm_u, pm_u, pm_u] st im rm := ev_icmp_le pm_m39 d39_49 rfl rfl rfl
theorem d39_52 : decode prog_8_method_16_code 52 = .ok (.iconst (-1), 1) := by decide +kernel
theorem s39_52 {v0 v1 v2 v3 : Value}  {st : List Value} {im : IM} {rm : RM}  : ev 39 52 [v0, v1, v2, v3] st im rm = ev 39 53 [v0, v1, v2, v3] (.int ((-1 : Int32)) :: st) (im) (rm) := ev_iconst pm_m39 d39_52 rfl rfl
theorem d39_53 : decode prog_8_method_16_code 53 = .ok (.ireturn, 1) := by decide +kernel
theorem s39_53 {v0 v1 v2 v3 : Value} {x : Int32} {im : IM} {rm : RM} : ev 39 53 [v0, v1, v2, v3] [.int x] im rm = some (some (.int x), im, rm) := ev_ireturn pm_m39 d39_53 rfl
theorem d39_54 : decode prog_8_method_16_code 54 = .ok (.iconst 0, 1) := by decide +kernel
theorem s39_54 {v0 v1 v2 v3 : Value}  {st : List Value} {im : IM} {rm : RM}  : ev 39 54 [v0, v1, v2, v3] st im rm = ev 39 55 [v0, v1, v2, v3] (.int (nI 0) :: st) (im) (rm) := ev_iconst pm_m39 d39_54 rfl rfl
theorem d39_55 : decode prog_8_method_16_code 55 = .ok (.istore_n 2, 1) := by decide +kernel
theorem s39_55 {v0 v2 v3 : Value} {l1 : Int32} {x2 : Int32} {st : List Value} {im : IM} {rm : RM}  : ev 39 55 [v0, .int l1, v2, v3] (.int x2 :: st) im rm = ev 39 56 [v0, .int l1, .int x2, v3] st (im) (rm) := ev_istore_n pm_m39 d39_55 (Nat.le_of_ble_eq_true rfl) rfl rfl
theorem d39_56 : decode prog_8_method_16_code 56 = .ok (.aload_n 0, 1) := by decide +kernel
theorem s39_56 {v1 v2 v3 : Value} {l1 : Nat} {st : List Value} {im : IM} {rm : RM}  : ev 39 56 [.ref l1, v1, v2, v3] st im rm = ev 39 57 [.ref l1, v1, v2, v3] (.ref l1 :: st) (im) (rm) := ev_aload_n pm_m39 d39_56 rfl rfl
theorem d39_57 : decode prog_8_method_16_code 57 = .ok (.getfield 19, 3) := by decide +kernel
theorem s39_57 {v0 v1 v2 v3 : Value} {a : Nat} {st : List Value} {im : IM} {rm : RM} (hk : kd a = 16) : ev 39 57 [v0, v1, v2, v3] (.ref a :: st) im rm = ev 39 60 [v0, v1, v2, v3] (.int (im a 2) :: st) (im) (rm) := ev_getI pm_m39 d39_57 f6_19 rfl hk rfl
theorem d39_60 : decode prog_8_method_16_code 60 = .ok (.istore_n 3, 1) := by decide +kernel
theorem s39_60 {v0 v1 v3 : Value} {l1 : Int32} {x2 : Int32} {st : List Value} {im : IM} {rm : RM}  : ev 39 60 [v0, v1, .int l1, v3] (.int x2 :: st) im rm = ev 39 61 [v0, v1, .int l1, .int x2] st (im) (rm) := ev_istore_n pm_m39 d39_60 (Nat.le_of_ble_eq_true rfl) rfl rfl
theorem d39_61 : decode prog_8_method_16_code 61 = .ok (.iload_n 3, 1) := by decide +kernel
theorem s39_61 {v0 v1 v2 : Value} {l1 : Int32} {st : List Value} {im : IM} {rm : RM}  : ev 39 61 [v0, v1, v2, .int l1] st im rm = ev 39 62 [v0, v1, v2, .int l1] (.int l1 :: st) (im) (rm) := ev_iload_n pm_m39 d39_61 rfl rfl
theorem d39_62 : decode prog_8_method_16_code 62 = .ok (.aload_n 0, 1) := by decide +kernel
theorem s39_62 {v1 v2 v3 : Value} {l1 : Nat} {st : List Value} {im : IM} {rm : RM}  : ev 39 62 [.ref l1, v1, v2, v3] st im rm = ev 39 63 [.ref l1, v1, v2, v3] (.ref l1 :: st) (im) (rm) := ev_aload_n pm_m39 d39_62 rfl rfl
theorem d39_63 : decode prog_8_method_16_code 63 = .ok (.getfield 22, 3) := by decide +kernel
theorem s39_63 {v0 v1 v2 v3 : Value} {a : Nat} {st : List Value} {im : IM} {rm : RM} (hk : kd a = 16) : ev 39 63 [v0, v1, v2, v3] (.ref a :: st) im rm = ev 39 66 [v0, v1, v2, v3] (.int (im a 3) :: st) (im) (rm) := ev_getI pm_m39 d39_63 f6_22 rfl hk rfl
theorem d39_66 : decode prog_8_method_16_code 66 = .ok (.if_icmp .ge 24, 3) := by decide +kernel
theorem s39_66 {v0 v1 v2 v3 : Value} {x : Int32} {y : Int32} {st : List Value} {im : IM} {rm : RM} : ev 39 66 [v0, v1, v2, v3] (.int y :: .int x :: st) im rm = if y ≤ x then ev 39 90 [v0, v1, v2, pm_u] st im rm else ev 39 69 [v0, v1, v2, v3] st im rm := ev_icmp_ge pm_m39 d39_66 rfl rfl rfl
theorem d39_69 : decode prog_8_method_16_code 69 = .ok (.bipush 10, 2) := by decide +kernel
theorem s39_69 {v0 v1 v2 v3 : Value}  {st : List Value} {im : IM} {rm : RM}  : ev 39 69 [v0, v1, v2, v3] st im rm = ev 39 71 [v0, v1, v2, v3] (.int (nI 10) :: st) (im) (rm) := ev_bipush pm_m39 d39_69 rfl rfl
theorem d39_71 : decode prog_8_method_16_code 71 = .ok (.iload_n 2, 1) := by decide +kernel
theorem s39_71 {v0 v1 v3 : Value} {l1 : Int32} {st : List Value} {im : IM} {rm : RM}  : ev 39 71 [v0, v1, .int l1, v3] st im rm = ev 39 72 [v0, v1, .int l1, v3] (.int l1 :: st) (im) (rm) := ev_iload_n pm_m39 d39_71 rfl rfl
theorem d39_72 : decode prog_8_method_16_code 72 = .ok (.imul, 1) := by decide +kernel
theorem s39_72 {v0 v1 v2 v3 : Value} {x : Int32} {y : Int32} {st : List Value} {im : IM} {rm : RM}  : ev 39 72 [v0, v1, v2, v3] (.int y :: .int x :: st) im rm = ev 39 73 [v0, v1, v2, v3] (.int (x * y) :: st) (im) (rm) := ev_imul pm_m39 d39_72 rfl
theorem d39_73 : decode prog_8_method_16_code 73 = .ok (.aload_n 0, 1) := by decide +kernel
theorem s39_73 {v1 v2 v3 : Value} {l1 : Nat} {st : List Value} {im : IM} {rm : RM}  : ev 39 73 [.ref l1, v1, v2, v3] st im rm = ev 39 74 [.ref l1, v1, v2, v3] (.ref l1 :: st) (im) (rm) := ev_aload_n pm_m39 d39_73 rfl rfl
theorem d39_74 : decode prog_8_method_16_code 74 = .ok (.getfield 15, 3) := by decide +kernel
theorem s39_74 {v0 v1 v2 v3 : Value} {a : Nat} {st : List Value} {im : IM} {rm : RM} (hk : kd a = 16) : ev 39 74 [v0, v1, v2, v3] (.ref a :: st) im rm = ev 39 77 [v0, v1, v2, v3] (pm_ro (rm a 1) :: st) (im) (rm) := ev_getR pm_m39 d39_74 f6_15 rfl hk rfl
theorem d39_77 : decode prog_8_method_16_code 77 = .ok (.iload_n 3, 1) := by decide +kernel
theorem s39_77 {v0 v1 v2 : Value} {l1 : Int32} {st : List Value} {im : IM} {rm : RM}  : ev 39 77 [v0, v1, v2, .int l1] st im rm = ev 39 78 [v0, v1, v2, .int l1] (.int l1 :: st) (im) (rm) := ev_iload_n pm_m39 d39_77 rfl rfl
theorem d39_78 : decode prog_8_method_16_code 78 = .ok (.iaload, 1) := by decide +kernel
theorem s39_78 {v0 v1 v2 v3 : Value} {a : Nat} {i : Int32} {st : List Value} {im : IM} {rm : RM} (hk : kd a = 0) (hi : pm_in i (ln a) = true) : ev 39 78 [v0, v1, v2, v3] (.int i :: .ref a :: st) im rm = ev 39 79 [v0, v1, v2, v3] (.int (im a i.toNatClampNeg) :: st) (im) (rm) := ev_iald pm_m39 d39_78 hk hi rfl
theorem d39_79 : decode prog_8_method_16_code 79 = .ok (.iadd, 1) := by decide +kernel
theorem s39_79 {v0 v1 v2 v3 : Value} {x : Int32} {y : Int32} {st : List Value} {im : IM} {rm : RM}  : ev 39 79 [v0, v1, v2, v3] (.int y :: .int x :: st) im rm = ev 39 80 [v0, v1, v2, v3] (.int (x + y) :: st) (im) (rm) := ev_iadd pm_m39 d39_79 rfl
theorem d39_80 : decode prog_8_method_16_code 80 = .ok (.bipush 48, 2) := by decide +kernel
theorem s39_80 {v0 v1 v2 v3 : Value}  {st : List Value} {im : IM} {rm : RM}  : ev 39 80 [v0, v1, v2, v3] st im rm = ev 39 82 [v0, v1, v2, v3] (.int (nI 48) :: st) (im) (rm) := ev_bipush pm_m39 d39_80 rfl rfl
theorem d39_82 : decode prog_8_method_16_code 82 = .ok (.isub, 1) := by decide +kernel
theorem s39_82 {v0 v1 v2 v3 : Value} {x : Int32} {y : Int32} {st : List Value} {im : IM} {rm : RM}  : ev 39 82 [v0, v1, v2, v3] (.int y :: .int x :: st) im rm = ev 39 83 [v0, v1, v2, v3] (.int (x - y) :: st) (im) (rm) := ev_isub pm_m39 d39_82 rfl
theorem d39_83 : decode prog_8_method_16_code 83 = .ok (.istore_n 2, 1) := by decide +kernel
theorem s39_83 {v0 v2 v3 : Value} {l1 : Int32} {x2 : Int32} {st : List Value} {im : IM} {rm : RM}  : ev 39 83 [v0, .int l1, v2, v3] (.int x2 :: st) im rm = ev 39 84 [v0, .int l1, .int x2, v3] st (im) (rm) := ev_istore_n pm_m39 d39_83 (Nat.le_of_ble_eq_true rfl) rfl rfl
theorem d39_84 : decode prog_8_method_16_code 84 = .ok (.iinc 3 1, 3) := by decide +kernel
theorem s39_84 {v0 v1 : Value} {l1 : Int32} {l2 : Int32} {st : List Value} {im : IM} {rm : RM}  : ev 39 84 [v0, v1, .int l1, .int l2] st im rm = ev 39 87 [v0, v1, .int l1, .int (l2 + nI 1)] st (im) (rm) := ev_iinc pm_m39 d39_84 rfl rfl rfl rfl
theorem d39_87 : decode prog_8_method_16_code 87 = .ok (.goto (-26), 3) := by decide +kernel
theorem s39_87 {v0 v1 v2 v3 : Value}  {st : List Value} {im : IM} {rm : RM}  : ev 39 87 [v0, v1, v2, v3] st im rm = ev 39 61 [v0, v1, v2, v3] st (im) (rm) := ev_goto pm_m39 d39_87 rfl rfl
theorem d39_90 : decode prog_8_method_16_code 90 = .ok (.iload_n 2, 1) := by decide +kernel
theorem s39_90 {v0 v1 v3 : Value} {l1 : Int32} {st : List Value} {im : IM} {rm : RM}  : ev 39 90 [v0, v1, .int l1, v3] st im rm = ev 39 91 [v0, v1, .int l1, v3] (.int l1 :: st) (im) (rm) := ev_iload_n pm_m39 d39_90 rfl rfl
theorem d39_91 : decode prog_8_method_16_code 91 = .ok (.iload_n 1, 1) := by decide +kernel
theorem s39_91 {v0 v2 v3 : Value} {l1 : Int32} {st : List Value} {im : IM} {rm : RM}  : ev 39 91 [v0, .int l1, v2, v3] st im rm = ev 39 92 [v0, .int l1, v2, v3] (.int l1 :: st) (im) (rm) := ev_iload_n pm_m39 d39_91 rfl rfl
theorem d39_92 : decode prog_8_method_16_code 92 = .ok (.if_icmp .le 5, 3) := by decide +kernel
theorem s39_92 {v0 v1 v2 v3 : Value} {x : Int32} {y : Int32} {st : List Value} {im : IM} {rm : RM} : ev 39 92 [v0, v1, v2, v3] (.int y :: .int x :: st) im rm = if x ≤ y then ev 39 97 [v0, pm_u, v2, pm_u] st im rm else ev 39 95 [v0, v1, v2, v3] st im rm := ev_icmp_le pm_m39 d39_92 rfl rfl rfl
theorem d39_95 : decode prog_8_method_16_code 95 = .ok (.iconst (-1), 1) := by decide +kernel
theorem s39_95 {v0 v1 v2 v3 : Value}  {st : List Value} {im : IM} {rm : RM}  : ev 39 95 [v0, v1, v2, v3] st im rm = ev 39 96 [v0, v1, v2, v3] (.int ((-1 : Int32)) :: st) (im) (rm) := ev_iconst pm_m39 d39_95 rfl rfl
theorem d39_96 : decode prog_8_method_16_code 96 = .ok (.ireturn, 1) := by decide +kernel
theorem s39_96 {v0 v1 v2 v3 : Value} {x : Int32} {im : IM} {rm : RM} : ev 39 96 [v0, v1, v2, v3] [.int x] im rm = some (some (.int x), im, rm) := ev_ireturn pm_m39 d39_96 rfl
theorem d39_97 : decode prog_8_method_16_code 97 = .ok (.aload_n 0, 1) := by decide +kernel
theorem s39_97 {v1 v2 v3 : Value} {l1 : Nat} {st : List Value} {im : IM} {rm : RM}  : ev 39 97 [.ref l1, v1, v2, v3] st im rm = ev 39 98 [.ref l1, v1, v2, v3] (.ref l1 :: st) (im) (rm) := ev_aload_n pm_m39 d39_97 rfl rfl
theorem d39_98 : decode prog_8_method_16_code 98 = .ok (.invokevirtual 109, 3) := by decide +kernel
theorem s39_98 {v0 v1 v2 v3 : Value} {a : Nat} {im : IM} {rm : RM} (hk : kd a = 16) : ev 39 98 [v0, v1, v2, v3] [.ref a] im rm = (ev 35 0 [.ref a] [] im rm).bind (fun r => ev 39 101 [v0, v1, v2, v3] (r.1.toList ++ []) r.2.1 r.2.2) := ev_callV pm_m39 d39_98 l6_109 rfl pm_m35 (by decide) hk rfl ⟨rfl, rfl⟩ rfl rfl
theorem d39_101 : decode prog_8_method_16_code 101 = .ok (.iload_n 2, 1) := by decide +kernel
theorem s39_101 {v0 v1 v3 : Value} {l1 : Int32} {st : List Value} {im : IM} {rm : RM}  : ev 39 101 [v0, v1, .int l1, v3] st im rm = ev 39 102 [v0, v1, .int l1, v3] (.int l1 :: st) (im) (rm) := ev_iload_n pm_m39 d39_101 rfl rfl
theorem d39_102 : decode prog_8_method_16_code 102 = .ok (.ireturn, 1) := by decide +kernel
theorem s39_102 {v0 v1 v2 v3 : Value} {x : Int32} {im : IM} {rm : RM} : ev 39 102 [v0, v1, v2, v3] [.int x] im rm = some (some (.int x), im, rm) := ev_ireturn pm_m39 d39_102 rfl
