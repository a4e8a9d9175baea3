theorem d2_0 : decode prog_2_method_2_code 0 = .ok (.aload_n 0, 1) := by decide +kernel
theorem s2_0 {v1 v2 : Value} {l1 : Nat} {st : List Value} {im : IM} {rm : RM}  : ev 2 0 [.ref l1, v1, v2] st im rm = ev 2 1 [.ref l1, v1, v2] (.ref l1 :: st) (im) (rm) := ev_aload_n pm_m2 d2_0 rfl rfl
theorem d2_1 : decode prog_2_method_2_code 1 = .ok (.iload_n 1, 1) := by decide +kernel
theorem s2_1 {v0 v2 : Value} {l1 : Int32} {st : List Value} {im : IM} {rm : RM}  : ev 2 1 [v0, .int l1, v2] st im rm = ev 2 2 [v0, .int l1, v2] (.int l1 :: st) (im) (rm) := ev_iload_n pm_m2 d2_1 rfl rfl
theorem d2_2 : decode prog_2_method_2_code 2 = .ok (.putfield 9, 3) := by decide +kernel
theorem s2_2 {v0 v1 v2 : Value} {a : Nat} {v : Int32} {st : List Value} {im : IM} {rm : RM} (hk : kd a = 10) : ev 2 2 [v0, v1, v2] (.int v :: .ref a :: st) im rm = ev 2 5 [v0, v1, v2] st (pm_w2 im a 0 v) (rm) := ev_putI pm_m2 d2_2 f0_9 rfl rfl hk rfl
theorem d2_5 : decode prog_2_method_2_code 5 = .ok (.aload_n 0, 1) := by decide +kernel
theorem s2_5 {v1 v2 : Value} {l1 : Nat} {st : List Value} {im : IM} {rm : RM}  : ev 2 5 [.ref l1, v1, v2] st im rm = ev 2 6 [.ref l1, v1, v2] (.ref l1 :: st) (im) (rm) := ev_aload_n pm_m2 d2_5 rfl rfl
theorem d2_6 : decode prog_2_method_2_code 6 = .ok (.iload_n 2, 1) := by decide +kernel
theorem s2_6 {v0 v1 : Value} {l1 : Int32} {st : List Value} {im : IM} {rm : RM}  : ev 2 6 [v0, v1, .int l1] st im rm = ev 2 7 [v0, v1, .int l1] (.int l1 :: st) (im) (rm) := ev_iload_n pm_m2 d2_6 rfl rfl
theorem d2_7 : decode prog_2_method_2_code 7 = .ok (.putfield 15, 3) := by decide +kernel
theorem s2_7 {v0 v1 v2 : Value} {a : Nat} {v : Int32} {st : List Value} {im : IM} {rm : RM} (hk : kd a = 10) : ev 2 7 [v0, v1, v2] (.int v :: .ref a :: st) im rm = ev 2 10 [v0, v1, v2] st (pm_w2 im a 1 v) (rm) := ev_putI pm_m2 d2_7 f0_15 rfl rfl hk rfl
theorem d2_10 : decode prog_2_method_2_code 10 = .ok (.aload_n 0, 1) := by decide +kernel
theorem s2_10 {v1 v2 : Value} {l1 : Nat} {st : List Value} {im : IM} {rm : RM}  : ev 2 10 [.ref l1, v1, v2] st im rm = ev 2 11 [.ref l1, v1, v2] (.ref l1 :: st) (im) (rm) := ev_aload_n pm_m2 d2_10 rfl rfl
theorem d2_11 : decode prog_2_method_2_code 11 = .ok (.iconst 0, 1) := by decide +kernel
theorem s2_11 {v0 v1 v2 : Value}  {st : List Value} {im : IM} {rm : RM}  : ev 2 11 [v0, v1, v2] st im rm = ev 2 12 [v0, v1, v2] (.int (nI 0) :: st) (im) (rm) := ev_iconst pm_m2 d2_11 rfl rfl
theorem d2_12 : decode prog_2_method_2_code 12 = .ok (.putfield 18, 3) := by decide +kernel
theorem s2_12 {v0 v1 v2 : Value} {a : Nat} {v : Int32} {st : List Value} {im : IM} {rm : RM} (hk : kd a = 10) : ev 2 12 [v0, v1, v2] (.int v :: .ref a :: st) im rm = ev 2 15 [v0, v1, v2] st (pm_w2 im a 2 v) (rm) := ev_putI pm_m2 d2_12 f0_18 rfl rfl hk rfl
theorem d2_15 : decode prog_2_method_2_code 15 = .ok (.return_, 1) := by decide +kernel
theorem s2_15 {v0 v1 v2 : Value} {im : IM} {rm : RM} : ev 2 15 [v0, v1, v2] [] im rm = some (none, im, rm) := ev_return pm_m2 d2_15 rfl
theorem d3_0 : decode prog_2_method_3_code 0 = .ok (.aload_n 0, 1) := by decide +kernel
theorem s3_0 {v1 v2 v3 v4 v5 : Value} {l1 : Nat} {st : List Value} {im : IM} {rm : RM}  : ev 3 0 [.ref l1, v1, v2, v3, v4, v5] st im rm = ev 3 1 [.ref l1, v1, v2, v3, v4, v5] (.ref l1 :: st) (im) (rm) := ev_aload_n pm_m3 d3_0 rfl rfl
theorem d3_1 : decode prog_2_method_3_code 1 = .ok (.getfield 18, 3) := by decide +kernel
theorem s3_1 {v0 v1 v2 v3 v4 v5 : Value} {a : Nat} {st : List Value} {im : IM} {rm : RM} (hk : kd a = 10) : ev 3 1 [v0, v1, v2, v3, v4, v5] (.ref a :: st) im rm = ev 3 4 [v0, v1, v2, v3, v4, v5] (.int (im a 2) :: st) (im) (rm) := ev_getI pm_m3 d3_1 f0_18 rfl hk rfl
theorem d3_4 : decode prog_2_method_3_code 4 = .ok (.bipush 40, 2) := by decide +kernel
theorem s3_4 {v0 v1 v2 v3 v4 v5 : Value}  {st : List Value} {im : IM} {rm : RM}  : ev 3 4 [v0, v1, v2, v3, v4, v5] st im rm = ev 3 6 [v0, v1, v2, v3, v4, v5] (.int (nI 40) :: st) (im) (rm) := ev_bipush pm_m3 d3_4 rfl rfl
theorem d3_6 : decode prog_2_method_3_code 6 = .ok (.if_icmp .lt 4, 3) := by decide +kernel
theorem s3_6 {v0 v1 v2 v3 v4 v5 : Value} {x : Int32} {y : Int32} {st : List Value} {im : IM} {rm : RM} : ev 3 6 [v0, v1, v2, v3, v4, v5] (.int y :: .int x :: st) im rm = if x < y then ev 3 10 [v0, v1, v2, v3, v4, v5] st im rm else ev 3 9 [v0, v1, v2, v3, v4, v5] st im rm := ev_icmp_lt pm_m3 d3_6 rfl rfl rfl
theorem d3_9 : decode prog_2_method_3_code 9 = .ok (.return_, 1) := by decide +kernel
theorem s3_9 {v0 v1 v2 v3 v4 v5 : Value} {im : IM} {rm : RM} : ev 3 9 [v0, v1, v2, v3, v4, v5] [] im rm = some (none, im, rm) := ev_return pm_m3 d3_9 rfl
theorem d3_10 : decode prog_2_method_3_code 10 = .ok (.aload_n 0, 1) := by decide +kernel
theorem s3_10 {v1 v2 v3 v4 v5 : Value} {l1 : Nat} {st : List Value} {im : IM} {rm : RM}  : ev 3 10 [.ref l1, v1, v2, v3, v4, v5] st im rm = ev 3 11 [.ref l1, v1, v2, v3, v4, v5] (.ref l1 :: st) (im) (rm) := ev_aload_n pm_m3 d3_10 rfl rfl
theorem d3_11 : decode prog_2_method_3_code 11 = .ok (.getfield 24, 3) := by decide +kernel
theorem s3_11 {v0 v1 v2 v3 v4 v5 : Value} {a : Nat} {st : List Value} {im : IM} {rm : RM} (hk : kd a = 10) : ev 3 11 [v0, v1, v2, v3, v4, v5] (.ref a :: st) im rm = ev 3 14 [v0, v1, v2, v3, v4, v5] (pm_ro (rm a 4) :: st) (im) (rm) := ev_getR pm_m3 d3_11 f0_24 rfl hk rfl
theorem d3_14 : decode prog_2_method_3_code 14 = .ok (.aload_n 0, 1) := by decide +kernel
theorem s3_14 {v1 v2 v3 v4 v5 : Value} {l1 : Nat} {st : List Value} {im : IM} {rm : RM}  : ev 3 14 [.ref l1, v1, v2, v3, v4, v5] st im rm = ev 3 15 [.ref l1, v1, v2, v3, v4, v5] (.ref l1 :: st) (im) (rm) := ev_aload_n pm_m3 d3_14 rfl rfl
theorem d3_15 : decode prog_2_method_3_code 15 = .ok (.getfield 18, 3) := by decide +kernel
theorem s3_15 {v0 v1 v2 v3 v4 v5 : Value} {a : Nat} {st : List Value} {im : IM} {rm : RM} (hk : kd a = 10) : ev 3 15 [v0, v1, v2, v3, v4, v5] (.ref a :: st) im rm = ev 3 18 [v0, v1, v2, v3, v4, v5] (.int (im a 2) :: st) (im) (rm) := ev_getI pm_m3 d3_15 f0_18 rfl hk rfl
theorem d3_18 : decode prog_2_method_3_code 18 = .ok (.iload_n 1, 1) := by decide +kernel
theorem s3_18 {v0 v2 v3 v4 v5 : Value} {l1 : Int32} {st : List Value} {im : IM} {rm : RM}  : ev 3 18 [v0, .int l1, v2, v3, v4, v5] st im rm = ev 3 19 [v0, .int l1, v2, v3, v4, v5] (.int l1 :: st) (im) (rm) := ev_iload_n pm_m3 d3_18 rfl rfl
theorem d3_19 : decode prog_2_method_3_code 19 = .ok (.iastore, 1) := by decide +kernel
theorem s3_19 {v0 v1 v2 v3 v4 v5 : Value} {a : Nat} {i : Int32} {v : Int32} {st : List Value} {im : IM} {rm : RM} (hk : kd a = 0) (hi : pm_in i (ln a) = true) : ev 3 19 [v0, v1, v2, v3, v4, v5] (.int v :: .int i :: .ref a :: st) im rm = ev 3 20 [v0, v1, v2, v3, v4, v5] st (pm_w2 im a i.toNatClampNeg v) (rm) := ev_iast pm_m3 d3_19 hk hi rfl
theorem d3_20 : decode prog_2_method_3_code 20 = .ok (.aload_n 0, 1) := by decide +kernel
theorem s3_20 {v1 v2 v3 v4 v5 : Value} {l1 : Nat} {st : List Value} {im : IM} {rm : RM}  : ev 3 20 [.ref l1, v1, v2, v3, v4, v5] st im rm = ev 3 21 [.ref l1, v1, v2, v3, v4, v5] (.ref l1 :: st) (im) (rm) := ev_aload_n pm_m3 d3_20 rfl rfl
theorem d3_21 : decode prog_2_method_3_code 21 = .ok (.getfield 28, 3) := by decide +kernel
theorem s3_21 {v0 v1 v2 v3 v4 v5 : Value} {a : Nat} {st : List Value} {im : IM} {rm : RM} (hk : kd a = 10) : ev 3 21 [v0, v1, v2, v3, v4, v5] (.ref a :: st) im rm = ev 3 24 [v0, v1, v2, v3, v4, v5] (pm_ro (rm a 5) :: st) (im) (rm) := ev_getR pm_m3 d3_21 f0_28 rfl hk rfl
theorem d3_24 : decode prog_2_method_3_code 24 = .ok (.aload_n 0, 1) := by decide +kernel
theorem s3_24 {v1 v2 v3 v4 v5 : Value} {l1 : Nat} {st : List Value} {im : IM} {rm : RM}  : ev 3 24 [.ref l1, v1, v2, v3, v4, v5] st im rm = ev 3 25 [.ref l1, v1, v2, v3, v4, v5] (.ref l1 :: st) (im) (rm) := ev_aload_n pm_m3 d3_24 rfl rfl
theorem d3_25 : decode prog_2_method_3_code 25 = .ok (.getfield 18, 3) := by decide +kernel
theorem s3_25 {v0 v1 v2 v3 v4 v5 : Value} {a : Nat} {st : List Value} {im : IM} {rm : RM} (hk : kd a = 10) : ev 3 25 [v0, v1, v2, v3, v4, v5] (.ref a :: st) im rm = ev 3 28 [v0, v1, v2, v3, v4, v5] (.int (im a 2) :: st) (im) (rm) := ev_getI pm_m3 d3_25 f0_18 rfl hk rfl
theorem d3_28 : decode prog_2_method_3_code 28 = .ok (.iload_n 2, 1) := by decide +kernel
theorem s3_28 {v0 v1 v3 v4 v5 : Value} {l1 : Int32} {st : List Value} {im : IM} {rm : RM}  : ev 3 28 [v0, v1, .int l1, v3, v4, v5] st im rm = ev 3 29 [v0, v1, .int l1, v3, v4, v5] (.int l1 :: st) (im) (rm) := ev_iload_n pm_m3 d3_28 rfl rfl
theorem d3_29 : decode prog_2_method_3_code 29 = .ok (.iastore, 1) := by decide +kernel
theorem s3_29 {v0 v1 v2 v3 v4 v5 : Value} {a : Nat} {i : Int32} {v : Int32} {st : List Value} {im : IM} {rm : RM} (hk : kd a = 0) (hi : pm_in i (ln a) = true) : ev 3 29 [v0, v1, v2, v3, v4, v5] (.int v :: .int i :: .ref a :: st) im rm = ev 3 30 [v0, v1, v2, v3, v4, v5] st (pm_w2 im a i.toNatClampNeg v) (rm) := ev_iast pm_m3 d3_29 hk hi rfl
theorem d3_30 : decode prog_2_method_3_code 30 = .ok (.aload_n 0, 1) := by decide +kernel
theorem s3_30 {v1 v2 v3 v4 v5 : Value} {l1 : Nat} {st : List Value} {im : IM} {rm : RM}  : ev 3 30 [.ref l1, v1, v2, v3, v4, v5] st im rm = ev 3 31 [.ref l1, v1, v2, v3, v4, v5] (.ref l1 :: st) (im) (rm) := ev_aload_n pm_m3 d3_30 rfl rfl
theorem d3_31 : decode prog_2_method_3_code 31 = .ok (.getfield 31, 3) := by decide +kernel
theorem s3_31 {v0 v1 v2 v3 v4 v5 : Value} {a : Nat} {st : List Value} {im : IM} {rm : RM} (hk : kd a = 10) : ev 3 31 [v0, v1, v2, v3, v4, v5] (.ref a :: st) im rm = ev 3 34 [v0, v1, v2, v3, v4, v5] (pm_ro (rm a 6) :: st) (im) (rm) := ev_getR pm_m3 d3_31 f0_31 rfl hk rfl
theorem d3_34 : decode prog_2_method_3_code 34 = .ok (.aload_n 0, 1) := by decide +kernel
theorem s3_34 {v1 v2 v3 v4 v5 : Value} {l1 : Nat} {st : List Value} {im : IM} {rm : RM}  : ev 3 34 [.ref l1, v1, v2, v3, v4, v5] st im rm = ev 3 35 [.ref l1, v1, v2, v3, v4, v5] (.ref l1 :: st) (im) (rm) := ev_aload_n pm_m3 d3_34 rfl rfl
theorem d3_35 : decode prog_2_method_3_code 35 = .ok (.getfield 18, 3) := by decide +kernel
theorem s3_35 {v0 v1 v2 v3 v4 v5 : Value} {a : Nat} {st : List Value} {im : IM} {rm : RM} (hk : kd a = 10) : ev 3 35 [v0, v1, v2, v3, v4, v5] (.ref a :: st) im rm = ev 3 38 [v0, v1, v2, v3, v4, v5] (.int (im a 2) :: st) (im) (rm) := ev_getI pm_m3 d3_35 f0_18 rfl hk rfl
theorem d3_38 : decode prog_2_method_3_code 38 = .ok (.iload_n 3, 1) := by decide +kernel
theorem s3_38 {v0 v1 v2 v4 v5 : Value} {l1 : Int32} {st : List Value} {im : IM} {rm : RM}  : ev 3 38 [v0, v1, v2, .int l1, v4, v5] st im rm = ev 3 39 [v0, v1, v2, .int l1, v4, v5] (.int l1 :: st) (im) (rm) := ev_iload_n pm_m3 d3_38 rfl rfl
theorem d3_39 : decode prog_2_method_3_code 39 = .ok (.iastore, 1) := by decide +kernel
theorem s3_39 {v0 v1 v2 v3 v4 v5 : Value} {a : Nat} {i : Int32} {v : Int32} {st : List Value} {im : IM} {rm : RM} (hk : kd a = 0) (hi : pm_in i (ln a) = true) : ev 3 39 [v0, v1, v2, v3, v4, v5] (.int v :: .int i :: .ref a :: st) im rm = ev 3 40 [v0, v1, v2, v3, v4, v5] st (pm_w2 im a i.toNatClampNeg v) (rm) := ev_iast pm_m3 d3_39 hk hi rfl
theorem d3_40 : decode prog_2_method_3_code 40 = .ok (.aload_n 0, 1) := by decide +kernel
theorem s3_40 {v1 v2 v3 v4 v5 : Value} {l1 : Nat} {st : List Value} {im : IM} {rm : RM}  : ev 3 40 [.ref l1, v1, v2, v3, v4, v5] st im rm = ev 3 41 [.ref l1, v1, v2, v3, v4, v5] (.ref l1 :: st) (im) (rm) := ev_aload_n pm_m3 d3_40 rfl rfl
theorem d3_41 : decode prog_2_method_3_code 41 = .ok (.getfield 34, 3) := by decide +kernel
theorem s3_41 {v0 v1 v2 v3 v4 v5 : Value} {a : Nat} {st : List Value} {im : IM} {rm : RM} (hk : kd a = 10) : ev 3 41 [v0, v1, v2, v3, v4, v5] (.ref a :: st) im rm = ev 3 44 [v0, v1, v2, v3, v4, v5] (pm_ro (rm a 7) :: st) (im) (rm) := ev_getR pm_m3 d3_41 f0_34 rfl hk rfl
theorem d3_44 : decode prog_2_method_3_code 44 = .ok (.aload_n 0, 1) := by decide +kernel
theorem s3_44 {v1 v2 v3 v4 v5 : Value} {l1 : Nat} {st : List Value} {im : IM} {rm : RM}  : ev 3 44 [.ref l1, v1, v2, v3, v4, v5] st im rm = ev 3 45 [.ref l1, v1, v2, v3, v4, v5] (.ref l1 :: st) (im) (rm) := ev_aload_n pm_m3 d3_44 rfl rfl
theorem d3_45 : decode prog_2_method_3_code 45 = .ok (.getfield 18, 3) := by decide +kernel
theorem s3_45 {v0 v1 v2 v3 v4 v5 : Value} {a : Nat} {st : List Value} {im : IM} {rm : RM} (hk : kd a = 10) : ev 3 45 [v0, v1, v2, v3, v4, v5] (.ref a :: st) im rm = ev 3 48 [v0, v1, v2, v3, v4, v5] (.int (im a 2) :: st) (im) (rm) := ev_getI pm_m3 d3_45 f0_18 rfl hk rfl
theorem d3_48 : decode prog_2_method_3_code 48 = .ok (.iload 4, 2) := by decide +kernel
theorem s3_48 {v0 v1 v2 v3 v5 : Value} {l1 : Int32} {st : List Value} {im : IM} {rm : RM}  : ev 3 48 [v0, v1, v2, v3, .int l1, v5] st im rm = ev 3 50 [v0, v1, v2, v3, .int l1, v5] (.int l1 :: st) (im) (rm) := ev_iload pm_m3 d3_48 rfl rfl
theorem d3_50 : decode prog_2_method_3_code 50 = .ok (.iastore, 1) := by decide +kernel
theorem s3_50 {v0 v1 v2 v3 v4 v5 : Value} {a : Nat} {i : Int32} {v : Int32} {st : List Value} {im : IM} {rm : RM} (hk : kd a = 0) (hi : pm_in i (ln a) = true) : ev 3 50 [v0, v1, v2, v3, v4, v5] (.int v :: .int i :: .ref a :: st) im rm = ev 3 51 [v0, v1, v2, v3, v4, v5] st (pm_w2 im a i.toNatClampNeg v) (rm) := ev_iast pm_m3 d3_50 hk hi rfl
theorem d3_51 : decode prog_2_method_3_code 51 = .ok (.aload_n 0, 1) := by decide +kernel
theorem s3_51 {v1 v2 v3 v4 v5 : Value} {l1 : Nat} {st : List Value} {im : IM} {rm : RM}  : ev 3 51 [.ref l1, v1, v2, v3, v4, v5] st im rm = ev 3 52 [.ref l1, v1, v2, v3, v4, v5] (.ref l1 :: st) (im) (rm) := ev_aload_n pm_m3 d3_51 rfl rfl
theorem d3_52 : decode prog_2_method_3_code 52 = .ok (.getfield 37, 3) := by decide +kernel
theorem s3_52 {v0 v1 v2 v3 v4 v5 : Value} {a : Nat} {st : List Value} {im : IM} {rm : RM} (hk : kd a = 10) : ev 3 52 [v0, v1, v2, v3, v4, v5] (.ref a :: st) im rm = ev 3 55 [v0, v1, v2, v3, v4, v5] (pm_ro (rm a 8) :: st) (im) (rm) := ev_getR pm_m3 d3_52 f0_37 rfl hk rfl
theorem d3_55 : decode prog_2_method_3_code 55 = .ok (.aload_n 0, 1) := by decide +kernel
theorem s3_55 {v1 v2 v3 v4 v5 : Value} {l1 : Nat} {st : List Value} {im : IM} {rm : RM}  : ev 3 55 [.ref l1, v1, v2, v3, v4, v5] st im rm = ev 3 56 [.ref l1, v1, v2, v3, v4, v5] (.ref l1 :: st) (im) (rm) := ev_aload_n pm_m3 d3_55 rfl rfl
theorem d3_56 : decode prog_2_method_3_code 56 = .ok (.getfield 18, 3) := by decide +kernel
theorem s3_56 {v0 v1 v2 v3 v4 v5 : Value} {a : Nat} {st : List Value} {im : IM} {rm : RM} (hk : kd a = 10) : ev 3 56 [v0, v1, v2, v3, v4, v5] (.ref a :: st) im rm = ev 3 59 [v0, v1, v2, v3, v4, v5] (.int (im a 2) :: st) (im) (rm) := ev_getI pm_m3 d3_56 f0_18 rfl hk rfl
theorem d3_59 : decode prog_2_method_3_code 59 = .ok (.iload 5, 2) := by decide +kernel
theorem s3_59 {v0 v1 v2 v3 v4 : Value} {l1 : Int32} {st : List Value} {im : IM} {rm : RM}  : ev 3 59 [v0, v1, v2, v3, v4, .int l1] st im rm = ev 3 61 [v0, v1, v2, v3, v4, .int l1] (.int l1 :: st) (im) (rm) := ev_iload pm_m3 d3_59 rfl rfl
theorem d3_61 : decode prog_2_method_3_code 61 = .ok (.iastore, 1) := by decide +kernel
theorem s3_61 {v0 v1 v2 v3 v4 v5 : Value} {a : Nat} {i : Int32} {v : Int32} {st : List Value} {im : IM} {rm : RM} (hk : kd a = 0) (hi : pm_in i (ln a) = true) : ev 3 61 [v0, v1, v2, v3, v4, v5] (.int v :: .int i :: .ref a :: st) im rm = ev 3 62 [v0, v1, v2, v3, v4, v5] st (pm_w2 im a i.toNatClampNeg v) (rm) := ev_iast pm_m3 d3_61 hk hi rfl
theorem d3_62 : decode prog_2_method_3_code 62 = .ok (.aload_n 0, 1) := by decide +kernel
theorem s3_62 {v1 v2 v3 v4 v5 : Value} {l1 : Nat} {st : List Value} {im : IM} {rm : RM}  : ev 3 62 [.ref l1, v1, v2, v3, v4, v5] st im rm = ev 3 63 [.ref l1, v1, v2, v3, v4, v5] (.ref l1 :: st) (im) (rm) := ev_aload_n pm_m3 d3_62 rfl rfl
theorem d3_63 : decode prog_2_method_3_code 63 = .ok (.getfield 40, 3) := by decide +kernel
theorem s3_63 {v0 v1 v2 v3 v4 v5 : Value} {a : Nat} {st : List Value} {im : IM} {rm : RM} (hk : kd a = 10) : ev 3 63 [v0, v1, v2, v3, v4, v5] (.ref a :: st) im rm = ev 3 66 [v0, v1, v2, v3, v4, v5] (pm_ro (rm a 9) :: st) (im) (rm) := ev_getR pm_m3 d3_63 f0_40 rfl hk rfl
theorem d3_66 : decode prog_2_method_3_code 66 = .ok (.aload_n 0, 1) := by decide +kernel
theorem s3_66 {v1 v2 v3 v4 v5 : Value} {l1 : Nat} {st : List Value} {im : IM} {rm : RM}  : ev 3 66 [.ref l1, v1, v2, v3, v4, v5] st im rm = ev 3 67 [.ref l1, v1, v2, v3, v4, v5] (.ref l1 :: st) (im) (rm) := ev_aload_n pm_m3 d3_66 rfl rfl
theorem d3_67 : decode prog_2_method_3_code 67 = .ok (.getfield 18, 3) := by decide +kernel
theorem s3_67 {v0 v1 v2 v3 v4 v5 : Value} {a : Nat} {st : List Value} {im : IM} {rm : RM} (hk : kd a = 10) : ev 3 67 [v0, v1, v2, v3, v4, v5] (.ref a :: st) im rm = ev 3 70 [v0, v1, v2, v3, v4, v5] (.int (im a 2) :: st) (im) (rm) := ev_getI pm_m3 d3_67 f0_18 rfl hk rfl
theorem d3_70 : decode prog_2_method_3_code 70 = .ok (.iload_n 3, 1) := by decide +kernel
theorem s3_70 {v0 v1 v2 v4 v5 : Value} {l1 : Int32} {st : List Value} {im : IM} {rm : RM}  : ev 3 70 [v0, v1, v2, .int l1, v4, v5] st im rm = ev 3 71 [v0, v1, v2, .int l1, v4, v5] (.int l1 :: st) (im) (rm) := ev_iload_n pm_m3 d3_70 rfl rfl
theorem d3_71 : decode prog_2_method_3_code 71 = .ok (.invokestatic 46, 3) := by decide +kernel
theorem s3_71 {v0 v1 v2 v3 v4 v5 : Value} {p1 : Int32} {r2 : Int32} {r3 : Nat} {im : IM} {rm : RM}  : ev 3 71 [v0, v1, v2, v3, v4, v5] [.int p1, .int r2, .ref r3] im rm = (ev 174 0 [.int p1] [] im rm).bind (fun r => ev 3 74 [v0, v1, v2, v3, v4, v5] (r.1.toList ++ [.int r2, .ref r3]) r.2.1 r.2.2) := ev_callS pm_m3 d3_71 (by decide) l0_46 rfl pm_m174 rfl ⟨rfl, rfl⟩ rfl rfl
theorem d3_74 : decode prog_2_method_3_code 74 = .ok (.aload_n 0, 1) := by decide +kernel
theorem s3_74 {v1 v2 v3 v4 v5 : Value} {l1 : Nat} {st : List Value} {im : IM} {rm : RM}  : ev 3 74 [.ref l1, v1, v2, v3, v4, v5] st im rm = ev 3 75 [.ref l1, v1, v2, v3, v4, v5] (.ref l1 :: st) (im) (rm) := ev_aload_n pm_m3 d3_74 rfl rfl
theorem d3_75 : decode prog_2_method_3_code 75 = .ok (.getfield 18, 3) := by decide +kernel
theorem s3_75 {v0 v1 v2 v3 v4 v5 : Value} {a : Nat} {st : List Value} {im : IM} {rm : RM} (hk : kd a = 10) : ev 3 75 [v0, v1, v2, v3, v4, v5] (.ref a :: st) im rm = ev 3 78 [v0, v1, v2, v3, v4, v5] (.int (im a 2) :: st) (im) (rm) := ev_getI pm_m3 d3_75 f0_18 rfl hk rfl
theorem d3_78 : decode prog_2_method_3_code 78 = .ok (.ifCond .ne 7, 3) := by decide +kernel
theorem s3_78 {v0 v1 v2 v3 v4 v5 : Value} {x : Int32} {st : List Value} {im : IM} {rm : RM} : ev 3 78 [v0, v1, v2, v3, v4, v5] (.int x :: st) im rm = if x = nI 0 then ev 3 81 [v0, v1, v2, v3, v4, v5] st im rm else ev 3 85 [v0, pm_u, pm_u, pm_u, pm_u, pm_u] st im rm := ev_if_ne (y := 0) pm_m3 d3_78 rfl rfl rfl
theorem d3_81 : decode prog_2_method_3_code 81 = .ok (.iconst 0, 1) := by decide +kernel
theorem s3_81 {v0 v1 v2 v3 v4 v5 : Value}  {st : List Value} {im : IM} {rm : RM}  : ev 3 81 [v0, v1, v2, v3, v4, v5] st im rm = ev 3 82 [v0, v1, v2, v3, v4, v5] (.int (nI 0) :: st) (im) (rm) := ev_iconst pm_m3 d3_81 rfl rfl
theorem d3_82 : decode prog_2_method_3_code 82 = .ok (.goto 14, 3) := by decide +kernel
theorem s3_82 {v0 v1 v2 v3 v4 v5 : Value}  {st : List Value} {im : IM} {rm : RM}  : ev 3 82 [v0, v1, v2, v3, v4, v5] st im rm = ev 3 96 [v0, pm_u, pm_u, pm_u, pm_u, pm_u] st (im) (rm) := ev_goto pm_m3 d3_82 rfl rfl
theorem d3_85 : decode prog_2_method_3_code 85 = .ok (.aload_n 0, 1) := by decide +kernel
theorem s3_85 {v1 v2 v3 v4 v5 : Value} {l1 : Nat} {st : List Value} {im : IM} {rm : RM}  : ev 3 85 [.ref l1, v1, v2, v3, v4, v5] st im rm = ev 3 86 [.ref l1, v1, v2, v3, v4, v5] (.ref l1 :: st) (im) (rm) := ev_aload_n pm_m3 d3_85 rfl rfl
theorem d3_86 : decode prog_2_method_3_code 86 = .ok (.getfield 40, 3) := by decide +kernel
theorem s3_86 {v0 v1 v2 v3 v4 v5 : Value} {a : Nat} {st : List Value} {im : IM} {rm : RM} (hk : kd a = 10) : ev 3 86 [v0, v1, v2, v3, v4, v5] (.ref a :: st) im rm = ev 3 89 [v0, v1, v2, v3, v4, v5] (pm_ro (rm a 9) :: st) (im) (rm) := ev_getR pm_m3 d3_86 f0_40 rfl hk rfl
theorem d3_89 : decode prog_2_method_3_code 89 = .ok (.aload_n 0, 1) := by decide +kernel
theorem s3_89 {v1 v2 v3 v4 v5 : Value} {l1 : Nat} {st : List Value} {im : IM} {rm : RM}  : ev 3 89 [.ref l1, v1, v2, v3, v4, v5] st im rm = ev 3 90 [.ref l1, v1, v2, v3, v4, v5] (.ref l1 :: st) (im) (rm) := ev_aload_n pm_m3 d3_89 rfl rfl
theorem d3_90 : decode prog_2_method_3_code 90 = .ok (.getfield 18, 3) := by decide +kernel
theorem s3_90 {v0 v1 v2 v3 v4 v5 : Value} {a : Nat} {st : List Value} {im : IM} {rm : RM} (hk : kd a = 10) : ev 3 90 [v0, v1, v2, v3, v4, v5] (.ref a :: st) im rm = ev 3 93 [v0, v1, v2, v3, v4, v5] (.int (im a 2) :: st) (im) (rm) := ev_getI pm_m3 d3_90 f0_18 rfl hk rfl
theorem d3_93 : decode prog_2_method_3_code 93 = .ok (.iconst 1, 1) := by decide +kernel
theorem s3_93 {v0 v1 v2 v3 v4 v5 : Value}  {st : List Value} {im : IM} {rm : RM}  : ev 3 93 [v0, v1, v2, v3, v4, v5] st im rm = ev 3 94 [v0, v1, v2, v3, v4, v5] (.int (nI 1) :: st) (im) (rm) := ev_iconst pm_m3 d3_93 rfl rfl
theorem d3_94 : decode prog_2_method_3_code 94 = .ok (.isub, 1) := by decide +kernel
theorem s3_94 {v0 v1 v2 v3 v4 v5 : Value} {x : Int32} {y : Int32} {st : List Value} {im : IM} {rm : RM}  : ev 3 94 [v0, v1, v2, v3, v4, v5] (.int y :: .int x :: st) im rm = ev 3 95 [v0, v1, v2, v3, v4, v5] (.int (x - y) :: st) (im) (rm) := ev_isub pm_m3 d3_94 rfl
theorem d3_95 : decode prog_2_method_3_code 95 = .ok (.iaload, 1) := by decide +kernel
theorem s3_95 {v0 v1 v2 v3 v4 v5 : Value} {a : Nat} {i : Int32} {st : List Value} {im : IM} {rm : RM} (hk : kd a = 0) (hi : pm_in i (ln a) = true) : ev 3 95 [v0, v1, v2, v3, v4, v5] (.int i :: .ref a :: st) im rm = ev 3 96 [v0, pm_u, pm_u, pm_u, pm_u, pm_u] (.int (im a i.toNatClampNeg) :: st) (im) (rm) := ev_iald pm_m3 d3_95 hk hi rfl
theorem d3_96 : decode prog_2_method_3_code 96 = .ok (.iadd, 1) := by decide +kernel
theorem s3_96 {v0 v1 v2 v3 v4 v5 : Value} {x : Int32} {y : Int32} {st : List Value} {im : IM} {rm : RM}  : ev 3 96 [v0, v1, v2, v3, v4, v5] (.int y :: .int x :: st) im rm = ev 3 97 [v0, v1, v2, v3, v4, v5] (.int (x + y) :: st) (im) (rm) := ev_iadd pm_m3 d3_96 rfl
theorem d3_97 : decode prog_2_method_3_code 97 = .ok (.iastore, 1) := by decide +kernel
theorem s3_97 {v0 v1 v2 v3 v4 v5 : Value} {a : Nat} {i : Int32} {v : Int32} {st : List Value} {im : IM} {rm : RM} (hk : kd a = 0) (hi : pm_in i (ln a) = true) : ev 3 97 [v0, v1, v2, v3, v4, v5] (.int v :: .int i :: .ref a :: st) im rm = ev 3 98 [v0, v1, v2, v3, v4, v5] st (pm_w2 im a i.toNatClampNeg v) (rm) := ev_iast pm_m3 d3_97 hk hi rfl
theorem d3_98 : decode prog_2_method_3_code 98 = .ok (.aload_n 0, 1) := by decide +kernel
theorem s3_98 {v1 v2 v3 v4 v5 : Value} {l1 : Nat} {st : List Value} {im : IM} {rm : RM}  : ev 3 98 [.ref l1, v1, v2, v3, v4, v5] st im rm = ev 3 99 [.ref l1, v1, v2, v3, v4, v5] (.ref l1 :: st) (im) (rm) := ev_aload_n pm_m3 d3_98 rfl rfl
theorem d3_99 : decode prog_2_method_3_code 99 = .ok (.dup, 1) := by decide +kernel
theorem s3_99 {v0 v1 v2 v3 v4 v5 : Value} {x1 : Nat} {st : List Value} {im : IM} {rm : RM}  : ev 3 99 [v0, v1, v2, v3, v4, v5] (.ref x1 :: st) im rm = ev 3 100 [v0, v1, v2, v3, v4, v5] (.ref x1 :: .ref x1 :: st) (im) (rm) := ev_dupA pm_m3 d3_99 rfl
theorem d3_100 : decode prog_2_method_3_code 100 = .ok (.getfield 18, 3) := by decide +kernel
theorem s3_100 {v0 v1 v2 v3 v4 v5 : Value} {a : Nat} {st : List Value} {im : IM} {rm : RM} (hk : kd a = 10) : ev 3 100 [v0, v1, v2, v3, v4, v5] (.ref a :: st) im rm = ev 3 103 [v0, v1, v2, v3, v4, v5] (.int (im a 2) :: st) (im) (rm) := ev_getI pm_m3 d3_100 f0_18 rfl hk rfl
theorem d3_103 : decode prog_2_method_3_code 103 = .ok (.iconst 1, 1) := by decide +kernel
theorem s3_103 {v0 v1 v2 v3 v4 v5 : Value}  {st : List Value} {im : IM} {rm : RM}  : ev 3 103 [v0, v1, v2, v3, v4, v5] st im rm = ev 3 104 [v0, v1, v2, v3, v4, v5] (.int (nI 1) :: st) (im) (rm) := ev_iconst pm_m3 d3_103 rfl rfl
theorem d3_104 : decode prog_2_method_3_code 104 = .ok (.iadd, 1) := by decide +kernel
theorem s3_104 {v0 v1 v2 v3 v4 v5 : Value} {x : Int32} {y : Int32} {st : List Value} {im : IM} {rm : RM}  : ev 3 104 [v0, v1, v2, v3, v4, v5] (.int y :: .int x :: st) im rm = ev 3 105 [v0, v1, v2, v3, v4, v5] (.int (x + y) :: st) (im) (rm) := ev_iadd pm_m3 d3_104 rfl
theorem d3_105 : decode prog_2_method_3_code 105 = .ok (.putfield 18, 3) := by decide +kernel
theorem s3_105 {v0 v1 v2 v3 v4 v5 : Value} {a : Nat} {v : Int32} {st : List Value} {im : IM} {rm : RM} (hk : kd a = 10) : ev 3 105 [v0, v1, v2, v3, v4, v5] (.int v :: .ref a :: st) im rm = ev 3 108 [v0, v1, v2, v3, v4, v5] st (pm_w2 im a 2 v) (rm) := ev_putI pm_m3 d3_105 f0_18 rfl rfl hk rfl
theorem d3_108 : decode prog_2_method_3_code 108 = .ok (.return_, 1) := by decide +kernel
theorem s3_108 {v0 v1 v2 v3 v4 v5 : Value} {im : IM} {rm : RM} : ev 3 108 [v0, v1, v2, v3, v4, v5] [] im rm = some (none, im, rm) := ev_return pm_m3 d3_108 rfl
theorem d4_0 : decode prog_2_method_4_code 0 = .ok (.iconst 0, 1) := by decide +kernel
theorem s4_0 {v0 v1 v2 v3 : Value}  {st : List Value} {im : IM} {rm : RM}  : ev 4 0 [v0, v1, v2, v3] st im rm = ev 4 1 [v0, v1, v2, v3] (.int (nI 0) :: st) (im) (rm) := ev_iconst pm_m4 d4_0 rfl rfl
theorem d4_1 : decode prog_2_method_4_code 1 = .ok (.istore_n 2, 1) := by decide +kernel
theorem s4_1 {v0 v2 v3 : Value} {l1 : Int32} {x2 : Int32} {st : List Value} {im : IM} {rm : RM}  : ev 4 1 [v0, .int l1, v2, v3] (.int x2 :: st) im rm = ev 4 2 [v0, .int l1, .int x2, v3] st (im) (rm) := ev_istore_n pm_m4 d4_1 (Nat.le_of_ble_eq_true rfl) rfl rfl
theorem d4_2 : decode prog_2_method_4_code 2 = .ok (.iconst 0, 1) := by decide +kernel
theorem s4_2 {v0 v1 v2 v3 : Value}  {st : List Value} {im : IM} {rm : RM}  : ev 4 2 [v0, v1, v2, v3] st im rm = ev 4 3 [v0, v1, v2, v3] (.int (nI 0) :: st) (im) (rm) := ev_iconst pm_m4 d4_2 rfl rfl
theorem d4_3 : decode prog_2_method_4_code 3 = .ok (.istore_n 3, 1) := by decide +kernel
theorem s4_3 {v0 v1 v3 : Value} {l1 : Int32} {x2 : Int32} {st : List Value} {im : IM} {rm : RM}  : ev 4 3 [v0, v1, .int l1, v3] (.int x2 :: st) im rm = ev 4 4 [v0, v1, .int l1, .int x2] st (im) (rm) := ev_istore_n pm_m4 d4_3 (Nat.le_of_ble_eq_true rfl) rfl rfl
theorem d4_4 : decode prog_2_method_4_code 4 = .ok (.iload_n 3, 1) := by decide +kernel
theorem s4_4 {v0 v1 v2 : Value} {l1 : Int32} {st : List Value} {im : IM} {rm : RM}  : ev 4 4 [v0, v1, v2, .int l1] st im rm = ev 4 5 [v0, v1, v2, .int l1] (.int l1 :: st) (im) (rm) := ev_iload_n pm_m4 d4_4 rfl rfl
theorem d4_5 : decode prog_2_method_4_code 5 = .ok (.aload_n 0, 1) := by decide +kernel
theorem s4_5 {v1 v2 v3 : Value} {l1 : Nat} {st : List Value} {im : IM} {rm : RM}  : ev 4 5 [.ref l1, v1, v2, v3] st im rm = ev 4 6 [.ref l1, v1, v2, v3] (.ref l1 :: st) (im) (rm) := ev_aload_n pm_m4 d4_5 rfl rfl
theorem d4_6 : decode prog_2_method_4_code 6 = .ok (.getfield 18, 3) := by decide +kernel
theorem s4_6 {v0 v1 v2 v3 : Value} {a : Nat} {st : List Value} {im : IM} {rm : RM} (hk : kd a = 10) : ev 4 6 [v0, v1, v2, v3] (.ref a :: st) im rm = ev 4 9 [v0, v1, v2, v3] (.int (im a 2) :: st) (im) (rm) := ev_getI pm_m4 d4_6 f0_18 rfl hk rfl
theorem d4_9 : decode prog_2_method_4_code 9 = .ok (.if_icmp .ge 41, 3) := by decide +kernel
theorem s4_9 {v0 v1 v2 v3 : Value} {x : Int32} {y : Int32} {st : List Value} {im : IM} {rm : RM} : ev 4 9 [v0, v1, v2, v3] (.int y :: .int x :: st) im rm = if y ≤ x then ev 4 50 [pm_u, pm_u, pm_u, pm_u] st im rm else ev 4 12 [v0, v1, v2, v3] st im rm := ev_icmp_ge pm_m4 d4_9 rfl rfl rfl
theorem d4_12 : decode prog_2_method_4_code 12 = .ok (.aload_n 0, 1) := by decide +kernel
theorem s4_12 {v1 v2 v3 : Value} {l1 : Nat} {st : List Value} {im : IM} {rm : RM}  : ev 4 12 [.ref l1, v1, v2, v3] st im rm = ev 4 13 [.ref l1, v1, v2, v3] (.ref l1 :: st) (im) (rm) := ev_aload_n pm_m4 d4_12 rfl rfl
theorem d4_13 : decode prog_2_method_4_code 13 = .ok (.getfield 43, 3) := by decide +kernel
theorem s4_13 {v0 v1 v2 v3 : Value} {a : Nat} {st : List Value} {im : IM} {rm : RM} (hk : kd a = 10) : ev 4 13 [v0, v1, v2, v3] (.ref a :: st) im rm = ev 4 16 [v0, v1, v2, v3] (pm_ro (rm a 10) :: st) (im) (rm) := ev_getR pm_m4 d4_13 f0_43 rfl hk rfl
theorem d4_16 : decode prog_2_method_4_code 16 = .ok (.iload_n 3, 1) := by decide +kernel
theorem s4_16 {v0 v1 v2 : Value} {l1 : Int32} {st : List Value} {im : IM} {rm : RM}  : ev 4 16 [v0, v1, v2, .int l1] st im rm = ev 4 17 [v0, v1, v2, .int l1] (.int l1 :: st) (im) (rm) := ev_iload_n pm_m4 d4_16 rfl rfl
theorem d4_17 : decode prog_2_method_4_code 17 = .ok (.iload_n 2, 1) := by decide +kernel
theorem s4_17 {v0 v1 v3 : Value} {l1 : Int32} {st : List Value} {im : IM} {rm : RM}  : ev 4 17 [v0, v1, .int l1, v3] st im rm = ev 4 18 [v0, v1, .int l1, v3] (.int l1 :: st) (im) (rm) := ev_iload_n pm_m4 d4_17 rfl rfl
theorem d4_18 : decode prog_2_method_4_code 18 = .ok (.iastore, 1) := by decide +kernel
theorem s4_18 {v0 v1 v2 v3 : Value} {a : Nat} {i : Int32} {v : Int32} {st : List Value} {im : IM} {rm : RM} (hk : kd a = 0) (hi : pm_in i (ln a) = true) : ev 4 18 [v0, v1, v2, v3] (.int v :: .int i :: .ref a :: st) im rm = ev 4 19 [v0, v1, v2, v3] st (pm_w2 im a i.toNatClampNeg v) (rm) := ev_iast pm_m4 d4_18 hk hi rfl
theorem d4_19 : decode prog_2_method_4_code 19 = .ok (.aload_n 0, 1) := by decide +kernel
theorem s4_19 {v1 v2 v3 : Value} {l1 : Nat} {st : List Value} {im : IM} {rm : RM}  : ev 4 19 [.ref l1, v1, v2, v3] st im rm = ev 4 20 [.ref l1, v1, v2, v3] (.ref l1 :: st) (im) (rm) := ev_aload_n pm_m4 d4_19 rfl rfl
theorem d4_20 : decode prog_2_method_4_code 20 = .ok (.iload_n 3, 1) := by decide +kernel
theorem s4_20 {v0 v1 v2 : Value} {l1 : Int32} {st : List Value} {im : IM} {rm : RM}  : ev 4 20 [v0, v1, v2, .int l1] st im rm = ev 4 21 [v0, v1, v2, .int l1] (.int l1 :: st) (im) (rm) := ev_iload_n pm_m4 d4_20 rfl rfl
theorem d4_21 : decode prog_2_method_4_code 21 = .ok (.iload_n 1, 1) := by decide +kernel
theorem s4_21 {v0 v2 v3 : Value} {l1 : Int32} {st : List Value} {im : IM} {rm : RM}  : ev 4 21 [v0, .int l1, v2, v3] st im rm = ev 4 22 [v0, .int l1, v2, v3] (.int l1 :: st) (im) (rm) := ev_iload_n pm_m4 d4_21 rfl rfl
theorem d4_22 : decode prog_2_method_4_code 22 = .ok (.invokevirtual 52, 3) := by decide +kernel
theorem s4_22 {v0 v1 v2 v3 : Value} {a : Nat} {p1 : Int32} {p2 : Int32} {im : IM} {rm : RM} (hk : kd a = 10) : ev 4 22 [v0, v1, v2, v3] [.int p2, .int p1, .ref a] im rm = (ev 5 0 [.ref a, .int p1, .int p2] [] im rm).bind (fun r => ev 4 25 [v0, v1, v2, v3] (r.1.toList ++ []) r.2.1 r.2.2) := ev_callV pm_m4 d4_22 l0_52 rfl pm_m5 (by decide) hk rfl ⟨rfl, rfl⟩ rfl rfl
theorem d4_25 : decode prog_2_method_4_code 25 = .ok (.ifCond .eq 7, 3) := by decide +kernel
theorem s4_25 {v0 v1 v2 v3 : Value} {x : Int32} {st : List Value} {im : IM} {rm : RM} : ev 4 25 [v0, v1, v2, v3] (.int x :: st) im rm = if x = nI 0 then ev 4 32 [v0, v1, v2, v3] st im rm else ev 4 28 [v0, v1, v2, v3] st im rm := ev_if_eq (y := 0) pm_m4 d4_25 rfl rfl rfl
theorem d4_28 : decode prog_2_method_4_code 28 = .ok (.iconst 0, 1) := by decide +kernel
theorem s4_28 {v0 v1 v2 v3 : Value}  {st : List Value} {im : IM} {rm : RM}  : ev 4 28 [v0, v1, v2, v3] st im rm = ev 4 29 [v0, v1, v2, v3] (.int (nI 0) :: st) (im) (rm) := ev_iconst pm_m4 d4_28 rfl rfl
theorem d4_29 : decode prog_2_method_4_code 29 = .ok (.goto 14, 3) := by decide +kernel
theorem s4_29 {v0 v1 v2 v3 : Value}  {st : List Value} {im : IM} {rm : RM}  : ev 4 29 [v0, v1, v2, v3] st im rm = ev 4 43 [v0, v1, pm_u, v3] st (im) (rm) := ev_goto pm_m4 d4_29 rfl rfl
theorem d4_32 : decode prog_2_method_4_code 32 = .ok (.iload_n 2, 1) := by decide +kernel
theorem s4_32 {v0 v1 v3 : Value} {l1 : Int32} {st : List Value} {im : IM} {rm : RM}  : ev 4 32 [v0, v1, .int l1, v3] st im rm = ev 4 33 [v0, v1, .int l1, v3] (.int l1 :: st) (im) (rm) := ev_iload_n pm_m4 d4_32 rfl rfl
theorem d4_33 : decode prog_2_method_4_code 33 = .ok (.aload_n 0, 1) := by decide +kernel
theorem s4_33 {v1 v2 v3 : Value} {l1 : Nat} {st : List Value} {im : IM} {rm : RM}  : ev 4 33 [.ref l1, v1, v2, v3] st im rm = ev 4 34 [.ref l1, v1, v2, v3] (.ref l1 :: st) (im) (rm) := ev_aload_n pm_m4 d4_33 rfl rfl
theorem d4_34 : decode prog_2_method_4_code 34 = .ok (.getfield 28, 3) := by decide +kernel
theorem s4_34 {v0 v1 v2 v3 : Value} {a : Nat} {st : List Value} {im : IM} {rm : RM} (hk : kd a = 10) : ev 4 34 [v0, v1, v2, v3] (.ref a :: st) im rm = ev 4 37 [v0, v1, v2, v3] (pm_ro (rm a 5) :: st) (im) (rm) := ev_getR pm_m4 d4_34 f0_28 rfl hk rfl
theorem d4_37 : decode prog_2_method_4_code 37 = .ok (.iload_n 3, 1) := by decide +kernel
theorem s4_37 {v0 v1 v2 : Value} {l1 : Int32} {st : List Value} {im : IM} {rm : RM}  : ev 4 37 [v0, v1, v2, .int l1] st im rm = ev 4 38 [v0, v1, v2, .int l1] (.int l1 :: st) (im) (rm) := ev_iload_n pm_m4 d4_37 rfl rfl
theorem d4_38 : decode prog_2_method_4_code 38 = .ok (.iaload, 1) := by decide +kernel
theorem s4_38 {v0 v1 v2 v3 : Value} {a : Nat} {i : Int32} {st : List Value} {im : IM} {rm : RM} (hk : kd a = 0) (hi : pm_in i (ln a) = true) : ev 4 38 [v0, v1, v2, v3] (.int i :: .ref a :: st) im rm = ev 4 39 [v0, v1, v2, v3] (.int (im a i.toNatClampNeg) :: st) (im) (rm) := ev_iald pm_m4 d4_38 hk hi rfl
theorem d4_39 : decode prog_2_method_4_code 39 = .ok (.bipush 8, 2) := by decide +kernel
theorem s4_39 {v0 v1 v2 v3 : Value}  {st : List Value} {im : IM} {rm : RM}  : ev 4 39 [v0, v1, v2, v3] st im rm = ev 4 41 [v0, v1, v2, v3] (.int (nI 8) :: st) (im) (rm) := ev_bipush pm_m4 d4_39 rfl rfl
theorem d4_41 : decode prog_2_method_4_code 41 = .ok (.idiv, 1) := by decide +kernel
theorem s4_41 {v0 v1 v2 v3 : Value} {x : Int32} {y : Int32} {st : List Value} {im : IM} {rm : RM} (h0 : ¬ y = 0) : ev 4 41 [v0, v1, v2, v3] (.int y :: .int x :: st) im rm = ev 4 42 [v0, v1, v2, v3] (.int (x / y) :: st) (im) (rm) := ev_idiv pm_m4 d4_41 h0 rfl
theorem d4_42 : decode prog_2_method_4_code 42 = .ok (.iadd, 1) := by decide +kernel
theorem s4_42 {v0 v1 v2 v3 : Value} {x : Int32} {y : Int32} {st : List Value} {im : IM} {rm : RM}  : ev 4 42 [v0, v1, v2, v3] (.int y :: .int x :: st) im rm = ev 4 43 [v0, v1, pm_u, v3] (.int (x + y) :: st) (im) (rm) := ev_iadd pm_m4 d4_42 rfl
theorem d4_43 : decode prog_2_method_4_code 43 = .ok (.istore_n 2, 1) := by decide +kernel
theorem s4_43 {v0 v2 v3 : Value} {l1 : Int32} {x2 : Int32} {st : List Value} {im : IM} {rm : RM}  : ev 4 43 [v0, .int l1, v2, v3] (.int x2 :: st) im rm = ev 4 44 [v0, .int l1, .int x2, v3] st (im) (rm) := ev_istore_n pm_m4 d4_43 (Nat.le_of_ble_eq_true rfl) rfl rfl
theorem d4_44 : decode prog_2_method_4_code 44 = .ok (.iinc 3 1, 3) := by decide +kernel
theorem s4_44 {v0 v1 : Value} {l1 : Int32} {l2 : Int32} {st : List Value} {im : IM} {rm : RM}  : ev 4 44 [v0, v1, .int l1, .int l2] st im rm = ev 4 47 [v0, v1, .int l1, .int (l2 + nI 1)] st (im) (rm) := ev_iinc pm_m4 d4_44 rfl rfl rfl rfl
theorem d4_47 : decode prog_2_method_4_code 47 = .ok (.goto (-43), 3) := by decide +kernel
theorem s4_47 {v0 v1 v2 v3 : Value}  {st : List Value} {im : IM} {rm : RM}  : ev 4 47 [v0, v1, v2, v3] st im rm = ev 4 4 [v0, v1, v2, v3] st (im) (rm) := ev_goto pm_m4 d4_47 rfl rfl
theorem d4_50 : decode prog_2_method_4_code 50 = .ok (.return_, 1) := by decide +kernel
theorem s4_50 {v0 v1 v2 v3 : Value} {im : IM} {rm : RM} : ev 4 50 [v0, v1, v2, v3] [] im rm = some (none, im, rm) := ev_return pm_m4 d4_50 rfl
theorem d5_0 : decode prog_2_method_5_code 0 = .ok (.aload_n 0, 1) := by decide +kernel
theorem s5_0 {v1 v2 : Value} {l1 : Nat} {st : List Value} {im : IM} {rm : RM}  : ev 5 0 [.ref l1, v1, v2] st im rm = ev 5 1 [.ref l1, v1, v2] (.ref l1 :: st) (im) (rm) := ev_aload_n pm_m5 d5_0 rfl rfl
theorem d5_1 : decode prog_2_method_5_code 1 = .ok (.getfield 43, 3) := by decide +kernel
theorem s5_1 {v0 v1 v2 : Value} {a : Nat} {st : List Value} {im : IM} {rm : RM} (hk : kd a = 10) : ev 5 1 [v0, v1, v2] (.ref a :: st) im rm = ev 5 4 [v0, v1, v2] (pm_ro (rm a 10) :: st) (im) (rm) := ev_getR pm_m5 d5_1 f0_43 rfl hk rfl
theorem d5_4 : decode prog_2_method_5_code 4 = .ok (.iload_n 1, 1) := by decide +kernel
theorem s5_4 {v0 v2 : Value} {l1 : Int32} {st : List Value} {im : IM} {rm : RM}  : ev 5 4 [v0, .int l1, v2] st im rm = ev 5 5 [v0, .int l1, v2] (.int l1 :: st) (im) (rm) := ev_iload_n pm_m5 d5_4 rfl rfl
theorem d5_5 : decode prog_2_method_5_code 5 = .ok (.iaload, 1) := by decide +kernel
theorem s5_5 {v0 v1 v2 : Value} {a : Nat} {i : Int32} {st : List Value} {im : IM} {rm : RM} (hk : kd a = 0) (hi : pm_in i (ln a) = true) : ev 5 5 [v0, v1, v2] (.int i :: .ref a :: st) im rm = ev 5 6 [v0, v1, v2] (.int (im a i.toNatClampNeg) :: st) (im) (rm) := ev_iald pm_m5 d5_5 hk hi rfl
theorem d5_6 : decode prog_2_method_5_code 6 = .ok (.aload_n 0, 1) := by decide +kernel
theorem s5_6 {v1 v2 : Value} {l1 : Nat} {st : List Value} {im : IM} {rm : RM}  : ev 5 6 [.ref l1, v1, v2] st im rm = ev 5 7 [.ref l1, v1, v2] (.ref l1 :: st) (im) (rm) := ev_aload_n pm_m5 d5_6 rfl rfl
theorem d5_7 : decode prog_2_method_5_code 7 = .ok (.getfield 28, 3) := by decide +kernel
theorem s5_7 {v0 v1 v2 : Value} {a : Nat} {st : List Value} {im : IM} {rm : RM} (hk : kd a = 10) : ev 5 7 [v0, v1, v2] (.ref a :: st) im rm = ev 5 10 [v0, v1, v2] (pm_ro (rm a 5) :: st) (im) (rm) := ev_getR pm_m5 d5_7 f0_28 rfl hk rfl
theorem d5_10 : decode prog_2_method_5_code 10 = .ok (.iload_n 1, 1) := by decide +kernel
theorem s5_10 {v0 v2 : Value} {l1 : Int32} {st : List Value} {im : IM} {rm : RM}  : ev 5 10 [v0, .int l1, v2] st im rm = ev 5 11 [v0, .int l1, v2] (.int l1 :: st) (im) (rm) := ev_iload_n pm_m5 d5_10 rfl rfl
theorem d5_11 : decode prog_2_method_5_code 11 = .ok (.iaload, 1) := by decide +kernel
theorem s5_11 {v0 v1 v2 : Value} {a : Nat} {i : Int32} {st : List Value} {im : IM} {rm : RM} (hk : kd a = 0) (hi : pm_in i (ln a) = true) : ev 5 11 [v0, v1, v2] (.int i :: .ref a :: st) im rm = ev 5 12 [v0, v1, v2] (.int (im a i.toNatClampNeg) :: st) (im) (rm) := ev_iald pm_m5 d5_11 hk hi rfl
theorem d5_12 : decode prog_2_method_5_code 12 = .ok (.bipush 8, 2) := by decide +kernel
theorem s5_12 {v0 v1 v2 : Value}  {st : List Value} {im : IM} {rm : RM}  : ev 5 12 [v0, v1, v2] st im rm = ev 5 14 [v0, v1, v2] (.int (nI 8) :: st) (im) (rm) := ev_bipush pm_m5 d5_12 rfl rfl
theorem d5_14 : decode prog_2_method_5_code 14 = .ok (.idiv, 1) := by decide +kernel
theorem s5_14 {v0 v1 v2 : Value} {x : Int32} {y : Int32} {st : List Value} {im : IM} {rm : RM} (h0 : ¬ y = 0) : ev 5 14 [v0, v1, v2] (.int y :: .int x :: st) im rm = ev 5 15 [v0, v1, v2] (.int (x / y) :: st) (im) (rm) := ev_idiv pm_m5 d5_14 h0 rfl
theorem d5_15 : decode prog_2_method_5_code 15 = .ok (.iadd, 1) := by decide +kernel
theorem s5_15 {v0 v1 v2 : Value} {x : Int32} {y : Int32} {st : List Value} {im : IM} {rm : RM}  : ev 5 15 [v0, v1, v2] (.int y :: .int x :: st) im rm = ev 5 16 [v0, v1, v2] (.int (x + y) :: st) (im) (rm) := ev_iadd pm_m5 d5_15 rfl
theorem d5_16 : decode prog_2_method_5_code 16 = .ok (.iload_n 2, 1) := by decide +kernel
theorem s5_16 {v0 v1 : Value} {l1 : Int32} {st : List Value} {im : IM} {rm : RM}  : ev 5 16 [v0, v1, .int l1] st im rm = ev 5 17 [v0, v1, .int l1] (.int l1 :: st) (im) (rm) := ev_iload_n pm_m5 d5_16 rfl rfl
theorem d5_17 : decode prog_2_method_5_code 17 = .ok (.if_icmp .le 7, 3) := by decide +kernel
theorem s5_17 {v0 v1 v2 : Value} {x : Int32} {y : Int32} {st : List Value} {im : IM} {rm : RM} : ev 5 17 [v0, v1, v2] (.int y :: .int x :: st) im rm = if x ≤ y then ev 5 24 [pm_u, pm_u, pm_u] st im rm else ev 5 20 [v0, v1, v2] st im rm := ev_icmp_le pm_m5 d5_17 rfl rfl rfl
theorem d5_20 : decode prog_2_method_5_code 20 = .ok (.iconst 1, 1) := by decide +kernel
theorem s5_20 {v0 v1 v2 : Value}  {st : List Value} {im : IM} {rm : RM}  : ev 5 20 [v0, v1, v2] st im rm = ev 5 21 [v0, v1, v2] (.int (nI 1) :: st) (im) (rm) := ev_iconst pm_m5 d5_20 rfl rfl
theorem d5_21 : decode prog_2_method_5_code 21 = .ok (.goto 4, 3) := by decide +kernel
theorem s5_21 {v0 v1 v2 : Value}  {st : List Value} {im : IM} {rm : RM}  : ev 5 21 [v0, v1, v2] st im rm = ev 5 25 [pm_u, pm_u, pm_u] st (im) (rm) := ev_goto pm_m5 d5_21 rfl rfl
theorem d5_24 : decode prog_2_method_5_code 24 = .ok (.iconst 0, 1) := by decide +kernel
theorem s5_24 {v0 v1 v2 : Value}  {st : List Value} {im : IM} {rm : RM}  : ev 5 24 [v0, v1, v2] st im rm = ev 5 25 [pm_u, pm_u, pm_u] (.int (nI 0) :: st) (im) (rm) := ev_iconst pm_m5 d5_24 rfl rfl
theorem d5_25 : decode prog_2_method_5_code 25 = .ok (.ireturn, 1) := by decide +kernel
theorem s5_25 {v0 v1 v2 : Value} {x : Int32} {im : IM} {rm : RM} (hx : x = 0 ∨ x = 1) : ev 5 25 [v0, v1, v2] [.int x] im rm = some (some (.int x), im, rm) := ev_zreturn pm_m5 d5_25 rfl hx
theorem d6_0 : decode prog_2_method_6_code 0 = .ok (.aload_n 2, 1) := by decide +kernel
theorem s6_0 {v0 v1 : Value} {l1 : Nat} {st : List Value} {im : IM} {rm : RM}  : ev 6 0 [v0, v1, .ref l1] st im rm = ev 6 1 [v0, v1, .ref l1] (.ref l1 :: st) (im) (rm) := ev_aload_n pm_m6 d6_0 rfl rfl
theorem d6_1 : decode prog_2_method_6_code 1 = .ok (.iconst 0, 1) := by decide +kernel
theorem s6_1 {v0 v1 v2 : Value}  {st : List Value} {im : IM} {rm : RM}  : ev 6 1 [v0, v1, v2] st im rm = ev 6 2 [v0, v1, v2] (.int (nI 0) :: st) (im) (rm) := ev_iconst pm_m6 d6_1 rfl rfl
theorem d6_2 : decode prog_2_method_6_code 2 = .ok (.iload_n 1, 1) := by decide +kernel
theorem s6_2 {v0 v2 : Value} {l1 : Int32} {st : List Value} {im : IM} {rm : RM}  : ev 6 2 [v0, .int l1, v2] st im rm = ev 6 3 [v0, .int l1, v2] (.int l1 :: st) (im) (rm) := ev_iload_n pm_m6 d6_2 rfl rfl
theorem d6_3 : decode prog_2_method_6_code 3 = .ok (.iastore, 1) := by decide +kernel
theorem s6_3 {v0 v1 v2 : Value} {a : Nat} {i : Int32} {v : Int32} {st : List Value} {im : IM} {rm : RM} (hk : kd a = 0) (hi : pm_in i (ln a) = true) : ev 6 3 [v0, v1, v2] (.int v :: .int i :: .ref a :: st) im rm = ev 6 4 [v0, v1, v2] st (pm_w2 im a i.toNatClampNeg v) (rm) := ev_iast pm_m6 d6_3 hk hi rfl
theorem d6_4 : decode prog_2_method_6_code 4 = .ok (.aload_n 2, 1) := by decide +kernel
theorem s6_4 {v0 v1 : Value} {l1 : Nat} {st : List Value} {im : IM} {rm : RM}  : ev 6 4 [v0, v1, .ref l1] st im rm = ev 6 5 [v0, v1, .ref l1] (.ref l1 :: st) (im) (rm) := ev_aload_n pm_m6 d6_4 rfl rfl
theorem d6_5 : decode prog_2_method_6_code 5 = .ok (.iconst 1, 1) := by decide +kernel
theorem s6_5 {v0 v1 v2 : Value}  {st : List Value} {im : IM} {rm : RM}  : ev 6 5 [v0, v1, v2] st im rm = ev 6 6 [v0, v1, v2] (.int (nI 1) :: st) (im) (rm) := ev_iconst pm_m6 d6_5 rfl rfl
theorem d6_6 : decode prog_2_method_6_code 6 = .ok (.aload_n 0, 1) := by decide +kernel
theorem s6_6 {v1 v2 : Value} {l1 : Nat} {st : List Value} {im : IM} {rm : RM}  : ev 6 6 [.ref l1, v1, v2] st im rm = ev 6 7 [.ref l1, v1, v2] (.ref l1 :: st) (im) (rm) := ev_aload_n pm_m6 d6_6 rfl rfl
theorem d6_7 : decode prog_2_method_6_code 7 = .ok (.getfield 31, 3) := by decide +kernel
theorem s6_7 {v0 v1 v2 : Value} {a : Nat} {st : List Value} {im : IM} {rm : RM} (hk : kd a = 10) : ev 6 7 [v0, v1, v2] (.ref a :: st) im rm = ev 6 10 [v0, v1, v2] (pm_ro (rm a 6) :: st) (im) (rm) := ev_getR pm_m6 d6_7 f0_31 rfl hk rfl
theorem d6_10 : decode prog_2_method_6_code 10 = .ok (.iload_n 1, 1) := by decide +kernel
theorem s6_10 {v0 v2 : Value} {l1 : Int32} {st : List Value} {im : IM} {rm : RM}  : ev 6 10 [v0, .int l1, v2] st im rm = ev 6 11 [v0, .int l1, v2] (.int l1 :: st) (im) (rm) := ev_iload_n pm_m6 d6_10 rfl rfl
theorem d6_11 : decode prog_2_method_6_code 11 = .ok (.iaload, 1) := by decide +kernel
theorem s6_11 {v0 v1 v2 : Value} {a : Nat} {i : Int32} {st : List Value} {im : IM} {rm : RM} (hk : kd a = 0) (hi : pm_in i (ln a) = true) : ev 6 11 [v0, v1, v2] (.int i :: .ref a :: st) im rm = ev 6 12 [v0, v1, v2] (.int (im a i.toNatClampNeg) :: st) (im) (rm) := ev_iald pm_m6 d6_11 hk hi rfl
theorem d6_12 : decode prog_2_method_6_code 12 = .ok (.invokestatic 46, 3) := by decide +kernel
theorem s6_12 {v0 v1 v2 : Value} {p1 : Int32} {r2 : Int32} {r3 : Nat} {im : IM} {rm : RM}  : ev 6 12 [v0, v1, v2] [.int p1, .int r2, .ref r3] im rm = (ev 174 0 [.int p1] [] im rm).bind (fun r => ev 6 15 [v0, v1, v2] (r.1.toList ++ [.int r2, .ref r3]) r.2.1 r.2.2) := ev_callS pm_m6 d6_12 (by decide) l0_46 rfl pm_m174 rfl ⟨rfl, rfl⟩ rfl rfl
theorem d6_15 : decode prog_2_method_6_code 15 = .ok (.iastore, 1) := by decide +kernel
theorem s6_15 {v0 v1 v2 : Value} {a : Nat} {i : Int32} {v : Int32} {st : List Value} {im : IM} {rm : RM} (hk : kd a = 0) (hi : pm_in i (ln a) = true) : ev 6 15 [v0, v1, v2] (.int v :: .int i :: .ref a :: st) im rm = ev 6 16 [v0, v1, v2] st (pm_w2 im a i.toNatClampNeg v) (rm) := ev_iast pm_m6 d6_15 hk hi rfl
theorem d6_16 : decode prog_2_method_6_code 16 = .ok (.aload_n 2, 1) := by decide +kernel
theorem s6_16 {v0 v1 : Value} {l1 : Nat} {st : List Value} {im : IM} {rm : RM}  : ev 6 16 [v0, v1, .ref l1] st im rm = ev 6 17 [v0, v1, .ref l1] (.ref l1 :: st) (im) (rm) := ev_aload_n pm_m6 d6_16 rfl rfl
theorem d6_17 : decode prog_2_method_6_code 17 = .ok (.iconst 2, 1) := by decide +kernel
theorem s6_17 {v0 v1 v2 : Value}  {st : List Value} {im : IM} {rm : RM}  : ev 6 17 [v0, v1, v2] st im rm = ev 6 18 [v0, v1, v2] (.int (nI 2) :: st) (im) (rm) := ev_iconst pm_m6 d6_17 rfl rfl
theorem d6_18 : decode prog_2_method_6_code 18 = .ok (.aload_n 0, 1) := by decide +kernel
theorem s6_18 {v1 v2 : Value} {l1 : Nat} {st : List Value} {im : IM} {rm : RM}  : ev 6 18 [.ref l1, v1, v2] st im rm = ev 6 19 [.ref l1, v1, v2] (.ref l1 :: st) (im) (rm) := ev_aload_n pm_m6 d6_18 rfl rfl
theorem d6_19 : decode prog_2_method_6_code 19 = .ok (.getfield 40, 3) := by decide +kernel
theorem s6_19 {v0 v1 v2 : Value} {a : Nat} {st : List Value} {im : IM} {rm : RM} (hk : kd a = 10) : ev 6 19 [v0, v1, v2] (.ref a :: st) im rm = ev 6 22 [v0, v1, v2] (pm_ro (rm a 9) :: st) (im) (rm) := ev_getR pm_m6 d6_19 f0_40 rfl hk rfl
theorem d6_22 : decode prog_2_method_6_code 22 = .ok (.iload_n 1, 1) := by decide +kernel
theorem s6_22 {v0 v2 : Value} {l1 : Int32} {st : List Value} {im : IM} {rm : RM}  : ev 6 22 [v0, .int l1, v2] st im rm = ev 6 23 [v0, .int l1, v2] (.int l1 :: st) (im) (rm) := ev_iload_n pm_m6 d6_22 rfl rfl
theorem d6_23 : decode prog_2_method_6_code 23 = .ok (.iaload, 1) := by decide +kernel
theorem s6_23 {v0 v1 v2 : Value} {a : Nat} {i : Int32} {st : List Value} {im : IM} {rm : RM} (hk : kd a = 0) (hi : pm_in i (ln a) = true) : ev 6 23 [v0, v1, v2] (.int i :: .ref a :: st) im rm = ev 6 24 [v0, v1, v2] (.int (im a i.toNatClampNeg) :: st) (im) (rm) := ev_iald pm_m6 d6_23 hk hi rfl
theorem d6_24 : decode prog_2_method_6_code 24 = .ok (.iastore, 1) := by decide +kernel
theorem s6_24 {v0 v1 v2 : Value} {a : Nat} {i : Int32} {v : Int32} {st : List Value} {im : IM} {rm : RM} (hk : kd a = 0) (hi : pm_in i (ln a) = true) : ev 6 24 [v0, v1, v2] (.int v :: .int i :: .ref a :: st) im rm = ev 6 25 [v0, v1, v2] st (pm_w2 im a i.toNatClampNeg v) (rm) := ev_iast pm_m6 d6_24 hk hi rfl
theorem d6_25 : decode prog_2_method_6_code 25 = .ok (.aload_n 2, 1) := by decide +kernel
theorem s6_25 {v0 v1 : Value} {l1 : Nat} {st : List Value} {im : IM} {rm : RM}  : ev 6 25 [v0, v1, .ref l1] st im rm = ev 6 26 [v0, v1, .ref l1] (.ref l1 :: st) (im) (rm) := ev_aload_n pm_m6 d6_25 rfl rfl
theorem d6_26 : decode prog_2_method_6_code 26 = .ok (.iconst 3, 1) := by decide +kernel
theorem s6_26 {v0 v1 v2 : Value}  {st : List Value} {im : IM} {rm : RM}  : ev 6 26 [v0, v1, v2] st im rm = ev 6 27 [v0, v1, v2] (.int (nI 3) :: st) (im) (rm) := ev_iconst pm_m6 d6_26 rfl rfl
theorem d6_27 : decode prog_2_method_6_code 27 = .ok (.aload_n 0, 1) := by decide +kernel
theorem s6_27 {v1 v2 : Value} {l1 : Nat} {st : List Value} {im : IM} {rm : RM}  : ev 6 27 [.ref l1, v1, v2] st im rm = ev 6 28 [.ref l1, v1, v2] (.ref l1 :: st) (im) (rm) := ev_aload_n pm_m6 d6_27 rfl rfl
theorem d6_28 : decode prog_2_method_6_code 28 = .ok (.getfield 34, 3) := by decide +kernel
theorem s6_28 {v0 v1 v2 : Value} {a : Nat} {st : List Value} {im : IM} {rm : RM} (hk : kd a = 10) : ev 6 28 [v0, v1, v2] (.ref a :: st) im rm = ev 6 31 [v0, v1, v2] (pm_ro (rm a 7) :: st) (im) (rm) := ev_getR pm_m6 d6_28 f0_34 rfl hk rfl
theorem d6_31 : decode prog_2_method_6_code 31 = .ok (.iload_n 1, 1) := by decide +kernel
theorem s6_31 {v0 v2 : Value} {l1 : Int32} {st : List Value} {im : IM} {rm : RM}  : ev 6 31 [v0, .int l1, v2] st im rm = ev 6 32 [v0, .int l1, v2] (.int l1 :: st) (im) (rm) := ev_iload_n pm_m6 d6_31 rfl rfl
theorem d6_32 : decode prog_2_method_6_code 32 = .ok (.iaload, 1) := by decide +kernel
theorem s6_32 {v0 v1 v2 : Value} {a : Nat} {i : Int32} {st : List Value} {im : IM} {rm : RM} (hk : kd a = 0) (hi : pm_in i (ln a) = true) : ev 6 32 [v0, v1, v2] (.int i :: .ref a :: st) im rm = ev 6 33 [v0, v1, v2] (.int (im a i.toNatClampNeg) :: st) (im) (rm) := ev_iald pm_m6 d6_32 hk hi rfl
theorem d6_33 : decode prog_2_method_6_code 33 = .ok (.iastore, 1) := by decide +kernel
theorem s6_33 {v0 v1 v2 : Value} {a : Nat} {i : Int32} {v : Int32} {st : List Value} {im : IM} {rm : RM} (hk : kd a = 0) (hi : pm_in i (ln a) = true) : ev 6 33 [v0, v1, v2] (.int v :: .int i :: .ref a :: st) im rm = ev 6 34 [v0, v1, v2] st (pm_w2 im a i.toNatClampNeg v) (rm) := ev_iast pm_m6 d6_33 hk hi rfl
theorem d6_34 : decode prog_2_method_6_code 34 = .ok (.aload_n 2, 1) := by decide +kernel
theorem s6_34 {v0 v1 : Value} {l1 : Nat} {st : List Value} {im : IM} {rm : RM}  : ev 6 34 [v0, v1, .ref l1] st im rm = ev 6 35 [v0, v1, .ref l1] (.ref l1 :: st) (im) (rm) := ev_aload_n pm_m6 d6_34 rfl rfl
theorem d6_35 : decode prog_2_method_6_code 35 = .ok (.iconst 4, 1) := by decide +kernel
theorem s6_35 {v0 v1 v2 : Value}  {st : List Value} {im : IM} {rm : RM}  : ev 6 35 [v0, v1, v2] st im rm = ev 6 36 [v0, v1, v2] (.int (nI 4) :: st) (im) (rm) := ev_iconst pm_m6 d6_35 rfl rfl
theorem d6_36 : decode prog_2_method_6_code 36 = .ok (.aload_n 0, 1) := by decide +kernel
theorem s6_36 {v1 v2 : Value} {l1 : Nat} {st : List Value} {im : IM} {rm : RM}  : ev 6 36 [.ref l1, v1, v2] st im rm = ev 6 37 [.ref l1, v1, v2] (.ref l1 :: st) (im) (rm) := ev_aload_n pm_m6 d6_36 rfl rfl
theorem d6_37 : decode prog_2_method_6_code 37 = .ok (.getfield 37, 3) := by decide +kernel
theorem s6_37 {v0 v1 v2 : Value} {a : Nat} {st : List Value} {im : IM} {rm : RM} (hk : kd a = 10) : ev 6 37 [v0, v1, v2] (.ref a :: st) im rm = ev 6 40 [v0, v1, v2] (pm_ro (rm a 8) :: st) (im) (rm) := ev_getR pm_m6 d6_37 f0_37 rfl hk rfl
theorem d6_40 : decode prog_2_method_6_code 40 = .ok (.iload_n 1, 1) := by decide +kernel
theorem s6_40 {v0 v2 : Value} {l1 : Int32} {st : List Value} {im : IM} {rm : RM}  : ev 6 40 [v0, .int l1, v2] st im rm = ev 6 41 [v0, .int l1, v2] (.int l1 :: st) (im) (rm) := ev_iload_n pm_m6 d6_40 rfl rfl
theorem d6_41 : decode prog_2_method_6_code 41 = .ok (.iaload, 1) := by decide +kernel
theorem s6_41 {v0 v1 v2 : Value} {a : Nat} {i : Int32} {st : List Value} {im : IM} {rm : RM} (hk : kd a = 0) (hi : pm_in i (ln a) = true) : ev 6 41 [v0, v1, v2] (.int i :: .ref a :: st) im rm = ev 6 42 [v0, v1, v2] (.int (im a i.toNatClampNeg) :: st) (im) (rm) := ev_iald pm_m6 d6_41 hk hi rfl
theorem d6_42 : decode prog_2_method_6_code 42 = .ok (.iastore, 1) := by decide +kernel
theorem s6_42 {v0 v1 v2 : Value} {a : Nat} {i : Int32} {v : Int32} {st : List Value} {im : IM} {rm : RM} (hk : kd a = 0) (hi : pm_in i (ln a) = true) : ev 6 42 [v0, v1, v2] (.int v :: .int i :: .ref a :: st) im rm = ev 6 43 [v0, v1, v2] st (pm_w2 im a i.toNatClampNeg v) (rm) := ev_iast pm_m6 d6_42 hk hi rfl
theorem d6_43 : decode prog_2_method_6_code 43 = .ok (.aload_n 2, 1) := by decide +kernel
theorem s6_43 {v0 v1 : Value} {l1 : Nat} {st : List Value} {im : IM} {rm : RM}  : ev 6 43 [v0, v1, .ref l1] st im rm = ev 6 44 [v0, v1, .ref l1] (.ref l1 :: st) (im) (rm) := ev_aload_n pm_m6 d6_43 rfl rfl
theorem d6_44 : decode prog_2_method_6_code 44 = .ok (.iconst 5, 1) := by decide +kernel
theorem s6_44 {v0 v1 v2 : Value}  {st : List Value} {im : IM} {rm : RM}  : ev 6 44 [v0, v1, v2] st im rm = ev 6 45 [v0, v1, v2] (.int (nI 5) :: st) (im) (rm) := ev_iconst pm_m6 d6_44 rfl rfl
theorem d6_45 : decode prog_2_method_6_code 45 = .ok (.aload_n 0, 1) := by decide +kernel
theorem s6_45 {v1 v2 : Value} {l1 : Nat} {st : List Value} {im : IM} {rm : RM}  : ev 6 45 [.ref l1, v1, v2] st im rm = ev 6 46 [.ref l1, v1, v2] (.ref l1 :: st) (im) (rm) := ev_aload_n pm_m6 d6_45 rfl rfl
theorem d6_46 : decode prog_2_method_6_code 46 = .ok (.getfield 24, 3) := by decide +kernel
theorem s6_46 {v0 v1 v2 : Value} {a : Nat} {st : List Value} {im : IM} {rm : RM} (hk : kd a = 10) : ev 6 46 [v0, v1, v2] (.ref a :: st) im rm = ev 6 49 [v0, v1, v2] (pm_ro (rm a 4) :: st) (im) (rm) := ev_getR pm_m6 d6_46 f0_24 rfl hk rfl
theorem d6_49 : decode prog_2_method_6_code 49 = .ok (.iload_n 1, 1) := by decide +kernel
theorem s6_49 {v0 v2 : Value} {l1 : Int32} {st : List Value} {im : IM} {rm : RM}  : ev 6 49 [v0, .int l1, v2] st im rm = ev 6 50 [v0, .int l1, v2] (.int l1 :: st) (im) (rm) := ev_iload_n pm_m6 d6_49 rfl rfl
theorem d6_50 : decode prog_2_method_6_code 50 = .ok (.iaload, 1) := by decide +kernel
theorem s6_50 {v0 v1 v2 : Value} {a : Nat} {i : Int32} {st : List Value} {im : IM} {rm : RM} (hk : kd a = 0) (hi : pm_in i (ln a) = true) : ev 6 50 [v0, v1, v2] (.int i :: .ref a :: st) im rm = ev 6 51 [v0, v1, v2] (.int (im a i.toNatClampNeg) :: st) (im) (rm) := ev_iald pm_m6 d6_50 hk hi rfl
theorem d6_51 : decode prog_2_method_6_code 51 = .ok (.iastore, 1) := by decide +kernel
theorem s6_51 {v0 v1 v2 : Value} {a : Nat} {i : Int32} {v : Int32} {st : List Value} {im : IM} {rm : RM} (hk : kd a = 0) (hi : pm_in i (ln a) = true) : ev 6 51 [v0, v1, v2] (.int v :: .int i :: .ref a :: st) im rm = ev 6 52 [v0, v1, v2] st (pm_w2 im a i.toNatClampNeg v) (rm) := ev_iast pm_m6 d6_51 hk hi rfl
theorem d6_52 : decode prog_2_method_6_code 52 = .ok (.aload_n 2, 1) := by decide +kernel
theorem s6_52 {v0 v1 : Value} {l1 : Nat} {st : List Value} {im : IM} {rm : RM}  : ev 6 52 [v0, v1, .ref l1] st im rm = ev 6 53 [v0, v1, .ref l1] (.ref l1 :: st) (im) (rm) := ev_aload_n pm_m6 d6_52 rfl rfl
theorem d6_53 : decode prog_2_method_6_code 53 = .ok (.bipush 6, 2) := by decide +kernel
theorem s6_53 {v0 v1 v2 : Value}  {st : List Value} {im : IM} {rm : RM}  : ev 6 53 [v0, v1, v2] st im rm = ev 6 55 [v0, v1, v2] (.int (nI 6) :: st) (im) (rm) := ev_bipush pm_m6 d6_53 rfl rfl
theorem d6_55 : decode prog_2_method_6_code 55 = .ok (.aload_n 0, 1) := by decide +kernel
theorem s6_55 {v1 v2 : Value} {l1 : Nat} {st : List Value} {im : IM} {rm : RM}  : ev 6 55 [.ref l1, v1, v2] st im rm = ev 6 56 [.ref l1, v1, v2] (.ref l1 :: st) (im) (rm) := ev_aload_n pm_m6 d6_55 rfl rfl
theorem d6_56 : decode prog_2_method_6_code 56 = .ok (.getfield 28, 3) := by decide +kernel
theorem s6_56 {v0 v1 v2 : Value} {a : Nat} {st : List Value} {im : IM} {rm : RM} (hk : kd a = 10) : ev 6 56 [v0, v1, v2] (.ref a :: st) im rm = ev 6 59 [v0, v1, v2] (pm_ro (rm a 5) :: st) (im) (rm) := ev_getR pm_m6 d6_56 f0_28 rfl hk rfl
theorem d6_59 : decode prog_2_method_6_code 59 = .ok (.iload_n 1, 1) := by decide +kernel
theorem s6_59 {v0 v2 : Value} {l1 : Int32} {st : List Value} {im : IM} {rm : RM}  : ev 6 59 [v0, .int l1, v2] st im rm = ev 6 60 [v0, .int l1, v2] (.int l1 :: st) (im) (rm) := ev_iload_n pm_m6 d6_59 rfl rfl
theorem d6_60 : decode prog_2_method_6_code 60 = .ok (.iaload, 1) := by decide +kernel
theorem s6_60 {v0 v1 v2 : Value} {a : Nat} {i : Int32} {st : List Value} {im : IM} {rm : RM} (hk : kd a = 0) (hi : pm_in i (ln a) = true) : ev 6 60 [v0, v1, v2] (.int i :: .ref a :: st) im rm = ev 6 61 [v0, v1, v2] (.int (im a i.toNatClampNeg) :: st) (im) (rm) := ev_iald pm_m6 d6_60 hk hi rfl
theorem d6_61 : decode prog_2_method_6_code 61 = .ok (.iastore, 1) := by decide +kernel
theorem s6_61 {v0 v1 v2 : Value} {a : Nat} {i : Int32} {v : Int32} {st : List Value} {im : IM} {rm : RM} (hk : kd a = 0) (hi : pm_in i (ln a) = true) : ev 6 61 [v0, v1, v2] (.int v :: .int i :: .ref a :: st) im rm = ev 6 62 [v0, v1, v2] st (pm_w2 im a i.toNatClampNeg v) (rm) := ev_iast pm_m6 d6_61 hk hi rfl
theorem d6_62 : decode prog_2_method_6_code 62 = .ok (.aload_n 2, 1) := by decide +kernel
theorem s6_62 {v0 v1 : Value} {l1 : Nat} {st : List Value} {im : IM} {rm : RM}  : ev 6 62 [v0, v1, .ref l1] st im rm = ev 6 63 [v0, v1, .ref l1] (.ref l1 :: st) (im) (rm) := ev_aload_n pm_m6 d6_62 rfl rfl
theorem d6_63 : decode prog_2_method_6_code 63 = .ok (.bipush 7, 2) := by decide +kernel
theorem s6_63 {v0 v1 v2 : Value}  {st : List Value} {im : IM} {rm : RM}  : ev 6 63 [v0, v1, v2] st im rm = ev 6 65 [v0, v1, v2] (.int (nI 7) :: st) (im) (rm) := ev_bipush pm_m6 d6_63 rfl rfl
theorem d6_65 : decode prog_2_method_6_code 65 = .ok (.aload_n 0, 1) := by decide +kernel
theorem s6_65 {v1 v2 : Value} {l1 : Nat} {st : List Value} {im : IM} {rm : RM}  : ev 6 65 [.ref l1, v1, v2] st im rm = ev 6 66 [.ref l1, v1, v2] (.ref l1 :: st) (im) (rm) := ev_aload_n pm_m6 d6_65 rfl rfl
theorem d6_66 : decode prog_2_method_6_code 66 = .ok (.getfield 43, 3) := by decide +kernel
theorem s6_66 {v0 v1 v2 : Value} {a : Nat} {st : List Value} {im : IM} {rm : RM} (hk : kd a = 10) : ev 6 66 [v0, v1, v2] (.ref a :: st) im rm = ev 6 69 [v0, v1, v2] (pm_ro (rm a 10) :: st) (im) (rm) := ev_getR pm_m6 d6_66 f0_43 rfl hk rfl
theorem d6_69 : decode prog_2_method_6_code 69 = .ok (.iload_n 1, 1) := by decide +kernel
theorem s6_69 {v0 v2 : Value} {l1 : Int32} {st : List Value} {im : IM} {rm : RM}  : ev 6 69 [v0, .int l1, v2] st im rm = ev 6 70 [v0, .int l1, v2] (.int l1 :: st) (im) (rm) := ev_iload_n pm_m6 d6_69 rfl rfl
theorem d6_70 : decode prog_2_method_6_code 70 = .ok (.iaload, 1) := by decide +kernel
theorem s6_70 {v0 v1 v2 : Value} {a : Nat} {i : Int32} {st : List Value} {im : IM} {rm : RM} (hk : kd a = 0) (hi : pm_in i (ln a) = true) : ev 6 70 [v0, v1, v2] (.int i :: .ref a :: st) im rm = ev 6 71 [v0, v1, v2] (.int (im a i.toNatClampNeg) :: st) (im) (rm) := ev_iald pm_m6 d6_70 hk hi rfl
theorem d6_71 : decode prog_2_method_6_code 71 = .ok (.iastore, 1) := by decide +kernel
theorem s6_71 {v0 v1 v2 : Value} {a : Nat} {i : Int32} {v : Int32} {st : List Value} {im : IM} {rm : RM} (hk : kd a = 0) (hi : pm_in i (ln a) = true) : ev 6 71 [v0, v1, v2] (.int v :: .int i :: .ref a :: st) im rm = ev 6 72 [v0, v1, v2] st (pm_w2 im a i.toNatClampNeg v) (rm) := ev_iast pm_m6 d6_71 hk hi rfl
theorem d6_72 : decode prog_2_method_6_code 72 = .ok (.return_, 1) := by decide +kernel
theorem s6_72 {v0 v1 v2 : Value} {im : IM} {rm : RM} : ev 6 72 [v0, v1, v2] [] im rm = some (none, im, rm) := ev_return pm_m6 d6_72 rfl
theorem d8_0 : decode prog_3_method_2_code 0 = .ok (.iconst (-1), 1) := by decide +kernel
theorem s8_0 {v0 v1 v2 : Value}  {st : List Value} {im : IM} {rm : RM}  : ev 8 0 [v0, v1, v2] st im rm = ev 8 1 [v0, v1, v2] (.int ((-1 : Int32)) :: st) (im) (rm) := ev_iconst pm_m8 d8_0 rfl rfl
theorem d8_1 : decode prog_3_method_2_code 1 = .ok (.istore_n 1, 1) := by decide +kernel
theorem s8_1 {v1 v2 : Value} {l1 : Nat} {x2 : Int32} {st : List Value} {im : IM} {rm : RM}  : ev 8 1 [.ref l1, v1, v2] (.int x2 :: st) im rm = ev 8 2 [.ref l1, .int x2, v2] st (im) (rm) := ev_istore_n pm_m8 d8_1 (Nat.le_of_ble_eq_true rfl) rfl rfl
theorem d8_2 : decode prog_3_method_2_code 2 = .ok (.iconst 0, 1) := by decide +kernel
theorem s8_2 {v0 v1 v2 : Value}  {st : List Value} {im : IM} {rm : RM}  : ev 8 2 [v0, v1, v2] st im rm = ev 8 3 [v0, v1, v2] (.int (nI 0) :: st) (im) (rm) := ev_iconst pm_m8 d8_2 rfl rfl
theorem d8_3 : decode prog_3_method_2_code 3 = .ok (.istore_n 2, 1) := by decide +kernel
theorem s8_3 {v0 v2 : Value} {l1 : Int32} {x2 : Int32} {st : List Value} {im : IM} {rm : RM}  : ev 8 3 [v0, .int l1, v2] (.int x2 :: st) im rm = ev 8 4 [v0, .int l1, .int x2] st (im) (rm) := ev_istore_n pm_m8 d8_3 (Nat.le_of_ble_eq_true rfl) rfl rfl
theorem d8_4 : decode prog_3_method_2_code 4 = .ok (.iload_n 2, 1) := by decide +kernel
theorem s8_4 {v0 v1 : Value} {l1 : Int32} {st : List Value} {im : IM} {rm : RM}  : ev 8 4 [v0, v1, .int l1] st im rm = ev 8 5 [v0, v1, .int l1] (.int l1 :: st) (im) (rm) := ev_iload_n pm_m8 d8_4 rfl rfl
theorem d8_5 : decode prog_3_method_2_code 5 = .ok (.aload_n 0, 1) := by decide +kernel
theorem s8_5 {v1 v2 : Value} {l1 : Nat} {st : List Value} {im : IM} {rm : RM}  : ev 8 5 [.ref l1, v1, v2] st im rm = ev 8 6 [.ref l1, v1, v2] (.ref l1 :: st) (im) (rm) := ev_aload_n pm_m8 d8_5 rfl rfl
theorem d8_6 : decode prog_3_method_2_code 6 = .ok (.getfield 9, 3) := by decide +kernel
theorem s8_6 {v0 v1 v2 : Value} {a : Nat} {st : List Value} {im : IM} {rm : RM} (hk : kd a = 11) : ev 8 6 [v0, v1, v2] (.ref a :: st) im rm = ev 8 9 [v0, v1, v2] (.int (im a 0) :: st) (im) (rm) := ev_getI pm_m8 d8_6 f1_9 rfl hk rfl
theorem d8_9 : decode prog_3_method_2_code 9 = .ok (.if_icmp .ge 40, 3) := by decide +kernel
theorem s8_9 {v0 v1 v2 : Value} {x : Int32} {y : Int32} {st : List Value} {im : IM} {rm : RM} : ev 8 9 [v0, v1, v2] (.int y :: .int x :: st) im rm = if y ≤ x then ev 8 49 [pm_u, v1, pm_u] st im rm else ev 8 12 [v0, v1, v2] st im rm := ev_icmp_ge pm_m8 d8_9 rfl rfl rfl
theorem d8_12 : decode prog_3_method_2_code 12 = .ok (.aload_n 0, 1) := by decide +kernel
theorem s8_12 {v1 v2 : Value} {l1 : Nat} {st : List Value} {im : IM} {rm : RM}  : ev 8 12 [.ref l1, v1, v2] st im rm = ev 8 13 [.ref l1, v1, v2] (.ref l1 :: st) (im) (rm) := ev_aload_n pm_m8 d8_12 rfl rfl
theorem d8_13 : decode prog_3_method_2_code 13 = .ok (.getfield 15, 3) := by decide +kernel
theorem s8_13 {v0 v1 v2 : Value} {a : Nat} {st : List Value} {im : IM} {rm : RM} (hk : kd a = 11) : ev 8 13 [v0, v1, v2] (.ref a :: st) im rm = ev 8 16 [v0, v1, v2] (pm_ro (rm a 1) :: st) (im) (rm) := ev_getR pm_m8 d8_13 f1_15 rfl hk rfl
theorem d8_16 : decode prog_3_method_2_code 16 = .ok (.iload_n 2, 1) := by decide +kernel
theorem s8_16 {v0 v1 : Value} {l1 : Int32} {st : List Value} {im : IM} {rm : RM}  : ev 8 16 [v0, v1, .int l1] st im rm = ev 8 17 [v0, v1, .int l1] (.int l1 :: st) (im) (rm) := ev_iload_n pm_m8 d8_16 rfl rfl
theorem d8_17 : decode prog_3_method_2_code 17 = .ok (.iaload, 1) := by decide +kernel
theorem s8_17 {v0 v1 v2 : Value} {a : Nat} {i : Int32} {st : List Value} {im : IM} {rm : RM} (hk : kd a = 0) (hi : pm_in i (ln a) = true) : ev 8 17 [v0, v1, v2] (.int i :: .ref a :: st) im rm = ev 8 18 [v0, v1, v2] (.int (im a i.toNatClampNeg) :: st) (im) (rm) := ev_iald pm_m8 d8_17 hk hi rfl
theorem d8_18 : decode prog_3_method_2_code 18 = .ok (.ifCond .ne 25, 3) := by decide +kernel
theorem s8_18 {v0 v1 v2 : Value} {x : Int32} {st : List Value} {im : IM} {rm : RM} : ev 8 18 [v0, v1, v2] (.int x :: st) im rm = if x = nI 0 then ev 8 21 [v0, v1, v2] st im rm else ev 8 43 [v0, v1, v2] st im rm := ev_if_ne (y := 0) pm_m8 d8_18 rfl rfl rfl
theorem d8_21 : decode prog_3_method_2_code 21 = .ok (.iload_n 1, 1) := by decide +kernel
theorem s8_21 {v0 v2 : Value} {l1 : Int32} {st : List Value} {im : IM} {rm : RM}  : ev 8 21 [v0, .int l1, v2] st im rm = ev 8 22 [v0, .int l1, v2] (.int l1 :: st) (im) (rm) := ev_iload_n pm_m8 d8_21 rfl rfl
theorem d8_22 : decode prog_3_method_2_code 22 = .ok (.iconst (-1), 1) := by decide +kernel
theorem s8_22 {v0 v1 v2 : Value}  {st : List Value} {im : IM} {rm : RM}  : ev 8 22 [v0, v1, v2] st im rm = ev 8 23 [v0, v1, v2] (.int ((-1 : Int32)) :: st) (im) (rm) := ev_iconst pm_m8 d8_22 rfl rfl
theorem d8_23 : decode prog_3_method_2_code 23 = .ok (.if_icmp .eq 13, 3) := by decide +kernel
theorem s8_23 {v0 v1 v2 : Value} {x : Int32} {y : Int32} {st : List Value} {im : IM} {rm : RM} : ev 8 23 [v0, v1, v2] (.int y :: .int x :: st) im rm = if x = y then ev 8 36 [v0, pm_u, v2] st im rm else ev 8 26 [v0, v1, v2] st im rm := ev_icmp_eq pm_m8 d8_23 rfl rfl rfl
theorem d8_26 : decode prog_3_method_2_code 26 = .ok (.aload_n 0, 1) := by decide +kernel
theorem s8_26 {v1 v2 : Value} {l1 : Nat} {st : List Value} {im : IM} {rm : RM}  : ev 8 26 [.ref l1, v1, v2] st im rm = ev 8 27 [.ref l1, v1, v2] (.ref l1 :: st) (im) (rm) := ev_aload_n pm_m8 d8_26 rfl rfl
theorem d8_27 : decode prog_3_method_2_code 27 = .ok (.getfield 19, 3) := by decide +kernel
theorem s8_27 {v0 v1 v2 : Value} {a : Nat} {st : List Value} {im : IM} {rm : RM} (hk : kd a = 11) : ev 8 27 [v0, v1, v2] (.ref a :: st) im rm = ev 8 30 [v0, v1, v2] (pm_ro (rm a 2) :: st) (im) (rm) := ev_getR pm_m8 d8_27 f1_19 rfl hk rfl
theorem d8_30 : decode prog_3_method_2_code 30 = .ok (.iload_n 2, 1) := by decide +kernel
theorem s8_30 {v0 v1 : Value} {l1 : Int32} {st : List Value} {im : IM} {rm : RM}  : ev 8 30 [v0, v1, .int l1] st im rm = ev 8 31 [v0, v1, .int l1] (.int l1 :: st) (im) (rm) := ev_iload_n pm_m8 d8_30 rfl rfl
theorem d8_31 : decode prog_3_method_2_code 31 = .ok (.iaload, 1) := by decide +kernel
theorem s8_31 {v0 v1 v2 : Value} {a : Nat} {i : Int32} {st : List Value} {im : IM} {rm : RM} (hk : kd a = 0) (hi : pm_in i (ln a) = true) : ev 8 31 [v0, v1, v2] (.int i :: .ref a :: st) im rm = ev 8 32 [v0, v1, v2] (.int (im a i.toNatClampNeg) :: st) (im) (rm) := ev_iald pm_m8 d8_31 hk hi rfl
theorem d8_32 : decode prog_3_method_2_code 32 = .ok (.iload_n 1, 1) := by decide +kernel
theorem s8_32 {v0 v2 : Value} {l1 : Int32} {st : List Value} {im : IM} {rm : RM}  : ev 8 32 [v0, .int l1, v2] st im rm = ev 8 33 [v0, .int l1, v2] (.int l1 :: st) (im) (rm) := ev_iload_n pm_m8 d8_32 rfl rfl
theorem d8_33 : decode prog_3_method_2_code 33 = .ok (.if_icmp .ge 10, 3) := by decide +kernel
theorem s8_33 {v0 v1 v2 : Value} {x : Int32} {y : Int32} {st : List Value} {im : IM} {rm : RM} : ev 8 33 [v0, v1, v2] (.int y :: .int x :: st) im rm = if y ≤ x then ev 8 43 [v0, v1, v2] st im rm else ev 8 36 [v0, pm_u, v2] st im rm := ev_icmp_ge pm_m8 d8_33 rfl rfl rfl
theorem d8_36 : decode prog_3_method_2_code 36 = .ok (.aload_n 0, 1) := by decide +kernel
theorem s8_36 {v1 v2 : Value} {l1 : Nat} {st : List Value} {im : IM} {rm : RM}  : ev 8 36 [.ref l1, v1, v2] st im rm = ev 8 37 [.ref l1, v1, v2] (.ref l1 :: st) (im) (rm) := ev_aload_n pm_m8 d8_36 rfl rfl
theorem d8_37 : decode prog_3_method_2_code 37 = .ok (.getfield 19, 3) := by decide +kernel
theorem s8_37 {v0 v1 v2 : Value} {a : Nat} {st : List Value} {im : IM} {rm : RM} (hk : kd a = 11) : ev 8 37 [v0, v1, v2] (.ref a :: st) im rm = ev 8 40 [v0, v1, v2] (pm_ro (rm a 2) :: st) (im) (rm) := ev_getR pm_m8 d8_37 f1_19 rfl hk rfl
theorem d8_40 : decode prog_3_method_2_code 40 = .ok (.iload_n 2, 1) := by decide +kernel
theorem s8_40 {v0 v1 : Value} {l1 : Int32} {st : List Value} {im : IM} {rm : RM}  : ev 8 40 [v0, v1, .int l1] st im rm = ev 8 41 [v0, v1, .int l1] (.int l1 :: st) (im) (rm) := ev_iload_n pm_m8 d8_40 rfl rfl
theorem d8_41 : decode prog_3_method_2_code 41 = .ok (.iaload, 1) := by decide +kernel
theorem s8_41 {v0 v1 v2 : Value} {a : Nat} {i : Int32} {st : List Value} {im : IM} {rm : RM} (hk : kd a = 0) (hi : pm_in i (ln a) = true) : ev 8 41 [v0, v1, v2] (.int i :: .ref a :: st) im rm = ev 8 42 [v0, v1, v2] (.int (im a i.toNatClampNeg) :: st) (im) (rm) := ev_iald pm_m8 d8_41 hk hi rfl
theorem d8_42 : decode prog_3_method_2_code 42 = .ok (.istore_n 1, 1) := by decide +kernel
theorem s8_42 {v1 v2 : Value} {l1 : Nat} {x2 : Int32} {st : List Value} {im : IM} {rm : RM}  : ev 8 42 [.ref l1, v1, v2] (.int x2 :: st) im rm = ev 8 43 [.ref l1, .int x2, v2] st (im) (rm) := ev_istore_n pm_m8 d8_42 (Nat.le_of_ble_eq_true rfl) rfl rfl
theorem d8_43 : decode prog_3_method_2_code 43 = .ok (.iinc 2 1, 3) := by decide +kernel
theorem s8_43 {v0 : Value} {l1 : Int32} {l2 : Int32} {st : List Value} {im : IM} {rm : RM}  : ev 8 43 [v0, .int l1, .int l2] st im rm = ev 8 46 [v0, .int l1, .int (l2 + nI 1)] st (im) (rm) := ev_iinc pm_m8 d8_43 rfl rfl rfl rfl
theorem d8_46 : decode prog_3_method_2_code 46 = .ok (.goto (-42), 3) := by decide +kernel
theorem s8_46 {v0 v1 v2 : Value}  {st : List Value} {im : IM} {rm : RM}  : ev 8 46 [v0, v1, v2] st im rm = ev 8 4 [v0, v1, v2] st (im) (rm) := ev_goto pm_m8 d8_46 rfl rfl
theorem d8_49 : decode prog_3_method_2_code 49 = .ok (.iload_n 1, 1) := by decide +kernel
theorem s8_49 {v0 v2 : Value} {l1 : Int32} {st : List Value} {im : IM} {rm : RM}  : ev 8 49 [v0, .int l1, v2] st im rm = ev 8 50 [v0, .int l1, v2] (.int l1 :: st) (im) (rm) := ev_iload_n pm_m8 d8_49 rfl rfl
theorem d8_50 : decode prog_3_method_2_code 50 = .ok (.ireturn, 1) := by decide +kernel
theorem s8_50 {v0 v1 v2 : Value} {x : Int32} {im : IM} {rm : RM} : ev 8 50 [v0, v1, v2] [.int x] im rm = some (some (.int x), im, rm) := ev_ireturn pm_m8 d8_50 rfl
theorem d10_0 : decode prog_4_method_2_code 0 = .ok (.aload_n 0, 1) := by decide +kernel
theorem s10_0 {v1 v2 v3 : Value} {l1 : Nat} {st : List Value} {im : IM} {rm : RM}  : ev 10 0 [.ref l1, v1, v2, v3] st im rm = ev 10 1 [.ref l1, v1, v2, v3] (.ref l1 :: st) (im) (rm) := ev_aload_n pm_m10 d10_0 rfl rfl
theorem d10_1 : decode prog_4_method_2_code 1 = .ok (.getfield 9, 3) := by decide +kernel
theorem s10_1 {v0 v1 v2 v3 : Value} {a : Nat} {st : List Value} {im : IM} {rm : RM} (hk : kd a = 12) : ev 10 1 [v0, v1, v2, v3] (.ref a :: st) im rm = ev 10 4 [v0, v1, v2, v3] (.int (im a 0) :: st) (im) (rm) := ev_getI pm_m10 d10_1 f2_9 rfl hk rfl
theorem d10_4 : decode prog_4_method_2_code 4 = .ok (.bipush 20, 2) := by decide +kernel
theorem s10_4 {v0 v1 v2 v3 : Value}  {st : List Value} {im : IM} {rm : RM}  : ev 10 4 [v0, v1, v2, v3] st im rm = ev 10 6 [v0, v1, v2, v3] (.int (nI 20) :: st) (im) (rm) := ev_bipush pm_m10 d10_4 rfl rfl
theorem d10_6 : decode prog_4_method_2_code 6 = .ok (.if_icmp .lt 4, 3) := by decide +kernel
theorem s10_6 {v0 v1 v2 v3 : Value} {x : Int32} {y : Int32} {st : List Value} {im : IM} {rm : RM} : ev 10 6 [v0, v1, v2, v3] (.int y :: .int x :: st) im rm = if x < y then ev 10 10 [v0, v1, v2, v3] st im rm else ev 10 9 [v0, v1, v2, v3] st im rm := ev_icmp_lt pm_m10 d10_6 rfl rfl rfl
theorem d10_9 : decode prog_4_method_2_code 9 = .ok (.return_, 1) := by decide +kernel
theorem s10_9 {v0 v1 v2 v3 : Value} {im : IM} {rm : RM} : ev 10 9 [v0, v1, v2, v3] [] im rm = some (none, im, rm) := ev_return pm_m10 d10_9 rfl
theorem d10_10 : decode prog_4_method_2_code 10 = .ok (.aload_n 0, 1) := by decide +kernel
theorem s10_10 {v1 v2 v3 : Value} {l1 : Nat} {st : List Value} {im : IM} {rm : RM}  : ev 10 10 [.ref l1, v1, v2, v3] st im rm = ev 10 11 [.ref l1, v1, v2, v3] (.ref l1 :: st) (im) (rm) := ev_aload_n pm_m10 d10_10 rfl rfl
theorem d10_11 : decode prog_4_method_2_code 11 = .ok (.getfield 15, 3) := by decide +kernel
theorem s10_11 {v0 v1 v2 v3 : Value} {a : Nat} {st : List Value} {im : IM} {rm : RM} (hk : kd a = 12) : ev 10 11 [v0, v1, v2, v3] (.ref a :: st) im rm = ev 10 14 [v0, v1, v2, v3] (pm_ro (rm a 1) :: st) (im) (rm) := ev_getR pm_m10 d10_11 f2_15 rfl hk rfl
theorem d10_14 : decode prog_4_method_2_code 14 = .ok (.aload_n 0, 1) := by decide +kernel
theorem s10_14 {v1 v2 v3 : Value} {l1 : Nat} {st : List Value} {im : IM} {rm : RM}  : ev 10 14 [.ref l1, v1, v2, v3] st im rm = ev 10 15 [.ref l1, v1, v2, v3] (.ref l1 :: st) (im) (rm) := ev_aload_n pm_m10 d10_14 rfl rfl
theorem d10_15 : decode prog_4_method_2_code 15 = .ok (.getfield 9, 3) := by decide +kernel
theorem s10_15 {v0 v1 v2 v3 : Value} {a : Nat} {st : List Value} {im : IM} {rm : RM} (hk : kd a = 12) : ev 10 15 [v0, v1, v2, v3] (.ref a :: st) im rm = ev 10 18 [v0, v1, v2, v3] (.int (im a 0) :: st) (im) (rm) := ev_getI pm_m10 d10_15 f2_9 rfl hk rfl
theorem d10_18 : decode prog_4_method_2_code 18 = .ok (.iload_n 1, 1) := by decide +kernel
theorem s10_18 {v0 v2 v3 : Value} {l1 : Int32} {st : List Value} {im : IM} {rm : RM}  : ev 10 18 [v0, .int l1, v2, v3] st im rm = ev 10 19 [v0, .int l1, v2, v3] (.int l1 :: st) (im) (rm) := ev_iload_n pm_m10 d10_18 rfl rfl
theorem d10_19 : decode prog_4_method_2_code 19 = .ok (.iastore, 1) := by decide +kernel
theorem s10_19 {v0 v1 v2 v3 : Value} {a : Nat} {i : Int32} {v : Int32} {st : List Value} {im : IM} {rm : RM} (hk : kd a = 0) (hi : pm_in i (ln a) = true) : ev 10 19 [v0, v1, v2, v3] (.int v :: .int i :: .ref a :: st) im rm = ev 10 20 [v0, v1, v2, v3] st (pm_w2 im a i.toNatClampNeg v) (rm) := ev_iast pm_m10 d10_19 hk hi rfl
theorem d10_20 : decode prog_4_method_2_code 20 = .ok (.aload_n 0, 1) := by decide +kernel
theorem s10_20 {v1 v2 v3 : Value} {l1 : Nat} {st : List Value} {im : IM} {rm : RM}  : ev 10 20 [.ref l1, v1, v2, v3] st im rm = ev 10 21 [.ref l1, v1, v2, v3] (.ref l1 :: st) (im) (rm) := ev_aload_n pm_m10 d10_20 rfl rfl
theorem d10_21 : decode prog_4_method_2_code 21 = .ok (.getfield 19, 3) := by decide +kernel
theorem s10_21 {v0 v1 v2 v3 : Value} {a : Nat} {st : List Value} {im : IM} {rm : RM} (hk : kd a = 12) : ev 10 21 [v0, v1, v2, v3] (.ref a :: st) im rm = ev 10 24 [v0, v1, v2, v3] (pm_ro (rm a 2) :: st) (im) (rm) := ev_getR pm_m10 d10_21 f2_19 rfl hk rfl
theorem d10_24 : decode prog_4_method_2_code 24 = .ok (.aload_n 0, 1) := by decide +kernel
theorem s10_24 {v1 v2 v3 : Value} {l1 : Nat} {st : List Value} {im : IM} {rm : RM}  : ev 10 24 [.ref l1, v1, v2, v3] st im rm = ev 10 25 [.ref l1, v1, v2, v3] (.ref l1 :: st) (im) (rm) := ev_aload_n pm_m10 d10_24 rfl rfl
theorem d10_25 : decode prog_4_method_2_code 25 = .ok (.getfield 9, 3) := by decide +kernel
theorem s10_25 {v0 v1 v2 v3 : Value} {a : Nat} {st : List Value} {im : IM} {rm : RM} (hk : kd a = 12) : ev 10 25 [v0, v1, v2, v3] (.ref a :: st) im rm = ev 10 28 [v0, v1, v2, v3] (.int (im a 0) :: st) (im) (rm) := ev_getI pm_m10 d10_25 f2_9 rfl hk rfl
theorem d10_28 : decode prog_4_method_2_code 28 = .ok (.iload_n 2, 1) := by decide +kernel
theorem s10_28 {v0 v1 v3 : Value} {l1 : Int32} {st : List Value} {im : IM} {rm : RM}  : ev 10 28 [v0, v1, .int l1, v3] st im rm = ev 10 29 [v0, v1, .int l1, v3] (.int l1 :: st) (im) (rm) := ev_iload_n pm_m10 d10_28 rfl rfl
theorem d10_29 : decode prog_4_method_2_code 29 = .ok (.iastore, 1) := by decide +kernel
theorem s10_29 {v0 v1 v2 v3 : Value} {a : Nat} {i : Int32} {v : Int32} {st : List Value} {im : IM} {rm : RM} (hk : kd a = 0) (hi : pm_in i (ln a) = true) : ev 10 29 [v0, v1, v2, v3] (.int v :: .int i :: .ref a :: st) im rm = ev 10 30 [v0, v1, v2, v3] st (pm_w2 im a i.toNatClampNeg v) (rm) := ev_iast pm_m10 d10_29 hk hi rfl
theorem d10_30 : decode prog_4_method_2_code 30 = .ok (.aload_n 0, 1) := by decide +kernel
theorem s10_30 {v1 v2 v3 : Value} {l1 : Nat} {st : List Value} {im : IM} {rm : RM}  : ev 10 30 [.ref l1, v1, v2, v3] st im rm = ev 10 31 [.ref l1, v1, v2, v3] (.ref l1 :: st) (im) (rm) := ev_aload_n pm_m10 d10_30 rfl rfl
theorem d10_31 : decode prog_4_method_2_code 31 = .ok (.getfield 22, 3) := by decide +kernel
theorem s10_31 {v0 v1 v2 v3 : Value} {a : Nat} {st : List Value} {im : IM} {rm : RM} (hk : kd a = 12) : ev 10 31 [v0, v1, v2, v3] (.ref a :: st) im rm = ev 10 34 [v0, v1, v2, v3] (pm_ro (rm a 3) :: st) (im) (rm) := ev_getR pm_m10 d10_31 f2_22 rfl hk rfl
theorem d10_34 : decode prog_4_method_2_code 34 = .ok (.aload_n 0, 1) := by decide +kernel
theorem s10_34 {v1 v2 v3 : Value} {l1 : Nat} {st : List Value} {im : IM} {rm : RM}  : ev 10 34 [.ref l1, v1, v2, v3] st im rm = ev 10 35 [.ref l1, v1, v2, v3] (.ref l1 :: st) (im) (rm) := ev_aload_n pm_m10 d10_34 rfl rfl
theorem d10_35 : decode prog_4_method_2_code 35 = .ok (.getfield 9, 3) := by decide +kernel
theorem s10_35 {v0 v1 v2 v3 : Value} {a : Nat} {st : List Value} {im : IM} {rm : RM} (hk : kd a = 12) : ev 10 35 [v0, v1, v2, v3] (.ref a :: st) im rm = ev 10 38 [v0, v1, v2, v3] (.int (im a 0) :: st) (im) (rm) := ev_getI pm_m10 d10_35 f2_9 rfl hk rfl
theorem d10_38 : decode prog_4_method_2_code 38 = .ok (.iload_n 3, 1) := by decide +kernel
theorem s10_38 {v0 v1 v2 : Value} {l1 : Int32} {st : List Value} {im : IM} {rm : RM}  : ev 10 38 [v0, v1, v2, .int l1] st im rm = ev 10 39 [v0, v1, v2, .int l1] (.int l1 :: st) (im) (rm) := ev_iload_n pm_m10 d10_38 rfl rfl
theorem d10_39 : decode prog_4_method_2_code 39 = .ok (.iastore, 1) := by decide +kernel
theorem s10_39 {v0 v1 v2 v3 : Value} {a : Nat} {i : Int32} {v : Int32} {st : List Value} {im : IM} {rm : RM} (hk : kd a = 0) (hi : pm_in i (ln a) = true) : ev 10 39 [v0, v1, v2, v3] (.int v :: .int i :: .ref a :: st) im rm = ev 10 40 [v0, v1, v2, v3] st (pm_w2 im a i.toNatClampNeg v) (rm) := ev_iast pm_m10 d10_39 hk hi rfl
theorem d10_40 : decode prog_4_method_2_code 40 = .ok (.aload_n 0, 1) := by decide +kernel
theorem s10_40 {v1 v2 v3 : Value} {l1 : Nat} {st : List Value} {im : IM} {rm : RM}  : ev 10 40 [.ref l1, v1, v2, v3] st im rm = ev 10 41 [.ref l1, v1, v2, v3] (.ref l1 :: st) (im) (rm) := ev_aload_n pm_m10 d10_40 rfl rfl
theorem d10_41 : decode prog_4_method_2_code 41 = .ok (.dup, 1) := by decide +kernel
theorem s10_41 {v0 v1 v2 v3 : Value} {x1 : Nat} {st : List Value} {im : IM} {rm : RM}  : ev 10 41 [v0, v1, v2, v3] (.ref x1 :: st) im rm = ev 10 42 [v0, v1, v2, v3] (.ref x1 :: .ref x1 :: st) (im) (rm) := ev_dupA pm_m10 d10_41 rfl
theorem d10_42 : decode prog_4_method_2_code 42 = .ok (.getfield 9, 3) := by decide +kernel
theorem s10_42 {v0 v1 v2 v3 : Value} {a : Nat} {st : List Value} {im : IM} {rm : RM} (hk : kd a = 12) : ev 10 42 [v0, v1, v2, v3] (.ref a :: st) im rm = ev 10 45 [v0, v1, v2, v3] (.int (im a 0) :: st) (im) (rm) := ev_getI pm_m10 d10_42 f2_9 rfl hk rfl
theorem d10_45 : decode prog_4_method_2_code 45 = .ok (.iconst 1, 1) := by decide +kernel
theorem s10_45 {v0 v1 v2 v3 : Value}  {st : List Value} {im : IM} {rm : RM}  : ev 10 45 [v0, v1, v2, v3] st im rm = ev 10 46 [v0, v1, v2, v3] (.int (nI 1) :: st) (im) (rm) := ev_iconst pm_m10 d10_45 rfl rfl
theorem d10_46 : decode prog_4_method_2_code 46 = .ok (.iadd, 1) := by decide +kernel
theorem s10_46 {v0 v1 v2 v3 : Value} {x : Int32} {y : Int32} {st : List Value} {im : IM} {rm : RM}  : ev 10 46 [v0, v1, v2, v3] (.int y :: .int x :: st) im rm = ev 10 47 [v0, v1, v2, v3] (.int (x + y) :: st) (im) (rm) := ev_iadd pm_m10 d10_46 rfl
theorem d10_47 : decode prog_4_method_2_code 47 = .ok (.putfield 9, 3) := by decide +kernel
theorem s10_47 {v0 v1 v2 v3 : Value} {a : Nat} {v : Int32} {st : List Value} {im : IM} {rm : RM} (hk : kd a = 12) : ev 10 47 [v0, v1, v2, v3] (.int v :: .ref a :: st) im rm = ev 10 50 [v0, v1, v2, v3] st (pm_w2 im a 0 v) (rm) := ev_putI pm_m10 d10_47 f2_9 rfl rfl hk rfl
theorem d10_50 : decode prog_4_method_2_code 50 = .ok (.return_, 1) := by decide +kernel
theorem s10_50 {v0 v1 v2 v3 : Value} {im : IM} {rm : RM} : ev 10 50 [v0, v1, v2, v3] [] im rm = some (none, im, rm) := ev_return pm_m10 d10_50 rfl
theorem d12_0 : decode prog_5_method_2_code 0 = .ok (.aload_n 0, 1) := by decide +kernel
theorem s12_0 {l1 : Nat} {st : List Value} {im : IM} {rm : RM}  : ev 12 0 [.ref l1] st im rm = ev 12 1 [.ref l1] (.ref l1 :: st) (im) (rm) := ev_aload_n pm_m12 d12_0 rfl rfl
theorem d12_1 : decode prog_5_method_2_code 1 = .ok (.iconst 0, 1) := by decide +kernel
theorem s12_1 {v0 : Value}  {st : List Value} {im : IM} {rm : RM}  : ev 12 1 [v0] st im rm = ev 12 2 [v0] (.int (nI 0) :: st) (im) (rm) := ev_iconst pm_m12 d12_1 rfl rfl
theorem d12_2 : decode prog_5_method_2_code 2 = .ok (.putfield 27, 3) := by decide +kernel
theorem s12_2 {v0 : Value} {a : Nat} {v : Int32} {st : List Value} {im : IM} {rm : RM} (hk : kd a = 13) : ev 12 2 [v0] (.int v :: .ref a :: st) im rm = ev 12 5 [v0] st (pm_w2 im a 5 v) (rm) := ev_putI pm_m12 d12_2 f3_27 rfl rfl hk rfl
theorem d12_5 : decode prog_5_method_2_code 5 = .ok (.aload_n 0, 1) := by decide +kernel
theorem s12_5 {l1 : Nat} {st : List Value} {im : IM} {rm : RM}  : ev 12 5 [.ref l1] st im rm = ev 12 6 [.ref l1] (.ref l1 :: st) (im) (rm) := ev_aload_n pm_m12 d12_5 rfl rfl
theorem d12_6 : decode prog_5_method_2_code 6 = .ok (.iconst 0, 1) := by decide +kernel
theorem s12_6 {v0 : Value}  {st : List Value} {im : IM} {rm : RM}  : ev 12 6 [v0] st im rm = ev 12 7 [v0] (.int (nI 0) :: st) (im) (rm) := ev_iconst pm_m12 d12_6 rfl rfl
theorem d12_7 : decode prog_5_method_2_code 7 = .ok (.putfield 31, 3) := by decide +kernel
theorem s12_7 {v0 : Value} {a : Nat} {v : Int32} {st : List Value} {im : IM} {rm : RM} (hk : kd a = 13) : ev 12 7 [v0] (.int v :: .ref a :: st) im rm = ev 12 10 [v0] st (pm_w2 im a 6 v) (rm) := ev_putI pm_m12 d12_7 f3_31 rfl rfl hk rfl
theorem d12_10 : decode prog_5_method_2_code 10 = .ok (.aload_n 0, 1) := by decide +kernel
theorem s12_10 {l1 : Nat} {st : List Value} {im : IM} {rm : RM}  : ev 12 10 [.ref l1] st im rm = ev 12 11 [.ref l1] (.ref l1 :: st) (im) (rm) := ev_aload_n pm_m12 d12_10 rfl rfl
theorem d12_11 : decode prog_5_method_2_code 11 = .ok (.iconst 0, 1) := by decide +kernel
theorem s12_11 {v0 : Value}  {st : List Value} {im : IM} {rm : RM}  : ev 12 11 [v0] st im rm = ev 12 12 [v0] (.int (nI 0) :: st) (im) (rm) := ev_iconst pm_m12 d12_11 rfl rfl
theorem d12_12 : decode prog_5_method_2_code 12 = .ok (.putfield 34, 3) := by decide +kernel
theorem s12_12 {v0 : Value} {a : Nat} {v : Int32} {st : List Value} {im : IM} {rm : RM} (hk : kd a = 13) : ev 12 12 [v0] (.int v :: .ref a :: st) im rm = ev 12 15 [v0] st (pm_w2 im a 7 v) (rm) := ev_putI pm_m12 d12_12 f3_34 rfl rfl hk rfl
theorem d12_15 : decode prog_5_method_2_code 15 = .ok (.aload_n 0, 1) := by decide +kernel
theorem s12_15 {l1 : Nat} {st : List Value} {im : IM} {rm : RM}  : ev 12 15 [.ref l1] st im rm = ev 12 16 [.ref l1] (.ref l1 :: st) (im) (rm) := ev_aload_n pm_m12 d12_15 rfl rfl
theorem d12_16 : decode prog_5_method_2_code 16 = .ok (.iconst 0, 1) := by decide +kernel
theorem s12_16 {v0 : Value}  {st : List Value} {im : IM} {rm : RM}  : ev 12 16 [v0] st im rm = ev 12 17 [v0] (.int (nI 0) :: st) (im) (rm) := ev_iconst pm_m12 d12_16 rfl rfl
theorem d12_17 : decode prog_5_method_2_code 17 = .ok (.putfield 37, 3) := by decide +kernel
theorem s12_17 {v0 : Value} {a : Nat} {v : Int32} {st : List Value} {im : IM} {rm : RM} (hk : kd a = 13) : ev 12 17 [v0] (.int v :: .ref a :: st) im rm = ev 12 20 [v0] st (pm_w2 im a 8 v) (rm) := ev_putI pm_m12 d12_17 f3_37 rfl rfl hk rfl
theorem d12_20 : decode prog_5_method_2_code 20 = .ok (.return_, 1) := by decide +kernel
theorem s12_20 {v0 : Value} {im : IM} {rm : RM} : ev 12 20 [v0] [] im rm = some (none, im, rm) := ev_return pm_m12 d12_20 rfl
theorem d13_0 : decode prog_5_method_3_code 0 = .ok (.iconst 4, 1) := by decide +kernel
theorem s13_0 {v0 v1 v2 v3 v4 v5 : Value}  {st : List Value} {im : IM} {rm : RM}  : ev 13 0 [v0, v1, v2, v3, v4, v5] st im rm = ev 13 1 [v0, v1, v2, v3, v4, v5] (.int (nI 4) :: st) (im) (rm) := ev_iconst pm_m13 d13_0 rfl rfl
theorem d13_1 : decode prog_5_method_3_code 1 = .ok (.iload_n 3, 1) := by decide +kernel
theorem s13_1 {v0 v1 v2 v4 v5 : Value} {l1 : Int32} {st : List Value} {im : IM} {rm : RM}  : ev 13 1 [v0, v1, v2, .int l1, v4, v5] st im rm = ev 13 2 [v0, v1, v2, .int l1, v4, v5] (.int l1 :: st) (im) (rm) := ev_iload_n pm_m13 d13_1 rfl rfl
theorem d13_2 : decode prog_5_method_3_code 2 = .ok (.imul, 1) := by decide +kernel
theorem s13_2 {v0 v1 v2 v3 v4 v5 : Value} {x : Int32} {y : Int32} {st : List Value} {im : IM} {rm : RM}  : ev 13 2 [v0, v1, v2, v3, v4, v5] (.int y :: .int x :: st) im rm = ev 13 3 [v0, v1, v2, v3, v4, v5] (.int (x * y) :: st) (im) (rm) := ev_imul pm_m13 d13_2 rfl
theorem d13_3 : decode prog_5_method_3_code 3 = .ok (.iload_n 2, 1) := by decide +kernel
theorem s13_3 {v0 v1 v3 v4 v5 : Value} {l1 : Int32} {st : List Value} {im : IM} {rm : RM}  : ev 13 3 [v0, v1, .int l1, v3, v4, v5] st im rm = ev 13 4 [v0, v1, .int l1, v3, v4, v5] (.int l1 :: st) (im) (rm) := ev_iload_n pm_m13 d13_3 rfl rfl
theorem d13_4 : decode prog_5_method_3_code 4 = .ok (.invokestatic 40, 3) := by decide +kernel
theorem s13_4 {v0 v1 v2 v3 v4 v5 : Value} {p1 : Int32} {p2 : Int32} {im : IM} {rm : RM}  : ev 13 4 [v0, v1, v2, v3, v4, v5] [.int p2, .int p1] im rm = (ev 176 0 [.int p1, .int p2] [] im rm).bind (fun r => ev 13 7 [v0, v1, v2, v3, v4, v5] (r.1.toList ++ []) r.2.1 r.2.2) := ev_callS pm_m13 d13_4 (by decide) l3_40 rfl pm_m176 rfl ⟨rfl, rfl⟩ rfl rfl
theorem d13_7 : decode prog_5_method_3_code 7 = .ok (.istore 5, 2) := by decide +kernel
theorem s13_7 {v0 v1 v2 v3 v5 : Value} {l1 : Int32} {x2 : Int32} {st : List Value} {im : IM} {rm : RM}  : ev 13 7 [v0, v1, v2, v3, .int l1, v5] (.int x2 :: st) im rm = ev 13 9 [v0, v1, v2, v3, .int l1, .int x2] st (im) (rm) := ev_istore pm_m13 d13_7 (Nat.le_of_ble_eq_true rfl) rfl rfl
theorem d13_9 : decode prog_5_method_3_code 9 = .ok (.aload_n 0, 1) := by decide +kernel
theorem s13_9 {v1 v2 v3 v4 v5 : Value} {l1 : Nat} {st : List Value} {im : IM} {rm : RM}  : ev 13 9 [.ref l1, v1, v2, v3, v4, v5] st im rm = ev 13 10 [.ref l1, v1, v2, v3, v4, v5] (.ref l1 :: st) (im) (rm) := ev_aload_n pm_m13 d13_9 rfl rfl
theorem d13_10 : decode prog_5_method_3_code 10 = .ok (.getfield 18, 3) := by decide +kernel
theorem s13_10 {v0 v1 v2 v3 v4 v5 : Value} {a : Nat} {st : List Value} {im : IM} {rm : RM} (hk : kd a = 13) : ev 13 10 [v0, v1, v2, v3, v4, v5] (.ref a :: st) im rm = ev 13 13 [v0, v1, v2, v3, v4, v5] (pm_ro (rm a 2) :: st) (im) (rm) := ev_getR pm_m13 d13_10 f3_18 rfl hk rfl
theorem d13_13 : decode prog_5_method_3_code 13 = .ok (.iload_n 1, 1) := by decide +kernel
theorem s13_13 {v0 v2 v3 v4 v5 : Value} {l1 : Int32} {st : List Value} {im : IM} {rm : RM}  : ev 13 13 [v0, .int l1, v2, v3, v4, v5] st im rm = ev 13 14 [v0, .int l1, v2, v3, v4, v5] (.int l1 :: st) (im) (rm) := ev_iload_n pm_m13 d13_13 rfl rfl
theorem d13_14 : decode prog_5_method_3_code 14 = .ok (.iload_n 3, 1) := by decide +kernel
theorem s13_14 {v0 v1 v2 v4 v5 : Value} {l1 : Int32} {st : List Value} {im : IM} {rm : RM}  : ev 13 14 [v0, v1, v2, .int l1, v4, v5] st im rm = ev 13 15 [v0, v1, v2, .int l1, v4, v5] (.int l1 :: st) (im) (rm) := ev_iload_n pm_m13 d13_14 rfl rfl
theorem d13_15 : decode prog_5_method_3_code 15 = .ok (.iastore, 1) := by decide +kernel
theorem s13_15 {v0 v1 v2 v3 v4 v5 : Value} {a : Nat} {i : Int32} {v : Int32} {st : List Value} {im : IM} {rm : RM} (hk : kd a = 0) (hi : pm_in i (ln a) = true) : ev 13 15 [v0, v1, v2, v3, v4, v5] (.int v :: .int i :: .ref a :: st) im rm = ev 13 16 [v0, v1, v2, v3, v4, v5] st (pm_w2 im a i.toNatClampNeg v) (rm) := ev_iast pm_m13 d13_15 hk hi rfl
theorem d13_16 : decode prog_5_method_3_code 16 = .ok (.aload_n 0, 1) := by decide +kernel
theorem s13_16 {v1 v2 v3 v4 v5 : Value} {l1 : Nat} {st : List Value} {im : IM} {rm : RM}  : ev 13 16 [.ref l1, v1, v2, v3, v4, v5] st im rm = ev 13 17 [.ref l1, v1, v2, v3, v4, v5] (.ref l1 :: st) (im) (rm) := ev_aload_n pm_m13 d13_16 rfl rfl
theorem d13_17 : decode prog_5_method_3_code 17 = .ok (.getfield 21, 3) := by decide +kernel
theorem s13_17 {v0 v1 v2 v3 v4 v5 : Value} {a : Nat} {st : List Value} {im : IM} {rm : RM} (hk : kd a = 13) : ev 13 17 [v0, v1, v2, v3, v4, v5] (.ref a :: st) im rm = ev 13 20 [v0, v1, v2, v3, v4, v5] (pm_ro (rm a 3) :: st) (im) (rm) := ev_getR pm_m13 d13_17 f3_21 rfl hk rfl
theorem d13_20 : decode prog_5_method_3_code 20 = .ok (.iload_n 1, 1) := by decide +kernel
theorem s13_20 {v0 v2 v3 v4 v5 : Value} {l1 : Int32} {st : List Value} {im : IM} {rm : RM}  : ev 13 20 [v0, .int l1, v2, v3, v4, v5] st im rm = ev 13 21 [v0, .int l1, v2, v3, v4, v5] (.int l1 :: st) (im) (rm) := ev_iload_n pm_m13 d13_20 rfl rfl
theorem d13_21 : decode prog_5_method_3_code 21 = .ok (.iload 5, 2) := by decide +kernel
theorem s13_21 {v0 v1 v2 v3 v4 : Value} {l1 : Int32} {st : List Value} {im : IM} {rm : RM}  : ev 13 21 [v0, v1, v2, v3, v4, .int l1] st im rm = ev 13 23 [v0, v1, v2, v3, v4, .int l1] (.int l1 :: st) (im) (rm) := ev_iload pm_m13 d13_21 rfl rfl
theorem d13_23 : decode prog_5_method_3_code 23 = .ok (.iastore, 1) := by decide +kernel
theorem s13_23 {v0 v1 v2 v3 v4 v5 : Value} {a : Nat} {i : Int32} {v : Int32} {st : List Value} {im : IM} {rm : RM} (hk : kd a = 0) (hi : pm_in i (ln a) = true) : ev 13 23 [v0, v1, v2, v3, v4, v5] (.int v :: .int i :: .ref a :: st) im rm = ev 13 24 [v0, v1, v2, v3, v4, v5] st (pm_w2 im a i.toNatClampNeg v) (rm) := ev_iast pm_m13 d13_23 hk hi rfl
theorem d13_24 : decode prog_5_method_3_code 24 = .ok (.aload_n 0, 1) := by decide +kernel
theorem s13_24 {v1 v2 v3 v4 v5 : Value} {l1 : Nat} {st : List Value} {im : IM} {rm : RM}  : ev 13 24 [.ref l1, v1, v2, v3, v4, v5] st im rm = ev 13 25 [.ref l1, v1, v2, v3, v4, v5] (.ref l1 :: st) (im) (rm) := ev_aload_n pm_m13 d13_24 rfl rfl
theorem d13_25 : decode prog_5_method_3_code 25 = .ok (.getfield 24, 3) := by decide +kernel
theorem s13_25 {v0 v1 v2 v3 v4 v5 : Value} {a : Nat} {st : List Value} {im : IM} {rm : RM} (hk : kd a = 13) : ev 13 25 [v0, v1, v2, v3, v4, v5] (.ref a :: st) im rm = ev 13 28 [v0, v1, v2, v3, v4, v5] (pm_ro (rm a 4) :: st) (im) (rm) := ev_getR pm_m13 d13_25 f3_24 rfl hk rfl
theorem d13_28 : decode prog_5_method_3_code 28 = .ok (.iload_n 1, 1) := by decide +kernel
theorem s13_28 {v0 v2 v3 v4 v5 : Value} {l1 : Int32} {st : List Value} {im : IM} {rm : RM}  : ev 13 28 [v0, .int l1, v2, v3, v4, v5] st im rm = ev 13 29 [v0, .int l1, v2, v3, v4, v5] (.int l1 :: st) (im) (rm) := ev_iload_n pm_m13 d13_28 rfl rfl
theorem d13_29 : decode prog_5_method_3_code 29 = .ok (.iload_n 2, 1) := by decide +kernel
theorem s13_29 {v0 v1 v3 v4 v5 : Value} {l1 : Int32} {st : List Value} {im : IM} {rm : RM}  : ev 13 29 [v0, v1, .int l1, v3, v4, v5] st im rm = ev 13 30 [v0, v1, .int l1, v3, v4, v5] (.int l1 :: st) (im) (rm) := ev_iload_n pm_m13 d13_29 rfl rfl
theorem d13_30 : decode prog_5_method_3_code 30 = .ok (.iload 5, 2) := by decide +kernel
theorem s13_30 {v0 v1 v2 v3 v4 : Value} {l1 : Int32} {st : List Value} {im : IM} {rm : RM}  : ev 13 30 [v0, v1, v2, v3, v4, .int l1] st im rm = ev 13 32 [v0, v1, v2, v3, v4, .int l1] (.int l1 :: st) (im) (rm) := ev_iload pm_m13 d13_30 rfl rfl
theorem d13_32 : decode prog_5_method_3_code 32 = .ok (.isub, 1) := by decide +kernel
theorem s13_32 {v0 v1 v2 v3 v4 v5 : Value} {x : Int32} {y : Int32} {st : List Value} {im : IM} {rm : RM}  : ev 13 32 [v0, v1, v2, v3, v4, v5] (.int y :: .int x :: st) im rm = ev 13 33 [v0, v1, v2, v3, v4, v5] (.int (x - y) :: st) (im) (rm) := ev_isub pm_m13 d13_32 rfl
theorem d13_33 : decode prog_5_method_3_code 33 = .ok (.iload 4, 2) := by decide +kernel
theorem s13_33 {v0 v1 v2 v3 v5 : Value} {l1 : Int32} {st : List Value} {im : IM} {rm : RM}  : ev 13 33 [v0, v1, v2, v3, .int l1, v5] st im rm = ev 13 35 [v0, v1, v2, v3, .int l1, v5] (.int l1 :: st) (im) (rm) := ev_iload pm_m13 d13_33 rfl rfl
theorem d13_35 : decode prog_5_method_3_code 35 = .ok (.ifCond .eq 8, 3) := by decide +kernel
theorem s13_35 {v0 v1 v2 v3 v4 v5 : Value} {x : Int32} {st : List Value} {im : IM} {rm : RM} : ev 13 35 [v0, v1, v2, v3, v4, v5] (.int x :: st) im rm = if x = nI 0 then ev 13 43 [v0, v1, pm_u, v3, v4, v5] st im rm else ev 13 38 [v0, v1, v2, v3, v4, v5] st im rm := ev_if_eq (y := 0) pm_m13 d13_35 rfl rfl rfl
theorem d13_38 : decode prog_5_method_3_code 38 = .ok (.bipush 20, 2) := by decide +kernel
theorem s13_38 {v0 v1 v2 v3 v4 v5 : Value}  {st : List Value} {im : IM} {rm : RM}  : ev 13 38 [v0, v1, v2, v3, v4, v5] st im rm = ev 13 40 [v0, v1, v2, v3, v4, v5] (.int (nI 20) :: st) (im) (rm) := ev_bipush pm_m13 d13_38 rfl rfl
theorem d13_40 : decode prog_5_method_3_code 40 = .ok (.goto 4, 3) := by decide +kernel
theorem s13_40 {v0 v1 v2 v3 v4 v5 : Value}  {st : List Value} {im : IM} {rm : RM}  : ev 13 40 [v0, v1, v2, v3, v4, v5] st im rm = ev 13 44 [v0, v1, pm_u, v3, v4, v5] st (im) (rm) := ev_goto pm_m13 d13_40 rfl rfl
theorem d13_43 : decode prog_5_method_3_code 43 = .ok (.iconst 0, 1) := by decide +kernel
theorem s13_43 {v0 v1 v2 v3 v4 v5 : Value}  {st : List Value} {im : IM} {rm : RM}  : ev 13 43 [v0, v1, v2, v3, v4, v5] st im rm = ev 13 44 [v0, v1, pm_u, v3, v4, v5] (.int (nI 0) :: st) (im) (rm) := ev_iconst pm_m13 d13_43 rfl rfl
theorem d13_44 : decode prog_5_method_3_code 44 = .ok (.iadd, 1) := by decide +kernel
theorem s13_44 {v0 v1 v2 v3 v4 v5 : Value} {x : Int32} {y : Int32} {st : List Value} {im : IM} {rm : RM}  : ev 13 44 [v0, v1, v2, v3, v4, v5] (.int y :: .int x :: st) im rm = ev 13 45 [v0, v1, v2, v3, v4, v5] (.int (x + y) :: st) (im) (rm) := ev_iadd pm_m13 d13_44 rfl
theorem d13_45 : decode prog_5_method_3_code 45 = .ok (.iastore, 1) := by decide +kernel
theorem s13_45 {v0 v1 v2 v3 v4 v5 : Value} {a : Nat} {i : Int32} {v : Int32} {st : List Value} {im : IM} {rm : RM} (hk : kd a = 0) (hi : pm_in i (ln a) = true) : ev 13 45 [v0, v1, v2, v3, v4, v5] (.int v :: .int i :: .ref a :: st) im rm = ev 13 46 [v0, v1, v2, v3, v4, v5] st (pm_w2 im a i.toNatClampNeg v) (rm) := ev_iast pm_m13 d13_45 hk hi rfl
theorem d13_46 : decode prog_5_method_3_code 46 = .ok (.aload_n 0, 1) := by decide +kernel
theorem s13_46 {v1 v2 v3 v4 v5 : Value} {l1 : Nat} {st : List Value} {im : IM} {rm : RM}  : ev 13 46 [.ref l1, v1, v2, v3, v4, v5] st im rm = ev 13 47 [.ref l1, v1, v2, v3, v4, v5] (.ref l1 :: st) (im) (rm) := ev_aload_n pm_m13 d13_46 rfl rfl
theorem d13_47 : decode prog_5_method_3_code 47 = .ok (.dup, 1) := by decide +kernel
theorem s13_47 {v0 v1 v2 v3 v4 v5 : Value} {x1 : Nat} {st : List Value} {im : IM} {rm : RM}  : ev 13 47 [v0, v1, v2, v3, v4, v5] (.ref x1 :: st) im rm = ev 13 48 [v0, v1, v2, v3, v4, v5] (.ref x1 :: .ref x1 :: st) (im) (rm) := ev_dupA pm_m13 d13_47 rfl
theorem d13_48 : decode prog_5_method_3_code 48 = .ok (.getfield 27, 3) := by decide +kernel
theorem s13_48 {v0 v1 v2 v3 v4 v5 : Value} {a : Nat} {st : List Value} {im : IM} {rm : RM} (hk : kd a = 13) : ev 13 48 [v0, v1, v2, v3, v4, v5] (.ref a :: st) im rm = ev 13 51 [v0, v1, v2, v3, v4, v5] (.int (im a 5) :: st) (im) (rm) := ev_getI pm_m13 d13_48 f3_27 rfl hk rfl
theorem d13_51 : decode prog_5_method_3_code 51 = .ok (.iload_n 3, 1) := by decide +kernel
theorem s13_51 {v0 v1 v2 v4 v5 : Value} {l1 : Int32} {st : List Value} {im : IM} {rm : RM}  : ev 13 51 [v0, v1, v2, .int l1, v4, v5] st im rm = ev 13 52 [v0, v1, v2, .int l1, v4, v5] (.int l1 :: st) (im) (rm) := ev_iload_n pm_m13 d13_51 rfl rfl
theorem d13_52 : decode prog_5_method_3_code 52 = .ok (.iadd, 1) := by decide +kernel
theorem s13_52 {v0 v1 v2 v3 v4 v5 : Value} {x : Int32} {y : Int32} {st : List Value} {im : IM} {rm : RM}  : ev 13 52 [v0, v1, v2, v3, v4, v5] (.int y :: .int x :: st) im rm = ev 13 53 [v0, v1, v2, v3, v4, v5] (.int (x + y) :: st) (im) (rm) := ev_iadd pm_m13 d13_52 rfl
theorem d13_53 : decode prog_5_method_3_code 53 = .ok (.putfield 27, 3) := by decide +kernel
theorem s13_53 {v0 v1 v2 v3 v4 v5 : Value} {a : Nat} {v : Int32} {st : List Value} {im : IM} {rm : RM} (hk : kd a = 13) : ev 13 53 [v0, v1, v2, v3, v4, v5] (.int v :: .ref a :: st) im rm = ev 13 56 [v0, v1, v2, v3, v4, v5] st (pm_w2 im a 5 v) (rm) := ev_putI pm_m13 d13_53 f3_27 rfl rfl hk rfl
theorem d13_56 : decode prog_5_method_3_code 56 = .ok (.aload_n 0, 1) := by decide +kernel
theorem s13_56 {v1 v2 v3 v4 v5 : Value} {l1 : Nat} {st : List Value} {im : IM} {rm : RM}  : ev 13 56 [.ref l1, v1, v2, v3, v4, v5] st im rm = ev 13 57 [.ref l1, v1, v2, v3, v4, v5] (.ref l1 :: st) (im) (rm) := ev_aload_n pm_m13 d13_56 rfl rfl
theorem d13_57 : decode prog_5_method_3_code 57 = .ok (.dup, 1) := by decide +kernel
theorem s13_57 {v0 v1 v2 v3 v4 v5 : Value} {x1 : Nat} {st : List Value} {im : IM} {rm : RM}  : ev 13 57 [v0, v1, v2, v3, v4, v5] (.ref x1 :: st) im rm = ev 13 58 [v0, v1, v2, v3, v4, v5] (.ref x1 :: .ref x1 :: st) (im) (rm) := ev_dupA pm_m13 d13_57 rfl
theorem d13_58 : decode prog_5_method_3_code 58 = .ok (.getfield 31, 3) := by decide +kernel
theorem s13_58 {v0 v1 v2 v3 v4 v5 : Value} {a : Nat} {st : List Value} {im : IM} {rm : RM} (hk : kd a = 13) : ev 13 58 [v0, v1, v2, v3, v4, v5] (.ref a :: st) im rm = ev 13 61 [v0, v1, v2, v3, v4, v5] (.int (im a 6) :: st) (im) (rm) := ev_getI pm_m13 d13_58 f3_31 rfl hk rfl
theorem d13_61 : decode prog_5_method_3_code 61 = .ok (.iload 5, 2) := by decide +kernel
theorem s13_61 {v0 v1 v2 v3 v4 : Value} {l1 : Int32} {st : List Value} {im : IM} {rm : RM}  : ev 13 61 [v0, v1, v2, v3, v4, .int l1] st im rm = ev 13 63 [v0, v1, v2, v3, v4, .int l1] (.int l1 :: st) (im) (rm) := ev_iload pm_m13 d13_61 rfl rfl
theorem d13_63 : decode prog_5_method_3_code 63 = .ok (.iadd, 1) := by decide +kernel
theorem s13_63 {v0 v1 v2 v3 v4 v5 : Value} {x : Int32} {y : Int32} {st : List Value} {im : IM} {rm : RM}  : ev 13 63 [v0, v1, v2, v3, v4, v5] (.int y :: .int x :: st) im rm = ev 13 64 [v0, v1, v2, v3, v4, v5] (.int (x + y) :: st) (im) (rm) := ev_iadd pm_m13 d13_63 rfl
theorem d13_64 : decode prog_5_method_3_code 64 = .ok (.putfield 31, 3) := by decide +kernel
theorem s13_64 {v0 v1 v2 v3 v4 v5 : Value} {a : Nat} {v : Int32} {st : List Value} {im : IM} {rm : RM} (hk : kd a = 13) : ev 13 64 [v0, v1, v2, v3, v4, v5] (.int v :: .ref a :: st) im rm = ev 13 67 [v0, v1, v2, v3, v4, v5] st (pm_w2 im a 6 v) (rm) := ev_putI pm_m13 d13_64 f3_31 rfl rfl hk rfl
theorem d13_67 : decode prog_5_method_3_code 67 = .ok (.aload_n 0, 1) := by decide +kernel
theorem s13_67 {v1 v2 v3 v4 v5 : Value} {l1 : Nat} {st : List Value} {im : IM} {rm : RM}  : ev 13 67 [.ref l1, v1, v2, v3, v4, v5] st im rm = ev 13 68 [.ref l1, v1, v2, v3, v4, v5] (.ref l1 :: st) (im) (rm) := ev_aload_n pm_m13 d13_67 rfl rfl
theorem d13_68 : decode prog_5_method_3_code 68 = .ok (.dup, 1) := by decide +kernel
theorem s13_68 {v0 v1 v2 v3 v4 v5 : Value} {x1 : Nat} {st : List Value} {im : IM} {rm : RM}  : ev 13 68 [v0, v1, v2, v3, v4, v5] (.ref x1 :: st) im rm = ev 13 69 [v0, v1, v2, v3, v4, v5] (.ref x1 :: .ref x1 :: st) (im) (rm) := ev_dupA pm_m13 d13_68 rfl
theorem d13_69 : decode prog_5_method_3_code 69 = .ok (.getfield 34, 3) := by decide +kernel
theorem s13_69 {v0 v1 v2 v3 v4 v5 : Value} {a : Nat} {st : List Value} {im : IM} {rm : RM} (hk : kd a = 13) : ev 13 69 [v0, v1, v2, v3, v4, v5] (.ref a :: st) im rm = ev 13 72 [v0, v1, v2, v3, v4, v5] (.int (im a 7) :: st) (im) (rm) := ev_getI pm_m13 d13_69 f3_34 rfl hk rfl
theorem d13_72 : decode prog_5_method_3_code 72 = .ok (.aload_n 0, 1) := by decide +kernel
theorem s13_72 {v1 v2 v3 v4 v5 : Value} {l1 : Nat} {st : List Value} {im : IM} {rm : RM}  : ev 13 72 [.ref l1, v1, v2, v3, v4, v5] st im rm = ev 13 73 [.ref l1, v1, v2, v3, v4, v5] (.ref l1 :: st) (im) (rm) := ev_aload_n pm_m13 d13_72 rfl rfl
theorem d13_73 : decode prog_5_method_3_code 73 = .ok (.getfield 24, 3) := by decide +kernel
theorem s13_73 {v0 v1 v2 v3 v4 v5 : Value} {a : Nat} {st : List Value} {im : IM} {rm : RM} (hk : kd a = 13) : ev 13 73 [v0, v1, v2, v3, v4, v5] (.ref a :: st) im rm = ev 13 76 [v0, v1, v2, v3, v4, v5] (pm_ro (rm a 4) :: st) (im) (rm) := ev_getR pm_m13 d13_73 f3_24 rfl hk rfl
theorem d13_76 : decode prog_5_method_3_code 76 = .ok (.iload_n 1, 1) := by decide +kernel
theorem s13_76 {v0 v2 v3 v4 v5 : Value} {l1 : Int32} {st : List Value} {im : IM} {rm : RM}  : ev 13 76 [v0, .int l1, v2, v3, v4, v5] st im rm = ev 13 77 [v0, .int l1, v2, v3, v4, v5] (.int l1 :: st) (im) (rm) := ev_iload_n pm_m13 d13_76 rfl rfl
theorem d13_77 : decode prog_5_method_3_code 77 = .ok (.iaload, 1) := by decide +kernel
theorem s13_77 {v0 v1 v2 v3 v4 v5 : Value} {a : Nat} {i : Int32} {st : List Value} {im : IM} {rm : RM} (hk : kd a = 0) (hi : pm_in i (ln a) = true) : ev 13 77 [v0, v1, v2, v3, v4, v5] (.int i :: .ref a :: st) im rm = ev 13 78 [v0, v1, v2, v3, v4, v5] (.int (im a i.toNatClampNeg) :: st) (im) (rm) := ev_iald pm_m13 d13_77 hk hi rfl
theorem d13_78 : decode prog_5_method_3_code 78 = .ok (.iadd, 1) := by decide +kernel
theorem s13_78 {v0 v1 v2 v3 v4 v5 : Value} {x : Int32} {y : Int32} {st : List Value} {im : IM} {rm : RM}  : ev 13 78 [v0, v1, v2, v3, v4, v5] (.int y :: .int x :: st) im rm = ev 13 79 [v0, v1, v2, v3, v4, v5] (.int (x + y) :: st) (im) (rm) := ev_iadd pm_m13 d13_78 rfl
theorem d13_79 : decode prog_5_method_3_code 79 = .ok (.putfield 34, 3) := by decide +kernel
theorem s13_79 {v0 v1 v2 v3 v4 v5 : Value} {a : Nat} {v : Int32} {st : List Value} {im : IM} {rm : RM} (hk : kd a = 13) : ev 13 79 [v0, v1, v2, v3, v4, v5] (.int v :: .ref a :: st) im rm = ev 13 82 [v0, v1, v2, v3, v4, v5] st (pm_w2 im a 7 v) (rm) := ev_putI pm_m13 d13_79 f3_34 rfl rfl hk rfl
theorem d13_82 : decode prog_5_method_3_code 82 = .ok (.aload_n 0, 1) := by decide +kernel
theorem s13_82 {v1 v2 v3 v4 v5 : Value} {l1 : Nat} {st : List Value} {im : IM} {rm : RM}  : ev 13 82 [.ref l1, v1, v2, v3, v4, v5] st im rm = ev 13 83 [.ref l1, v1, v2, v3, v4, v5] (.ref l1 :: st) (im) (rm) := ev_aload_n pm_m13 d13_82 rfl rfl
theorem d13_83 : decode prog_5_method_3_code 83 = .ok (.dup, 1) := by decide +kernel
theorem s13_83 {v0 v1 v2 v3 v4 v5 : Value} {x1 : Nat} {st : List Value} {im : IM} {rm : RM}  : ev 13 83 [v0, v1, v2, v3, v4, v5] (.ref x1 :: st) im rm = ev 13 84 [v0, v1, v2, v3, v4, v5] (.ref x1 :: .ref x1 :: st) (im) (rm) := ev_dupA pm_m13 d13_83 rfl
theorem d13_84 : decode prog_5_method_3_code 84 = .ok (.getfield 37, 3) := by decide +kernel
theorem s13_84 {v0 v1 v2 v3 v4 v5 : Value} {a : Nat} {st : List Value} {im : IM} {rm : RM} (hk : kd a = 13) : ev 13 84 [v0, v1, v2, v3, v4, v5] (.ref a :: st) im rm = ev 13 87 [v0, v1, v2, v3, v4, v5] (.int (im a 8) :: st) (im) (rm) := ev_getI pm_m13 d13_84 f3_37 rfl hk rfl
theorem d13_87 : decode prog_5_method_3_code 87 = .ok (.iload 4, 2) := by decide +kernel
theorem s13_87 {v0 v1 v2 v3 v5 : Value} {l1 : Int32} {st : List Value} {im : IM} {rm : RM}  : ev 13 87 [v0, v1, v2, v3, .int l1, v5] st im rm = ev 13 89 [v0, v1, v2, v3, .int l1, v5] (.int l1 :: st) (im) (rm) := ev_iload pm_m13 d13_87 rfl rfl
theorem d13_89 : decode prog_5_method_3_code 89 = .ok (.ifCond .eq 7, 3) := by decide +kernel
theorem s13_89 {v0 v1 v2 v3 v4 v5 : Value} {x : Int32} {st : List Value} {im : IM} {rm : RM} : ev 13 89 [v0, v1, v2, v3, v4, v5] (.int x :: st) im rm = if x = nI 0 then ev 13 96 [pm_u, pm_u, pm_u, pm_u, pm_u, pm_u] st im rm else ev 13 92 [v0, v1, v2, v3, v4, v5] st im rm := ev_if_eq (y := 0) pm_m13 d13_89 rfl rfl rfl
theorem d13_92 : decode prog_5_method_3_code 92 = .ok (.iconst 1, 1) := by decide +kernel
theorem s13_92 {v0 v1 v2 v3 v4 v5 : Value}  {st : List Value} {im : IM} {rm : RM}  : ev 13 92 [v0, v1, v2, v3, v4, v5] st im rm = ev 13 93 [v0, v1, v2, v3, v4, v5] (.int (nI 1) :: st) (im) (rm) := ev_iconst pm_m13 d13_92 rfl rfl
theorem d13_93 : decode prog_5_method_3_code 93 = .ok (.goto 4, 3) := by decide +kernel
theorem s13_93 {v0 v1 v2 v3 v4 v5 : Value}  {st : List Value} {im : IM} {rm : RM}  : ev 13 93 [v0, v1, v2, v3, v4, v5] st im rm = ev 13 97 [pm_u, pm_u, pm_u, pm_u, pm_u, pm_u] st (im) (rm) := ev_goto pm_m13 d13_93 rfl rfl
theorem d13_96 : decode prog_5_method_3_code 96 = .ok (.iconst 0, 1) := by decide +kernel
theorem s13_96 {v0 v1 v2 v3 v4 v5 : Value}  {st : List Value} {im : IM} {rm : RM}  : ev 13 96 [v0, v1, v2, v3, v4, v5] st im rm = ev 13 97 [pm_u, pm_u, pm_u, pm_u, pm_u, pm_u] (.int (nI 0) :: st) (im) (rm) := ev_iconst pm_m13 d13_96 rfl rfl
theorem d13_97 : decode prog_5_method_3_code 97 = .ok (.iadd, 1) := by decide +kernel
theorem s13_97 {v0 v1 v2 v3 v4 v5 : Value} {x : Int32} {y : Int32} {st : List Value} {im : IM} {rm : RM}  : ev 13 97 [v0, v1, v2, v3, v4, v5] (.int y :: .int x :: st) im rm = ev 13 98 [v0, v1, v2, v3, v4, v5] (.int (x + y) :: st) (im) (rm) := ev_iadd pm_m13 d13_97 rfl
theorem d13_98 : decode prog_5_method_3_code 98 = .ok (.putfield 37, 3) := by decide +kernel
theorem s13_98 {v0 v1 v2 v3 v4 v5 : Value} {a : Nat} {v : Int32} {st : List Value} {im : IM} {rm : RM} (hk : kd a = 13) : ev 13 98 [v0, v1, v2, v3, v4, v5] (.int v :: .ref a :: st) im rm = ev 13 101 [v0, v1, v2, v3, v4, v5] st (pm_w2 im a 8 v) (rm) := ev_putI pm_m13 d13_98 f3_37 rfl rfl hk rfl
theorem d13_101 : decode prog_5_method_3_code 101 = .ok (.return_, 1) := by decide +kernel
theorem s13_101 {v0 v1 v2 v3 v4 v5 : Value} {im : IM} {rm : RM} : ev 13 101 [v0, v1, v2, v3, v4, v5] [] im rm = some (none, im, rm) := ev_return pm_m13 d13_101 rfl
theorem d14_0 : decode prog_5_method_4_code 0 = .ok (.iconst 0, 1) := by decide +kernel
theorem s14_0 {v0 v1 v2 v3 : Value}  {st : List Value} {im : IM} {rm : RM}  : ev 14 0 [v0, v1, v2, v3] st im rm = ev 14 1 [v0, v1, v2, v3] (.int (nI 0) :: st) (im) (rm) := ev_iconst pm_m14 d14_0 rfl rfl
theorem d14_1 : decode prog_5_method_4_code 1 = .ok (.istore_n 2, 1) := by decide +kernel
theorem s14_1 {v0 v2 v3 : Value} {l1 : Int32} {x2 : Int32} {st : List Value} {im : IM} {rm : RM}  : ev 14 1 [v0, .int l1, v2, v3] (.int x2 :: st) im rm = ev 14 2 [v0, .int l1, .int x2, v3] st (im) (rm) := ev_istore_n pm_m14 d14_1 (Nat.le_of_ble_eq_true rfl) rfl rfl
theorem d14_2 : decode prog_5_method_4_code 2 = .ok (.iconst 0, 1) := by decide +kernel
theorem s14_2 {v0 v1 v2 v3 : Value}  {st : List Value} {im : IM} {rm : RM}  : ev 14 2 [v0, v1, v2, v3] st im rm = ev 14 3 [v0, v1, v2, v3] (.int (nI 0) :: st) (im) (rm) := ev_iconst pm_m14 d14_2 rfl rfl
theorem d14_3 : decode prog_5_method_4_code 3 = .ok (.istore_n 3, 1) := by decide +kernel
theorem s14_3 {v0 v1 v3 : Value} {l1 : Int32} {x2 : Int32} {st : List Value} {im : IM} {rm : RM}  : ev 14 3 [v0, v1, .int l1, v3] (.int x2 :: st) im rm = ev 14 4 [v0, v1, .int l1, .int x2] st (im) (rm) := ev_istore_n pm_m14 d14_3 (Nat.le_of_ble_eq_true rfl) rfl rfl
theorem d14_4 : decode prog_5_method_4_code 4 = .ok (.iload_n 3, 1) := by decide +kernel
theorem s14_4 {v0 v1 v2 : Value} {l1 : Int32} {st : List Value} {im : IM} {rm : RM}  : ev 14 4 [v0, v1, v2, .int l1] st im rm = ev 14 5 [v0, v1, v2, .int l1] (.int l1 :: st) (im) (rm) := ev_iload_n pm_m14 d14_4 rfl rfl
theorem d14_5 : decode prog_5_method_4_code 5 = .ok (.iload_n 1, 1) := by decide +kernel
theorem s14_5 {v0 v2 v3 : Value} {l1 : Int32} {st : List Value} {im : IM} {rm : RM}  : ev 14 5 [v0, .int l1, v2, v3] st im rm = ev 14 6 [v0, .int l1, v2, v3] (.int l1 :: st) (im) (rm) := ev_iload_n pm_m14 d14_5 rfl rfl
theorem d14_6 : decode prog_5_method_4_code 6 = .ok (.if_icmp .gt 18, 3) := by decide +kernel
theorem s14_6 {v0 v1 v2 v3 : Value} {x : Int32} {y : Int32} {st : List Value} {im : IM} {rm : RM} : ev 14 6 [v0, v1, v2, v3] (.int y :: .int x :: st) im rm = if y < x then ev 14 24 [pm_u, pm_u, v2, pm_u] st im rm else ev 14 9 [v0, v1, v2, v3] st im rm := ev_icmp_gt pm_m14 d14_6 rfl rfl rfl
theorem d14_9 : decode prog_5_method_4_code 9 = .ok (.iload_n 2, 1) := by decide +kernel
theorem s14_9 {v0 v1 v3 : Value} {l1 : Int32} {st : List Value} {im : IM} {rm : RM}  : ev 14 9 [v0, v1, .int l1, v3] st im rm = ev 14 10 [v0, v1, .int l1, v3] (.int l1 :: st) (im) (rm) := ev_iload_n pm_m14 d14_9 rfl rfl
theorem d14_10 : decode prog_5_method_4_code 10 = .ok (.aload_n 0, 1) := by decide +kernel
theorem s14_10 {v1 v2 v3 : Value} {l1 : Nat} {st : List Value} {im : IM} {rm : RM}  : ev 14 10 [.ref l1, v1, v2, v3] st im rm = ev 14 11 [.ref l1, v1, v2, v3] (.ref l1 :: st) (im) (rm) := ev_aload_n pm_m14 d14_10 rfl rfl
theorem d14_11 : decode prog_5_method_4_code 11 = .ok (.getfield 24, 3) := by decide +kernel
theorem s14_11 {v0 v1 v2 v3 : Value} {a : Nat} {st : List Value} {im : IM} {rm : RM} (hk : kd a = 13) : ev 14 11 [v0, v1, v2, v3] (.ref a :: st) im rm = ev 14 14 [v0, v1, v2, v3] (pm_ro (rm a 4) :: st) (im) (rm) := ev_getR pm_m14 d14_11 f3_24 rfl hk rfl
theorem d14_14 : decode prog_5_method_4_code 14 = .ok (.iload_n 3, 1) := by decide +kernel
theorem s14_14 {v0 v1 v2 : Value} {l1 : Int32} {st : List Value} {im : IM} {rm : RM}  : ev 14 14 [v0, v1, v2, .int l1] st im rm = ev 14 15 [v0, v1, v2, .int l1] (.int l1 :: st) (im) (rm) := ev_iload_n pm_m14 d14_14 rfl rfl
theorem d14_15 : decode prog_5_method_4_code 15 = .ok (.iaload, 1) := by decide +kernel
theorem s14_15 {v0 v1 v2 v3 : Value} {a : Nat} {i : Int32} {st : List Value} {im : IM} {rm : RM} (hk : kd a = 0) (hi : pm_in i (ln a) = true) : ev 14 15 [v0, v1, v2, v3] (.int i :: .ref a :: st) im rm = ev 14 16 [v0, v1, v2, v3] (.int (im a i.toNatClampNeg) :: st) (im) (rm) := ev_iald pm_m14 d14_15 hk hi rfl
theorem d14_16 : decode prog_5_method_4_code 16 = .ok (.iadd, 1) := by decide +kernel
theorem s14_16 {v0 v1 v2 v3 : Value} {x : Int32} {y : Int32} {st : List Value} {im : IM} {rm : RM}  : ev 14 16 [v0, v1, v2, v3] (.int y :: .int x :: st) im rm = ev 14 17 [v0, v1, v2, v3] (.int (x + y) :: st) (im) (rm) := ev_iadd pm_m14 d14_16 rfl
theorem d14_17 : decode prog_5_method_4_code 17 = .ok (.istore_n 2, 1) := by decide +kernel
theorem s14_17 {v0 v2 v3 : Value} {l1 : Int32} {x2 : Int32} {st : List Value} {im : IM} {rm : RM}  : ev 14 17 [v0, .int l1, v2, v3] (.int x2 :: st) im rm = ev 14 18 [v0, .int l1, .int x2, v3] st (im) (rm) := ev_istore_n pm_m14 d14_17 (Nat.le_of_ble_eq_true rfl) rfl rfl
theorem d14_18 : decode prog_5_method_4_code 18 = .ok (.iinc 3 1, 3) := by decide +kernel
theorem s14_18 {v0 v1 : Value} {l1 : Int32} {l2 : Int32} {st : List Value} {im : IM} {rm : RM}  : ev 14 18 [v0, v1, .int l1, .int l2] st im rm = ev 14 21 [v0, v1, .int l1, .int (l2 + nI 1)] st (im) (rm) := ev_iinc pm_m14 d14_18 rfl rfl rfl rfl
theorem d14_21 : decode prog_5_method_4_code 21 = .ok (.goto (-17), 3) := by decide +kernel
theorem s14_21 {v0 v1 v2 v3 : Value}  {st : List Value} {im : IM} {rm : RM}  : ev 14 21 [v0, v1, v2, v3] st im rm = ev 14 4 [v0, v1, v2, v3] st (im) (rm) := ev_goto pm_m14 d14_21 rfl rfl
theorem d14_24 : decode prog_5_method_4_code 24 = .ok (.iload_n 2, 1) := by decide +kernel
theorem s14_24 {v0 v1 v3 : Value} {l1 : Int32} {st : List Value} {im : IM} {rm : RM}  : ev 14 24 [v0, v1, .int l1, v3] st im rm = ev 14 25 [v0, v1, .int l1, v3] (.int l1 :: st) (im) (rm) := ev_iload_n pm_m14 d14_24 rfl rfl
theorem d14_25 : decode prog_5_method_4_code 25 = .ok (.ireturn, 1) := by decide +kernel
theorem s14_25 {v0 v1 v2 v3 : Value} {x : Int32} {im : IM} {rm : RM} : ev 14 25 [v0, v1, v2, v3] [.int x] im rm = some (some (.int x), im, rm) := ev_ireturn pm_m14 d14_25 rfl
theorem d16_0 : decode prog_6_method_2_code 0 = .ok (.iconst 0, 1) := by decide +kernel
theorem s16_0 {v0 v1 v2 : Value}  {st : List Value} {im : IM} {rm : RM}  : ev 16 0 [v0, v1, v2] st im rm = ev 16 1 [v0, v1, v2] (.int (nI 0) :: st) (im) (rm) := ev_iconst pm_m16 d16_0 rfl rfl
theorem d16_1 : decode prog_6_method_2_code 1 = .ok (.istore_n 2, 1) := by decide +kernel
theorem s16_1 {v0 v2 : Value} {l1 : Nat} {x2 : Int32} {st : List Value} {im : IM} {rm : RM}  : ev 16 1 [v0, .ref l1, v2] (.int x2 :: st) im rm = ev 16 2 [v0, .ref l1, .int x2] st (im) (rm) := ev_istore_n pm_m16 d16_1 (Nat.le_of_ble_eq_true rfl) rfl rfl
theorem d16_2 : decode prog_6_method_2_code 2 = .ok (.iload_n 2, 1) := by decide +kernel
theorem s16_2 {v0 v1 : Value} {l1 : Int32} {st : List Value} {im : IM} {rm : RM}  : ev 16 2 [v0, v1, .int l1] st im rm = ev 16 3 [v0, v1, .int l1] (.int l1 :: st) (im) (rm) := ev_iload_n pm_m16 d16_2 rfl rfl
theorem d16_3 : decode prog_6_method_2_code 3 = .ok (.aload_n 0, 1) := by decide +kernel
theorem s16_3 {v1 v2 : Value} {l1 : Nat} {st : List Value} {im : IM} {rm : RM}  : ev 16 3 [.ref l1, v1, v2] st im rm = ev 16 4 [.ref l1, v1, v2] (.ref l1 :: st) (im) (rm) := ev_aload_n pm_m16 d16_3 rfl rfl
theorem d16_4 : decode prog_6_method_2_code 4 = .ok (.getfield 9, 3) := by decide +kernel
theorem s16_4 {v0 v1 v2 : Value} {a : Nat} {st : List Value} {im : IM} {rm : RM} (hk : kd a = 14) : ev 16 4 [v0, v1, v2] (.ref a :: st) im rm = ev 16 7 [v0, v1, v2] (.int (im a 0) :: st) (im) (rm) := ev_getI pm_m16 d16_4 f4_9 rfl hk rfl
theorem d16_7 : decode prog_6_method_2_code 7 = .ok (.if_icmp .ge 20, 3) := by decide +kernel
theorem s16_7 {v0 v1 v2 : Value} {x : Int32} {y : Int32} {st : List Value} {im : IM} {rm : RM} : ev 16 7 [v0, v1, v2] (.int y :: .int x :: st) im rm = if y ≤ x then ev 16 27 [pm_u, pm_u, pm_u] st im rm else ev 16 10 [v0, v1, v2] st im rm := ev_icmp_ge pm_m16 d16_7 rfl rfl rfl
theorem d16_10 : decode prog_6_method_2_code 10 = .ok (.aload_n 0, 1) := by decide +kernel
theorem s16_10 {v1 v2 : Value} {l1 : Nat} {st : List Value} {im : IM} {rm : RM}  : ev 16 10 [.ref l1, v1, v2] st im rm = ev 16 11 [.ref l1, v1, v2] (.ref l1 :: st) (im) (rm) := ev_aload_n pm_m16 d16_10 rfl rfl
theorem d16_11 : decode prog_6_method_2_code 11 = .ok (.iload_n 2, 1) := by decide +kernel
theorem s16_11 {v0 v1 : Value} {l1 : Int32} {st : List Value} {im : IM} {rm : RM}  : ev 16 11 [v0, v1, .int l1] st im rm = ev 16 12 [v0, v1, .int l1] (.int l1 :: st) (im) (rm) := ev_iload_n pm_m16 d16_11 rfl rfl
theorem d16_12 : decode prog_6_method_2_code 12 = .ok (.aload_n 1, 1) := by decide +kernel
theorem s16_12 {v0 v2 : Value} {l1 : Nat} {st : List Value} {im : IM} {rm : RM}  : ev 16 12 [v0, .ref l1, v2] st im rm = ev 16 13 [v0, .ref l1, v2] (.ref l1 :: st) (im) (rm) := ev_aload_n pm_m16 d16_12 rfl rfl
theorem d16_13 : decode prog_6_method_2_code 13 = .ok (.invokevirtual 32, 3) := by decide +kernel
theorem s16_13 {v0 v1 v2 : Value} {a : Nat} {p1 : Int32} {p2 : Nat} {im : IM} {rm : RM} (hk : kd a = 14) : ev 16 13 [v0, v1, v2] [.ref p2, .int p1, .ref a] im rm = (ev 17 0 [.ref a, .int p1, .ref p2, pm_u, pm_u, pm_u] [] im rm).bind (fun r => ev 16 16 [v0, v1, v2] (r.1.toList ++ []) r.2.1 r.2.2) := ev_callV pm_m16 d16_13 l4_32 rfl pm_m17 (by decide) hk rfl ⟨rfl, rfl⟩ rfl rfl
theorem d16_16 : decode prog_6_method_2_code 16 = .ok (.ifCond .eq 5, 3) := by decide +kernel
theorem s16_16 {v0 v1 v2 : Value} {x : Int32} {st : List Value} {im : IM} {rm : RM} : ev 16 16 [v0, v1, v2] (.int x :: st) im rm = if x = nI 0 then ev 16 21 [v0, v1, v2] st im rm else ev 16 19 [v0, v1, v2] st im rm := ev_if_eq (y := 0) pm_m16 d16_16 rfl rfl rfl
theorem d16_19 : decode prog_6_method_2_code 19 = .ok (.iload_n 2, 1) := by decide +kernel
theorem s16_19 {v0 v1 : Value} {l1 : Int32} {st : List Value} {im : IM} {rm : RM}  : ev 16 19 [v0, v1, .int l1] st im rm = ev 16 20 [v0, v1, .int l1] (.int l1 :: st) (im) (rm) := ev_iload_n pm_m16 d16_19 rfl rfl
theorem d16_20 : decode prog_6_method_2_code 20 = .ok (.ireturn, 1) := by decide +kernel
theorem s16_20 {v0 v1 v2 : Value} {x : Int32} {im : IM} {rm : RM} : ev 16 20 [v0, v1, v2] [.int x] im rm = some (some (.int x), im, rm) := ev_ireturn pm_m16 d16_20 rfl
theorem d16_21 : decode prog_6_method_2_code 21 = .ok (.iinc 2 1, 3) := by decide +kernel
theorem s16_21 {v0 : Value} {l1 : Nat} {l2 : Int32} {st : List Value} {im : IM} {rm : RM}  : ev 16 21 [v0, .ref l1, .int l2] st im rm = ev 16 24 [v0, .ref l1, .int (l2 + nI 1)] st (im) (rm) := ev_iinc pm_m16 d16_21 rfl rfl rfl rfl
theorem d16_24 : decode prog_6_method_2_code 24 = .ok (.goto (-22), 3) := by decide +kernel
theorem s16_24 {v0 v1 v2 : Value}  {st : List Value} {im : IM} {rm : RM}  : ev 16 24 [v0, v1, v2] st im rm = ev 16 2 [v0, v1, v2] st (im) (rm) := ev_goto pm_m16 d16_24 rfl rfl
theorem d16_27 : decode prog_6_method_2_code 27 = .ok (.iconst (-1), 1) := by decide +kernel
theorem s16_27 {v0 v1 v2 : Value}  {st : List Value} {im : IM} {rm : RM}  : ev 16 27 [v0, v1, v2] st im rm = ev 16 28 [v0, v1, v2] (.int ((-1 : Int32)) :: st) (im) (rm) := ev_iconst pm_m16 d16_27 rfl rfl
theorem d16_28 : decode prog_6_method_2_code 28 = .ok (.ireturn, 1) := by decide +kernel
theorem s16_28 {v0 v1 v2 : Value} {x : Int32} {im : IM} {rm : RM} : ev 16 28 [v0, v1, v2] [.int x] im rm = some (some (.int x), im, rm) := ev_ireturn pm_m16 d16_28 rfl
theorem d17_0 : decode prog_6_method_3_code 0 = .ok (.iconst 4, 1) := by decide +kernel
theorem s17_0 {v0 v1 v2 v3 v4 v5 : Value}  {st : List Value} {im : IM} {rm : RM}  : ev 17 0 [v0, v1, v2, v3, v4, v5] st im rm = ev 17 1 [v0, v1, v2, v3, v4, v5] (.int (nI 4) :: st) (im) (rm) := ev_iconst pm_m17 d17_0 rfl rfl
theorem d17_1 : decode prog_6_method_3_code 1 = .ok (.iload_n 1, 1) := by decide +kernel
theorem s17_1 {v0 v2 v3 v4 v5 : Value} {l1 : Int32} {st : List Value} {im : IM} {rm : RM}  : ev 17 1 [v0, .int l1, v2, v3, v4, v5] st im rm = ev 17 2 [v0, .int l1, v2, v3, v4, v5] (.int l1 :: st) (im) (rm) := ev_iload_n pm_m17 d17_1 rfl rfl
theorem d17_2 : decode prog_6_method_3_code 2 = .ok (.imul, 1) := by decide +kernel
theorem s17_2 {v0 v1 v2 v3 v4 v5 : Value} {x : Int32} {y : Int32} {st : List Value} {im : IM} {rm : RM}  : ev 17 2 [v0, v1, v2, v3, v4, v5] (.int y :: .int x :: st) im rm = ev 17 3 [v0, v1, v2, v3, v4, v5] (.int (x * y) :: st) (im) (rm) := ev_imul pm_m17 d17_2 rfl
theorem d17_3 : decode prog_6_method_3_code 3 = .ok (.istore_n 3, 1) := by decide +kernel
theorem s17_3 {v0 v1 v3 v4 v5 : Value} {l1 : Nat} {x2 : Int32} {st : List Value} {im : IM} {rm : RM}  : ev 17 3 [v0, v1, .ref l1, v3, v4, v5] (.int x2 :: st) im rm = ev 17 4 [v0, v1, .ref l1, .int x2, v4, v5] st (im) (rm) := ev_istore_n pm_m17 d17_3 (Nat.le_of_ble_eq_true rfl) rfl rfl
theorem d17_4 : decode prog_6_method_3_code 4 = .ok (.iload_n 3, 1) := by decide +kernel
theorem s17_4 {v0 v1 v2 v4 v5 : Value} {l1 : Int32} {st : List Value} {im : IM} {rm : RM}  : ev 17 4 [v0, v1, v2, .int l1, v4, v5] st im rm = ev 17 5 [v0, v1, v2, .int l1, v4, v5] (.int l1 :: st) (im) (rm) := ev_iload_n pm_m17 d17_4 rfl rfl
theorem d17_5 : decode prog_6_method_3_code 5 = .ok (.istore 4, 2) := by decide +kernel
theorem s17_5 {v0 v1 v2 v4 v5 : Value} {l1 : Int32} {x2 : Int32} {st : List Value} {im : IM} {rm : RM}  : ev 17 5 [v0, v1, v2, .int l1, v4, v5] (.int x2 :: st) im rm = ev 17 7 [v0, v1, v2, .int l1, .int x2, pm_u] st (im) (rm) := ev_istore pm_m17 d17_5 (Nat.le_of_ble_eq_true rfl) rfl rfl
theorem d17_7 : decode prog_6_method_3_code 7 = .ok (.iload 4, 2) := by decide +kernel
theorem s17_7 {v0 v1 v2 v3 v5 : Value} {l1 : Int32} {st : List Value} {im : IM} {rm : RM}  : ev 17 7 [v0, v1, v2, v3, .int l1, v5] st im rm = ev 17 9 [v0, v1, v2, v3, .int l1, v5] (.int l1 :: st) (im) (rm) := ev_iload pm_m17 d17_7 rfl rfl
theorem d17_9 : decode prog_6_method_3_code 9 = .ok (.iload_n 3, 1) := by decide +kernel
theorem s17_9 {v0 v1 v2 v4 v5 : Value} {l1 : Int32} {st : List Value} {im : IM} {rm : RM}  : ev 17 9 [v0, v1, v2, .int l1, v4, v5] st im rm = ev 17 10 [v0, v1, v2, .int l1, v4, v5] (.int l1 :: st) (im) (rm) := ev_iload_n pm_m17 d17_9 rfl rfl
theorem d17_10 : decode prog_6_method_3_code 10 = .ok (.aload_n 0, 1) := by decide +kernel
theorem s17_10 {v1 v2 v3 v4 v5 : Value} {l1 : Nat} {st : List Value} {im : IM} {rm : RM}  : ev 17 10 [.ref l1, v1, v2, v3, v4, v5] st im rm = ev 17 11 [.ref l1, v1, v2, v3, v4, v5] (.ref l1 :: st) (im) (rm) := ev_aload_n pm_m17 d17_10 rfl rfl
theorem d17_11 : decode prog_6_method_3_code 11 = .ok (.getfield 19, 3) := by decide +kernel
theorem s17_11 {v0 v1 v2 v3 v4 v5 : Value} {a : Nat} {st : List Value} {im : IM} {rm : RM} (hk : kd a = 14) : ev 17 11 [v0, v1, v2, v3, v4, v5] (.ref a :: st) im rm = ev 17 14 [v0, v1, v2, v3, v4, v5] (pm_ro (rm a 2) :: st) (im) (rm) := ev_getR pm_m17 d17_11 f4_19 rfl hk rfl
theorem d17_14 : decode prog_6_method_3_code 14 = .ok (.iload_n 1, 1) := by decide +kernel
theorem s17_14 {v0 v2 v3 v4 v5 : Value} {l1 : Int32} {st : List Value} {im : IM} {rm : RM}  : ev 17 14 [v0, .int l1, v2, v3, v4, v5] st im rm = ev 17 15 [v0, .int l1, v2, v3, v4, v5] (.int l1 :: st) (im) (rm) := ev_iload_n pm_m17 d17_14 rfl rfl
theorem d17_15 : decode prog_6_method_3_code 15 = .ok (.iaload, 1) := by decide +kernel
theorem s17_15 {v0 v1 v2 v3 v4 v5 : Value} {a : Nat} {i : Int32} {st : List Value} {im : IM} {rm : RM} (hk : kd a = 0) (hi : pm_in i (ln a) = true) : ev 17 15 [v0, v1, v2, v3, v4, v5] (.int i :: .ref a :: st) im rm = ev 17 16 [v0, v1, v2, v3, v4, v5] (.int (im a i.toNatClampNeg) :: st) (im) (rm) := ev_iald pm_m17 d17_15 hk hi rfl
theorem d17_16 : decode prog_6_method_3_code 16 = .ok (.iadd, 1) := by decide +kernel
theorem s17_16 {v0 v1 v2 v3 v4 v5 : Value} {x : Int32} {y : Int32} {st : List Value} {im : IM} {rm : RM}  : ev 17 16 [v0, v1, v2, v3, v4, v5] (.int y :: .int x :: st) im rm = ev 17 17 [v0, v1, v2, v3, v4, v5] (.int (x + y) :: st) (im) (rm) := ev_iadd pm_m17 d17_16 rfl
theorem d17_17 : decode prog_6_method_3_code 17 = .ok (.if_icmp .ge 59, 3) := by decide +kernel
theorem s17_17 {v0 v1 v2 v3 v4 v5 : Value} {x : Int32} {y : Int32} {st : List Value} {im : IM} {rm : RM} : ev 17 17 [v0, v1, v2, v3, v4, v5] (.int y :: .int x :: st) im rm = if y ≤ x then ev 17 76 [pm_u, pm_u, pm_u, pm_u, pm_u, pm_u] st im rm else ev 17 20 [v0, v1, v2, v3, v4, v5] st im rm := ev_icmp_ge pm_m17 d17_17 rfl rfl rfl
theorem d17_20 : decode prog_6_method_3_code 20 = .ok (.aload_n 2, 1) := by decide +kernel
theorem s17_20 {v0 v1 v3 v4 v5 : Value} {l1 : Nat} {st : List Value} {im : IM} {rm : RM}  : ev 17 20 [v0, v1, .ref l1, v3, v4, v5] st im rm = ev 17 21 [v0, v1, .ref l1, v3, v4, v5] (.ref l1 :: st) (im) (rm) := ev_aload_n pm_m17 d17_20 rfl rfl
theorem d17_21 : decode prog_6_method_3_code 21 = .ok (.aload_n 0, 1) := by decide +kernel
theorem s17_21 {v1 v2 v3 v4 v5 : Value} {l1 : Nat} {st : List Value} {im : IM} {rm : RM}  : ev 17 21 [.ref l1, v1, v2, v3, v4, v5] st im rm = ev 17 22 [.ref l1, v1, v2, v3, v4, v5] (.ref l1 :: st) (im) (rm) := ev_aload_n pm_m17 d17_21 rfl rfl
theorem d17_22 : decode prog_6_method_3_code 22 = .ok (.getfield 22, 3) := by decide +kernel
theorem s17_22 {v0 v1 v2 v3 v4 v5 : Value} {a : Nat} {st : List Value} {im : IM} {rm : RM} (hk : kd a = 14) : ev 17 22 [v0, v1, v2, v3, v4, v5] (.ref a :: st) im rm = ev 17 25 [v0, v1, v2, v3, v4, v5] (pm_ro (rm a 3) :: st) (im) (rm) := ev_getR pm_m17 d17_22 f4_22 rfl hk rfl
theorem d17_25 : decode prog_6_method_3_code 25 = .ok (.iload 4, 2) := by decide +kernel
theorem s17_25 {v0 v1 v2 v3 v5 : Value} {l1 : Int32} {st : List Value} {im : IM} {rm : RM}  : ev 17 25 [v0, v1, v2, v3, .int l1, v5] st im rm = ev 17 27 [v0, v1, v2, v3, .int l1, v5] (.int l1 :: st) (im) (rm) := ev_iload pm_m17 d17_25 rfl rfl
theorem d17_27 : decode prog_6_method_3_code 27 = .ok (.iaload, 1) := by decide +kernel
theorem s17_27 {v0 v1 v2 v3 v4 v5 : Value} {a : Nat} {i : Int32} {st : List Value} {im : IM} {rm : RM} (hk : kd a = 0) (hi : pm_in i (ln a) = true) : ev 17 27 [v0, v1, v2, v3, v4, v5] (.int i :: .ref a :: st) im rm = ev 17 28 [v0, v1, v2, v3, v4, v5] (.int (im a i.toNatClampNeg) :: st) (im) (rm) := ev_iald pm_m17 d17_27 hk hi rfl
theorem d17_28 : decode prog_6_method_3_code 28 = .ok (.iaload, 1) := by decide +kernel
theorem s17_28 {v0 v1 v2 v3 v4 v5 : Value} {a : Nat} {i : Int32} {st : List Value} {im : IM} {rm : RM} (hk : kd a = 0) (hi : pm_in i (ln a) = true) : ev 17 28 [v0, v1, v2, v3, v4, v5] (.int i :: .ref a :: st) im rm = ev 17 29 [v0, v1, v2, v3, v4, v5] (.int (im a i.toNatClampNeg) :: st) (im) (rm) := ev_iald pm_m17 d17_28 hk hi rfl
theorem d17_29 : decode prog_6_method_3_code 29 = .ok (.istore 5, 2) := by decide +kernel
theorem s17_29 {v0 v1 v2 v3 v5 : Value} {l1 : Int32} {x2 : Int32} {st : List Value} {im : IM} {rm : RM}  : ev 17 29 [v0, v1, v2, v3, .int l1, v5] (.int x2 :: st) im rm = ev 17 31 [v0, v1, v2, v3, .int l1, .int x2] st (im) (rm) := ev_istore pm_m17 d17_29 (Nat.le_of_ble_eq_true rfl) rfl rfl
theorem d17_31 : decode prog_6_method_3_code 31 = .ok (.aload_n 0, 1) := by decide +kernel
theorem s17_31 {v1 v2 v3 v4 v5 : Value} {l1 : Nat} {st : List Value} {im : IM} {rm : RM}  : ev 17 31 [.ref l1, v1, v2, v3, v4, v5] st im rm = ev 17 32 [.ref l1, v1, v2, v3, v4, v5] (.ref l1 :: st) (im) (rm) := ev_aload_n pm_m17 d17_31 rfl rfl
theorem d17_32 : decode prog_6_method_3_code 32 = .ok (.getfield 25, 3) := by decide +kernel
theorem s17_32 {v0 v1 v2 v3 v4 v5 : Value} {a : Nat} {st : List Value} {im : IM} {rm : RM} (hk : kd a = 14) : ev 17 32 [v0, v1, v2, v3, v4, v5] (.ref a :: st) im rm = ev 17 35 [v0, v1, v2, v3, v4, v5] (pm_ro (rm a 4) :: st) (im) (rm) := ev_getR pm_m17 d17_32 f4_25 rfl hk rfl
theorem d17_35 : decode prog_6_method_3_code 35 = .ok (.iload 4, 2) := by decide +kernel
theorem s17_35 {v0 v1 v2 v3 v5 : Value} {l1 : Int32} {st : List Value} {im : IM} {rm : RM}  : ev 17 35 [v0, v1, v2, v3, .int l1, v5] st im rm = ev 17 37 [v0, v1, v2, v3, .int l1, v5] (.int l1 :: st) (im) (rm) := ev_iload pm_m17 d17_35 rfl rfl
theorem d17_37 : decode prog_6_method_3_code 37 = .ok (.baload, 1) := by decide +kernel
theorem s17_37 {v0 v1 v2 v3 v4 v5 : Value} {a : Nat} {i : Int32} {st : List Value} {im : IM} {rm : RM} (hk : kd a = 1) (hi : pm_in i (ln a) = true) : ev 17 37 [v0, v1, v2, v3, v4, v5] (.int i :: .ref a :: st) im rm = ev 17 38 [v0, v1, v2, v3, v4, v5] (.int (im a i.toNatClampNeg) :: st) (im) (rm) := ev_zald pm_m17 d17_37 hk hi rfl
theorem d17_38 : decode prog_6_method_3_code 38 = .ok (.ifCond .eq 18, 3) := by decide +kernel
theorem s17_38 {v0 v1 v2 v3 v4 v5 : Value} {x : Int32} {st : List Value} {im : IM} {rm : RM} : ev 17 38 [v0, v1, v2, v3, v4, v5] (.int x :: st) im rm = if x = nI 0 then ev 17 56 [v0, v1, v2, v3, v4, v5] st im rm else ev 17 41 [v0, v1, v2, v3, v4, v5] st im rm := ev_if_eq (y := 0) pm_m17 d17_38 rfl rfl rfl
theorem d17_41 : decode prog_6_method_3_code 41 = .ok (.iload 5, 2) := by decide +kernel
theorem s17_41 {v0 v1 v2 v3 v4 : Value} {l1 : Int32} {st : List Value} {im : IM} {rm : RM}  : ev 17 41 [v0, v1, v2, v3, v4, .int l1] st im rm = ev 17 43 [v0, v1, v2, v3, v4, .int l1] (.int l1 :: st) (im) (rm) := ev_iload pm_m17 d17_41 rfl rfl
theorem d17_43 : decode prog_6_method_3_code 43 = .ok (.aload_n 0, 1) := by decide +kernel
theorem s17_43 {v1 v2 v3 v4 v5 : Value} {l1 : Nat} {st : List Value} {im : IM} {rm : RM}  : ev 17 43 [.ref l1, v1, v2, v3, v4, v5] st im rm = ev 17 44 [.ref l1, v1, v2, v3, v4, v5] (.ref l1 :: st) (im) (rm) := ev_aload_n pm_m17 d17_43 rfl rfl
theorem d17_44 : decode prog_6_method_3_code 44 = .ok (.getfield 29, 3) := by decide +kernel
theorem s17_44 {v0 v1 v2 v3 v4 v5 : Value} {a : Nat} {st : List Value} {im : IM} {rm : RM} (hk : kd a = 14) : ev 17 44 [v0, v1, v2, v3, v4, v5] (.ref a :: st) im rm = ev 17 47 [v0, v1, v2, v3, v4, v5] (pm_ro (rm a 5) :: st) (im) (rm) := ev_getR pm_m17 d17_44 f4_29 rfl hk rfl
theorem d17_47 : decode prog_6_method_3_code 47 = .ok (.iload 4, 2) := by decide +kernel
theorem s17_47 {v0 v1 v2 v3 v5 : Value} {l1 : Int32} {st : List Value} {im : IM} {rm : RM}  : ev 17 47 [v0, v1, v2, v3, .int l1, v5] st im rm = ev 17 49 [v0, v1, v2, v3, .int l1, v5] (.int l1 :: st) (im) (rm) := ev_iload pm_m17 d17_47 rfl rfl
theorem d17_49 : decode prog_6_method_3_code 49 = .ok (.iaload, 1) := by decide +kernel
theorem s17_49 {v0 v1 v2 v3 v4 v5 : Value} {a : Nat} {i : Int32} {st : List Value} {im : IM} {rm : RM} (hk : kd a = 0) (hi : pm_in i (ln a) = true) : ev 17 49 [v0, v1, v2, v3, v4, v5] (.int i :: .ref a :: st) im rm = ev 17 50 [v0, v1, v2, v3, v4, v5] (.int (im a i.toNatClampNeg) :: st) (im) (rm) := ev_iald pm_m17 d17_49 hk hi rfl
theorem d17_50 : decode prog_6_method_3_code 50 = .ok (.if_icmp .gt 20, 3) := by decide +kernel
theorem s17_50 {v0 v1 v2 v3 v4 v5 : Value} {x : Int32} {y : Int32} {st : List Value} {im : IM} {rm : RM} : ev 17 50 [v0, v1, v2, v3, v4, v5] (.int y :: .int x :: st) im rm = if y < x then ev 17 70 [v0, v1, v2, v3, v4, pm_u] st im rm else ev 17 53 [v0, v1, v2, v3, v4, v5] st im rm := ev_icmp_gt pm_m17 d17_50 rfl rfl rfl
theorem d17_53 : decode prog_6_method_3_code 53 = .ok (.goto 15, 3) := by decide +kernel
theorem s17_53 {v0 v1 v2 v3 v4 v5 : Value}  {st : List Value} {im : IM} {rm : RM}  : ev 17 53 [v0, v1, v2, v3, v4, v5] st im rm = ev 17 68 [pm_u, pm_u, pm_u, pm_u, pm_u, pm_u] st (im) (rm) := ev_goto pm_m17 d17_53 rfl rfl
theorem d17_56 : decode prog_6_method_3_code 56 = .ok (.iload 5, 2) := by decide +kernel
theorem s17_56 {v0 v1 v2 v3 v4 : Value} {l1 : Int32} {st : List Value} {im : IM} {rm : RM}  : ev 17 56 [v0, v1, v2, v3, v4, .int l1] st im rm = ev 17 58 [v0, v1, v2, v3, v4, .int l1] (.int l1 :: st) (im) (rm) := ev_iload pm_m17 d17_56 rfl rfl
theorem d17_58 : decode prog_6_method_3_code 58 = .ok (.aload_n 0, 1) := by decide +kernel
theorem s17_58 {v1 v2 v3 v4 v5 : Value} {l1 : Nat} {st : List Value} {im : IM} {rm : RM}  : ev 17 58 [.ref l1, v1, v2, v3, v4, v5] st im rm = ev 17 59 [.ref l1, v1, v2, v3, v4, v5] (.ref l1 :: st) (im) (rm) := ev_aload_n pm_m17 d17_58 rfl rfl
theorem d17_59 : decode prog_6_method_3_code 59 = .ok (.getfield 29, 3) := by decide +kernel
theorem s17_59 {v0 v1 v2 v3 v4 v5 : Value} {a : Nat} {st : List Value} {im : IM} {rm : RM} (hk : kd a = 14) : ev 17 59 [v0, v1, v2, v3, v4, v5] (.ref a :: st) im rm = ev 17 62 [v0, v1, v2, v3, v4, v5] (pm_ro (rm a 5) :: st) (im) (rm) := ev_getR pm_m17 d17_59 f4_29 rfl hk rfl
theorem d17_62 : decode prog_6_method_3_code 62 = .ok (.iload 4, 2) := by decide +kernel
theorem s17_62 {v0 v1 v2 v3 v5 : Value} {l1 : Int32} {st : List Value} {im : IM} {rm : RM}  : ev 17 62 [v0, v1, v2, v3, .int l1, v5] st im rm = ev 17 64 [v0, v1, v2, v3, .int l1, v5] (.int l1 :: st) (im) (rm) := ev_iload pm_m17 d17_62 rfl rfl
theorem d17_64 : decode prog_6_method_3_code 64 = .ok (.iaload, 1) := by decide +kernel
theorem s17_64 {v0 v1 v2 v3 v4 v5 : Value} {a : Nat} {i : Int32} {st : List Value} {im : IM} {rm : RM} (hk : kd a = 0) (hi : pm_in i (ln a) = true) : ev 17 64 [v0, v1, v2, v3, v4, v5] (.int i :: .ref a :: st) im rm = ev 17 65 [v0, v1, v2, v3, v4, v5] (.int (im a i.toNatClampNeg) :: st) (im) (rm) := ev_iald pm_m17 d17_64 hk hi rfl
theorem d17_65 : decode prog_6_method_3_code 65 = .ok (.if_icmp .lt 5, 3) := by decide +kernel
theorem s17_65 {v0 v1 v2 v3 v4 v5 : Value} {x : Int32} {y : Int32} {st : List Value} {im : IM} {rm : RM} : ev 17 65 [v0, v1, v2, v3, v4, v5] (.int y :: .int x :: st) im rm = if x < y then ev 17 70 [v0, v1, v2, v3, v4, pm_u] st im rm else ev 17 68 [pm_u, pm_u, pm_u, pm_u, pm_u, pm_u] st im rm := ev_icmp_lt pm_m17 d17_65 rfl rfl rfl
theorem d17_68 : decode prog_6_method_3_code 68 = .ok (.iconst 0, 1) := by decide +kernel
theorem s17_68 {v0 v1 v2 v3 v4 v5 : Value}  {st : List Value} {im : IM} {rm : RM}  : ev 17 68 [v0, v1, v2, v3, v4, v5] st im rm = ev 17 69 [v0, v1, v2, v3, v4, v5] (.int (nI 0) :: st) (im) (rm) := ev_iconst pm_m17 d17_68 rfl rfl
theorem d17_69 : decode prog_6_method_3_code 69 = .ok (.ireturn, 1) := by decide +kernel
theorem s17_69 {v0 v1 v2 v3 v4 v5 : Value} {x : Int32} {im : IM} {rm : RM} (hx : x = 0 ∨ x = 1) : ev 17 69 [v0, v1, v2, v3, v4, v5] [.int x] im rm = some (some (.int x), im, rm) := ev_zreturn pm_m17 d17_69 rfl hx
theorem d17_70 : decode prog_6_method_3_code 70 = .ok (.iinc 4 1, 3) := by decide +kernel
theorem s17_70 {v0 v1 v2 v5 : Value} {l1 : Int32} {l2 : Int32} {st : List Value} {im : IM} {rm : RM}  : ev 17 70 [v0, v1, v2, .int l1, .int l2, v5] st im rm = ev 17 73 [v0, v1, v2, .int l1, .int (l2 + nI 1), v5] st (im) (rm) := ev_iinc pm_m17 d17_70 rfl rfl rfl rfl
theorem d17_73 : decode prog_6_method_3_code 73 = .ok (.goto (-66), 3) := by decide +kernel
theorem s17_73 {v0 v1 v2 v3 v4 v5 : Value}  {st : List Value} {im : IM} {rm : RM}  : ev 17 73 [v0, v1, v2, v3, v4, v5] st im rm = ev 17 7 [v0, v1, v2, v3, v4, pm_u] st (im) (rm) := ev_goto pm_m17 d17_73 rfl rfl
theorem d17_76 : decode prog_6_method_3_code 76 = .ok (.iconst 1, 1) := by decide +kernel
theorem s17_76 {v0 v1 v2 v3 v4 v5 : Value}  {st : List Value} {im : IM} {rm : RM}  : ev 17 76 [v0, v1, v2, v3, v4, v5] st im rm = ev 17 77 [v0, v1, v2, v3, v4, v5] (.int (nI 1) :: st) (im) (rm) := ev_iconst pm_m17 d17_76 rfl rfl
theorem d17_77 : decode prog_6_method_3_code 77 = .ok (.ireturn, 1) := by decide +kernel
theorem s17_77 {v0 v1 v2 v3 v4 v5 : Value} {x : Int32} {im : IM} {rm : RM} (hx : x = 0 ∨ x = 1) : ev 17 77 [v0, v1, v2, v3, v4, v5] [.int x] im rm = some (some (.int x), im, rm) := ev_zreturn pm_m17 d17_77 rfl hx
theorem d18_0 : decode prog_6_method_4_code 0 = .ok (.iload_n 1, 1) := by decide +kernel
theorem s18_0 {v0 : Value} {l1 : Int32} {st : List Value} {im : IM} {rm : RM}  : ev 18 0 [v0, .int l1] st im rm = ev 18 1 [v0, .int l1] (.int l1 :: st) (im) (rm) := ev_iload_n pm_m18 d18_0 rfl rfl
theorem d18_1 : decode prog_6_method_4_code 1 = .ok (.iconst (-1), 1) := by decide +kernel
theorem s18_1 {v0 v1 : Value}  {st : List Value} {im : IM} {rm : RM}  : ev 18 1 [v0, v1] st im rm = ev 18 2 [v0, v1] (.int ((-1 : Int32)) :: st) (im) (rm) := ev_iconst pm_m18 d18_1 rfl rfl
theorem d18_2 : decode prog_6_method_4_code 2 = .ok (.if_icmp .ne 7, 3) := by decide +kernel
theorem s18_2 {v0 v1 : Value} {x : Int32} {y : Int32} {st : List Value} {im : IM} {rm : RM} : ev 18 2 [v0, v1] (.int y :: .int x :: st) im rm = if x = y then ev 18 5 [v0, v1] st im rm else ev 18 9 [v0, v1] st im rm := ev_icmp_ne pm_m18 d18_2 rfl rfl rfl
theorem d18_5 : decode prog_6_method_4_code 5 = .ok (.iconst 0, 1) := by decide +kernel
theorem s18_5 {v0 v1 : Value}  {st : List Value} {im : IM} {rm : RM}  : ev 18 5 [v0, v1] st im rm = ev 18 6 [v0, v1] (.int (nI 0) :: st) (im) (rm) := ev_iconst pm_m18 d18_5 rfl rfl
theorem d18_6 : decode prog_6_method_4_code 6 = .ok (.goto 9, 3) := by decide +kernel
theorem s18_6 {v0 v1 : Value}  {st : List Value} {im : IM} {rm : RM}  : ev 18 6 [v0, v1] st im rm = ev 18 15 [pm_u, pm_u] st (im) (rm) := ev_goto pm_m18 d18_6 rfl rfl
theorem d18_9 : decode prog_6_method_4_code 9 = .ok (.aload_n 0, 1) := by decide +kernel
theorem s18_9 {v1 : Value} {l1 : Nat} {st : List Value} {im : IM} {rm : RM}  : ev 18 9 [.ref l1, v1] st im rm = ev 18 10 [.ref l1, v1] (.ref l1 :: st) (im) (rm) := ev_aload_n pm_m18 d18_9 rfl rfl
theorem d18_10 : decode prog_6_method_4_code 10 = .ok (.getfield 15, 3) := by decide +kernel
theorem s18_10 {v0 v1 : Value} {a : Nat} {st : List Value} {im : IM} {rm : RM} (hk : kd a = 14) : ev 18 10 [v0, v1] (.ref a :: st) im rm = ev 18 13 [v0, v1] (pm_ro (rm a 1) :: st) (im) (rm) := ev_getR pm_m18 d18_10 f4_15 rfl hk rfl
theorem d18_13 : decode prog_6_method_4_code 13 = .ok (.iload_n 1, 1) := by decide +kernel
theorem s18_13 {v0 : Value} {l1 : Int32} {st : List Value} {im : IM} {rm : RM}  : ev 18 13 [v0, .int l1] st im rm = ev 18 14 [v0, .int l1] (.int l1 :: st) (im) (rm) := ev_iload_n pm_m18 d18_13 rfl rfl
theorem d18_14 : decode prog_6_method_4_code 14 = .ok (.iaload, 1) := by decide +kernel
theorem s18_14 {v0 v1 : Value} {a : Nat} {i : Int32} {st : List Value} {im : IM} {rm : RM} (hk : kd a = 0) (hi : pm_in i (ln a) = true) : ev 18 14 [v0, v1] (.int i :: .ref a :: st) im rm = ev 18 15 [pm_u, pm_u] (.int (im a i.toNatClampNeg) :: st) (im) (rm) := ev_iald pm_m18 d18_14 hk hi rfl
theorem d18_15 : decode prog_6_method_4_code 15 = .ok (.ireturn, 1) := by decide +kernel
theorem s18_15 {v0 v1 : Value} {x : Int32} {im : IM} {rm : RM} : ev 18 15 [v0, v1] [.int x] im rm = some (some (.int x), im, rm) := ev_ireturn pm_m18 d18_15 rfl
theorem d19_0 : decode prog_6_method_5_code 0 = .ok (.iconst 0, 1) := by decide +kernel
theorem s19_0 {v0 v1 v2 v3 v4 : Value}  {st : List Value} {im : IM} {rm : RM}  : ev 19 0 [v0, v1, v2, v3, v4] st im rm = ev 19 1 [v0, v1, v2, v3, v4] (.int (nI 0) :: st) (im) (rm) := ev_iconst pm_m19 d19_0 rfl rfl
theorem d19_1 : decode prog_6_method_5_code 1 = .ok (.istore_n 2, 1) := by decide +kernel
theorem s19_1 {v0 v2 v3 v4 : Value} {l1 : Int32} {x2 : Int32} {st : List Value} {im : IM} {rm : RM}  : ev 19 1 [v0, .int l1, v2, v3, v4] (.int x2 :: st) im rm = ev 19 2 [v0, .int l1, .int x2, pm_u, pm_u] st (im) (rm) := ev_istore_n pm_m19 d19_1 (Nat.le_of_ble_eq_true rfl) rfl rfl
theorem d19_2 : decode prog_6_method_5_code 2 = .ok (.iload_n 2, 1) := by decide +kernel
theorem s19_2 {v0 v1 v3 v4 : Value} {l1 : Int32} {st : List Value} {im : IM} {rm : RM}  : ev 19 2 [v0, v1, .int l1, v3, v4] st im rm = ev 19 3 [v0, v1, .int l1, v3, v4] (.int l1 :: st) (im) (rm) := ev_iload_n pm_m19 d19_2 rfl rfl
theorem d19_3 : decode prog_6_method_5_code 3 = .ok (.aload_n 0, 1) := by decide +kernel
theorem s19_3 {v1 v2 v3 v4 : Value} {l1 : Nat} {st : List Value} {im : IM} {rm : RM}  : ev 19 3 [.ref l1, v1, v2, v3, v4] st im rm = ev 19 4 [.ref l1, v1, v2, v3, v4] (.ref l1 :: st) (im) (rm) := ev_aload_n pm_m19 d19_3 rfl rfl
theorem d19_4 : decode prog_6_method_5_code 4 = .ok (.getfield 9, 3) := by decide +kernel
theorem s19_4 {v0 v1 v2 v3 v4 : Value} {a : Nat} {st : List Value} {im : IM} {rm : RM} (hk : kd a = 14) : ev 19 4 [v0, v1, v2, v3, v4] (.ref a :: st) im rm = ev 19 7 [v0, v1, v2, v3, v4] (.int (im a 0) :: st) (im) (rm) := ev_getI pm_m19 d19_4 f4_9 rfl hk rfl
theorem d19_7 : decode prog_6_method_5_code 7 = .ok (.if_icmp .ge 48, 3) := by decide +kernel
theorem s19_7 {v0 v1 v2 v3 v4 : Value} {x : Int32} {y : Int32} {st : List Value} {im : IM} {rm : RM} : ev 19 7 [v0, v1, v2, v3, v4] (.int y :: .int x :: st) im rm = if y ≤ x then ev 19 55 [pm_u, pm_u, pm_u, pm_u, pm_u] st im rm else ev 19 10 [v0, v1, v2, v3, v4] st im rm := ev_icmp_ge pm_m19 d19_7 rfl rfl rfl
theorem d19_10 : decode prog_6_method_5_code 10 = .ok (.iconst 4, 1) := by decide +kernel
theorem s19_10 {v0 v1 v2 v3 v4 : Value}  {st : List Value} {im : IM} {rm : RM}  : ev 19 10 [v0, v1, v2, v3, v4] st im rm = ev 19 11 [v0, v1, v2, v3, v4] (.int (nI 4) :: st) (im) (rm) := ev_iconst pm_m19 d19_10 rfl rfl
theorem d19_11 : decode prog_6_method_5_code 11 = .ok (.iload_n 2, 1) := by decide +kernel
theorem s19_11 {v0 v1 v3 v4 : Value} {l1 : Int32} {st : List Value} {im : IM} {rm : RM}  : ev 19 11 [v0, v1, .int l1, v3, v4] st im rm = ev 19 12 [v0, v1, .int l1, v3, v4] (.int l1 :: st) (im) (rm) := ev_iload_n pm_m19 d19_11 rfl rfl
theorem d19_12 : decode prog_6_method_5_code 12 = .ok (.imul, 1) := by decide +kernel
theorem s19_12 {v0 v1 v2 v3 v4 : Value} {x : Int32} {y : Int32} {st : List Value} {im : IM} {rm : RM}  : ev 19 12 [v0, v1, v2, v3, v4] (.int y :: .int x :: st) im rm = ev 19 13 [v0, v1, v2, v3, v4] (.int (x * y) :: st) (im) (rm) := ev_imul pm_m19 d19_12 rfl
theorem d19_13 : decode prog_6_method_5_code 13 = .ok (.istore_n 3, 1) := by decide +kernel
theorem s19_13 {v0 v1 v3 v4 : Value} {l1 : Int32} {x2 : Int32} {st : List Value} {im : IM} {rm : RM}  : ev 19 13 [v0, v1, .int l1, v3, v4] (.int x2 :: st) im rm = ev 19 14 [v0, v1, .int l1, .int x2, v4] st (im) (rm) := ev_istore_n pm_m19 d19_13 (Nat.le_of_ble_eq_true rfl) rfl rfl
theorem d19_14 : decode prog_6_method_5_code 14 = .ok (.iload_n 3, 1) := by decide +kernel
theorem s19_14 {v0 v1 v2 v4 : Value} {l1 : Int32} {st : List Value} {im : IM} {rm : RM}  : ev 19 14 [v0, v1, v2, .int l1, v4] st im rm = ev 19 15 [v0, v1, v2, .int l1, v4] (.int l1 :: st) (im) (rm) := ev_iload_n pm_m19 d19_14 rfl rfl
theorem d19_15 : decode prog_6_method_5_code 15 = .ok (.istore 4, 2) := by decide +kernel
theorem s19_15 {v0 v1 v2 v4 : Value} {l1 : Int32} {x2 : Int32} {st : List Value} {im : IM} {rm : RM}  : ev 19 15 [v0, v1, v2, .int l1, v4] (.int x2 :: st) im rm = ev 19 17 [v0, v1, v2, .int l1, .int x2] st (im) (rm) := ev_istore pm_m19 d19_15 (Nat.le_of_ble_eq_true rfl) rfl rfl
theorem d19_17 : decode prog_6_method_5_code 17 = .ok (.iload 4, 2) := by decide +kernel
theorem s19_17 {v0 v1 v2 v3 : Value} {l1 : Int32} {st : List Value} {im : IM} {rm : RM}  : ev 19 17 [v0, v1, v2, v3, .int l1] st im rm = ev 19 19 [v0, v1, v2, v3, .int l1] (.int l1 :: st) (im) (rm) := ev_iload pm_m19 d19_17 rfl rfl
theorem d19_19 : decode prog_6_method_5_code 19 = .ok (.iload_n 3, 1) := by decide +kernel
theorem s19_19 {v0 v1 v2 v4 : Value} {l1 : Int32} {st : List Value} {im : IM} {rm : RM}  : ev 19 19 [v0, v1, v2, .int l1, v4] st im rm = ev 19 20 [v0, v1, v2, .int l1, v4] (.int l1 :: st) (im) (rm) := ev_iload_n pm_m19 d19_19 rfl rfl
theorem d19_20 : decode prog_6_method_5_code 20 = .ok (.aload_n 0, 1) := by decide +kernel
theorem s19_20 {v1 v2 v3 v4 : Value} {l1 : Nat} {st : List Value} {im : IM} {rm : RM}  : ev 19 20 [.ref l1, v1, v2, v3, v4] st im rm = ev 19 21 [.ref l1, v1, v2, v3, v4] (.ref l1 :: st) (im) (rm) := ev_aload_n pm_m19 d19_20 rfl rfl
theorem d19_21 : decode prog_6_method_5_code 21 = .ok (.getfield 19, 3) := by decide +kernel
theorem s19_21 {v0 v1 v2 v3 v4 : Value} {a : Nat} {st : List Value} {im : IM} {rm : RM} (hk : kd a = 14) : ev 19 21 [v0, v1, v2, v3, v4] (.ref a :: st) im rm = ev 19 24 [v0, v1, v2, v3, v4] (pm_ro (rm a 2) :: st) (im) (rm) := ev_getR pm_m19 d19_21 f4_19 rfl hk rfl
theorem d19_24 : decode prog_6_method_5_code 24 = .ok (.iload_n 2, 1) := by decide +kernel
theorem s19_24 {v0 v1 v3 v4 : Value} {l1 : Int32} {st : List Value} {im : IM} {rm : RM}  : ev 19 24 [v0, v1, .int l1, v3, v4] st im rm = ev 19 25 [v0, v1, .int l1, v3, v4] (.int l1 :: st) (im) (rm) := ev_iload_n pm_m19 d19_24 rfl rfl
theorem d19_25 : decode prog_6_method_5_code 25 = .ok (.iaload, 1) := by decide +kernel
theorem s19_25 {v0 v1 v2 v3 v4 : Value} {a : Nat} {i : Int32} {st : List Value} {im : IM} {rm : RM} (hk : kd a = 0) (hi : pm_in i (ln a) = true) : ev 19 25 [v0, v1, v2, v3, v4] (.int i :: .ref a :: st) im rm = ev 19 26 [v0, v1, v2, v3, v4] (.int (im a i.toNatClampNeg) :: st) (im) (rm) := ev_iald pm_m19 d19_25 hk hi rfl
theorem d19_26 : decode prog_6_method_5_code 26 = .ok (.iadd, 1) := by decide +kernel
theorem s19_26 {v0 v1 v2 v3 v4 : Value} {x : Int32} {y : Int32} {st : List Value} {im : IM} {rm : RM}  : ev 19 26 [v0, v1, v2, v3, v4] (.int y :: .int x :: st) im rm = ev 19 27 [v0, v1, v2, v3, v4] (.int (x + y) :: st) (im) (rm) := ev_iadd pm_m19 d19_26 rfl
theorem d19_27 : decode prog_6_method_5_code 27 = .ok (.if_icmp .ge 22, 3) := by decide +kernel
theorem s19_27 {v0 v1 v2 v3 v4 : Value} {x : Int32} {y : Int32} {st : List Value} {im : IM} {rm : RM} : ev 19 27 [v0, v1, v2, v3, v4] (.int y :: .int x :: st) im rm = if y ≤ x then ev 19 49 [v0, v1, v2, pm_u, pm_u] st im rm else ev 19 30 [v0, v1, v2, v3, v4] st im rm := ev_icmp_ge pm_m19 d19_27 rfl rfl rfl
theorem d19_30 : decode prog_6_method_5_code 30 = .ok (.aload_n 0, 1) := by decide +kernel
theorem s19_30 {v1 v2 v3 v4 : Value} {l1 : Nat} {st : List Value} {im : IM} {rm : RM}  : ev 19 30 [.ref l1, v1, v2, v3, v4] st im rm = ev 19 31 [.ref l1, v1, v2, v3, v4] (.ref l1 :: st) (im) (rm) := ev_aload_n pm_m19 d19_30 rfl rfl
theorem d19_31 : decode prog_6_method_5_code 31 = .ok (.getfield 22, 3) := by decide +kernel
theorem s19_31 {v0 v1 v2 v3 v4 : Value} {a : Nat} {st : List Value} {im : IM} {rm : RM} (hk : kd a = 14) : ev 19 31 [v0, v1, v2, v3, v4] (.ref a :: st) im rm = ev 19 34 [v0, v1, v2, v3, v4] (pm_ro (rm a 3) :: st) (im) (rm) := ev_getR pm_m19 d19_31 f4_22 rfl hk rfl
theorem d19_34 : decode prog_6_method_5_code 34 = .ok (.iload 4, 2) := by decide +kernel
theorem s19_34 {v0 v1 v2 v3 : Value} {l1 : Int32} {st : List Value} {im : IM} {rm : RM}  : ev 19 34 [v0, v1, v2, v3, .int l1] st im rm = ev 19 36 [v0, v1, v2, v3, .int l1] (.int l1 :: st) (im) (rm) := ev_iload pm_m19 d19_34 rfl rfl
theorem d19_36 : decode prog_6_method_5_code 36 = .ok (.iaload, 1) := by decide +kernel
theorem s19_36 {v0 v1 v2 v3 v4 : Value} {a : Nat} {i : Int32} {st : List Value} {im : IM} {rm : RM} (hk : kd a = 0) (hi : pm_in i (ln a) = true) : ev 19 36 [v0, v1, v2, v3, v4] (.int i :: .ref a :: st) im rm = ev 19 37 [v0, v1, v2, v3, v4] (.int (im a i.toNatClampNeg) :: st) (im) (rm) := ev_iald pm_m19 d19_36 hk hi rfl
theorem d19_37 : decode prog_6_method_5_code 37 = .ok (.iload_n 1, 1) := by decide +kernel
theorem s19_37 {v0 v2 v3 v4 : Value} {l1 : Int32} {st : List Value} {im : IM} {rm : RM}  : ev 19 37 [v0, .int l1, v2, v3, v4] st im rm = ev 19 38 [v0, .int l1, v2, v3, v4] (.int l1 :: st) (im) (rm) := ev_iload_n pm_m19 d19_37 rfl rfl
theorem d19_38 : decode prog_6_method_5_code 38 = .ok (.if_icmp .ne 5, 3) := by decide +kernel
theorem s19_38 {v0 v1 v2 v3 v4 : Value} {x : Int32} {y : Int32} {st : List Value} {im : IM} {rm : RM} : ev 19 38 [v0, v1, v2, v3, v4] (.int y :: .int x :: st) im rm = if x = y then ev 19 41 [v0, v1, v2, v3, v4] st im rm else ev 19 43 [v0, v1, v2, v3, v4] st im rm := ev_icmp_ne pm_m19 d19_38 rfl rfl rfl
theorem d19_41 : decode prog_6_method_5_code 41 = .ok (.iconst 1, 1) := by decide +kernel
theorem s19_41 {v0 v1 v2 v3 v4 : Value}  {st : List Value} {im : IM} {rm : RM}  : ev 19 41 [v0, v1, v2, v3, v4] st im rm = ev 19 42 [v0, v1, v2, v3, v4] (.int (nI 1) :: st) (im) (rm) := ev_iconst pm_m19 d19_41 rfl rfl
theorem d19_42 : decode prog_6_method_5_code 42 = .ok (.ireturn, 1) := by decide +kernel
theorem s19_42 {v0 v1 v2 v3 v4 : Value} {x : Int32} {im : IM} {rm : RM} (hx : x = 0 ∨ x = 1) : ev 19 42 [v0, v1, v2, v3, v4] [.int x] im rm = some (some (.int x), im, rm) := ev_zreturn pm_m19 d19_42 rfl hx
theorem d19_43 : decode prog_6_method_5_code 43 = .ok (.iinc 4 1, 3) := by decide +kernel
theorem s19_43 {v0 v1 v2 : Value} {l1 : Int32} {l2 : Int32} {st : List Value} {im : IM} {rm : RM}  : ev 19 43 [v0, v1, v2, .int l1, .int l2] st im rm = ev 19 46 [v0, v1, v2, .int l1, .int (l2 + nI 1)] st (im) (rm) := ev_iinc pm_m19 d19_43 rfl rfl rfl rfl
theorem d19_46 : decode prog_6_method_5_code 46 = .ok (.goto (-29), 3) := by decide +kernel
theorem s19_46 {v0 v1 v2 v3 v4 : Value}  {st : List Value} {im : IM} {rm : RM}  : ev 19 46 [v0, v1, v2, v3, v4] st im rm = ev 19 17 [v0, v1, v2, v3, v4] st (im) (rm) := ev_goto pm_m19 d19_46 rfl rfl
theorem d19_49 : decode prog_6_method_5_code 49 = .ok (.iinc 2 1, 3) := by decide +kernel
theorem s19_49 {v0 v3 v4 : Value} {l1 : Int32} {l2 : Int32} {st : List Value} {im : IM} {rm : RM}  : ev 19 49 [v0, .int l1, .int l2, v3, v4] st im rm = ev 19 52 [v0, .int l1, .int (l2 + nI 1), v3, v4] st (im) (rm) := ev_iinc pm_m19 d19_49 rfl rfl rfl rfl
theorem d19_52 : decode prog_6_method_5_code 52 = .ok (.goto (-50), 3) := by decide +kernel
theorem s19_52 {v0 v1 v2 v3 v4 : Value}  {st : List Value} {im : IM} {rm : RM}  : ev 19 52 [v0, v1, v2, v3, v4] st im rm = ev 19 2 [v0, v1, v2, pm_u, pm_u] st (im) (rm) := ev_goto pm_m19 d19_52 rfl rfl
theorem d19_55 : decode prog_6_method_5_code 55 = .ok (.iconst 0, 1) := by decide +kernel
theorem s19_55 {v0 v1 v2 v3 v4 : Value}  {st : List Value} {im : IM} {rm : RM}  : ev 19 55 [v0, v1, v2, v3, v4] st im rm = ev 19 56 [v0, v1, v2, v3, v4] (.int (nI 0) :: st) (im) (rm) := ev_iconst pm_m19 d19_55 rfl rfl
theorem d19_56 : decode prog_6_method_5_code 56 = .ok (.ireturn, 1) := by decide +kernel
theorem s19_56 {v0 v1 v2 v3 v4 : Value} {x : Int32} {im : IM} {rm : RM} (hx : x = 0 ∨ x = 1) : ev 19 56 [v0, v1, v2, v3, v4] [.int x] im rm = some (some (.int x), im, rm) := ev_zreturn pm_m19 d19_56 rfl hx
theorem d21_0 : decode prog_7_method_2_code 0 = .ok (.aload_n 0, 1) := by decide +kernel
theorem s21_0 {v1 v2 v3 : Value} {l1 : Nat} {st : List Value} {im : IM} {rm : RM}  : ev 21 0 [.ref l1, v1, v2, v3] st im rm = ev 21 1 [.ref l1, v1, v2, v3] (.ref l1 :: st) (im) (rm) := ev_aload_n pm_m21 d21_0 rfl rfl
theorem d21_1 : decode prog_7_method_2_code 1 = .ok (.getfield 9, 3) := by decide +kernel
theorem s21_1 {v0 v1 v2 v3 : Value} {a : Nat} {st : List Value} {im : IM} {rm : RM} (hk : kd a = 15) : ev 21 1 [v0, v1, v2, v3] (.ref a :: st) im rm = ev 21 4 [v0, v1, v2, v3] (.int (im a 0) :: st) (im) (rm) := ev_getI pm_m21 d21_1 f5_9 rfl hk rfl
theorem d21_4 : decode prog_7_method_2_code 4 = .ok (.bipush 20, 2) := by decide +kernel
theorem s21_4 {v0 v1 v2 v3 : Value}  {st : List Value} {im : IM} {rm : RM}  : ev 21 4 [v0, v1, v2, v3] st im rm = ev 21 6 [v0, v1, v2, v3] (.int (nI 20) :: st) (im) (rm) := ev_bipush pm_m21 d21_4 rfl rfl
theorem d21_6 : decode prog_7_method_2_code 6 = .ok (.if_icmp .lt 4, 3) := by decide +kernel
theorem s21_6 {v0 v1 v2 v3 : Value} {x : Int32} {y : Int32} {st : List Value} {im : IM} {rm : RM} : ev 21 6 [v0, v1, v2, v3] (.int y :: .int x :: st) im rm = if x < y then ev 21 10 [v0, v1, v2, v3] st im rm else ev 21 9 [v0, v1, v2, v3] st im rm := ev_icmp_lt pm_m21 d21_6 rfl rfl rfl
theorem d21_9 : decode prog_7_method_2_code 9 = .ok (.return_, 1) := by decide +kernel
theorem s21_9 {v0 v1 v2 v3 : Value} {im : IM} {rm : RM} : ev 21 9 [v0, v1, v2, v3] [] im rm = some (none, im, rm) := ev_return pm_m21 d21_9 rfl
theorem d21_10 : decode prog_7_method_2_code 10 = .ok (.aload_n 0, 1) := by decide +kernel
theorem s21_10 {v1 v2 v3 : Value} {l1 : Nat} {st : List Value} {im : IM} {rm : RM}  : ev 21 10 [.ref l1, v1, v2, v3] st im rm = ev 21 11 [.ref l1, v1, v2, v3] (.ref l1 :: st) (im) (rm) := ev_aload_n pm_m21 d21_10 rfl rfl
theorem d21_11 : decode prog_7_method_2_code 11 = .ok (.getfield 15, 3) := by decide +kernel
theorem s21_11 {v0 v1 v2 v3 : Value} {a : Nat} {st : List Value} {im : IM} {rm : RM} (hk : kd a = 15) : ev 21 11 [v0, v1, v2, v3] (.ref a :: st) im rm = ev 21 14 [v0, v1, v2, v3] (pm_ro (rm a 1) :: st) (im) (rm) := ev_getR pm_m21 d21_11 f5_15 rfl hk rfl
theorem d21_14 : decode prog_7_method_2_code 14 = .ok (.aload_n 0, 1) := by decide +kernel
theorem s21_14 {v1 v2 v3 : Value} {l1 : Nat} {st : List Value} {im : IM} {rm : RM}  : ev 21 14 [.ref l1, v1, v2, v3] st im rm = ev 21 15 [.ref l1, v1, v2, v3] (.ref l1 :: st) (im) (rm) := ev_aload_n pm_m21 d21_14 rfl rfl
theorem d21_15 : decode prog_7_method_2_code 15 = .ok (.getfield 9, 3) := by decide +kernel
theorem s21_15 {v0 v1 v2 v3 : Value} {a : Nat} {st : List Value} {im : IM} {rm : RM} (hk : kd a = 15) : ev 21 15 [v0, v1, v2, v3] (.ref a :: st) im rm = ev 21 18 [v0, v1, v2, v3] (.int (im a 0) :: st) (im) (rm) := ev_getI pm_m21 d21_15 f5_9 rfl hk rfl
theorem d21_18 : decode prog_7_method_2_code 18 = .ok (.iload_n 1, 1) := by decide +kernel
theorem s21_18 {v0 v2 v3 : Value} {l1 : Int32} {st : List Value} {im : IM} {rm : RM}  : ev 21 18 [v0, .int l1, v2, v3] st im rm = ev 21 19 [v0, .int l1, v2, v3] (.int l1 :: st) (im) (rm) := ev_iload_n pm_m21 d21_18 rfl rfl
theorem d21_19 : decode prog_7_method_2_code 19 = .ok (.iastore, 1) := by decide +kernel
theorem s21_19 {v0 v1 v2 v3 : Value} {a : Nat} {i : Int32} {v : Int32} {st : List Value} {im : IM} {rm : RM} (hk : kd a = 0) (hi : pm_in i (ln a) = true) : ev 21 19 [v0, v1, v2, v3] (.int v :: .int i :: .ref a :: st) im rm = ev 21 20 [v0, v1, v2, v3] st (pm_w2 im a i.toNatClampNeg v) (rm) := ev_iast pm_m21 d21_19 hk hi rfl
theorem d21_20 : decode prog_7_method_2_code 20 = .ok (.aload_n 0, 1) := by decide +kernel
theorem s21_20 {v1 v2 v3 : Value} {l1 : Nat} {st : List Value} {im : IM} {rm : RM}  : ev 21 20 [.ref l1, v1, v2, v3] st im rm = ev 21 21 [.ref l1, v1, v2, v3] (.ref l1 :: st) (im) (rm) := ev_aload_n pm_m21 d21_20 rfl rfl
theorem d21_21 : decode prog_7_method_2_code 21 = .ok (.getfield 19, 3) := by decide +kernel
theorem s21_21 {v0 v1 v2 v3 : Value} {a : Nat} {st : List Value} {im : IM} {rm : RM} (hk : kd a = 15) : ev 21 21 [v0, v1, v2, v3] (.ref a :: st) im rm = ev 21 24 [v0, v1, v2, v3] (pm_ro (rm a 2) :: st) (im) (rm) := ev_getR pm_m21 d21_21 f5_19 rfl hk rfl
theorem d21_24 : decode prog_7_method_2_code 24 = .ok (.aload_n 0, 1) := by decide +kernel
theorem s21_24 {v1 v2 v3 : Value} {l1 : Nat} {st : List Value} {im : IM} {rm : RM}  : ev 21 24 [.ref l1, v1, v2, v3] st im rm = ev 21 25 [.ref l1, v1, v2, v3] (.ref l1 :: st) (im) (rm) := ev_aload_n pm_m21 d21_24 rfl rfl
theorem d21_25 : decode prog_7_method_2_code 25 = .ok (.getfield 9, 3) := by decide +kernel
theorem s21_25 {v0 v1 v2 v3 : Value} {a : Nat} {st : List Value} {im : IM} {rm : RM} (hk : kd a = 15) : ev 21 25 [v0, v1, v2, v3] (.ref a :: st) im rm = ev 21 28 [v0, v1, v2, v3] (.int (im a 0) :: st) (im) (rm) := ev_getI pm_m21 d21_25 f5_9 rfl hk rfl
theorem d21_28 : decode prog_7_method_2_code 28 = .ok (.iload_n 2, 1) := by decide +kernel
theorem s21_28 {v0 v1 v3 : Value} {l1 : Int32} {st : List Value} {im : IM} {rm : RM}  : ev 21 28 [v0, v1, .int l1, v3] st im rm = ev 21 29 [v0, v1, .int l1, v3] (.int l1 :: st) (im) (rm) := ev_iload_n pm_m21 d21_28 rfl rfl
theorem d21_29 : decode prog_7_method_2_code 29 = .ok (.iastore, 1) := by decide +kernel
theorem s21_29 {v0 v1 v2 v3 : Value} {a : Nat} {i : Int32} {v : Int32} {st : List Value} {im : IM} {rm : RM} (hk : kd a = 0) (hi : pm_in i (ln a) = true) : ev 21 29 [v0, v1, v2, v3] (.int v :: .int i :: .ref a :: st) im rm = ev 21 30 [v0, v1, v2, v3] st (pm_w2 im a i.toNatClampNeg v) (rm) := ev_iast pm_m21 d21_29 hk hi rfl
theorem d21_30 : decode prog_7_method_2_code 30 = .ok (.aload_n 0, 1) := by decide +kernel
theorem s21_30 {v1 v2 v3 : Value} {l1 : Nat} {st : List Value} {im : IM} {rm : RM}  : ev 21 30 [.ref l1, v1, v2, v3] st im rm = ev 21 31 [.ref l1, v1, v2, v3] (.ref l1 :: st) (im) (rm) := ev_aload_n pm_m21 d21_30 rfl rfl
theorem d21_31 : decode prog_7_method_2_code 31 = .ok (.getfield 22, 3) := by decide +kernel
theorem s21_31 {v0 v1 v2 v3 : Value} {a : Nat} {st : List Value} {im : IM} {rm : RM} (hk : kd a = 15) : ev 21 31 [v0, v1, v2, v3] (.ref a :: st) im rm = ev 21 34 [v0, v1, v2, v3] (pm_ro (rm a 3) :: st) (im) (rm) := ev_getR pm_m21 d21_31 f5_22 rfl hk rfl
theorem d21_34 : decode prog_7_method_2_code 34 = .ok (.aload_n 0, 1) := by decide +kernel
theorem s21_34 {v1 v2 v3 : Value} {l1 : Nat} {st : List Value} {im : IM} {rm : RM}  : ev 21 34 [.ref l1, v1, v2, v3] st im rm = ev 21 35 [.ref l1, v1, v2, v3] (.ref l1 :: st) (im) (rm) := ev_aload_n pm_m21 d21_34 rfl rfl
theorem d21_35 : decode prog_7_method_2_code 35 = .ok (.getfield 9, 3) := by decide +kernel
theorem s21_35 {v0 v1 v2 v3 : Value} {a : Nat} {st : List Value} {im : IM} {rm : RM} (hk : kd a = 15) : ev 21 35 [v0, v1, v2, v3] (.ref a :: st) im rm = ev 21 38 [v0, v1, v2, v3] (.int (im a 0) :: st) (im) (rm) := ev_getI pm_m21 d21_35 f5_9 rfl hk rfl
theorem d21_38 : decode prog_7_method_2_code 38 = .ok (.iload_n 3, 1) := by decide +kernel
theorem s21_38 {v0 v1 v2 : Value} {l1 : Int32} {st : List Value} {im : IM} {rm : RM}  : ev 21 38 [v0, v1, v2, .int l1] st im rm = ev 21 39 [v0, v1, v2, .int l1] (.int l1 :: st) (im) (rm) := ev_iload_n pm_m21 d21_38 rfl rfl
theorem d21_39 : decode prog_7_method_2_code 39 = .ok (.iastore, 1) := by decide +kernel
theorem s21_39 {v0 v1 v2 v3 : Value} {a : Nat} {i : Int32} {v : Int32} {st : List Value} {im : IM} {rm : RM} (hk : kd a = 0) (hi : pm_in i (ln a) = true) : ev 21 39 [v0, v1, v2, v3] (.int v :: .int i :: .ref a :: st) im rm = ev 21 40 [v0, v1, v2, v3] st (pm_w2 im a i.toNatClampNeg v) (rm) := ev_iast pm_m21 d21_39 hk hi rfl
theorem d21_40 : decode prog_7_method_2_code 40 = .ok (.aload_n 0, 1) := by decide +kernel
theorem s21_40 {v1 v2 v3 : Value} {l1 : Nat} {st : List Value} {im : IM} {rm : RM}  : ev 21 40 [.ref l1, v1, v2, v3] st im rm = ev 21 41 [.ref l1, v1, v2, v3] (.ref l1 :: st) (im) (rm) := ev_aload_n pm_m21 d21_40 rfl rfl
theorem d21_41 : decode prog_7_method_2_code 41 = .ok (.getfield 25, 3) := by decide +kernel
theorem s21_41 {v0 v1 v2 v3 : Value} {a : Nat} {st : List Value} {im : IM} {rm : RM} (hk : kd a = 15) : ev 21 41 [v0, v1, v2, v3] (.ref a :: st) im rm = ev 21 44 [v0, v1, v2, v3] (pm_ro (rm a 4) :: st) (im) (rm) := ev_getR pm_m21 d21_41 f5_25 rfl hk rfl
theorem d21_44 : decode prog_7_method_2_code 44 = .ok (.aload_n 0, 1) := by decide +kernel
theorem s21_44 {v1 v2 v3 : Value} {l1 : Nat} {st : List Value} {im : IM} {rm : RM}  : ev 21 44 [.ref l1, v1, v2, v3] st im rm = ev 21 45 [.ref l1, v1, v2, v3] (.ref l1 :: st) (im) (rm) := ev_aload_n pm_m21 d21_44 rfl rfl
theorem d21_45 : decode prog_7_method_2_code 45 = .ok (.getfield 9, 3) := by decide +kernel
theorem s21_45 {v0 v1 v2 v3 : Value} {a : Nat} {st : List Value} {im : IM} {rm : RM} (hk : kd a = 15) : ev 21 45 [v0, v1, v2, v3] (.ref a :: st) im rm = ev 21 48 [v0, v1, v2, v3] (.int (im a 0) :: st) (im) (rm) := ev_getI pm_m21 d21_45 f5_9 rfl hk rfl
theorem d21_48 : decode prog_7_method_2_code 48 = .ok (.iconst (-1), 1) := by decide +kernel
theorem s21_48 {v0 v1 v2 v3 : Value}  {st : List Value} {im : IM} {rm : RM}  : ev 21 48 [v0, v1, v2, v3] st im rm = ev 21 49 [v0, v1, v2, v3] (.int ((-1 : Int32)) :: st) (im) (rm) := ev_iconst pm_m21 d21_48 rfl rfl
theorem d21_49 : decode prog_7_method_2_code 49 = .ok (.iastore, 1) := by decide +kernel
theorem s21_49 {v0 v1 v2 v3 : Value} {a : Nat} {i : Int32} {v : Int32} {st : List Value} {im : IM} {rm : RM} (hk : kd a = 0) (hi : pm_in i (ln a) = true) : ev 21 49 [v0, v1, v2, v3] (.int v :: .int i :: .ref a :: st) im rm = ev 21 50 [v0, v1, v2, v3] st (pm_w2 im a i.toNatClampNeg v) (rm) := ev_iast pm_m21 d21_49 hk hi rfl
theorem d21_50 : decode prog_7_method_2_code 50 = .ok (.aload_n 0, 1) := by decide +kernel
theorem s21_50 {v1 v2 v3 : Value} {l1 : Nat} {st : List Value} {im : IM} {rm : RM}  : ev 21 50 [.ref l1, v1, v2, v3] st im rm = ev 21 51 [.ref l1, v1, v2, v3] (.ref l1 :: st) (im) (rm) := ev_aload_n pm_m21 d21_50 rfl rfl
theorem d21_51 : decode prog_7_method_2_code 51 = .ok (.dup, 1) := by decide +kernel
theorem s21_51 {v0 v1 v2 v3 : Value} {x1 : Nat} {st : List Value} {im : IM} {rm : RM}  : ev 21 51 [v0, v1, v2, v3] (.ref x1 :: st) im rm = ev 21 52 [v0, v1, v2, v3] (.ref x1 :: .ref x1 :: st) (im) (rm) := ev_dupA pm_m21 d21_51 rfl
theorem d21_52 : decode prog_7_method_2_code 52 = .ok (.getfield 9, 3) := by decide +kernel
theorem s21_52 {v0 v1 v2 v3 : Value} {a : Nat} {st : List Value} {im : IM} {rm : RM} (hk : kd a = 15) : ev 21 52 [v0, v1, v2, v3] (.ref a :: st) im rm = ev 21 55 [v0, v1, v2, v3] (.int (im a 0) :: st) (im) (rm) := ev_getI pm_m21 d21_52 f5_9 rfl hk rfl
theorem d21_55 : decode prog_7_method_2_code 55 = .ok (.iconst 1, 1) := by decide +kernel
theorem s21_55 {v0 v1 v2 v3 : Value}  {st : List Value} {im : IM} {rm : RM}  : ev 21 55 [v0, v1, v2, v3] st im rm = ev 21 56 [v0, v1, v2, v3] (.int (nI 1) :: st) (im) (rm) := ev_iconst pm_m21 d21_55 rfl rfl
theorem d21_56 : decode prog_7_method_2_code 56 = .ok (.iadd, 1) := by decide +kernel
theorem s21_56 {v0 v1 v2 v3 : Value} {x : Int32} {y : Int32} {st : List Value} {im : IM} {rm : RM}  : ev 21 56 [v0, v1, v2, v3] (.int y :: .int x :: st) im rm = ev 21 57 [v0, v1, v2, v3] (.int (x + y) :: st) (im) (rm) := ev_iadd pm_m21 d21_56 rfl
theorem d21_57 : decode prog_7_method_2_code 57 = .ok (.putfield 9, 3) := by decide +kernel
theorem s21_57 {v0 v1 v2 v3 : Value} {a : Nat} {v : Int32} {st : List Value} {im : IM} {rm : RM} (hk : kd a = 15) : ev 21 57 [v0, v1, v2, v3] (.int v :: .ref a :: st) im rm = ev 21 60 [v0, v1, v2, v3] st (pm_w2 im a 0 v) (rm) := ev_putI pm_m21 d21_57 f5_9 rfl rfl hk rfl
theorem d21_60 : decode prog_7_method_2_code 60 = .ok (.return_, 1) := by decide +kernel
theorem s21_60 {v0 v1 v2 v3 : Value} {im : IM} {rm : RM} : ev 21 60 [v0, v1, v2, v3] [] im rm = some (none, im, rm) := ev_return pm_m21 d21_60 rfl
theorem d22_0 : decode prog_7_method_3_code 0 = .ok (.iconst 0, 1) := by decide +kernel
theorem s22_0 {v0 v1 v2 v3 v4 v5 : Value}  {st : List Value} {im : IM} {rm : RM}  : ev 22 0 [v0, v1, v2, v3, v4, v5] st im rm = ev 22 1 [v0, v1, v2, v3, v4, v5] (.int (nI 0) :: st) (im) (rm) := ev_iconst pm_m22 d22_0 rfl rfl
theorem d22_1 : decode prog_7_method_3_code 1 = .ok (.istore 4, 2) := by decide +kernel
theorem s22_1 {v0 v1 v2 v4 v5 : Value} {l1 : Int32} {x2 : Int32} {st : List Value} {im : IM} {rm : RM}  : ev 22 1 [v0, v1, v2, .int l1, v4, v5] (.int x2 :: st) im rm = ev 22 3 [v0, v1, v2, .int l1, .int x2, v5] st (im) (rm) := ev_istore pm_m22 d22_1 (Nat.le_of_ble_eq_true rfl) rfl rfl
theorem d22_3 : decode prog_7_method_3_code 3 = .ok (.iconst 0, 1) := by decide +kernel
theorem s22_3 {v0 v1 v2 v3 v4 v5 : Value}  {st : List Value} {im : IM} {rm : RM}  : ev 22 3 [v0, v1, v2, v3, v4, v5] st im rm = ev 22 4 [v0, v1, v2, v3, v4, v5] (.int (nI 0) :: st) (im) (rm) := ev_iconst pm_m22 d22_3 rfl rfl
theorem d22_4 : decode prog_7_method_3_code 4 = .ok (.istore 5, 2) := by decide +kernel
theorem s22_4 {v0 v1 v2 v3 v5 : Value} {l1 : Int32} {x2 : Int32} {st : List Value} {im : IM} {rm : RM}  : ev 22 4 [v0, v1, v2, v3, .int l1, v5] (.int x2 :: st) im rm = ev 22 6 [v0, v1, v2, v3, .int l1, .int x2] st (im) (rm) := ev_istore pm_m22 d22_4 (Nat.le_of_ble_eq_true rfl) rfl rfl
theorem d22_6 : decode prog_7_method_3_code 6 = .ok (.iload 5, 2) := by decide +kernel
theorem s22_6 {v0 v1 v2 v3 v4 : Value} {l1 : Int32} {st : List Value} {im : IM} {rm : RM}  : ev 22 6 [v0, v1, v2, v3, v4, .int l1] st im rm = ev 22 8 [v0, v1, v2, v3, v4, .int l1] (.int l1 :: st) (im) (rm) := ev_iload pm_m22 d22_6 rfl rfl
theorem d22_8 : decode prog_7_method_3_code 8 = .ok (.aload_n 0, 1) := by decide +kernel
theorem s22_8 {v1 v2 v3 v4 v5 : Value} {l1 : Nat} {st : List Value} {im : IM} {rm : RM}  : ev 22 8 [.ref l1, v1, v2, v3, v4, v5] st im rm = ev 22 9 [.ref l1, v1, v2, v3, v4, v5] (.ref l1 :: st) (im) (rm) := ev_aload_n pm_m22 d22_8 rfl rfl
theorem d22_9 : decode prog_7_method_3_code 9 = .ok (.getfield 9, 3) := by decide +kernel
theorem s22_9 {v0 v1 v2 v3 v4 v5 : Value} {a : Nat} {st : List Value} {im : IM} {rm : RM} (hk : kd a = 15) : ev 22 9 [v0, v1, v2, v3, v4, v5] (.ref a :: st) im rm = ev 22 12 [v0, v1, v2, v3, v4, v5] (.int (im a 0) :: st) (im) (rm) := ev_getI pm_m22 d22_9 f5_9 rfl hk rfl
theorem d22_12 : decode prog_7_method_3_code 12 = .ok (.if_icmp .ge 67, 3) := by decide +kernel
theorem s22_12 {v0 v1 v2 v3 v4 v5 : Value} {x : Int32} {y : Int32} {st : List Value} {im : IM} {rm : RM} : ev 22 12 [v0, v1, v2, v3, v4, v5] (.int y :: .int x :: st) im rm = if y ≤ x then ev 22 79 [pm_u, pm_u, pm_u, pm_u, v4, pm_u] st im rm else ev 22 15 [v0, v1, v2, v3, v4, v5] st im rm := ev_icmp_ge pm_m22 d22_12 rfl rfl rfl
theorem d22_15 : decode prog_7_method_3_code 15 = .ok (.aload_n 0, 1) := by decide +kernel
theorem s22_15 {v1 v2 v3 v4 v5 : Value} {l1 : Nat} {st : List Value} {im : IM} {rm : RM}  : ev 22 15 [.ref l1, v1, v2, v3, v4, v5] st im rm = ev 22 16 [.ref l1, v1, v2, v3, v4, v5] (.ref l1 :: st) (im) (rm) := ev_aload_n pm_m22 d22_15 rfl rfl
theorem d22_16 : decode prog_7_method_3_code 16 = .ok (.getfield 15, 3) := by decide +kernel
theorem s22_16 {v0 v1 v2 v3 v4 v5 : Value} {a : Nat} {st : List Value} {im : IM} {rm : RM} (hk : kd a = 15) : ev 22 16 [v0, v1, v2, v3, v4, v5] (.ref a :: st) im rm = ev 22 19 [v0, v1, v2, v3, v4, v5] (pm_ro (rm a 1) :: st) (im) (rm) := ev_getR pm_m22 d22_16 f5_15 rfl hk rfl
theorem d22_19 : decode prog_7_method_3_code 19 = .ok (.iload 5, 2) := by decide +kernel
theorem s22_19 {v0 v1 v2 v3 v4 : Value} {l1 : Int32} {st : List Value} {im : IM} {rm : RM}  : ev 22 19 [v0, v1, v2, v3, v4, .int l1] st im rm = ev 22 21 [v0, v1, v2, v3, v4, .int l1] (.int l1 :: st) (im) (rm) := ev_iload pm_m22 d22_19 rfl rfl
theorem d22_21 : decode prog_7_method_3_code 21 = .ok (.iaload, 1) := by decide +kernel
theorem s22_21 {v0 v1 v2 v3 v4 v5 : Value} {a : Nat} {i : Int32} {st : List Value} {im : IM} {rm : RM} (hk : kd a = 0) (hi : pm_in i (ln a) = true) : ev 22 21 [v0, v1, v2, v3, v4, v5] (.int i :: .ref a :: st) im rm = ev 22 22 [v0, v1, v2, v3, v4, v5] (.int (im a i.toNatClampNeg) :: st) (im) (rm) := ev_iald pm_m22 d22_21 hk hi rfl
theorem d22_22 : decode prog_7_method_3_code 22 = .ok (.iload_n 1, 1) := by decide +kernel
theorem s22_22 {v0 v2 v3 v4 v5 : Value} {l1 : Int32} {st : List Value} {im : IM} {rm : RM}  : ev 22 22 [v0, .int l1, v2, v3, v4, v5] st im rm = ev 22 23 [v0, .int l1, v2, v3, v4, v5] (.int l1 :: st) (im) (rm) := ev_iload_n pm_m22 d22_22 rfl rfl
theorem d22_23 : decode prog_7_method_3_code 23 = .ok (.if_icmp .ne 50, 3) := by decide +kernel
theorem s22_23 {v0 v1 v2 v3 v4 v5 : Value} {x : Int32} {y : Int32} {st : List Value} {im : IM} {rm : RM} : ev 22 23 [v0, v1, v2, v3, v4, v5] (.int y :: .int x :: st) im rm = if x = y then ev 22 26 [v0, v1, v2, v3, v4, v5] st im rm else ev 22 73 [v0, v1, v2, v3, v4, v5] st im rm := ev_icmp_ne pm_m22 d22_23 rfl rfl rfl
theorem d22_26 : decode prog_7_method_3_code 26 = .ok (.aload_n 0, 1) := by decide +kernel
theorem s22_26 {v1 v2 v3 v4 v5 : Value} {l1 : Nat} {st : List Value} {im : IM} {rm : RM}  : ev 22 26 [.ref l1, v1, v2, v3, v4, v5] st im rm = ev 22 27 [.ref l1, v1, v2, v3, v4, v5] (.ref l1 :: st) (im) (rm) := ev_aload_n pm_m22 d22_26 rfl rfl
theorem d22_27 : decode prog_7_method_3_code 27 = .ok (.getfield 19, 3) := by decide +kernel
theorem s22_27 {v0 v1 v2 v3 v4 v5 : Value} {a : Nat} {st : List Value} {im : IM} {rm : RM} (hk : kd a = 15) : ev 22 27 [v0, v1, v2, v3, v4, v5] (.ref a :: st) im rm = ev 22 30 [v0, v1, v2, v3, v4, v5] (pm_ro (rm a 2) :: st) (im) (rm) := ev_getR pm_m22 d22_27 f5_19 rfl hk rfl
theorem d22_30 : decode prog_7_method_3_code 30 = .ok (.iload 5, 2) := by decide +kernel
theorem s22_30 {v0 v1 v2 v3 v4 : Value} {l1 : Int32} {st : List Value} {im : IM} {rm : RM}  : ev 22 30 [v0, v1, v2, v3, v4, .int l1] st im rm = ev 22 32 [v0, v1, v2, v3, v4, .int l1] (.int l1 :: st) (im) (rm) := ev_iload pm_m22 d22_30 rfl rfl
theorem d22_32 : decode prog_7_method_3_code 32 = .ok (.iaload, 1) := by decide +kernel
theorem s22_32 {v0 v1 v2 v3 v4 v5 : Value} {a : Nat} {i : Int32} {st : List Value} {im : IM} {rm : RM} (hk : kd a = 0) (hi : pm_in i (ln a) = true) : ev 22 32 [v0, v1, v2, v3, v4, v5] (.int i :: .ref a :: st) im rm = ev 22 33 [v0, v1, v2, v3, v4, v5] (.int (im a i.toNatClampNeg) :: st) (im) (rm) := ev_iald pm_m22 d22_32 hk hi rfl
theorem d22_33 : decode prog_7_method_3_code 33 = .ok (.iload_n 2, 1) := by decide +kernel
theorem s22_33 {v0 v1 v3 v4 v5 : Value} {l1 : Int32} {st : List Value} {im : IM} {rm : RM}  : ev 22 33 [v0, v1, .int l1, v3, v4, v5] st im rm = ev 22 34 [v0, v1, .int l1, v3, v4, v5] (.int l1 :: st) (im) (rm) := ev_iload_n pm_m22 d22_33 rfl rfl
theorem d22_34 : decode prog_7_method_3_code 34 = .ok (.if_icmp .ne 39, 3) := by decide +kernel
theorem s22_34 {v0 v1 v2 v3 v4 v5 : Value} {x : Int32} {y : Int32} {st : List Value} {im : IM} {rm : RM} : ev 22 34 [v0, v1, v2, v3, v4, v5] (.int y :: .int x :: st) im rm = if x = y then ev 22 37 [v0, v1, v2, v3, v4, v5] st im rm else ev 22 73 [v0, v1, v2, v3, v4, v5] st im rm := ev_icmp_ne pm_m22 d22_34 rfl rfl rfl
theorem d22_37 : decode prog_7_method_3_code 37 = .ok (.aload_n 0, 1) := by decide +kernel
theorem s22_37 {v1 v2 v3 v4 v5 : Value} {l1 : Nat} {st : List Value} {im : IM} {rm : RM}  : ev 22 37 [.ref l1, v1, v2, v3, v4, v5] st im rm = ev 22 38 [.ref l1, v1, v2, v3, v4, v5] (.ref l1 :: st) (im) (rm) := ev_aload_n pm_m22 d22_37 rfl rfl
theorem d22_38 : decode prog_7_method_3_code 38 = .ok (.getfield 25, 3) := by decide +kernel
theorem s22_38 {v0 v1 v2 v3 v4 v5 : Value} {a : Nat} {st : List Value} {im : IM} {rm : RM} (hk : kd a = 15) : ev 22 38 [v0, v1, v2, v3, v4, v5] (.ref a :: st) im rm = ev 22 41 [v0, v1, v2, v3, v4, v5] (pm_ro (rm a 4) :: st) (im) (rm) := ev_getR pm_m22 d22_38 f5_25 rfl hk rfl
theorem d22_41 : decode prog_7_method_3_code 41 = .ok (.iload 5, 2) := by decide +kernel
theorem s22_41 {v0 v1 v2 v3 v4 : Value} {l1 : Int32} {st : List Value} {im : IM} {rm : RM}  : ev 22 41 [v0, v1, v2, v3, v4, .int l1] st im rm = ev 22 43 [v0, v1, v2, v3, v4, .int l1] (.int l1 :: st) (im) (rm) := ev_iload pm_m22 d22_41 rfl rfl
theorem d22_43 : decode prog_7_method_3_code 43 = .ok (.iaload, 1) := by decide +kernel
theorem s22_43 {v0 v1 v2 v3 v4 v5 : Value} {a : Nat} {i : Int32} {st : List Value} {im : IM} {rm : RM} (hk : kd a = 0) (hi : pm_in i (ln a) = true) : ev 22 43 [v0, v1, v2, v3, v4, v5] (.int i :: .ref a :: st) im rm = ev 22 44 [v0, v1, v2, v3, v4, v5] (.int (im a i.toNatClampNeg) :: st) (im) (rm) := ev_iald pm_m22 d22_43 hk hi rfl
theorem d22_44 : decode prog_7_method_3_code 44 = .ok (.iconst (-1), 1) := by decide +kernel
theorem s22_44 {v0 v1 v2 v3 v4 v5 : Value}  {st : List Value} {im : IM} {rm : RM}  : ev 22 44 [v0, v1, v2, v3, v4, v5] st im rm = ev 22 45 [v0, v1, v2, v3, v4, v5] (.int ((-1 : Int32)) :: st) (im) (rm) := ev_iconst pm_m22 d22_44 rfl rfl
theorem d22_45 : decode prog_7_method_3_code 45 = .ok (.if_icmp .eq 28, 3) := by decide +kernel
theorem s22_45 {v0 v1 v2 v3 v4 v5 : Value} {x : Int32} {y : Int32} {st : List Value} {im : IM} {rm : RM} : ev 22 45 [v0, v1, v2, v3, v4, v5] (.int y :: .int x :: st) im rm = if x = y then ev 22 73 [v0, v1, v2, v3, v4, v5] st im rm else ev 22 48 [v0, v1, v2, v3, v4, v5] st im rm := ev_icmp_eq pm_m22 d22_45 rfl rfl rfl
theorem d22_48 : decode prog_7_method_3_code 48 = .ok (.aload_n 0, 1) := by decide +kernel
theorem s22_48 {v1 v2 v3 v4 v5 : Value} {l1 : Nat} {st : List Value} {im : IM} {rm : RM}  : ev 22 48 [.ref l1, v1, v2, v3, v4, v5] st im rm = ev 22 49 [.ref l1, v1, v2, v3, v4, v5] (.ref l1 :: st) (im) (rm) := ev_aload_n pm_m22 d22_48 rfl rfl
theorem d22_49 : decode prog_7_method_3_code 49 = .ok (.getfield 25, 3) := by decide +kernel
theorem s22_49 {v0 v1 v2 v3 v4 v5 : Value} {a : Nat} {st : List Value} {im : IM} {rm : RM} (hk : kd a = 15) : ev 22 49 [v0, v1, v2, v3, v4, v5] (.ref a :: st) im rm = ev 22 52 [v0, v1, v2, v3, v4, v5] (pm_ro (rm a 4) :: st) (im) (rm) := ev_getR pm_m22 d22_49 f5_25 rfl hk rfl
theorem d22_52 : decode prog_7_method_3_code 52 = .ok (.iload 5, 2) := by decide +kernel
theorem s22_52 {v0 v1 v2 v3 v4 : Value} {l1 : Int32} {st : List Value} {im : IM} {rm : RM}  : ev 22 52 [v0, v1, v2, v3, v4, .int l1] st im rm = ev 22 54 [v0, v1, v2, v3, v4, .int l1] (.int l1 :: st) (im) (rm) := ev_iload pm_m22 d22_52 rfl rfl
theorem d22_54 : decode prog_7_method_3_code 54 = .ok (.iaload, 1) := by decide +kernel
theorem s22_54 {v0 v1 v2 v3 v4 v5 : Value} {a : Nat} {i : Int32} {st : List Value} {im : IM} {rm : RM} (hk : kd a = 0) (hi : pm_in i (ln a) = true) : ev 22 54 [v0, v1, v2, v3, v4, v5] (.int i :: .ref a :: st) im rm = ev 22 55 [v0, v1, v2, v3, v4, v5] (.int (im a i.toNatClampNeg) :: st) (im) (rm) := ev_iald pm_m22 d22_54 hk hi rfl
theorem d22_55 : decode prog_7_method_3_code 55 = .ok (.iload_n 3, 1) := by decide +kernel
theorem s22_55 {v0 v1 v2 v4 v5 : Value} {l1 : Int32} {st : List Value} {im : IM} {rm : RM}  : ev 22 55 [v0, v1, v2, .int l1, v4, v5] st im rm = ev 22 56 [v0, v1, v2, .int l1, v4, v5] (.int l1 :: st) (im) (rm) := ev_iload_n pm_m22 d22_55 rfl rfl
theorem d22_56 : decode prog_7_method_3_code 56 = .ok (.if_icmp .gt 17, 3) := by decide +kernel
theorem s22_56 {v0 v1 v2 v3 v4 v5 : Value} {x : Int32} {y : Int32} {st : List Value} {im : IM} {rm : RM} : ev 22 56 [v0, v1, v2, v3, v4, v5] (.int y :: .int x :: st) im rm = if y < x then ev 22 73 [v0, v1, v2, v3, v4, v5] st im rm else ev 22 59 [v0, v1, v2, v3, v4, v5] st im rm := ev_icmp_gt pm_m22 d22_56 rfl rfl rfl
theorem d22_59 : decode prog_7_method_3_code 59 = .ok (.iload 4, 2) := by decide +kernel
theorem s22_59 {v0 v1 v2 v3 v5 : Value} {l1 : Int32} {st : List Value} {im : IM} {rm : RM}  : ev 22 59 [v0, v1, v2, v3, .int l1, v5] st im rm = ev 22 61 [v0, v1, v2, v3, .int l1, v5] (.int l1 :: st) (im) (rm) := ev_iload pm_m22 d22_59 rfl rfl
theorem d22_61 : decode prog_7_method_3_code 61 = .ok (.iconst 1, 1) := by decide +kernel
theorem s22_61 {v0 v1 v2 v3 v4 v5 : Value}  {st : List Value} {im : IM} {rm : RM}  : ev 22 61 [v0, v1, v2, v3, v4, v5] st im rm = ev 22 62 [v0, v1, v2, v3, v4, v5] (.int (nI 1) :: st) (im) (rm) := ev_iconst pm_m22 d22_61 rfl rfl
theorem d22_62 : decode prog_7_method_3_code 62 = .ok (.aload_n 0, 1) := by decide +kernel
theorem s22_62 {v1 v2 v3 v4 v5 : Value} {l1 : Nat} {st : List Value} {im : IM} {rm : RM}  : ev 22 62 [.ref l1, v1, v2, v3, v4, v5] st im rm = ev 22 63 [.ref l1, v1, v2, v3, v4, v5] (.ref l1 :: st) (im) (rm) := ev_aload_n pm_m22 d22_62 rfl rfl
theorem d22_63 : decode prog_7_method_3_code 63 = .ok (.getfield 22, 3) := by decide +kernel
theorem s22_63 {v0 v1 v2 v3 v4 v5 : Value} {a : Nat} {st : List Value} {im : IM} {rm : RM} (hk : kd a = 15) : ev 22 63 [v0, v1, v2, v3, v4, v5] (.ref a :: st) im rm = ev 22 66 [v0, v1, v2, v3, v4, v5] (pm_ro (rm a 3) :: st) (im) (rm) := ev_getR pm_m22 d22_63 f5_22 rfl hk rfl
theorem d22_66 : decode prog_7_method_3_code 66 = .ok (.iload 5, 2) := by decide +kernel
theorem s22_66 {v0 v1 v2 v3 v4 : Value} {l1 : Int32} {st : List Value} {im : IM} {rm : RM}  : ev 22 66 [v0, v1, v2, v3, v4, .int l1] st im rm = ev 22 68 [v0, v1, v2, v3, v4, .int l1] (.int l1 :: st) (im) (rm) := ev_iload pm_m22 d22_66 rfl rfl
theorem d22_68 : decode prog_7_method_3_code 68 = .ok (.iaload, 1) := by decide +kernel
theorem s22_68 {v0 v1 v2 v3 v4 v5 : Value} {a : Nat} {i : Int32} {st : List Value} {im : IM} {rm : RM} (hk : kd a = 0) (hi : pm_in i (ln a) = true) : ev 22 68 [v0, v1, v2, v3, v4, v5] (.int i :: .ref a :: st) im rm = ev 22 69 [v0, v1, v2, v3, v4, v5] (.int (im a i.toNatClampNeg) :: st) (im) (rm) := ev_iald pm_m22 d22_68 hk hi rfl
theorem d22_69 : decode prog_7_method_3_code 69 = .ok (.ishl, 1) := by decide +kernel
theorem s22_69 {v0 v1 v2 v3 v4 v5 : Value} {x : Int32} {y : Int32} {st : List Value} {im : IM} {rm : RM}  : ev 22 69 [v0, v1, v2, v3, v4, v5] (.int y :: .int x :: st) im rm = ev 22 70 [v0, v1, v2, v3, v4, v5] (.int (x <<< (y &&& 31)) :: st) (im) (rm) := ev_ishl pm_m22 d22_69 rfl
theorem d22_70 : decode prog_7_method_3_code 70 = .ok (.ior, 1) := by decide +kernel
theorem s22_70 {v0 v1 v2 v3 v4 v5 : Value} {x : Int32} {y : Int32} {st : List Value} {im : IM} {rm : RM}  : ev 22 70 [v0, v1, v2, v3, v4, v5] (.int y :: .int x :: st) im rm = ev 22 71 [v0, v1, v2, v3, v4, v5] (.int (x ||| y) :: st) (im) (rm) := ev_ior pm_m22 d22_70 rfl
theorem d22_71 : decode prog_7_method_3_code 71 = .ok (.istore 4, 2) := by decide +kernel
theorem s22_71 {v0 v1 v2 v4 v5 : Value} {l1 : Int32} {x2 : Int32} {st : List Value} {im : IM} {rm : RM}  : ev 22 71 [v0, v1, v2, .int l1, v4, v5] (.int x2 :: st) im rm = ev 22 73 [v0, v1, v2, .int l1, .int x2, v5] st (im) (rm) := ev_istore pm_m22 d22_71 (Nat.le_of_ble_eq_true rfl) rfl rfl
theorem d22_73 : decode prog_7_method_3_code 73 = .ok (.iinc 5 1, 3) := by decide +kernel
theorem s22_73 {v0 v1 v2 v3 : Value} {l1 : Int32} {l2 : Int32} {st : List Value} {im : IM} {rm : RM}  : ev 22 73 [v0, v1, v2, v3, .int l1, .int l2] st im rm = ev 22 76 [v0, v1, v2, v3, .int l1, .int (l2 + nI 1)] st (im) (rm) := ev_iinc pm_m22 d22_73 rfl rfl rfl rfl
theorem d22_76 : decode prog_7_method_3_code 76 = .ok (.goto (-70), 3) := by decide +kernel
theorem s22_76 {v0 v1 v2 v3 v4 v5 : Value}  {st : List Value} {im : IM} {rm : RM}  : ev 22 76 [v0, v1, v2, v3, v4, v5] st im rm = ev 22 6 [v0, v1, v2, v3, v4, v5] st (im) (rm) := ev_goto pm_m22 d22_76 rfl rfl
theorem d22_79 : decode prog_7_method_3_code 79 = .ok (.iload 4, 2) := by decide +kernel
theorem s22_79 {v0 v1 v2 v3 v5 : Value} {l1 : Int32} {st : List Value} {im : IM} {rm : RM}  : ev 22 79 [v0, v1, v2, v3, .int l1, v5] st im rm = ev 22 81 [v0, v1, v2, v3, .int l1, v5] (.int l1 :: st) (im) (rm) := ev_iload pm_m22 d22_79 rfl rfl
theorem d22_81 : decode prog_7_method_3_code 81 = .ok (.ireturn, 1) := by decide +kernel
theorem s22_81 {v0 v1 v2 v3 v4 v5 : Value} {x : Int32} {im : IM} {rm : RM} : ev 22 81 [v0, v1, v2, v3, v4, v5] [.int x] im rm = some (some (.int x), im, rm) := ev_ireturn pm_m22 d22_81 rfl
theorem d23_0 : decode prog_7_method_4_code 0 = .ok (.iconst 0, 1) := by decide +kernel
theorem s23_0 {v0 v1 v2 : Value}  {st : List Value} {im : IM} {rm : RM}  : ev 23 0 [v0, v1, v2] st im rm = ev 23 1 [v0, v1, v2] (.int (nI 0) :: st) (im) (rm) := ev_iconst pm_m23 d23_0 rfl rfl
theorem d23_1 : decode prog_7_method_4_code 1 = .ok (.istore_n 1, 1) := by decide +kernel
theorem s23_1 {v1 v2 : Value} {l1 : Nat} {x2 : Int32} {st : List Value} {im : IM} {rm : RM}  : ev 23 1 [.ref l1, v1, v2] (.int x2 :: st) im rm = ev 23 2 [.ref l1, .int x2, v2] st (im) (rm) := ev_istore_n pm_m23 d23_1 (Nat.le_of_ble_eq_true rfl) rfl rfl
theorem d23_2 : decode prog_7_method_4_code 2 = .ok (.iconst 0, 1) := by decide +kernel
theorem s23_2 {v0 v1 v2 : Value}  {st : List Value} {im : IM} {rm : RM}  : ev 23 2 [v0, v1, v2] st im rm = ev 23 3 [v0, v1, v2] (.int (nI 0) :: st) (im) (rm) := ev_iconst pm_m23 d23_2 rfl rfl
theorem d23_3 : decode prog_7_method_4_code 3 = .ok (.istore_n 2, 1) := by decide +kernel
theorem s23_3 {v0 v2 : Value} {l1 : Int32} {x2 : Int32} {st : List Value} {im : IM} {rm : RM}  : ev 23 3 [v0, .int l1, v2] (.int x2 :: st) im rm = ev 23 4 [v0, .int l1, .int x2] st (im) (rm) := ev_istore_n pm_m23 d23_3 (Nat.le_of_ble_eq_true rfl) rfl rfl
theorem d23_4 : decode prog_7_method_4_code 4 = .ok (.iload_n 2, 1) := by decide +kernel
theorem s23_4 {v0 v1 : Value} {l1 : Int32} {st : List Value} {im : IM} {rm : RM}  : ev 23 4 [v0, v1, .int l1] st im rm = ev 23 5 [v0, v1, .int l1] (.int l1 :: st) (im) (rm) := ev_iload_n pm_m23 d23_4 rfl rfl
theorem d23_5 : decode prog_7_method_4_code 5 = .ok (.aload_n 0, 1) := by decide +kernel
theorem s23_5 {v1 v2 : Value} {l1 : Nat} {st : List Value} {im : IM} {rm : RM}  : ev 23 5 [.ref l1, v1, v2] st im rm = ev 23 6 [.ref l1, v1, v2] (.ref l1 :: st) (im) (rm) := ev_aload_n pm_m23 d23_5 rfl rfl
theorem d23_6 : decode prog_7_method_4_code 6 = .ok (.getfield 9, 3) := by decide +kernel
theorem s23_6 {v0 v1 v2 : Value} {a : Nat} {st : List Value} {im : IM} {rm : RM} (hk : kd a = 15) : ev 23 6 [v0, v1, v2] (.ref a :: st) im rm = ev 23 9 [v0, v1, v2] (.int (im a 0) :: st) (im) (rm) := ev_getI pm_m23 d23_6 f5_9 rfl hk rfl
theorem d23_9 : decode prog_7_method_4_code 9 = .ok (.if_icmp .ge 27, 3) := by decide +kernel
theorem s23_9 {v0 v1 v2 : Value} {x : Int32} {y : Int32} {st : List Value} {im : IM} {rm : RM} : ev 23 9 [v0, v1, v2] (.int y :: .int x :: st) im rm = if y ≤ x then ev 23 36 [pm_u, v1, pm_u] st im rm else ev 23 12 [v0, v1, v2] st im rm := ev_icmp_ge pm_m23 d23_9 rfl rfl rfl
theorem d23_12 : decode prog_7_method_4_code 12 = .ok (.iload_n 1, 1) := by decide +kernel
theorem s23_12 {v0 v2 : Value} {l1 : Int32} {st : List Value} {im : IM} {rm : RM}  : ev 23 12 [v0, .int l1, v2] st im rm = ev 23 13 [v0, .int l1, v2] (.int l1 :: st) (im) (rm) := ev_iload_n pm_m23 d23_12 rfl rfl
theorem d23_13 : decode prog_7_method_4_code 13 = .ok (.aload_n 0, 1) := by decide +kernel
theorem s23_13 {v1 v2 : Value} {l1 : Nat} {st : List Value} {im : IM} {rm : RM}  : ev 23 13 [.ref l1, v1, v2] st im rm = ev 23 14 [.ref l1, v1, v2] (.ref l1 :: st) (im) (rm) := ev_aload_n pm_m23 d23_13 rfl rfl
theorem d23_14 : decode prog_7_method_4_code 14 = .ok (.getfield 25, 3) := by decide +kernel
theorem s23_14 {v0 v1 v2 : Value} {a : Nat} {st : List Value} {im : IM} {rm : RM} (hk : kd a = 15) : ev 23 14 [v0, v1, v2] (.ref a :: st) im rm = ev 23 17 [v0, v1, v2] (pm_ro (rm a 4) :: st) (im) (rm) := ev_getR pm_m23 d23_14 f5_25 rfl hk rfl
theorem d23_17 : decode prog_7_method_4_code 17 = .ok (.iload_n 2, 1) := by decide +kernel
theorem s23_17 {v0 v1 : Value} {l1 : Int32} {st : List Value} {im : IM} {rm : RM}  : ev 23 17 [v0, v1, .int l1] st im rm = ev 23 18 [v0, v1, .int l1] (.int l1 :: st) (im) (rm) := ev_iload_n pm_m23 d23_17 rfl rfl
theorem d23_18 : decode prog_7_method_4_code 18 = .ok (.iaload, 1) := by decide +kernel
theorem s23_18 {v0 v1 v2 : Value} {a : Nat} {i : Int32} {st : List Value} {im : IM} {rm : RM} (hk : kd a = 0) (hi : pm_in i (ln a) = true) : ev 23 18 [v0, v1, v2] (.int i :: .ref a :: st) im rm = ev 23 19 [v0, v1, v2] (.int (im a i.toNatClampNeg) :: st) (im) (rm) := ev_iald pm_m23 d23_18 hk hi rfl
theorem d23_19 : decode prog_7_method_4_code 19 = .ok (.iconst (-1), 1) := by decide +kernel
theorem s23_19 {v0 v1 v2 : Value}  {st : List Value} {im : IM} {rm : RM}  : ev 23 19 [v0, v1, v2] st im rm = ev 23 20 [v0, v1, v2] (.int ((-1 : Int32)) :: st) (im) (rm) := ev_iconst pm_m23 d23_19 rfl rfl
theorem d23_20 : decode prog_7_method_4_code 20 = .ok (.if_icmp .ne 7, 3) := by decide +kernel
theorem s23_20 {v0 v1 v2 : Value} {x : Int32} {y : Int32} {st : List Value} {im : IM} {rm : RM} : ev 23 20 [v0, v1, v2] (.int y :: .int x :: st) im rm = if x = y then ev 23 23 [v0, v1, v2] st im rm else ev 23 27 [v0, pm_u, v2] st im rm := ev_icmp_ne pm_m23 d23_20 rfl rfl rfl
theorem d23_23 : decode prog_7_method_4_code 23 = .ok (.iconst 0, 1) := by decide +kernel
theorem s23_23 {v0 v1 v2 : Value}  {st : List Value} {im : IM} {rm : RM}  : ev 23 23 [v0, v1, v2] st im rm = ev 23 24 [v0, v1, v2] (.int (nI 0) :: st) (im) (rm) := ev_iconst pm_m23 d23_23 rfl rfl
theorem d23_24 : decode prog_7_method_4_code 24 = .ok (.goto 4, 3) := by decide +kernel
theorem s23_24 {v0 v1 v2 : Value}  {st : List Value} {im : IM} {rm : RM}  : ev 23 24 [v0, v1, v2] st im rm = ev 23 28 [v0, pm_u, v2] st (im) (rm) := ev_goto pm_m23 d23_24 rfl rfl
theorem d23_27 : decode prog_7_method_4_code 27 = .ok (.iconst 1, 1) := by decide +kernel
theorem s23_27 {v0 v1 v2 : Value}  {st : List Value} {im : IM} {rm : RM}  : ev 23 27 [v0, v1, v2] st im rm = ev 23 28 [v0, pm_u, v2] (.int (nI 1) :: st) (im) (rm) := ev_iconst pm_m23 d23_27 rfl rfl
theorem d23_28 : decode prog_7_method_4_code 28 = .ok (.iadd, 1) := by decide +kernel
theorem s23_28 {v0 v1 v2 : Value} {x : Int32} {y : Int32} {st : List Value} {im : IM} {rm : RM}  : ev 23 28 [v0, v1, v2] (.int y :: .int x :: st) im rm = ev 23 29 [v0, v1, v2] (.int (x + y) :: st) (im) (rm) := ev_iadd pm_m23 d23_28 rfl
theorem d23_29 : decode prog_7_method_4_code 29 = .ok (.istore_n 1, 1) := by decide +kernel
theorem s23_29 {v1 v2 : Value} {l1 : Nat} {x2 : Int32} {st : List Value} {im : IM} {rm : RM}  : ev 23 29 [.ref l1, v1, v2] (.int x2 :: st) im rm = ev 23 30 [.ref l1, .int x2, v2] st (im) (rm) := ev_istore_n pm_m23 d23_29 (Nat.le_of_ble_eq_true rfl) rfl rfl
theorem d23_30 : decode prog_7_method_4_code 30 = .ok (.iinc 2 1, 3) := by decide +kernel
theorem s23_30 {v0 : Value} {l1 : Int32} {l2 : Int32} {st : List Value} {im : IM} {rm : RM}  : ev 23 30 [v0, .int l1, .int l2] st im rm = ev 23 33 [v0, .int l1, .int (l2 + nI 1)] st (im) (rm) := ev_iinc pm_m23 d23_30 rfl rfl rfl rfl
theorem d23_33 : decode prog_7_method_4_code 33 = .ok (.goto (-29), 3) := by decide +kernel
theorem s23_33 {v0 v1 v2 : Value}  {st : List Value} {im : IM} {rm : RM}  : ev 23 33 [v0, v1, v2] st im rm = ev 23 4 [v0, v1, v2] st (im) (rm) := ev_goto pm_m23 d23_33 rfl rfl
theorem d23_36 : decode prog_7_method_4_code 36 = .ok (.iload_n 1, 1) := by decide +kernel
theorem s23_36 {v0 v2 : Value} {l1 : Int32} {st : List Value} {im : IM} {rm : RM}  : ev 23 36 [v0, .int l1, v2] st im rm = ev 23 37 [v0, .int l1, v2] (.int l1 :: st) (im) (rm) := ev_iload_n pm_m23 d23_36 rfl rfl
theorem d23_37 : decode prog_7_method_4_code 37 = .ok (.ireturn, 1) := by decide +kernel
theorem s23_37 {v0 v1 v2 : Value} {x : Int32} {im : IM} {rm : RM} : ev 23 37 [v0, v1, v2] [.int x] im rm = some (some (.int x), im, rm) := ev_ireturn pm_m23 d23_37 rfl
