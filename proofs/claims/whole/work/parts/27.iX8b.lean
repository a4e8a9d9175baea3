theorem d139_0 : decode prog_10_method_37_code 0 = .ok (.aload_n 0, 1) := by decide +kernel
theorem s139_0 {v1 v2 v3 v4 v5 v6 : Value} {l1 : Nat} {st : List Value} {im : IM} {rm : RM}  : ev 139 0 [.ref l1, v1, v2, v3, v4, v5, v6] st im rm = ev 139 1 [.ref l1, v1, v2, v3, v4, v5, v6] (.ref l1 :: st) (im) (rm) := ev_aload_n pm_m139 d139_0 rfl rfl
theorem d139_1 : decode prog_10_method_37_code 1 = .ok (.iload_n 1, 1) := by decide +kernel
theorem s139_1 {v0 v2 v3 v4 v5 v6 : Value} {l1 : Int32} {st : List Value} {im : IM} {rm : RM}  : ev 139 1 [v0, .int l1, v2, v3, v4, v5, v6] st im rm = ev 139 2 [v0, .int l1, v2, v3, v4, v5, v6] (.int l1 :: st) (im) (rm) := ev_iload_n pm_m139 d139_1 rfl rfl
theorem d139_2 : decode prog_10_method_37_code 2 = .ok (.invokevirtual 270, 3) := by decide +kernel
theorem s139_2 {v0 v1 v2 v3 v4 v5 v6 : Value} {a : Nat} {p1 : Int32} {im : IM} {rm : RM} (hk : kd a = 18) : ev 139 2 [v0, v1, v2, v3, v4, v5, v6] [.int p1, .ref a] im rm = (ev 138 0 [.ref a, .int p1, pm_u, pm_u, pm_u, pm_u, pm_u] [] im rm).bind (fun r => ev 139 5 [v0, v1, v2, v3, v4, v5, v6] (r.1.toList ++ []) r.2.1 r.2.2) := ev_callV pm_m139 d139_2 l8_270 rfl pm_m138 (by decide) hk rfl ⟨rfl, rfl⟩ rfl rfl
theorem d139_5 : decode prog_10_method_37_code 5 = .ok (.istore_n 2, 1) := by decide +kernel
theorem s139_5 {v0 v2 v3 v4 v5 v6 : Value} {l1 : Int32} {x2 : Int32} {st : List Value} {im : IM} {rm : RM}  : ev 139 5 [v0, .int l1, v2, v3, v4, v5, v6] (.int x2 :: st) im rm = ev 139 6 [v0, .int l1, .int x2, v3, v4, v5, v6] st (im) (rm) := ev_istore_n pm_m139 d139_5 (Nat.le_of_ble_eq_true rfl) rfl rfl
theorem d139_6 : decode prog_10_method_37_code 6 = .ok (.iconst 0, 1) := by decide +kernel
theorem s139_6 {v0 v1 v2 v3 v4 v5 v6 : Value}  {st : List Value} {im : IM} {rm : RM}  : ev 139 6 [v0, v1, v2, v3, v4, v5, v6] st im rm = ev 139 7 [v0, v1, v2, v3, v4, v5, v6] (.int (nI 0) :: st) (im) (rm) := ev_iconst pm_m139 d139_6 rfl rfl
theorem d139_7 : decode prog_10_method_37_code 7 = .ok (.istore_n 3, 1) := by decide +kernel
theorem s139_7 {v0 v1 v3 v4 v5 v6 : Value} {l1 : Int32} {x2 : Int32} {st : List Value} {im : IM} {rm : RM}  : ev 139 7 [v0, v1, .int l1, v3, v4, v5, v6] (.int x2 :: st) im rm = ev 139 8 [v0, v1, .int l1, .int x2, v4, v5, v6] st (im) (rm) := ev_istore_n pm_m139 d139_7 (Nat.le_of_ble_eq_true rfl) rfl rfl
theorem d139_8 : decode prog_10_method_37_code 8 = .ok (.iconst 0, 1) := by decide +kernel
theorem s139_8 {v0 v1 v2 v3 v4 v5 v6 : Value}  {st : List Value} {im : IM} {rm : RM}  : ev 139 8 [v0, v1, v2, v3, v4, v5, v6] st im rm = ev 139 9 [v0, v1, v2, v3, v4, v5, v6] (.int (nI 0) :: st) (im) (rm) := ev_iconst pm_m139 d139_8 rfl rfl
theorem d139_9 : decode prog_10_method_37_code 9 = .ok (.istore 4, 2) := by decide +kernel
theorem s139_9 {v0 v1 v2 v4 v5 v6 : Value} {l1 : Int32} {x2 : Int32} {st : List Value} {im : IM} {rm : RM}  : ev 139 9 [v0, v1, v2, .int l1, v4, v5, v6] (.int x2 :: st) im rm = ev 139 11 [v0, v1, v2, .int l1, .int x2, pm_u, pm_u] st (im) (rm) := ev_istore pm_m139 d139_9 (Nat.le_of_ble_eq_true rfl) rfl rfl
theorem d139_11 : decode prog_10_method_37_code 11 = .ok (.iload 4, 2) := by decide +kernel
theorem s139_11 {v0 v1 v2 v3 v5 v6 : Value} {l1 : Int32} {st : List Value} {im : IM} {rm : RM}  : ev 139 11 [v0, v1, v2, v3, .int l1, v5, v6] st im rm = ev 139 13 [v0, v1, v2, v3, .int l1, v5, v6] (.int l1 :: st) (im) (rm) := ev_iload pm_m139 d139_11 rfl rfl
theorem d139_13 : decode prog_10_method_37_code 13 = .ok (.bipush 6, 2) := by decide +kernel
theorem s139_13 {v0 v1 v2 v3 v4 v5 v6 : Value}  {st : List Value} {im : IM} {rm : RM}  : ev 139 13 [v0, v1, v2, v3, v4, v5, v6] st im rm = ev 139 15 [v0, v1, v2, v3, v4, v5, v6] (.int (nI 6) :: st) (im) (rm) := ev_bipush pm_m139 d139_13 rfl rfl
theorem d139_15 : decode prog_10_method_37_code 15 = .ok (.if_icmp .ge 91, 3) := by decide +kernel
theorem s139_15 {v0 v1 v2 v3 v4 v5 v6 : Value} {x : Int32} {y : Int32} {st : List Value} {im : IM} {rm : RM} : ev 139 15 [v0, v1, v2, v3, v4, v5, v6] (.int y :: .int x :: st) im rm = if y ≤ x then ev 139 106 [pm_u, pm_u, pm_u, v3, pm_u, pm_u, pm_u] st im rm else ev 139 18 [v0, v1, v2, v3, v4, v5, v6] st im rm := ev_icmp_ge pm_m139 d139_15 rfl rfl rfl
theorem d139_18 : decode prog_10_method_37_code 18 = .ok (.iload_n 2, 1) := by decide +kernel
theorem s139_18 {v0 v1 v3 v4 v5 v6 : Value} {l1 : Int32} {st : List Value} {im : IM} {rm : RM}  : ev 139 18 [v0, v1, .int l1, v3, v4, v5, v6] st im rm = ev 139 19 [v0, v1, .int l1, v3, v4, v5, v6] (.int l1 :: st) (im) (rm) := ev_iload_n pm_m139 d139_18 rfl rfl
theorem d139_19 : decode prog_10_method_37_code 19 = .ok (.iconst (-1), 1) := by decide +kernel
theorem s139_19 {v0 v1 v2 v3 v4 v5 v6 : Value}  {st : List Value} {im : IM} {rm : RM}  : ev 139 19 [v0, v1, v2, v3, v4, v5, v6] st im rm = ev 139 20 [v0, v1, v2, v3, v4, v5, v6] (.int ((-1 : Int32)) :: st) (im) (rm) := ev_iconst pm_m139 d139_19 rfl rfl
theorem d139_20 : decode prog_10_method_37_code 20 = .ok (.if_icmp .eq 86, 3) := by decide +kernel
theorem s139_20 {v0 v1 v2 v3 v4 v5 v6 : Value} {x : Int32} {y : Int32} {st : List Value} {im : IM} {rm : RM} : ev 139 20 [v0, v1, v2, v3, v4, v5, v6] (.int y :: .int x :: st) im rm = if x = y then ev 139 106 [pm_u, pm_u, pm_u, v3, pm_u, pm_u, pm_u] st im rm else ev 139 23 [v0, v1, v2, v3, v4, v5, v6] st im rm := ev_icmp_eq pm_m139 d139_20 rfl rfl rfl
theorem d139_23 : decode prog_10_method_37_code 23 = .ok (.iconst 0, 1) := by decide +kernel
theorem s139_23 {v0 v1 v2 v3 v4 v5 v6 : Value}  {st : List Value} {im : IM} {rm : RM}  : ev 139 23 [v0, v1, v2, v3, v4, v5, v6] st im rm = ev 139 24 [v0, v1, v2, v3, v4, v5, v6] (.int (nI 0) :: st) (im) (rm) := ev_iconst pm_m139 d139_23 rfl rfl
theorem d139_24 : decode prog_10_method_37_code 24 = .ok (.istore 5, 2) := by decide +kernel
theorem s139_24 {v0 v1 v2 v3 v5 v6 : Value} {l1 : Int32} {x2 : Int32} {st : List Value} {im : IM} {rm : RM}  : ev 139 24 [v0, v1, v2, v3, .int l1, v5, v6] (.int x2 :: st) im rm = ev 139 26 [v0, v1, v2, v3, .int l1, .int x2, pm_u] st (im) (rm) := ev_istore pm_m139 d139_24 (Nat.le_of_ble_eq_true rfl) rfl rfl
theorem d139_26 : decode prog_10_method_37_code 26 = .ok (.iload 5, 2) := by decide +kernel
theorem s139_26 {v0 v1 v2 v3 v4 v6 : Value} {l1 : Int32} {st : List Value} {im : IM} {rm : RM}  : ev 139 26 [v0, v1, v2, v3, v4, .int l1, v6] st im rm = ev 139 28 [v0, v1, v2, v3, v4, .int l1, v6] (.int l1 :: st) (im) (rm) := ev_iload pm_m139 d139_26 rfl rfl
theorem d139_28 : decode prog_10_method_37_code 28 = .ok (.aload_n 0, 1) := by decide +kernel
theorem s139_28 {v1 v2 v3 v4 v5 v6 : Value} {l1 : Nat} {st : List Value} {im : IM} {rm : RM}  : ev 139 28 [.ref l1, v1, v2, v3, v4, v5, v6] st im rm = ev 139 29 [.ref l1, v1, v2, v3, v4, v5, v6] (.ref l1 :: st) (im) (rm) := ev_aload_n pm_m139 d139_28 rfl rfl
theorem d139_29 : decode prog_10_method_37_code 29 = .ok (.getfield 16, 3) := by decide +kernel
theorem s139_29 {v0 v1 v2 v3 v4 v5 v6 : Value} {a : Nat} {st : List Value} {im : IM} {rm : RM} (hk : kd a = 18) : ev 139 29 [v0, v1, v2, v3, v4, v5, v6] (.ref a :: st) im rm = ev 139 32 [v0, v1, v2, v3, v4, v5, v6] (pm_ro (rm a 2) :: st) (im) (rm) := ev_getR pm_m139 d139_29 f8_16 rfl hk rfl
theorem d139_32 : decode prog_10_method_37_code 32 = .ok (.iload 4, 2) := by decide +kernel
theorem s139_32 {v0 v1 v2 v3 v5 v6 : Value} {l1 : Int32} {st : List Value} {im : IM} {rm : RM}  : ev 139 32 [v0, v1, v2, v3, .int l1, v5, v6] st im rm = ev 139 34 [v0, v1, v2, v3, .int l1, v5, v6] (.int l1 :: st) (im) (rm) := ev_iload pm_m139 d139_32 rfl rfl
theorem d139_34 : decode prog_10_method_37_code 34 = .ok (.iaload, 1) := by decide +kernel
theorem s139_34 {v0 v1 v2 v3 v4 v5 v6 : Value} {a : Nat} {i : Int32} {st : List Value} {im : IM} {rm : RM} (hk : kd a = 0) (hi : pm_in i (ln a) = true) : ev 139 34 [v0, v1, v2, v3, v4, v5, v6] (.int i :: .ref a :: st) im rm = ev 139 35 [v0, v1, v2, v3, v4, v5, v6] (.int (im a i.toNatClampNeg) :: st) (im) (rm) := ev_iald pm_m139 d139_34 hk hi rfl
theorem d139_35 : decode prog_10_method_37_code 35 = .ok (.if_icmp .ge 65, 3) := by decide +kernel
theorem s139_35 {v0 v1 v2 v3 v4 v5 v6 : Value} {x : Int32} {y : Int32} {st : List Value} {im : IM} {rm : RM} : ev 139 35 [v0, v1, v2, v3, v4, v5, v6] (.int y :: .int x :: st) im rm = if y ≤ x then ev 139 100 [v0, v1, v2, v3, v4, pm_u, pm_u] st im rm else ev 139 38 [v0, v1, v2, v3, v4, v5, v6] st im rm := ev_icmp_ge pm_m139 d139_35 rfl rfl rfl
theorem d139_38 : decode prog_10_method_37_code 38 = .ok (.aload_n 0, 1) := by decide +kernel
theorem s139_38 {v1 v2 v3 v4 v5 v6 : Value} {l1 : Nat} {st : List Value} {im : IM} {rm : RM}  : ev 139 38 [.ref l1, v1, v2, v3, v4, v5, v6] st im rm = ev 139 39 [.ref l1, v1, v2, v3, v4, v5, v6] (.ref l1 :: st) (im) (rm) := ev_aload_n pm_m139 d139_38 rfl rfl
theorem d139_39 : decode prog_10_method_37_code 39 = .ok (.getfield 7, 3) := by decide +kernel
theorem s139_39 {v0 v1 v2 v3 v4 v5 v6 : Value} {a : Nat} {st : List Value} {im : IM} {rm : RM} (hk : kd a = 18) : ev 139 39 [v0, v1, v2, v3, v4, v5, v6] (.ref a :: st) im rm = ev 139 42 [v0, v1, v2, v3, v4, v5, v6] (pm_ro (rm a 0) :: st) (im) (rm) := ev_getR pm_m139 d139_39 f8_7 rfl hk rfl
theorem d139_42 : decode prog_10_method_37_code 42 = .ok (.iload 4, 2) := by decide +kernel
theorem s139_42 {v0 v1 v2 v3 v5 v6 : Value} {l1 : Int32} {st : List Value} {im : IM} {rm : RM}  : ev 139 42 [v0, v1, v2, v3, .int l1, v5, v6] st im rm = ev 139 44 [v0, v1, v2, v3, .int l1, v5, v6] (.int l1 :: st) (im) (rm) := ev_iload pm_m139 d139_42 rfl rfl
theorem d139_44 : decode prog_10_method_37_code 44 = .ok (.iaload, 1) := by decide +kernel
theorem s139_44 {v0 v1 v2 v3 v4 v5 v6 : Value} {a : Nat} {i : Int32} {st : List Value} {im : IM} {rm : RM} (hk : kd a = 0) (hi : pm_in i (ln a) = true) : ev 139 44 [v0, v1, v2, v3, v4, v5, v6] (.int i :: .ref a :: st) im rm = ev 139 45 [v0, v1, v2, v3, v4, v5, v6] (.int (im a i.toNatClampNeg) :: st) (im) (rm) := ev_iald pm_m139 d139_44 hk hi rfl
theorem d139_45 : decode prog_10_method_37_code 45 = .ok (.iconst 1, 1) := by decide +kernel
theorem s139_45 {v0 v1 v2 v3 v4 v5 v6 : Value}  {st : List Value} {im : IM} {rm : RM}  : ev 139 45 [v0, v1, v2, v3, v4, v5, v6] st im rm = ev 139 46 [v0, v1, v2, v3, v4, v5, v6] (.int (nI 1) :: st) (im) (rm) := ev_iconst pm_m139 d139_45 rfl rfl
theorem d139_46 : decode prog_10_method_37_code 46 = .ok (.if_icmp .ne 54, 3) := by decide +kernel
theorem s139_46 {v0 v1 v2 v3 v4 v5 v6 : Value} {x : Int32} {y : Int32} {st : List Value} {im : IM} {rm : RM} : ev 139 46 [v0, v1, v2, v3, v4, v5, v6] (.int y :: .int x :: st) im rm = if x = y then ev 139 49 [v0, v1, v2, v3, v4, v5, v6] st im rm else ev 139 100 [v0, v1, v2, v3, v4, pm_u, pm_u] st im rm := ev_icmp_ne pm_m139 d139_46 rfl rfl rfl
theorem d139_49 : decode prog_10_method_37_code 49 = .ok (.aload_n 0, 1) := by decide +kernel
theorem s139_49 {v1 v2 v3 v4 v5 v6 : Value} {l1 : Nat} {st : List Value} {im : IM} {rm : RM}  : ev 139 49 [.ref l1, v1, v2, v3, v4, v5, v6] st im rm = ev 139 50 [.ref l1, v1, v2, v3, v4, v5, v6] (.ref l1 :: st) (im) (rm) := ev_aload_n pm_m139 d139_49 rfl rfl
theorem d139_50 : decode prog_10_method_37_code 50 = .ok (.iload 4, 2) := by decide +kernel
theorem s139_50 {v0 v1 v2 v3 v5 v6 : Value} {l1 : Int32} {st : List Value} {im : IM} {rm : RM}  : ev 139 50 [v0, v1, v2, v3, .int l1, v5, v6] st im rm = ev 139 52 [v0, v1, v2, v3, .int l1, v5, v6] (.int l1 :: st) (im) (rm) := ev_iload pm_m139 d139_50 rfl rfl
theorem d139_52 : decode prog_10_method_37_code 52 = .ok (.iload 5, 2) := by decide +kernel
theorem s139_52 {v0 v1 v2 v3 v4 v6 : Value} {l1 : Int32} {st : List Value} {im : IM} {rm : RM}  : ev 139 52 [v0, v1, v2, v3, v4, .int l1, v6] st im rm = ev 139 54 [v0, v1, v2, v3, v4, .int l1, v6] (.int l1 :: st) (im) (rm) := ev_iload pm_m139 d139_52 rfl rfl
theorem d139_54 : decode prog_10_method_37_code 54 = .ok (.iload_n 1, 1) := by decide +kernel
theorem s139_54 {v0 v2 v3 v4 v5 v6 : Value} {l1 : Int32} {st : List Value} {im : IM} {rm : RM}  : ev 139 54 [v0, .int l1, v2, v3, v4, v5, v6] st im rm = ev 139 55 [v0, .int l1, v2, v3, v4, v5, v6] (.int l1 :: st) (im) (rm) := ev_iload_n pm_m139 d139_54 rfl rfl
theorem d139_55 : decode prog_10_method_37_code 55 = .ok (.iconst 2, 1) := by decide +kernel
theorem s139_55 {v0 v1 v2 v3 v4 v5 v6 : Value}  {st : List Value} {im : IM} {rm : RM}  : ev 139 55 [v0, v1, v2, v3, v4, v5, v6] st im rm = ev 139 56 [v0, v1, v2, v3, v4, v5, v6] (.int (nI 2) :: st) (im) (rm) := ev_iconst pm_m139 d139_55 rfl rfl
theorem d139_56 : decode prog_10_method_37_code 56 = .ok (.idiv, 1) := by decide +kernel
theorem s139_56 {v0 v1 v2 v3 v4 v5 v6 : Value} {x : Int32} {y : Int32} {st : List Value} {im : IM} {rm : RM} (h0 : ¬ y = 0) : ev 139 56 [v0, v1, v2, v3, v4, v5, v6] (.int y :: .int x :: st) im rm = ev 139 57 [v0, v1, v2, v3, v4, v5, v6] (.int (x / y) :: st) (im) (rm) := ev_idiv pm_m139 d139_56 h0 rfl
theorem d139_57 : decode prog_10_method_37_code 57 = .ok (.invokevirtual 168, 3) := by decide +kernel
theorem s139_57 {v0 v1 v2 v3 v4 v5 v6 : Value} {a : Nat} {p1 : Int32} {p2 : Int32} {p3 : Int32} {im : IM} {rm : RM} (hk : kd a = 18) : ev 139 57 [v0, v1, v2, v3, v4, v5, v6] [.int p3, .int p2, .int p1, .ref a] im rm = (ev 115 0 [.ref a, .int p1, .int p2, .int p3, pm_u, pm_u, pm_u] [] im rm).bind (fun r => ev 139 60 [v0, v1, v2, v3, v4, v5, v6] (r.1.toList ++ []) r.2.1 r.2.2) := ev_callV pm_m139 d139_57 l8_168 rfl pm_m115 (by decide) hk rfl ⟨rfl, rfl⟩ rfl rfl
theorem d139_60 : decode prog_10_method_37_code 60 = .ok (.istore 6, 2) := by decide +kernel
theorem s139_60 {v0 v1 v2 v3 v4 v6 : Value} {l1 : Int32} {x2 : Int32} {st : List Value} {im : IM} {rm : RM}  : ev 139 60 [v0, v1, v2, v3, v4, .int l1, v6] (.int x2 :: st) im rm = ev 139 62 [v0, v1, v2, v3, v4, .int l1, .int x2] st (im) (rm) := ev_istore pm_m139 d139_60 (Nat.le_of_ble_eq_true rfl) rfl rfl
theorem d139_62 : decode prog_10_method_37_code 62 = .ok (.iload_n 3, 1) := by decide +kernel
theorem s139_62 {v0 v1 v2 v4 v5 v6 : Value} {l1 : Int32} {st : List Value} {im : IM} {rm : RM}  : ev 139 62 [v0, v1, v2, .int l1, v4, v5, v6] st im rm = ev 139 63 [v0, v1, v2, .int l1, v4, v5, v6] (.int l1 :: st) (im) (rm) := ev_iload_n pm_m139 d139_62 rfl rfl
theorem d139_63 : decode prog_10_method_37_code 63 = .ok (.iload_n 1, 1) := by decide +kernel
theorem s139_63 {v0 v2 v3 v4 v5 v6 : Value} {l1 : Int32} {st : List Value} {im : IM} {rm : RM}  : ev 139 63 [v0, .int l1, v2, v3, v4, v5, v6] st im rm = ev 139 64 [v0, .int l1, v2, v3, v4, v5, v6] (.int l1 :: st) (im) (rm) := ev_iload_n pm_m139 d139_63 rfl rfl
theorem d139_64 : decode prog_10_method_37_code 64 = .ok (.iconst 2, 1) := by decide +kernel
theorem s139_64 {v0 v1 v2 v3 v4 v5 v6 : Value}  {st : List Value} {im : IM} {rm : RM}  : ev 139 64 [v0, v1, v2, v3, v4, v5, v6] st im rm = ev 139 65 [v0, v1, v2, v3, v4, v5, v6] (.int (nI 2) :: st) (im) (rm) := ev_iconst pm_m139 d139_64 rfl rfl
theorem d139_65 : decode prog_10_method_37_code 65 = .ok (.irem, 1) := by decide +kernel
theorem s139_65 {v0 v1 v2 v3 v4 v5 v6 : Value} {x : Int32} {y : Int32} {st : List Value} {im : IM} {rm : RM} (h0 : ¬ y = 0) : ev 139 65 [v0, v1, v2, v3, v4, v5, v6] (.int y :: .int x :: st) im rm = ev 139 66 [v0, v1, v2, v3, v4, v5, v6] (.int (x - x / y * y) :: st) (im) (rm) := ev_irem pm_m139 d139_65 h0 rfl
theorem d139_66 : decode prog_10_method_37_code 66 = .ok (.ifCond .ne 12, 3) := by decide +kernel
theorem s139_66 {v0 v1 v2 v3 v4 v5 v6 : Value} {x : Int32} {st : List Value} {im : IM} {rm : RM} : ev 139 66 [v0, v1, v2, v3, v4, v5, v6] (.int x :: st) im rm = if x = nI 0 then ev 139 69 [v0, v1, v2, v3, v4, v5, v6] st im rm else ev 139 78 [v0, v1, v2, pm_u, v4, v5, v6] st im rm := ev_if_ne (y := 0) pm_m139 d139_66 rfl rfl rfl
theorem d139_69 : decode prog_10_method_37_code 69 = .ok (.iload 6, 2) := by decide +kernel
theorem s139_69 {v0 v1 v2 v3 v4 v5 : Value} {l1 : Int32} {st : List Value} {im : IM} {rm : RM}  : ev 139 69 [v0, v1, v2, v3, v4, v5, .int l1] st im rm = ev 139 71 [v0, v1, v2, v3, v4, v5, .int l1] (.int l1 :: st) (im) (rm) := ev_iload pm_m139 d139_69 rfl rfl
theorem d139_71 : decode prog_10_method_37_code 71 = .ok (.iload_n 2, 1) := by decide +kernel
theorem s139_71 {v0 v1 v3 v4 v5 v6 : Value} {l1 : Int32} {st : List Value} {im : IM} {rm : RM}  : ev 139 71 [v0, v1, .int l1, v3, v4, v5, v6] st im rm = ev 139 72 [v0, v1, .int l1, v3, v4, v5, v6] (.int l1 :: st) (im) (rm) := ev_iload_n pm_m139 d139_71 rfl rfl
theorem d139_72 : decode prog_10_method_37_code 72 = .ok (.if_icmp .ge 16, 3) := by decide +kernel
theorem s139_72 {v0 v1 v2 v3 v4 v5 v6 : Value} {x : Int32} {y : Int32} {st : List Value} {im : IM} {rm : RM} : ev 139 72 [v0, v1, v2, v3, v4, v5, v6] (.int y :: .int x :: st) im rm = if y ≤ x then ev 139 88 [v0, v1, v2, pm_u, v4, v5, pm_u] st im rm else ev 139 75 [v0, v1, v2, v3, v4, v5, v6] st im rm := ev_icmp_ge pm_m139 d139_72 rfl rfl rfl
theorem d139_75 : decode prog_10_method_37_code 75 = .ok (.goto 9, 3) := by decide +kernel
theorem s139_75 {v0 v1 v2 v3 v4 v5 v6 : Value}  {st : List Value} {im : IM} {rm : RM}  : ev 139 75 [v0, v1, v2, v3, v4, v5, v6] st im rm = ev 139 84 [v0, v1, v2, pm_u, v4, v5, pm_u] st (im) (rm) := ev_goto pm_m139 d139_75 rfl rfl
theorem d139_78 : decode prog_10_method_37_code 78 = .ok (.iload 6, 2) := by decide +kernel
theorem s139_78 {v0 v1 v2 v3 v4 v5 : Value} {l1 : Int32} {st : List Value} {im : IM} {rm : RM}  : ev 139 78 [v0, v1, v2, v3, v4, v5, .int l1] st im rm = ev 139 80 [v0, v1, v2, v3, v4, v5, .int l1] (.int l1 :: st) (im) (rm) := ev_iload pm_m139 d139_78 rfl rfl
theorem d139_80 : decode prog_10_method_37_code 80 = .ok (.iload_n 2, 1) := by decide +kernel
theorem s139_80 {v0 v1 v3 v4 v5 v6 : Value} {l1 : Int32} {st : List Value} {im : IM} {rm : RM}  : ev 139 80 [v0, v1, .int l1, v3, v4, v5, v6] st im rm = ev 139 81 [v0, v1, .int l1, v3, v4, v5, v6] (.int l1 :: st) (im) (rm) := ev_iload_n pm_m139 d139_80 rfl rfl
theorem d139_81 : decode prog_10_method_37_code 81 = .ok (.if_icmp .le 7, 3) := by decide +kernel
theorem s139_81 {v0 v1 v2 v3 v4 v5 v6 : Value} {x : Int32} {y : Int32} {st : List Value} {im : IM} {rm : RM} : ev 139 81 [v0, v1, v2, v3, v4, v5, v6] (.int y :: .int x :: st) im rm = if x ≤ y then ev 139 88 [v0, v1, v2, pm_u, v4, v5, pm_u] st im rm else ev 139 84 [v0, v1, v2, pm_u, v4, v5, pm_u] st im rm := ev_icmp_le pm_m139 d139_81 rfl rfl rfl
theorem d139_84 : decode prog_10_method_37_code 84 = .ok (.iconst 0, 1) := by decide +kernel
theorem s139_84 {v0 v1 v2 v3 v4 v5 v6 : Value}  {st : List Value} {im : IM} {rm : RM}  : ev 139 84 [v0, v1, v2, v3, v4, v5, v6] st im rm = ev 139 85 [v0, v1, v2, v3, v4, v5, v6] (.int (nI 0) :: st) (im) (rm) := ev_iconst pm_m139 d139_84 rfl rfl
theorem d139_85 : decode prog_10_method_37_code 85 = .ok (.goto 7, 3) := by decide +kernel
theorem s139_85 {v0 v1 v2 v3 v4 v5 v6 : Value}  {st : List Value} {im : IM} {rm : RM}  : ev 139 85 [v0, v1, v2, v3, v4, v5, v6] st im rm = ev 139 92 [v0, v1, v2, pm_u, v4, v5, pm_u] st (im) (rm) := ev_goto pm_m139 d139_85 rfl rfl
theorem d139_88 : decode prog_10_method_37_code 88 = .ok (.iconst 1, 1) := by decide +kernel
theorem s139_88 {v0 v1 v2 v3 v4 v5 v6 : Value}  {st : List Value} {im : IM} {rm : RM}  : ev 139 88 [v0, v1, v2, v3, v4, v5, v6] st im rm = ev 139 89 [v0, v1, v2, v3, v4, v5, v6] (.int (nI 1) :: st) (im) (rm) := ev_iconst pm_m139 d139_88 rfl rfl
theorem d139_89 : decode prog_10_method_37_code 89 = .ok (.iload 4, 2) := by decide +kernel
theorem s139_89 {v0 v1 v2 v3 v5 v6 : Value} {l1 : Int32} {st : List Value} {im : IM} {rm : RM}  : ev 139 89 [v0, v1, v2, v3, .int l1, v5, v6] st im rm = ev 139 91 [v0, v1, v2, v3, .int l1, v5, v6] (.int l1 :: st) (im) (rm) := ev_iload pm_m139 d139_89 rfl rfl
theorem d139_91 : decode prog_10_method_37_code 91 = .ok (.ishl, 1) := by decide +kernel
theorem s139_91 {v0 v1 v2 v3 v4 v5 v6 : Value} {x : Int32} {y : Int32} {st : List Value} {im : IM} {rm : RM}  : ev 139 91 [v0, v1, v2, v3, v4, v5, v6] (.int y :: .int x :: st) im rm = ev 139 92 [v0, v1, v2, pm_u, v4, v5, pm_u] (.int (x <<< (y &&& 31)) :: st) (im) (rm) := ev_ishl pm_m139 d139_91 rfl
theorem d139_92 : decode prog_10_method_37_code 92 = .ok (.ior, 1) := by decide +kernel
theorem s139_92 {v0 v1 v2 v3 v4 v5 v6 : Value} {x : Int32} {y : Int32} {st : List Value} {im : IM} {rm : RM}  : ev 139 92 [v0, v1, v2, v3, v4, v5, v6] (.int y :: .int x :: st) im rm = ev 139 93 [v0, v1, v2, v3, v4, v5, v6] (.int (x ||| y) :: st) (im) (rm) := ev_ior pm_m139 d139_92 rfl
theorem d139_93 : decode prog_10_method_37_code 93 = .ok (.istore_n 3, 1) := by decide +kernel
theorem s139_93 {v0 v1 v3 v4 v5 v6 : Value} {l1 : Int32} {x2 : Int32} {st : List Value} {im : IM} {rm : RM}  : ev 139 93 [v0, v1, .int l1, v3, v4, v5, v6] (.int x2 :: st) im rm = ev 139 94 [v0, v1, .int l1, .int x2, v4, v5, v6] st (im) (rm) := ev_istore_n pm_m139 d139_93 (Nat.le_of_ble_eq_true rfl) rfl rfl
theorem d139_94 : decode prog_10_method_37_code 94 = .ok (.iinc 5 1, 3) := by decide +kernel
theorem s139_94 {v0 v1 v2 v3 v6 : Value} {l1 : Int32} {l2 : Int32} {st : List Value} {im : IM} {rm : RM}  : ev 139 94 [v0, v1, v2, v3, .int l1, .int l2, v6] st im rm = ev 139 97 [v0, v1, v2, v3, .int l1, .int (l2 + nI 1), v6] st (im) (rm) := ev_iinc pm_m139 d139_94 rfl rfl rfl rfl
theorem d139_97 : decode prog_10_method_37_code 97 = .ok (.goto (-71), 3) := by decide +kernel
theorem s139_97 {v0 v1 v2 v3 v4 v5 v6 : Value}  {st : List Value} {im : IM} {rm : RM}  : ev 139 97 [v0, v1, v2, v3, v4, v5, v6] st im rm = ev 139 26 [v0, v1, v2, v3, v4, v5, pm_u] st (im) (rm) := ev_goto pm_m139 d139_97 rfl rfl
theorem d139_100 : decode prog_10_method_37_code 100 = .ok (.iinc 4 1, 3) := by decide +kernel
theorem s139_100 {v0 v1 v2 v5 v6 : Value} {l1 : Int32} {l2 : Int32} {st : List Value} {im : IM} {rm : RM}  : ev 139 100 [v0, v1, v2, .int l1, .int l2, v5, v6] st im rm = ev 139 103 [v0, v1, v2, .int l1, .int (l2 + nI 1), v5, v6] st (im) (rm) := ev_iinc pm_m139 d139_100 rfl rfl rfl rfl
theorem d139_103 : decode prog_10_method_37_code 103 = .ok (.goto (-92), 3) := by decide +kernel
theorem s139_103 {v0 v1 v2 v3 v4 v5 v6 : Value}  {st : List Value} {im : IM} {rm : RM}  : ev 139 103 [v0, v1, v2, v3, v4, v5, v6] st im rm = ev 139 11 [v0, v1, v2, v3, v4, pm_u, pm_u] st (im) (rm) := ev_goto pm_m139 d139_103 rfl rfl
theorem d139_106 : decode prog_10_method_37_code 106 = .ok (.iload_n 3, 1) := by decide +kernel
theorem s139_106 {v0 v1 v2 v4 v5 v6 : Value} {l1 : Int32} {st : List Value} {im : IM} {rm : RM}  : ev 139 106 [v0, v1, v2, .int l1, v4, v5, v6] st im rm = ev 139 107 [v0, v1, v2, .int l1, v4, v5, v6] (.int l1 :: st) (im) (rm) := ev_iload_n pm_m139 d139_106 rfl rfl
theorem d139_107 : decode prog_10_method_37_code 107 = .ok (.ireturn, 1) := by decide +kernel
theorem s139_107 {v0 v1 v2 v3 v4 v5 v6 : Value} {x : Int32} {im : IM} {rm : RM} : ev 139 107 [v0, v1, v2, v3, v4, v5, v6] [.int x] im rm = some (some (.int x), im, rm) := ev_ireturn pm_m139 d139_107 rfl
theorem d140_0 : decode prog_10_method_38_code 0 = .ok (.iload_n 1, 1) := by decide +kernel
theorem s140_0 {v0 : Value} {l1 : Int32} {st : List Value} {im : IM} {rm : RM}  : ev 140 0 [v0, .int l1] st im rm = ev 140 1 [v0, .int l1] (.int l1 :: st) (im) (rm) := ev_iload_n pm_m140 d140_0 rfl rfl
theorem d140_1 : decode prog_10_method_38_code 1 = .ok (.i2l, 1) := by decide +kernel
theorem s140_1 {v0 v1 : Value} {x : Int32} {st : List Value} {im : IM} {rm : RM}  : ev 140 1 [v0, v1] (.int x :: st) im rm = ev 140 2 [v0, v1] (.long x.toInt64 :: st) (im) (rm) := ev_i2l pm_m140 d140_1 rfl
theorem d140_2 : decode prog_10_method_38_code 2 = .ok (.lconst 0, 1) := by decide +kernel
theorem s140_2 {v0 v1 : Value}  {st : List Value} {im : IM} {rm : RM}  : ev 140 2 [v0, v1] st im rm = ev 140 3 [v0, v1] (.long (lN 0) :: st) (im) (rm) := ev_lconst pm_m140 d140_2 rfl rfl
theorem d140_3 : decode prog_10_method_38_code 3 = .ok (.ldc2_w 273, 3) := by decide +kernel
theorem s140_3 {v0 v1 : Value}  {st : List Value} {im : IM} {rm : RM}  : ev 140 3 [v0, v1] st im rm = ev 140 6 [v0, v1] (.long (lN 15) :: st) (im) (rm) := ev_ldc2 pm_m140 d140_3 (by decide +kernel) rfl
theorem d140_6 : decode prog_10_method_38_code 6 = .ok (.invokestatic 120, 3) := by decide +kernel
theorem s140_6 {v0 v1 : Value} {p1 : Int64} {p2 : Int64} {p3 : Int64} {im : IM} {rm : RM}  : ev 140 6 [v0, v1] [.long p3, .long p2, .long p1] im rm = (ev 104 0 [.long p1, pm_u, .long p2, pm_u, .long p3, pm_u] [] im rm).bind (fun r => ev 140 9 [v0, v1] (r.1.toList ++ []) r.2.1 r.2.2) := ev_callS pm_m140 d140_6 (by decide) l8_120 rfl pm_m104 rfl ⟨rfl, rfl⟩ rfl rfl
theorem d140_9 : decode prog_10_method_38_code 9 = .ok (.ifCond .eq 11, 3) := by decide +kernel
theorem s140_9 {v0 v1 : Value} {x : Int32} {st : List Value} {im : IM} {rm : RM} : ev 140 9 [v0, v1] (.int x :: st) im rm = if x = nI 0 then ev 140 20 [pm_u, pm_u] st im rm else ev 140 12 [v0, v1] st im rm := ev_if_eq (y := 0) pm_m140 d140_9 rfl rfl rfl
theorem d140_12 : decode prog_10_method_38_code 12 = .ok (.aload_n 0, 1) := by decide +kernel
theorem s140_12 {v1 : Value} {l1 : Nat} {st : List Value} {im : IM} {rm : RM}  : ev 140 12 [.ref l1, v1] st im rm = ev 140 13 [.ref l1, v1] (.ref l1 :: st) (im) (rm) := ev_aload_n pm_m140 d140_12 rfl rfl
theorem d140_13 : decode prog_10_method_38_code 13 = .ok (.iload_n 1, 1) := by decide +kernel
theorem s140_13 {v0 : Value} {l1 : Int32} {st : List Value} {im : IM} {rm : RM}  : ev 140 13 [v0, .int l1] st im rm = ev 140 14 [v0, .int l1] (.int l1 :: st) (im) (rm) := ev_iload_n pm_m140 d140_13 rfl rfl
theorem d140_14 : decode prog_10_method_38_code 14 = .ok (.invokevirtual 275, 3) := by decide +kernel
theorem s140_14 {v0 v1 : Value} {a : Nat} {p1 : Int32} {im : IM} {rm : RM} (hk : kd a = 18) : ev 140 14 [v0, v1] [.int p1, .ref a] im rm = (ev 139 0 [.ref a, .int p1, pm_u, pm_u, pm_u, pm_u, pm_u] [] im rm).bind (fun r => ev 140 17 [v0, v1] (r.1.toList ++ []) r.2.1 r.2.2) := ev_callV pm_m140 d140_14 l8_275 rfl pm_m139 (by decide) hk rfl ⟨rfl, rfl⟩ rfl rfl
theorem d140_17 : decode prog_10_method_38_code 17 = .ok (.goto 5, 3) := by decide +kernel
theorem s140_17 {v0 v1 : Value}  {st : List Value} {im : IM} {rm : RM}  : ev 140 17 [v0, v1] st im rm = ev 140 22 [pm_u, pm_u] st (im) (rm) := ev_goto pm_m140 d140_17 rfl rfl
theorem d140_20 : decode prog_10_method_38_code 20 = .ok (.bipush (-3), 2) := by decide +kernel
theorem s140_20 {v0 v1 : Value}  {st : List Value} {im : IM} {rm : RM}  : ev 140 20 [v0, v1] st im rm = ev 140 22 [pm_u, pm_u] (.int ((-3 : Int32)) :: st) (im) (rm) := ev_bipush pm_m140 d140_20 rfl rfl
theorem d140_22 : decode prog_10_method_38_code 22 = .ok (.ireturn, 1) := by decide +kernel
theorem s140_22 {v0 v1 : Value} {x : Int32} {im : IM} {rm : RM} : ev 140 22 [v0, v1] [.int x] im rm = some (some (.int x), im, rm) := ev_ireturn pm_m140 d140_22 rfl
theorem d141_0 : decode prog_10_method_39_code 0 = .ok (.iload_n 1, 1) := by decide +kernel
theorem s141_0 {v0 : Value} {l1 : Int32} {st : List Value} {im : IM} {rm : RM}  : ev 141 0 [v0, .int l1] st im rm = ev 141 1 [v0, .int l1] (.int l1 :: st) (im) (rm) := ev_iload_n pm_m141 d141_0 rfl rfl
theorem d141_1 : decode prog_10_method_39_code 1 = .ok (.i2l, 1) := by decide +kernel
theorem s141_1 {v0 v1 : Value} {x : Int32} {st : List Value} {im : IM} {rm : RM}  : ev 141 1 [v0, v1] (.int x :: st) im rm = ev 141 2 [v0, v1] (.long x.toInt64 :: st) (im) (rm) := ev_i2l pm_m141 d141_1 rfl
theorem d141_2 : decode prog_10_method_39_code 2 = .ok (.lconst 0, 1) := by decide +kernel
theorem s141_2 {v0 v1 : Value}  {st : List Value} {im : IM} {rm : RM}  : ev 141 2 [v0, v1] st im rm = ev 141 3 [v0, v1] (.long (lN 0) :: st) (im) (rm) := ev_lconst pm_m141 d141_2 rfl rfl
theorem d141_3 : decode prog_10_method_39_code 3 = .ok (.ldc2_w 273, 3) := by decide +kernel
theorem s141_3 {v0 v1 : Value}  {st : List Value} {im : IM} {rm : RM}  : ev 141 3 [v0, v1] st im rm = ev 141 6 [v0, v1] (.long (lN 15) :: st) (im) (rm) := ev_ldc2 pm_m141 d141_3 (by decide +kernel) rfl
theorem d141_6 : decode prog_10_method_39_code 6 = .ok (.invokestatic 120, 3) := by decide +kernel
theorem s141_6 {v0 v1 : Value} {p1 : Int64} {p2 : Int64} {p3 : Int64} {im : IM} {rm : RM}  : ev 141 6 [v0, v1] [.long p3, .long p2, .long p1] im rm = (ev 104 0 [.long p1, pm_u, .long p2, pm_u, .long p3, pm_u] [] im rm).bind (fun r => ev 141 9 [v0, v1] (r.1.toList ++ []) r.2.1 r.2.2) := ev_callS pm_m141 d141_6 (by decide) l8_120 rfl pm_m104 rfl ⟨rfl, rfl⟩ rfl rfl
theorem d141_9 : decode prog_10_method_39_code 9 = .ok (.ifCond .eq 11, 3) := by decide +kernel
theorem s141_9 {v0 v1 : Value} {x : Int32} {st : List Value} {im : IM} {rm : RM} : ev 141 9 [v0, v1] (.int x :: st) im rm = if x = nI 0 then ev 141 20 [pm_u, pm_u] st im rm else ev 141 12 [v0, v1] st im rm := ev_if_eq (y := 0) pm_m141 d141_9 rfl rfl rfl
theorem d141_12 : decode prog_10_method_39_code 12 = .ok (.aload_n 0, 1) := by decide +kernel
theorem s141_12 {v1 : Value} {l1 : Nat} {st : List Value} {im : IM} {rm : RM}  : ev 141 12 [.ref l1, v1] st im rm = ev 141 13 [.ref l1, v1] (.ref l1 :: st) (im) (rm) := ev_aload_n pm_m141 d141_12 rfl rfl
theorem d141_13 : decode prog_10_method_39_code 13 = .ok (.iload_n 1, 1) := by decide +kernel
theorem s141_13 {v0 : Value} {l1 : Int32} {st : List Value} {im : IM} {rm : RM}  : ev 141 13 [v0, .int l1] st im rm = ev 141 14 [v0, .int l1] (.int l1 :: st) (im) (rm) := ev_iload_n pm_m141 d141_13 rfl rfl
theorem d141_14 : decode prog_10_method_39_code 14 = .ok (.invokevirtual 270, 3) := by decide +kernel
theorem s141_14 {v0 v1 : Value} {a : Nat} {p1 : Int32} {im : IM} {rm : RM} (hk : kd a = 18) : ev 141 14 [v0, v1] [.int p1, .ref a] im rm = (ev 138 0 [.ref a, .int p1, pm_u, pm_u, pm_u, pm_u, pm_u] [] im rm).bind (fun r => ev 141 17 [v0, v1] (r.1.toList ++ []) r.2.1 r.2.2) := ev_callV pm_m141 d141_14 l8_270 rfl pm_m138 (by decide) hk rfl ⟨rfl, rfl⟩ rfl rfl
theorem d141_17 : decode prog_10_method_39_code 17 = .ok (.goto 5, 3) := by decide +kernel
theorem s141_17 {v0 v1 : Value}  {st : List Value} {im : IM} {rm : RM}  : ev 141 17 [v0, v1] st im rm = ev 141 22 [pm_u, pm_u] st (im) (rm) := ev_goto pm_m141 d141_17 rfl rfl
theorem d141_20 : decode prog_10_method_39_code 20 = .ok (.bipush (-3), 2) := by decide +kernel
theorem s141_20 {v0 v1 : Value}  {st : List Value} {im : IM} {rm : RM}  : ev 141 20 [v0, v1] st im rm = ev 141 22 [pm_u, pm_u] (.int ((-3 : Int32)) :: st) (im) (rm) := ev_bipush pm_m141 d141_20 rfl rfl
theorem d141_22 : decode prog_10_method_39_code 22 = .ok (.ireturn, 1) := by decide +kernel
theorem s141_22 {v0 v1 : Value} {x : Int32} {im : IM} {rm : RM} : ev 141 22 [v0, v1] [.int x] im rm = some (some (.int x), im, rm) := ev_ireturn pm_m141 d141_22 rfl
theorem d142_0 : decode prog_10_method_40_code 0 = .ok (.iconst 0, 1) := by decide +kernel
theorem s142_0 {v0 v1 v2 : Value}  {st : List Value} {im : IM} {rm : RM}  : ev 142 0 [v0, v1, v2] st im rm = ev 142 1 [v0, v1, v2] (.int (nI 0) :: st) (im) (rm) := ev_iconst pm_m142 d142_0 rfl rfl
theorem d142_1 : decode prog_10_method_40_code 1 = .ok (.istore_n 1, 1) := by decide +kernel
theorem s142_1 {v1 v2 : Value} {l1 : Int32} {x2 : Int32} {st : List Value} {im : IM} {rm : RM}  : ev 142 1 [.int l1, v1, v2] (.int x2 :: st) im rm = ev 142 2 [.int l1, .int x2, v2] st (im) (rm) := ev_istore_n pm_m142 d142_1 (Nat.le_of_ble_eq_true rfl) rfl rfl
theorem d142_2 : decode prog_10_method_40_code 2 = .ok (.iconst 0, 1) := by decide +kernel
theorem s142_2 {v0 v1 v2 : Value}  {st : List Value} {im : IM} {rm : RM}  : ev 142 2 [v0, v1, v2] st im rm = ev 142 3 [v0, v1, v2] (.int (nI 0) :: st) (im) (rm) := ev_iconst pm_m142 d142_2 rfl rfl
theorem d142_3 : decode prog_10_method_40_code 3 = .ok (.istore_n 2, 1) := by decide +kernel
theorem s142_3 {v0 v2 : Value} {l1 : Int32} {x2 : Int32} {st : List Value} {im : IM} {rm : RM}  : ev 142 3 [v0, .int l1, v2] (.int x2 :: st) im rm = ev 142 4 [v0, .int l1, .int x2] st (im) (rm) := ev_istore_n pm_m142 d142_3 (Nat.le_of_ble_eq_true rfl) rfl rfl
theorem d142_4 : decode prog_10_method_40_code 4 = .ok (.iload_n 2, 1) := by decide +kernel
theorem s142_4 {v0 v1 : Value} {l1 : Int32} {st : List Value} {im : IM} {rm : RM}  : ev 142 4 [v0, v1, .int l1] st im rm = ev 142 5 [v0, v1, .int l1] (.int l1 :: st) (im) (rm) := ev_iload_n pm_m142 d142_4 rfl rfl
theorem d142_5 : decode prog_10_method_40_code 5 = .ok (.bipush 16, 2) := by decide +kernel
theorem s142_5 {v0 v1 v2 : Value}  {st : List Value} {im : IM} {rm : RM}  : ev 142 5 [v0, v1, v2] st im rm = ev 142 7 [v0, v1, v2] (.int (nI 16) :: st) (im) (rm) := ev_bipush pm_m142 d142_5 rfl rfl
theorem d142_7 : decode prog_10_method_40_code 7 = .ok (.if_icmp .ge 17, 3) := by decide +kernel
theorem s142_7 {v0 v1 v2 : Value} {x : Int32} {y : Int32} {st : List Value} {im : IM} {rm : RM} : ev 142 7 [v0, v1, v2] (.int y :: .int x :: st) im rm = if y ≤ x then ev 142 24 [pm_u, v1, pm_u] st im rm else ev 142 10 [v0, v1, v2] st im rm := ev_icmp_ge pm_m142 d142_7 rfl rfl rfl
theorem d142_10 : decode prog_10_method_40_code 10 = .ok (.iload_n 1, 1) := by decide +kernel
theorem s142_10 {v0 v2 : Value} {l1 : Int32} {st : List Value} {im : IM} {rm : RM}  : ev 142 10 [v0, .int l1, v2] st im rm = ev 142 11 [v0, .int l1, v2] (.int l1 :: st) (im) (rm) := ev_iload_n pm_m142 d142_10 rfl rfl
theorem d142_11 : decode prog_10_method_40_code 11 = .ok (.iload_n 0, 1) := by decide +kernel
theorem s142_11 {v1 v2 : Value} {l1 : Int32} {st : List Value} {im : IM} {rm : RM}  : ev 142 11 [.int l1, v1, v2] st im rm = ev 142 12 [.int l1, v1, v2] (.int l1 :: st) (im) (rm) := ev_iload_n pm_m142 d142_11 rfl rfl
theorem d142_12 : decode prog_10_method_40_code 12 = .ok (.iload_n 2, 1) := by decide +kernel
theorem s142_12 {v0 v1 : Value} {l1 : Int32} {st : List Value} {im : IM} {rm : RM}  : ev 142 12 [v0, v1, .int l1] st im rm = ev 142 13 [v0, v1, .int l1] (.int l1 :: st) (im) (rm) := ev_iload_n pm_m142 d142_12 rfl rfl
theorem d142_13 : decode prog_10_method_40_code 13 = .ok (.ishr, 1) := by decide +kernel
theorem s142_13 {v0 v1 v2 : Value} {x : Int32} {y : Int32} {st : List Value} {im : IM} {rm : RM}  : ev 142 13 [v0, v1, v2] (.int y :: .int x :: st) im rm = ev 142 14 [v0, v1, v2] (.int (x >>> (y &&& 31)) :: st) (im) (rm) := ev_ishr pm_m142 d142_13 rfl
theorem d142_14 : decode prog_10_method_40_code 14 = .ok (.iconst 1, 1) := by decide +kernel
theorem s142_14 {v0 v1 v2 : Value}  {st : List Value} {im : IM} {rm : RM}  : ev 142 14 [v0, v1, v2] st im rm = ev 142 15 [v0, v1, v2] (.int (nI 1) :: st) (im) (rm) := ev_iconst pm_m142 d142_14 rfl rfl
theorem d142_15 : decode prog_10_method_40_code 15 = .ok (.iand, 1) := by decide +kernel
theorem s142_15 {v0 v1 v2 : Value} {x : Int32} {y : Int32} {st : List Value} {im : IM} {rm : RM}  : ev 142 15 [v0, v1, v2] (.int y :: .int x :: st) im rm = ev 142 16 [v0, v1, v2] (.int (x &&& y) :: st) (im) (rm) := ev_iand pm_m142 d142_15 rfl
theorem d142_16 : decode prog_10_method_40_code 16 = .ok (.iadd, 1) := by decide +kernel
theorem s142_16 {v0 v1 v2 : Value} {x : Int32} {y : Int32} {st : List Value} {im : IM} {rm : RM}  : ev 142 16 [v0, v1, v2] (.int y :: .int x :: st) im rm = ev 142 17 [v0, v1, v2] (.int (x + y) :: st) (im) (rm) := ev_iadd pm_m142 d142_16 rfl
theorem d142_17 : decode prog_10_method_40_code 17 = .ok (.istore_n 1, 1) := by decide +kernel
theorem s142_17 {v1 v2 : Value} {l1 : Int32} {x2 : Int32} {st : List Value} {im : IM} {rm : RM}  : ev 142 17 [.int l1, v1, v2] (.int x2 :: st) im rm = ev 142 18 [.int l1, .int x2, v2] st (im) (rm) := ev_istore_n pm_m142 d142_17 (Nat.le_of_ble_eq_true rfl) rfl rfl
theorem d142_18 : decode prog_10_method_40_code 18 = .ok (.iinc 2 1, 3) := by decide +kernel
theorem s142_18 {v0 : Value} {l1 : Int32} {l2 : Int32} {st : List Value} {im : IM} {rm : RM}  : ev 142 18 [v0, .int l1, .int l2] st im rm = ev 142 21 [v0, .int l1, .int (l2 + nI 1)] st (im) (rm) := ev_iinc pm_m142 d142_18 rfl rfl rfl rfl
theorem d142_21 : decode prog_10_method_40_code 21 = .ok (.goto (-17), 3) := by decide +kernel
theorem s142_21 {v0 v1 v2 : Value}  {st : List Value} {im : IM} {rm : RM}  : ev 142 21 [v0, v1, v2] st im rm = ev 142 4 [v0, v1, v2] st (im) (rm) := ev_goto pm_m142 d142_21 rfl rfl
theorem d142_24 : decode prog_10_method_40_code 24 = .ok (.iload_n 1, 1) := by decide +kernel
theorem s142_24 {v0 v2 : Value} {l1 : Int32} {st : List Value} {im : IM} {rm : RM}  : ev 142 24 [v0, .int l1, v2] st im rm = ev 142 25 [v0, .int l1, v2] (.int l1 :: st) (im) (rm) := ev_iload_n pm_m142 d142_24 rfl rfl
theorem d142_25 : decode prog_10_method_40_code 25 = .ok (.ireturn, 1) := by decide +kernel
theorem s142_25 {v0 v1 v2 : Value} {x : Int32} {im : IM} {rm : RM} : ev 142 25 [v0, v1, v2] [.int x] im rm = some (some (.int x), im, rm) := ev_ireturn pm_m142 d142_25 rfl
theorem d143_0 : decode prog_10_method_41_code 0 = .ok (.iconst 0, 1) := by decide +kernel
theorem s143_0 {v0 v1 v2 v3 v4 v5 : Value}  {st : List Value} {im : IM} {rm : RM}  : ev 143 0 [v0, v1, v2, v3, v4, v5] st im rm = ev 143 1 [v0, v1, v2, v3, v4, v5] (.int (nI 0) :: st) (im) (rm) := ev_iconst pm_m143 d143_0 rfl rfl
theorem d143_1 : decode prog_10_method_41_code 1 = .ok (.istore_n 1, 1) := by decide +kernel
theorem s143_1 {v1 v2 v3 v4 v5 : Value} {l1 : Nat} {x2 : Int32} {st : List Value} {im : IM} {rm : RM}  : ev 143 1 [.ref l1, v1, v2, v3, v4, v5] (.int x2 :: st) im rm = ev 143 2 [.ref l1, .int x2, v2, v3, v4, v5] st (im) (rm) := ev_istore_n pm_m143 d143_1 (Nat.le_of_ble_eq_true rfl) rfl rfl
theorem d143_2 : decode prog_10_method_41_code 2 = .ok (.iconst 0, 1) := by decide +kernel
theorem s143_2 {v0 v1 v2 v3 v4 v5 : Value}  {st : List Value} {im : IM} {rm : RM}  : ev 143 2 [v0, v1, v2, v3, v4, v5] st im rm = ev 143 3 [v0, v1, v2, v3, v4, v5] (.int (nI 0) :: st) (im) (rm) := ev_iconst pm_m143 d143_2 rfl rfl
theorem d143_3 : decode prog_10_method_41_code 3 = .ok (.istore_n 2, 1) := by decide +kernel
theorem s143_3 {v0 v2 v3 v4 v5 : Value} {l1 : Int32} {x2 : Int32} {st : List Value} {im : IM} {rm : RM}  : ev 143 3 [v0, .int l1, v2, v3, v4, v5] (.int x2 :: st) im rm = ev 143 4 [v0, .int l1, .int x2, pm_u, pm_u, pm_u] st (im) (rm) := ev_istore_n pm_m143 d143_3 (Nat.le_of_ble_eq_true rfl) rfl rfl
theorem d143_4 : decode prog_10_method_41_code 4 = .ok (.iload_n 2, 1) := by decide +kernel
theorem s143_4 {v0 v1 v3 v4 v5 : Value} {l1 : Int32} {st : List Value} {im : IM} {rm : RM}  : ev 143 4 [v0, v1, .int l1, v3, v4, v5] st im rm = ev 143 5 [v0, v1, .int l1, v3, v4, v5] (.int l1 :: st) (im) (rm) := ev_iload_n pm_m143 d143_4 rfl rfl
theorem d143_5 : decode prog_10_method_41_code 5 = .ok (.bipush 16, 2) := by decide +kernel
theorem s143_5 {v0 v1 v2 v3 v4 v5 : Value}  {st : List Value} {im : IM} {rm : RM}  : ev 143 5 [v0, v1, v2, v3, v4, v5] st im rm = ev 143 7 [v0, v1, v2, v3, v4, v5] (.int (nI 16) :: st) (im) (rm) := ev_bipush pm_m143 d143_5 rfl rfl
theorem d143_7 : decode prog_10_method_41_code 7 = .ok (.if_icmp .ge 29, 3) := by decide +kernel
theorem s143_7 {v0 v1 v2 v3 v4 v5 : Value} {x : Int32} {y : Int32} {st : List Value} {im : IM} {rm : RM} : ev 143 7 [v0, v1, v2, v3, v4, v5] (.int y :: .int x :: st) im rm = if y ≤ x then ev 143 36 [v0, v1, pm_u, pm_u, pm_u, pm_u] st im rm else ev 143 10 [v0, v1, v2, v3, v4, v5] st im rm := ev_icmp_ge pm_m143 d143_7 rfl rfl rfl
theorem d143_10 : decode prog_10_method_41_code 10 = .ok (.aload_n 0, 1) := by decide +kernel
theorem s143_10 {v1 v2 v3 v4 v5 : Value} {l1 : Nat} {st : List Value} {im : IM} {rm : RM}  : ev 143 10 [.ref l1, v1, v2, v3, v4, v5] st im rm = ev 143 11 [.ref l1, v1, v2, v3, v4, v5] (.ref l1 :: st) (im) (rm) := ev_aload_n pm_m143 d143_10 rfl rfl
theorem d143_11 : decode prog_10_method_41_code 11 = .ok (.getfield 109, 3) := by decide +kernel
theorem s143_11 {v0 v1 v2 v3 v4 v5 : Value} {a : Nat} {st : List Value} {im : IM} {rm : RM} (hk : kd a = 18) : ev 143 11 [v0, v1, v2, v3, v4, v5] (.ref a :: st) im rm = ev 143 14 [v0, v1, v2, v3, v4, v5] (pm_ro (rm a 45) :: st) (im) (rm) := ev_getR pm_m143 d143_11 f8_109 rfl hk rfl
theorem d143_14 : decode prog_10_method_41_code 14 = .ok (.iload_n 2, 1) := by decide +kernel
theorem s143_14 {v0 v1 v3 v4 v5 : Value} {l1 : Int32} {st : List Value} {im : IM} {rm : RM}  : ev 143 14 [v0, v1, .int l1, v3, v4, v5] st im rm = ev 143 15 [v0, v1, .int l1, v3, v4, v5] (.int l1 :: st) (im) (rm) := ev_iload_n pm_m143 d143_14 rfl rfl
theorem d143_15 : decode prog_10_method_41_code 15 = .ok (.aload_n 0, 1) := by decide +kernel
theorem s143_15 {v1 v2 v3 v4 v5 : Value} {l1 : Nat} {st : List Value} {im : IM} {rm : RM}  : ev 143 15 [.ref l1, v1, v2, v3, v4, v5] st im rm = ev 143 16 [.ref l1, v1, v2, v3, v4, v5] (.ref l1 :: st) (im) (rm) := ev_aload_n pm_m143 d143_15 rfl rfl
theorem d143_16 : decode prog_10_method_41_code 16 = .ok (.iload_n 2, 1) := by decide +kernel
theorem s143_16 {v0 v1 v3 v4 v5 : Value} {l1 : Int32} {st : List Value} {im : IM} {rm : RM}  : ev 143 16 [v0, v1, .int l1, v3, v4, v5] st im rm = ev 143 17 [v0, v1, .int l1, v3, v4, v5] (.int l1 :: st) (im) (rm) := ev_iload_n pm_m143 d143_16 rfl rfl
theorem d143_17 : decode prog_10_method_41_code 17 = .ok (.invokevirtual 275, 3) := by decide +kernel
theorem s143_17 {v0 v1 v2 v3 v4 v5 : Value} {a : Nat} {p1 : Int32} {r2 : Int32} {r3 : Nat} {im : IM} {rm : RM} (hk : kd a = 18) : ev 143 17 [v0, v1, v2, v3, v4, v5] [.int p1, .ref a, .int r2, .ref r3] im rm = (ev 139 0 [.ref a, .int p1, pm_u, pm_u, pm_u, pm_u, pm_u] [] im rm).bind (fun r => ev 143 20 [v0, v1, v2, v3, v4, v5] (r.1.toList ++ [.int r2, .ref r3]) r.2.1 r.2.2) := ev_callV pm_m143 d143_17 l8_275 rfl pm_m139 (by decide) hk rfl ⟨rfl, rfl⟩ rfl rfl
theorem d143_20 : decode prog_10_method_41_code 20 = .ok (.iastore, 1) := by decide +kernel
theorem s143_20 {v0 v1 v2 v3 v4 v5 : Value} {a : Nat} {i : Int32} {v : Int32} {st : List Value} {im : IM} {rm : RM} (hk : kd a = 0) (hi : pm_in i (ln a) = true) : ev 143 20 [v0, v1, v2, v3, v4, v5] (.int v :: .int i :: .ref a :: st) im rm = ev 143 21 [v0, v1, v2, v3, v4, v5] st (pm_w2 im a i.toNatClampNeg v) (rm) := ev_iast pm_m143 d143_20 hk hi rfl
theorem d143_21 : decode prog_10_method_41_code 21 = .ok (.iload_n 1, 1) := by decide +kernel
theorem s143_21 {v0 v2 v3 v4 v5 : Value} {l1 : Int32} {st : List Value} {im : IM} {rm : RM}  : ev 143 21 [v0, .int l1, v2, v3, v4, v5] st im rm = ev 143 22 [v0, .int l1, v2, v3, v4, v5] (.int l1 :: st) (im) (rm) := ev_iload_n pm_m143 d143_21 rfl rfl
theorem d143_22 : decode prog_10_method_41_code 22 = .ok (.aload_n 0, 1) := by decide +kernel
theorem s143_22 {v1 v2 v3 v4 v5 : Value} {l1 : Nat} {st : List Value} {im : IM} {rm : RM}  : ev 143 22 [.ref l1, v1, v2, v3, v4, v5] st im rm = ev 143 23 [.ref l1, v1, v2, v3, v4, v5] (.ref l1 :: st) (im) (rm) := ev_aload_n pm_m143 d143_22 rfl rfl
theorem d143_23 : decode prog_10_method_41_code 23 = .ok (.getfield 109, 3) := by decide +kernel
theorem s143_23 {v0 v1 v2 v3 v4 v5 : Value} {a : Nat} {st : List Value} {im : IM} {rm : RM} (hk : kd a = 18) : ev 143 23 [v0, v1, v2, v3, v4, v5] (.ref a :: st) im rm = ev 143 26 [v0, v1, v2, v3, v4, v5] (pm_ro (rm a 45) :: st) (im) (rm) := ev_getR pm_m143 d143_23 f8_109 rfl hk rfl
theorem d143_26 : decode prog_10_method_41_code 26 = .ok (.iload_n 2, 1) := by decide +kernel
theorem s143_26 {v0 v1 v3 v4 v5 : Value} {l1 : Int32} {st : List Value} {im : IM} {rm : RM}  : ev 143 26 [v0, v1, .int l1, v3, v4, v5] st im rm = ev 143 27 [v0, v1, .int l1, v3, v4, v5] (.int l1 :: st) (im) (rm) := ev_iload_n pm_m143 d143_26 rfl rfl
theorem d143_27 : decode prog_10_method_41_code 27 = .ok (.iaload, 1) := by decide +kernel
theorem s143_27 {v0 v1 v2 v3 v4 v5 : Value} {a : Nat} {i : Int32} {st : List Value} {im : IM} {rm : RM} (hk : kd a = 0) (hi : pm_in i (ln a) = true) : ev 143 27 [v0, v1, v2, v3, v4, v5] (.int i :: .ref a :: st) im rm = ev 143 28 [v0, v1, v2, v3, v4, v5] (.int (im a i.toNatClampNeg) :: st) (im) (rm) := ev_iald pm_m143 d143_27 hk hi rfl
theorem d143_28 : decode prog_10_method_41_code 28 = .ok (.ior, 1) := by decide +kernel
theorem s143_28 {v0 v1 v2 v3 v4 v5 : Value} {x : Int32} {y : Int32} {st : List Value} {im : IM} {rm : RM}  : ev 143 28 [v0, v1, v2, v3, v4, v5] (.int y :: .int x :: st) im rm = ev 143 29 [v0, v1, v2, v3, v4, v5] (.int (x ||| y) :: st) (im) (rm) := ev_ior pm_m143 d143_28 rfl
theorem d143_29 : decode prog_10_method_41_code 29 = .ok (.istore_n 1, 1) := by decide +kernel
theorem s143_29 {v1 v2 v3 v4 v5 : Value} {l1 : Nat} {x2 : Int32} {st : List Value} {im : IM} {rm : RM}  : ev 143 29 [.ref l1, v1, v2, v3, v4, v5] (.int x2 :: st) im rm = ev 143 30 [.ref l1, .int x2, v2, v3, v4, v5] st (im) (rm) := ev_istore_n pm_m143 d143_29 (Nat.le_of_ble_eq_true rfl) rfl rfl
theorem d143_30 : decode prog_10_method_41_code 30 = .ok (.iinc 2 1, 3) := by decide +kernel
theorem s143_30 {v0 v3 v4 v5 : Value} {l1 : Int32} {l2 : Int32} {st : List Value} {im : IM} {rm : RM}  : ev 143 30 [v0, .int l1, .int l2, v3, v4, v5] st im rm = ev 143 33 [v0, .int l1, .int (l2 + nI 1), v3, v4, v5] st (im) (rm) := ev_iinc pm_m143 d143_30 rfl rfl rfl rfl
theorem d143_33 : decode prog_10_method_41_code 33 = .ok (.goto (-29), 3) := by decide +kernel
theorem s143_33 {v0 v1 v2 v3 v4 v5 : Value}  {st : List Value} {im : IM} {rm : RM}  : ev 143 33 [v0, v1, v2, v3, v4, v5] st im rm = ev 143 4 [v0, v1, v2, pm_u, pm_u, pm_u] st (im) (rm) := ev_goto pm_m143 d143_33 rfl rfl
theorem d143_36 : decode prog_10_method_41_code 36 = .ok (.ldc_w 278, 3) := by decide +kernel
theorem s143_36 {v0 v1 v2 v3 v4 v5 : Value}  {st : List Value} {im : IM} {rm : RM}  : ev 143 36 [v0, v1, v2, v3, v4, v5] st im rm = ev 143 39 [v0, v1, v2, v3, v4, v5] (.int (nI 65535) :: st) (im) (rm) := ev_ldcw pm_m143 d143_36 (by decide +kernel) rfl
theorem d143_39 : decode prog_10_method_41_code 39 = .ok (.istore_n 2, 1) := by decide +kernel
theorem s143_39 {v0 v2 v3 v4 v5 : Value} {l1 : Int32} {x2 : Int32} {st : List Value} {im : IM} {rm : RM}  : ev 143 39 [v0, .int l1, v2, v3, v4, v5] (.int x2 :: st) im rm = ev 143 40 [v0, .int l1, .int x2, v3, v4, v5] st (im) (rm) := ev_istore_n pm_m143 d143_39 (Nat.le_of_ble_eq_true rfl) rfl rfl
theorem d143_40 : decode prog_10_method_41_code 40 = .ok (.iconst 0, 1) := by decide +kernel
theorem s143_40 {v0 v1 v2 v3 v4 v5 : Value}  {st : List Value} {im : IM} {rm : RM}  : ev 143 40 [v0, v1, v2, v3, v4, v5] st im rm = ev 143 41 [v0, v1, v2, v3, v4, v5] (.int (nI 0) :: st) (im) (rm) := ev_iconst pm_m143 d143_40 rfl rfl
theorem d143_41 : decode prog_10_method_41_code 41 = .ok (.istore_n 3, 1) := by decide +kernel
theorem s143_41 {v0 v1 v3 v4 v5 : Value} {l1 : Int32} {x2 : Int32} {st : List Value} {im : IM} {rm : RM}  : ev 143 41 [v0, v1, .int l1, v3, v4, v5] (.int x2 :: st) im rm = ev 143 42 [v0, v1, .int l1, .int x2, pm_u, pm_u] st (im) (rm) := ev_istore_n pm_m143 d143_41 (Nat.le_of_ble_eq_true rfl) rfl rfl
theorem d143_42 : decode prog_10_method_41_code 42 = .ok (.iload_n 3, 1) := by decide +kernel
theorem s143_42 {v0 v1 v2 v4 v5 : Value} {l1 : Int32} {st : List Value} {im : IM} {rm : RM}  : ev 143 42 [v0, v1, v2, .int l1, v4, v5] st im rm = ev 143 43 [v0, v1, v2, .int l1, v4, v5] (.int l1 :: st) (im) (rm) := ev_iload_n pm_m143 d143_42 rfl rfl
theorem d143_43 : decode prog_10_method_41_code 43 = .ok (.ldc_w 279, 3) := by decide +kernel
theorem s143_43 {v0 v1 v2 v3 v4 v5 : Value}  {st : List Value} {im : IM} {rm : RM}  : ev 143 43 [v0, v1, v2, v3, v4, v5] st im rm = ev 143 46 [v0, v1, v2, v3, v4, v5] (.int (nI 65536) :: st) (im) (rm) := ev_ldcw pm_m143 d143_43 (by decide +kernel) rfl
theorem d143_46 : decode prog_10_method_41_code 46 = .ok (.if_icmp .ge 77, 3) := by decide +kernel
theorem s143_46 {v0 v1 v2 v3 v4 v5 : Value} {x : Int32} {y : Int32} {st : List Value} {im : IM} {rm : RM} : ev 143 46 [v0, v1, v2, v3, v4, v5] (.int y :: .int x :: st) im rm = if y ≤ x then ev 143 123 [pm_u, pm_u, v2, pm_u, pm_u, pm_u] st im rm else ev 143 49 [v0, v1, v2, v3, v4, v5] st im rm := ev_icmp_ge pm_m143 d143_46 rfl rfl rfl
theorem d143_49 : decode prog_10_method_41_code 49 = .ok (.iconst 0, 1) := by decide +kernel
theorem s143_49 {v0 v1 v2 v3 v4 v5 : Value}  {st : List Value} {im : IM} {rm : RM}  : ev 143 49 [v0, v1, v2, v3, v4, v5] st im rm = ev 143 50 [v0, v1, v2, v3, v4, v5] (.int (nI 0) :: st) (im) (rm) := ev_iconst pm_m143 d143_49 rfl rfl
theorem d143_50 : decode prog_10_method_41_code 50 = .ok (.istore 4, 2) := by decide +kernel
theorem s143_50 {v0 v1 v2 v4 v5 : Value} {l1 : Int32} {x2 : Int32} {st : List Value} {im : IM} {rm : RM}  : ev 143 50 [v0, v1, v2, .int l1, v4, v5] (.int x2 :: st) im rm = ev 143 52 [v0, v1, v2, .int l1, .int x2, v5] st (im) (rm) := ev_istore pm_m143 d143_50 (Nat.le_of_ble_eq_true rfl) rfl rfl
theorem d143_52 : decode prog_10_method_41_code 52 = .ok (.iconst 0, 1) := by decide +kernel
theorem s143_52 {v0 v1 v2 v3 v4 v5 : Value}  {st : List Value} {im : IM} {rm : RM}  : ev 143 52 [v0, v1, v2, v3, v4, v5] st im rm = ev 143 53 [v0, v1, v2, v3, v4, v5] (.int (nI 0) :: st) (im) (rm) := ev_iconst pm_m143 d143_52 rfl rfl
theorem d143_53 : decode prog_10_method_41_code 53 = .ok (.istore 5, 2) := by decide +kernel
theorem s143_53 {v0 v1 v2 v3 v5 : Value} {l1 : Int32} {x2 : Int32} {st : List Value} {im : IM} {rm : RM}  : ev 143 53 [v0, v1, v2, v3, .int l1, v5] (.int x2 :: st) im rm = ev 143 55 [v0, v1, v2, v3, .int l1, .int x2] st (im) (rm) := ev_istore pm_m143 d143_53 (Nat.le_of_ble_eq_true rfl) rfl rfl
theorem d143_55 : decode prog_10_method_41_code 55 = .ok (.iload 5, 2) := by decide +kernel
theorem s143_55 {v0 v1 v2 v3 v4 : Value} {l1 : Int32} {st : List Value} {im : IM} {rm : RM}  : ev 143 55 [v0, v1, v2, v3, v4, .int l1] st im rm = ev 143 57 [v0, v1, v2, v3, v4, .int l1] (.int l1 :: st) (im) (rm) := ev_iload pm_m143 d143_55 rfl rfl
theorem d143_57 : decode prog_10_method_41_code 57 = .ok (.bipush 16, 2) := by decide +kernel
theorem s143_57 {v0 v1 v2 v3 v4 v5 : Value}  {st : List Value} {im : IM} {rm : RM}  : ev 143 57 [v0, v1, v2, v3, v4, v5] st im rm = ev 143 59 [v0, v1, v2, v3, v4, v5] (.int (nI 16) :: st) (im) (rm) := ev_bipush pm_m143 d143_57 rfl rfl
theorem d143_59 : decode prog_10_method_41_code 59 = .ok (.if_icmp .ge 35, 3) := by decide +kernel
theorem s143_59 {v0 v1 v2 v3 v4 v5 : Value} {x : Int32} {y : Int32} {st : List Value} {im : IM} {rm : RM} : ev 143 59 [v0, v1, v2, v3, v4, v5] (.int y :: .int x :: st) im rm = if y ≤ x then ev 143 94 [v0, v1, v2, v3, v4, pm_u] st im rm else ev 143 62 [v0, v1, v2, v3, v4, v5] st im rm := ev_icmp_ge pm_m143 d143_59 rfl rfl rfl
theorem d143_62 : decode prog_10_method_41_code 62 = .ok (.iload 4, 2) := by decide +kernel
theorem s143_62 {v0 v1 v2 v3 v5 : Value} {l1 : Int32} {st : List Value} {im : IM} {rm : RM}  : ev 143 62 [v0, v1, v2, v3, .int l1, v5] st im rm = ev 143 64 [v0, v1, v2, v3, .int l1, v5] (.int l1 :: st) (im) (rm) := ev_iload pm_m143 d143_62 rfl rfl
theorem d143_64 : decode prog_10_method_41_code 64 = .ok (.iload_n 3, 1) := by decide +kernel
theorem s143_64 {v0 v1 v2 v4 v5 : Value} {l1 : Int32} {st : List Value} {im : IM} {rm : RM}  : ev 143 64 [v0, v1, v2, .int l1, v4, v5] st im rm = ev 143 65 [v0, v1, v2, .int l1, v4, v5] (.int l1 :: st) (im) (rm) := ev_iload_n pm_m143 d143_64 rfl rfl
theorem d143_65 : decode prog_10_method_41_code 65 = .ok (.iload 5, 2) := by decide +kernel
theorem s143_65 {v0 v1 v2 v3 v4 : Value} {l1 : Int32} {st : List Value} {im : IM} {rm : RM}  : ev 143 65 [v0, v1, v2, v3, v4, .int l1] st im rm = ev 143 67 [v0, v1, v2, v3, v4, .int l1] (.int l1 :: st) (im) (rm) := ev_iload pm_m143 d143_65 rfl rfl
theorem d143_67 : decode prog_10_method_41_code 67 = .ok (.ishr, 1) := by decide +kernel
theorem s143_67 {v0 v1 v2 v3 v4 v5 : Value} {x : Int32} {y : Int32} {st : List Value} {im : IM} {rm : RM}  : ev 143 67 [v0, v1, v2, v3, v4, v5] (.int y :: .int x :: st) im rm = ev 143 68 [v0, v1, v2, v3, v4, v5] (.int (x >>> (y &&& 31)) :: st) (im) (rm) := ev_ishr pm_m143 d143_67 rfl
theorem d143_68 : decode prog_10_method_41_code 68 = .ok (.iconst 1, 1) := by decide +kernel
theorem s143_68 {v0 v1 v2 v3 v4 v5 : Value}  {st : List Value} {im : IM} {rm : RM}  : ev 143 68 [v0, v1, v2, v3, v4, v5] st im rm = ev 143 69 [v0, v1, v2, v3, v4, v5] (.int (nI 1) :: st) (im) (rm) := ev_iconst pm_m143 d143_68 rfl rfl
theorem d143_69 : decode prog_10_method_41_code 69 = .ok (.iand, 1) := by decide +kernel
theorem s143_69 {v0 v1 v2 v3 v4 v5 : Value} {x : Int32} {y : Int32} {st : List Value} {im : IM} {rm : RM}  : ev 143 69 [v0, v1, v2, v3, v4, v5] (.int y :: .int x :: st) im rm = ev 143 70 [v0, v1, v2, v3, v4, v5] (.int (x &&& y) :: st) (im) (rm) := ev_iand pm_m143 d143_69 rfl
theorem d143_70 : decode prog_10_method_41_code 70 = .ok (.iconst 1, 1) := by decide +kernel
theorem s143_70 {v0 v1 v2 v3 v4 v5 : Value}  {st : List Value} {im : IM} {rm : RM}  : ev 143 70 [v0, v1, v2, v3, v4, v5] st im rm = ev 143 71 [v0, v1, v2, v3, v4, v5] (.int (nI 1) :: st) (im) (rm) := ev_iconst pm_m143 d143_70 rfl rfl
theorem d143_71 : decode prog_10_method_41_code 71 = .ok (.if_icmp .ne 13, 3) := by decide +kernel
theorem s143_71 {v0 v1 v2 v3 v4 v5 : Value} {x : Int32} {y : Int32} {st : List Value} {im : IM} {rm : RM} : ev 143 71 [v0, v1, v2, v3, v4, v5] (.int y :: .int x :: st) im rm = if x = y then ev 143 74 [v0, v1, v2, v3, v4, v5] st im rm else ev 143 84 [v0, v1, v2, v3, pm_u, v5] st im rm := ev_icmp_ne pm_m143 d143_71 rfl rfl rfl
theorem d143_74 : decode prog_10_method_41_code 74 = .ok (.aload_n 0, 1) := by decide +kernel
theorem s143_74 {v1 v2 v3 v4 v5 : Value} {l1 : Nat} {st : List Value} {im : IM} {rm : RM}  : ev 143 74 [.ref l1, v1, v2, v3, v4, v5] st im rm = ev 143 75 [.ref l1, v1, v2, v3, v4, v5] (.ref l1 :: st) (im) (rm) := ev_aload_n pm_m143 d143_74 rfl rfl
theorem d143_75 : decode prog_10_method_41_code 75 = .ok (.getfield 109, 3) := by decide +kernel
theorem s143_75 {v0 v1 v2 v3 v4 v5 : Value} {a : Nat} {st : List Value} {im : IM} {rm : RM} (hk : kd a = 18) : ev 143 75 [v0, v1, v2, v3, v4, v5] (.ref a :: st) im rm = ev 143 78 [v0, v1, v2, v3, v4, v5] (pm_ro (rm a 45) :: st) (im) (rm) := ev_getR pm_m143 d143_75 f8_109 rfl hk rfl
theorem d143_78 : decode prog_10_method_41_code 78 = .ok (.iload 5, 2) := by decide +kernel
theorem s143_78 {v0 v1 v2 v3 v4 : Value} {l1 : Int32} {st : List Value} {im : IM} {rm : RM}  : ev 143 78 [v0, v1, v2, v3, v4, .int l1] st im rm = ev 143 80 [v0, v1, v2, v3, v4, .int l1] (.int l1 :: st) (im) (rm) := ev_iload pm_m143 d143_78 rfl rfl
theorem d143_80 : decode prog_10_method_41_code 80 = .ok (.iaload, 1) := by decide +kernel
theorem s143_80 {v0 v1 v2 v3 v4 v5 : Value} {a : Nat} {i : Int32} {st : List Value} {im : IM} {rm : RM} (hk : kd a = 0) (hi : pm_in i (ln a) = true) : ev 143 80 [v0, v1, v2, v3, v4, v5] (.int i :: .ref a :: st) im rm = ev 143 81 [v0, v1, v2, v3, v4, v5] (.int (im a i.toNatClampNeg) :: st) (im) (rm) := ev_iald pm_m143 d143_80 hk hi rfl
theorem d143_81 : decode prog_10_method_41_code 81 = .ok (.goto 4, 3) := by decide +kernel
theorem s143_81 {v0 v1 v2 v3 v4 v5 : Value}  {st : List Value} {im : IM} {rm : RM}  : ev 143 81 [v0, v1, v2, v3, v4, v5] st im rm = ev 143 85 [v0, v1, v2, v3, pm_u, v5] st (im) (rm) := ev_goto pm_m143 d143_81 rfl rfl
theorem d143_84 : decode prog_10_method_41_code 84 = .ok (.iconst 0, 1) := by decide +kernel
theorem s143_84 {v0 v1 v2 v3 v4 v5 : Value}  {st : List Value} {im : IM} {rm : RM}  : ev 143 84 [v0, v1, v2, v3, v4, v5] st im rm = ev 143 85 [v0, v1, v2, v3, pm_u, v5] (.int (nI 0) :: st) (im) (rm) := ev_iconst pm_m143 d143_84 rfl rfl
theorem d143_85 : decode prog_10_method_41_code 85 = .ok (.ior, 1) := by decide +kernel
theorem s143_85 {v0 v1 v2 v3 v4 v5 : Value} {x : Int32} {y : Int32} {st : List Value} {im : IM} {rm : RM}  : ev 143 85 [v0, v1, v2, v3, v4, v5] (.int y :: .int x :: st) im rm = ev 143 86 [v0, v1, v2, v3, v4, v5] (.int (x ||| y) :: st) (im) (rm) := ev_ior pm_m143 d143_85 rfl
theorem d143_86 : decode prog_10_method_41_code 86 = .ok (.istore 4, 2) := by decide +kernel
theorem s143_86 {v0 v1 v2 v4 v5 : Value} {l1 : Int32} {x2 : Int32} {st : List Value} {im : IM} {rm : RM}  : ev 143 86 [v0, v1, v2, .int l1, v4, v5] (.int x2 :: st) im rm = ev 143 88 [v0, v1, v2, .int l1, .int x2, v5] st (im) (rm) := ev_istore pm_m143 d143_86 (Nat.le_of_ble_eq_true rfl) rfl rfl
theorem d143_88 : decode prog_10_method_41_code 88 = .ok (.iinc 5 1, 3) := by decide +kernel
theorem s143_88 {v0 v1 v2 v3 : Value} {l1 : Int32} {l2 : Int32} {st : List Value} {im : IM} {rm : RM}  : ev 143 88 [v0, v1, v2, v3, .int l1, .int l2] st im rm = ev 143 91 [v0, v1, v2, v3, .int l1, .int (l2 + nI 1)] st (im) (rm) := ev_iinc pm_m143 d143_88 rfl rfl rfl rfl
theorem d143_91 : decode prog_10_method_41_code 91 = .ok (.goto (-36), 3) := by decide +kernel
theorem s143_91 {v0 v1 v2 v3 v4 v5 : Value}  {st : List Value} {im : IM} {rm : RM}  : ev 143 91 [v0, v1, v2, v3, v4, v5] st im rm = ev 143 55 [v0, v1, v2, v3, v4, v5] st (im) (rm) := ev_goto pm_m143 d143_91 rfl rfl
theorem d143_94 : decode prog_10_method_41_code 94 = .ok (.iload 4, 2) := by decide +kernel
theorem s143_94 {v0 v1 v2 v3 v5 : Value} {l1 : Int32} {st : List Value} {im : IM} {rm : RM}  : ev 143 94 [v0, v1, v2, v3, .int l1, v5] st im rm = ev 143 96 [v0, v1, v2, v3, .int l1, v5] (.int l1 :: st) (im) (rm) := ev_iload pm_m143 d143_94 rfl rfl
theorem d143_96 : decode prog_10_method_41_code 96 = .ok (.iload_n 1, 1) := by decide +kernel
theorem s143_96 {v0 v2 v3 v4 v5 : Value} {l1 : Int32} {st : List Value} {im : IM} {rm : RM}  : ev 143 96 [v0, .int l1, v2, v3, v4, v5] st im rm = ev 143 97 [v0, .int l1, v2, v3, v4, v5] (.int l1 :: st) (im) (rm) := ev_iload_n pm_m143 d143_96 rfl rfl
theorem d143_97 : decode prog_10_method_41_code 97 = .ok (.if_icmp .ne 18, 3) := by decide +kernel
theorem s143_97 {v0 v1 v2 v3 v4 v5 : Value} {x : Int32} {y : Int32} {st : List Value} {im : IM} {rm : RM} : ev 143 97 [v0, v1, v2, v3, v4, v5] (.int y :: .int x :: st) im rm = if x = y then ev 143 100 [v0, v1, v2, v3, v4, v5] st im rm else ev 143 115 [v0, v1, v2, v3, pm_u, pm_u] st im rm := ev_icmp_ne pm_m143 d143_97 rfl rfl rfl
theorem d143_100 : decode prog_10_method_41_code 100 = .ok (.iload_n 3, 1) := by decide +kernel
theorem s143_100 {v0 v1 v2 v4 v5 : Value} {l1 : Int32} {st : List Value} {im : IM} {rm : RM}  : ev 143 100 [v0, v1, v2, .int l1, v4, v5] st im rm = ev 143 101 [v0, v1, v2, .int l1, v4, v5] (.int l1 :: st) (im) (rm) := ev_iload_n pm_m143 d143_100 rfl rfl
theorem d143_101 : decode prog_10_method_41_code 101 = .ok (.invokestatic 280, 3) := by decide +kernel
theorem s143_101 {v0 v1 v2 v3 v4 v5 : Value} {p1 : Int32} {im : IM} {rm : RM}  : ev 143 101 [v0, v1, v2, v3, v4, v5] [.int p1] im rm = (ev 142 0 [.int p1, pm_u, pm_u] [] im rm).bind (fun r => ev 143 104 [v0, v1, v2, v3, v4, v5] (r.1.toList ++ []) r.2.1 r.2.2) := ev_callS pm_m143 d143_101 (by decide) l8_280 rfl pm_m142 rfl ⟨rfl, rfl⟩ rfl rfl
theorem d143_104 : decode prog_10_method_41_code 104 = .ok (.iload_n 2, 1) := by decide +kernel
theorem s143_104 {v0 v1 v3 v4 v5 : Value} {l1 : Int32} {st : List Value} {im : IM} {rm : RM}  : ev 143 104 [v0, v1, .int l1, v3, v4, v5] st im rm = ev 143 105 [v0, v1, .int l1, v3, v4, v5] (.int l1 :: st) (im) (rm) := ev_iload_n pm_m143 d143_104 rfl rfl
theorem d143_105 : decode prog_10_method_41_code 105 = .ok (.invokestatic 280, 3) := by decide +kernel
theorem s143_105 {v0 v1 v2 v3 v4 v5 : Value} {p1 : Int32} {r2 : Int32} {im : IM} {rm : RM}  : ev 143 105 [v0, v1, v2, v3, v4, v5] [.int p1, .int r2] im rm = (ev 142 0 [.int p1, pm_u, pm_u] [] im rm).bind (fun r => ev 143 108 [v0, v1, v2, v3, v4, v5] (r.1.toList ++ [.int r2]) r.2.1 r.2.2) := ev_callS pm_m143 d143_105 (by decide) l8_280 rfl pm_m142 rfl ⟨rfl, rfl⟩ rfl rfl
theorem d143_108 : decode prog_10_method_41_code 108 = .ok (.if_icmp .ge 7, 3) := by decide +kernel
theorem s143_108 {v0 v1 v2 v3 v4 v5 : Value} {x : Int32} {y : Int32} {st : List Value} {im : IM} {rm : RM} : ev 143 108 [v0, v1, v2, v3, v4, v5] (.int y :: .int x :: st) im rm = if y ≤ x then ev 143 115 [v0, v1, v2, v3, pm_u, pm_u] st im rm else ev 143 111 [v0, v1, v2, v3, v4, v5] st im rm := ev_icmp_ge pm_m143 d143_108 rfl rfl rfl
theorem d143_111 : decode prog_10_method_41_code 111 = .ok (.iload_n 3, 1) := by decide +kernel
theorem s143_111 {v0 v1 v2 v4 v5 : Value} {l1 : Int32} {st : List Value} {im : IM} {rm : RM}  : ev 143 111 [v0, v1, v2, .int l1, v4, v5] st im rm = ev 143 112 [v0, v1, v2, .int l1, v4, v5] (.int l1 :: st) (im) (rm) := ev_iload_n pm_m143 d143_111 rfl rfl
theorem d143_112 : decode prog_10_method_41_code 112 = .ok (.goto 4, 3) := by decide +kernel
theorem s143_112 {v0 v1 v2 v3 v4 v5 : Value}  {st : List Value} {im : IM} {rm : RM}  : ev 143 112 [v0, v1, v2, v3, v4, v5] st im rm = ev 143 116 [v0, v1, pm_u, v3, pm_u, pm_u] st (im) (rm) := ev_goto pm_m143 d143_112 rfl rfl
theorem d143_115 : decode prog_10_method_41_code 115 = .ok (.iload_n 2, 1) := by decide +kernel
theorem s143_115 {v0 v1 v3 v4 v5 : Value} {l1 : Int32} {st : List Value} {im : IM} {rm : RM}  : ev 143 115 [v0, v1, .int l1, v3, v4, v5] st im rm = ev 143 116 [v0, v1, pm_u, v3, pm_u, pm_u] (.int l1 :: st) (im) (rm) := ev_iload_n pm_m143 d143_115 rfl rfl
theorem d143_116 : decode prog_10_method_41_code 116 = .ok (.istore_n 2, 1) := by decide +kernel
theorem s143_116 {v0 v2 v3 v4 v5 : Value} {l1 : Int32} {x2 : Int32} {st : List Value} {im : IM} {rm : RM}  : ev 143 116 [v0, .int l1, v2, v3, v4, v5] (.int x2 :: st) im rm = ev 143 117 [v0, .int l1, .int x2, v3, v4, v5] st (im) (rm) := ev_istore_n pm_m143 d143_116 (Nat.le_of_ble_eq_true rfl) rfl rfl
theorem d143_117 : decode prog_10_method_41_code 117 = .ok (.iinc 3 1, 3) := by decide +kernel
theorem s143_117 {v0 v1 v4 v5 : Value} {l1 : Int32} {l2 : Int32} {st : List Value} {im : IM} {rm : RM}  : ev 143 117 [v0, v1, .int l1, .int l2, v4, v5] st im rm = ev 143 120 [v0, v1, .int l1, .int (l2 + nI 1), v4, v5] st (im) (rm) := ev_iinc pm_m143 d143_117 rfl rfl rfl rfl
theorem d143_120 : decode prog_10_method_41_code 120 = .ok (.goto (-78), 3) := by decide +kernel
theorem s143_120 {v0 v1 v2 v3 v4 v5 : Value}  {st : List Value} {im : IM} {rm : RM}  : ev 143 120 [v0, v1, v2, v3, v4, v5] st im rm = ev 143 42 [v0, v1, v2, v3, pm_u, pm_u] st (im) (rm) := ev_goto pm_m143 d143_120 rfl rfl
theorem d143_123 : decode prog_10_method_41_code 123 = .ok (.iload_n 2, 1) := by decide +kernel
theorem s143_123 {v0 v1 v3 v4 v5 : Value} {l1 : Int32} {st : List Value} {im : IM} {rm : RM}  : ev 143 123 [v0, v1, .int l1, v3, v4, v5] st im rm = ev 143 124 [v0, v1, .int l1, v3, v4, v5] (.int l1 :: st) (im) (rm) := ev_iload_n pm_m143 d143_123 rfl rfl
theorem d143_124 : decode prog_10_method_41_code 124 = .ok (.ireturn, 1) := by decide +kernel
theorem s143_124 {v0 v1 v2 v3 v4 v5 : Value} {x : Int32} {im : IM} {rm : RM} : ev 143 124 [v0, v1, v2, v3, v4, v5] [.int x] im rm = some (some (.int x), im, rm) := ev_ireturn pm_m143 d143_124 rfl
theorem d144_0 : decode prog_10_method_42_code 0 = .ok (.iload_n 1, 1) := by decide +kernel
theorem s144_0 {v0 v2 v3 v4 v5 v6 v7 v8 : Value} {l1 : Int32} {st : List Value} {im : IM} {rm : RM}  : ev 144 0 [v0, .int l1, v2, v3, v4, v5, v6, v7, v8] st im rm = ev 144 1 [v0, .int l1, v2, v3, v4, v5, v6, v7, v8] (.int l1 :: st) (im) (rm) := ev_iload_n pm_m144 d144_0 rfl rfl
theorem d144_1 : decode prog_10_method_42_code 1 = .ok (.invokestatic 130, 3) := by decide +kernel
theorem s144_1 {v0 v1 v2 v3 v4 v5 v6 v7 v8 : Value} {p1 : Int32} {im : IM} {rm : RM}  : ev 144 1 [v0, v1, v2, v3, v4, v5, v6, v7, v8] [.int p1] im rm = (ev 106 0 [.int p1] [] im rm).bind (fun r => ev 144 4 [v0, v1, v2, v3, v4, v5, v6, v7, v8] (r.1.toList ++ []) r.2.1 r.2.2) := ev_callS pm_m144 d144_1 (by decide) l8_130 rfl pm_m106 rfl ⟨rfl, rfl⟩ rfl rfl
theorem d144_4 : decode prog_10_method_42_code 4 = .ok (.ifCond .eq 17, 3) := by decide +kernel
theorem s144_4 {v0 v1 v2 v3 v4 v5 v6 v7 v8 : Value} {x : Int32} {st : List Value} {im : IM} {rm : RM} : ev 144 4 [v0, v1, v2, v3, v4, v5, v6, v7, v8] (.int x :: st) im rm = if x = nI 0 then ev 144 21 [pm_u, pm_u, pm_u, pm_u, pm_u, pm_u, pm_u, pm_u, pm_u] st im rm else ev 144 7 [v0, v1, v2, v3, v4, v5, v6, v7, v8] st im rm := ev_if_eq (y := 0) pm_m144 d144_4 rfl rfl rfl
theorem d144_7 : decode prog_10_method_42_code 7 = .ok (.iload_n 2, 1) := by decide +kernel
theorem s144_7 {v0 v1 v3 v4 v5 v6 v7 v8 : Value} {l1 : Int32} {st : List Value} {im : IM} {rm : RM}  : ev 144 7 [v0, v1, .int l1, v3, v4, v5, v6, v7, v8] st im rm = ev 144 8 [v0, v1, .int l1, v3, v4, v5, v6, v7, v8] (.int l1 :: st) (im) (rm) := ev_iload_n pm_m144 d144_7 rfl rfl
theorem d144_8 : decode prog_10_method_42_code 8 = .ok (.invokestatic 126, 3) := by decide +kernel
theorem s144_8 {v0 v1 v2 v3 v4 v5 v6 v7 v8 : Value} {p1 : Int32} {im : IM} {rm : RM}  : ev 144 8 [v0, v1, v2, v3, v4, v5, v6, v7, v8] [.int p1] im rm = (ev 105 0 [.int p1] [] im rm).bind (fun r => ev 144 11 [v0, v1, v2, v3, v4, v5, v6, v7, v8] (r.1.toList ++ []) r.2.1 r.2.2) := ev_callS pm_m144 d144_8 (by decide) l8_126 rfl pm_m105 rfl ⟨rfl, rfl⟩ rfl rfl
theorem d144_11 : decode prog_10_method_42_code 11 = .ok (.ifCond .eq 10, 3) := by decide +kernel
theorem s144_11 {v0 v1 v2 v3 v4 v5 v6 v7 v8 : Value} {x : Int32} {st : List Value} {im : IM} {rm : RM} : ev 144 11 [v0, v1, v2, v3, v4, v5, v6, v7, v8] (.int x :: st) im rm = if x = nI 0 then ev 144 21 [pm_u, pm_u, pm_u, pm_u, pm_u, pm_u, pm_u, pm_u, pm_u] st im rm else ev 144 14 [v0, v1, v2, v3, v4, v5, v6, v7, v8] st im rm := ev_if_eq (y := 0) pm_m144 d144_11 rfl rfl rfl
theorem d144_14 : decode prog_10_method_42_code 14 = .ok (.iload_n 3, 1) := by decide +kernel
theorem s144_14 {v0 v1 v2 v4 v5 v6 v7 v8 : Value} {l1 : Int32} {st : List Value} {im : IM} {rm : RM}  : ev 144 14 [v0, v1, v2, .int l1, v4, v5, v6, v7, v8] st im rm = ev 144 15 [v0, v1, v2, .int l1, v4, v5, v6, v7, v8] (.int l1 :: st) (im) (rm) := ev_iload_n pm_m144 d144_14 rfl rfl
theorem d144_15 : decode prog_10_method_42_code 15 = .ok (.invokestatic 130, 3) := by decide +kernel
theorem s144_15 {v0 v1 v2 v3 v4 v5 v6 v7 v8 : Value} {p1 : Int32} {im : IM} {rm : RM}  : ev 144 15 [v0, v1, v2, v3, v4, v5, v6, v7, v8] [.int p1] im rm = (ev 106 0 [.int p1] [] im rm).bind (fun r => ev 144 18 [v0, v1, v2, v3, v4, v5, v6, v7, v8] (r.1.toList ++ []) r.2.1 r.2.2) := ev_callS pm_m144 d144_15 (by decide) l8_130 rfl pm_m106 rfl ⟨rfl, rfl⟩ rfl rfl
theorem d144_18 : decode prog_10_method_42_code 18 = .ok (.ifCond .ne 6, 3) := by decide +kernel
theorem s144_18 {v0 v1 v2 v3 v4 v5 v6 v7 v8 : Value} {x : Int32} {st : List Value} {im : IM} {rm : RM} : ev 144 18 [v0, v1, v2, v3, v4, v5, v6, v7, v8] (.int x :: st) im rm = if x = nI 0 then ev 144 21 [pm_u, pm_u, pm_u, pm_u, pm_u, pm_u, pm_u, pm_u, pm_u] st im rm else ev 144 24 [v0, v1, v2, v3, pm_u, pm_u, pm_u, pm_u, pm_u] st im rm := ev_if_ne (y := 0) pm_m144 d144_18 rfl rfl rfl
theorem d144_21 : decode prog_10_method_42_code 21 = .ok (.bipush (-2), 2) := by decide +kernel
theorem s144_21 {v0 v1 v2 v3 v4 v5 v6 v7 v8 : Value}  {st : List Value} {im : IM} {rm : RM}  : ev 144 21 [v0, v1, v2, v3, v4, v5, v6, v7, v8] st im rm = ev 144 23 [v0, v1, v2, v3, v4, v5, v6, v7, v8] (.int ((-2 : Int32)) :: st) (im) (rm) := ev_bipush pm_m144 d144_21 rfl rfl
theorem d144_23 : decode prog_10_method_42_code 23 = .ok (.ireturn, 1) := by decide +kernel
theorem s144_23 {v0 v1 v2 v3 v4 v5 v6 v7 v8 : Value} {x : Int32} {im : IM} {rm : RM} : ev 144 23 [v0, v1, v2, v3, v4, v5, v6, v7, v8] [.int x] im rm = some (some (.int x), im, rm) := ev_ireturn pm_m144 d144_23 rfl
theorem d144_24 : decode prog_10_method_42_code 24 = .ok (.iconst 0, 1) := by decide +kernel
theorem s144_24 {v0 v1 v2 v3 v4 v5 v6 v7 v8 : Value}  {st : List Value} {im : IM} {rm : RM}  : ev 144 24 [v0, v1, v2, v3, v4, v5, v6, v7, v8] st im rm = ev 144 25 [v0, v1, v2, v3, v4, v5, v6, v7, v8] (.int (nI 0) :: st) (im) (rm) := ev_iconst pm_m144 d144_24 rfl rfl
theorem d144_25 : decode prog_10_method_42_code 25 = .ok (.istore 4, 2) := by decide +kernel
theorem s144_25 {v0 v1 v2 v4 v5 v6 v7 v8 : Value} {l1 : Int32} {x2 : Int32} {st : List Value} {im : IM} {rm : RM}  : ev 144 25 [v0, v1, v2, .int l1, v4, v5, v6, v7, v8] (.int x2 :: st) im rm = ev 144 27 [v0, v1, v2, .int l1, .int x2, pm_u, pm_u, pm_u, pm_u] st (im) (rm) := ev_istore pm_m144 d144_25 (Nat.le_of_ble_eq_true rfl) rfl rfl
theorem d144_27 : decode prog_10_method_42_code 27 = .ok (.iload 4, 2) := by decide +kernel
theorem s144_27 {v0 v1 v2 v3 v5 v6 v7 v8 : Value} {l1 : Int32} {st : List Value} {im : IM} {rm : RM}  : ev 144 27 [v0, v1, v2, v3, .int l1, v5, v6, v7, v8] st im rm = ev 144 29 [v0, v1, v2, v3, .int l1, v5, v6, v7, v8] (.int l1 :: st) (im) (rm) := ev_iload pm_m144 d144_27 rfl rfl
theorem d144_29 : decode prog_10_method_42_code 29 = .ok (.bipush 10, 2) := by decide +kernel
theorem s144_29 {v0 v1 v2 v3 v4 v5 v6 v7 v8 : Value}  {st : List Value} {im : IM} {rm : RM}  : ev 144 29 [v0, v1, v2, v3, v4, v5, v6, v7, v8] st im rm = ev 144 31 [v0, v1, v2, v3, v4, v5, v6, v7, v8] (.int (nI 10) :: st) (im) (rm) := ev_bipush pm_m144 d144_29 rfl rfl
theorem d144_31 : decode prog_10_method_42_code 31 = .ok (.if_icmp .ge 144, 3) := by decide +kernel
theorem s144_31 {v0 v1 v2 v3 v4 v5 v6 v7 v8 : Value} {x : Int32} {y : Int32} {st : List Value} {im : IM} {rm : RM} : ev 144 31 [v0, v1, v2, v3, v4, v5, v6, v7, v8] (.int y :: .int x :: st) im rm = if y ≤ x then ev 144 175 [pm_u, pm_u, pm_u, pm_u, pm_u, pm_u, pm_u, pm_u, pm_u] st im rm else ev 144 34 [v0, v1, v2, v3, v4, v5, v6, v7, v8] st im rm := ev_icmp_ge pm_m144 d144_31 rfl rfl rfl
theorem d144_34 : decode prog_10_method_42_code 34 = .ok (.iconst 0, 1) := by decide +kernel
theorem s144_34 {v0 v1 v2 v3 v4 v5 v6 v7 v8 : Value}  {st : List Value} {im : IM} {rm : RM}  : ev 144 34 [v0, v1, v2, v3, v4, v5, v6, v7, v8] st im rm = ev 144 35 [v0, v1, v2, v3, v4, v5, v6, v7, v8] (.int (nI 0) :: st) (im) (rm) := ev_iconst pm_m144 d144_34 rfl rfl
theorem d144_35 : decode prog_10_method_42_code 35 = .ok (.istore 5, 2) := by decide +kernel
theorem s144_35 {v0 v1 v2 v3 v5 v6 v7 v8 : Value} {l1 : Int32} {x2 : Int32} {st : List Value} {im : IM} {rm : RM}  : ev 144 35 [v0, v1, v2, v3, .int l1, v5, v6, v7, v8] (.int x2 :: st) im rm = ev 144 37 [v0, v1, v2, v3, .int l1, .int x2, pm_u, pm_u, pm_u] st (im) (rm) := ev_istore pm_m144 d144_35 (Nat.le_of_ble_eq_true rfl) rfl rfl
theorem d144_37 : decode prog_10_method_42_code 37 = .ok (.iload 5, 2) := by decide +kernel
theorem s144_37 {v0 v1 v2 v3 v4 v6 v7 v8 : Value} {l1 : Int32} {st : List Value} {im : IM} {rm : RM}  : ev 144 37 [v0, v1, v2, v3, v4, .int l1, v6, v7, v8] st im rm = ev 144 39 [v0, v1, v2, v3, v4, .int l1, v6, v7, v8] (.int l1 :: st) (im) (rm) := ev_iload pm_m144 d144_37 rfl rfl
theorem d144_39 : decode prog_10_method_42_code 39 = .ok (.aload_n 0, 1) := by decide +kernel
theorem s144_39 {v1 v2 v3 v4 v5 v6 v7 v8 : Value} {l1 : Nat} {st : List Value} {im : IM} {rm : RM}  : ev 144 39 [.ref l1, v1, v2, v3, v4, v5, v6, v7, v8] st im rm = ev 144 40 [.ref l1, v1, v2, v3, v4, v5, v6, v7, v8] (.ref l1 :: st) (im) (rm) := ev_aload_n pm_m144 d144_39 rfl rfl
theorem d144_40 : decode prog_10_method_42_code 40 = .ok (.getfield 16, 3) := by decide +kernel
theorem s144_40 {v0 v1 v2 v3 v4 v5 v6 v7 v8 : Value} {a : Nat} {st : List Value} {im : IM} {rm : RM} (hk : kd a = 18) : ev 144 40 [v0, v1, v2, v3, v4, v5, v6, v7, v8] (.ref a :: st) im rm = ev 144 43 [v0, v1, v2, v3, v4, v5, v6, v7, v8] (pm_ro (rm a 2) :: st) (im) (rm) := ev_getR pm_m144 d144_40 f8_16 rfl hk rfl
theorem d144_43 : decode prog_10_method_42_code 43 = .ok (.iload_n 2, 1) := by decide +kernel
theorem s144_43 {v0 v1 v3 v4 v5 v6 v7 v8 : Value} {l1 : Int32} {st : List Value} {im : IM} {rm : RM}  : ev 144 43 [v0, v1, .int l1, v3, v4, v5, v6, v7, v8] st im rm = ev 144 44 [v0, v1, .int l1, v3, v4, v5, v6, v7, v8] (.int l1 :: st) (im) (rm) := ev_iload_n pm_m144 d144_43 rfl rfl
theorem d144_44 : decode prog_10_method_42_code 44 = .ok (.iaload, 1) := by decide +kernel
theorem s144_44 {v0 v1 v2 v3 v4 v5 v6 v7 v8 : Value} {a : Nat} {i : Int32} {st : List Value} {im : IM} {rm : RM} (hk : kd a = 0) (hi : pm_in i (ln a) = true) : ev 144 44 [v0, v1, v2, v3, v4, v5, v6, v7, v8] (.int i :: .ref a :: st) im rm = ev 144 45 [v0, v1, v2, v3, v4, v5, v6, v7, v8] (.int (im a i.toNatClampNeg) :: st) (im) (rm) := ev_iald pm_m144 d144_44 hk hi rfl
theorem d144_45 : decode prog_10_method_42_code 45 = .ok (.if_icmp .ge 124, 3) := by decide +kernel
theorem s144_45 {v0 v1 v2 v3 v4 v5 v6 v7 v8 : Value} {x : Int32} {y : Int32} {st : List Value} {im : IM} {rm : RM} : ev 144 45 [v0, v1, v2, v3, v4, v5, v6, v7, v8] (.int y :: .int x :: st) im rm = if y ≤ x then ev 144 169 [v0, v1, v2, v3, v4, pm_u, pm_u, pm_u, pm_u] st im rm else ev 144 48 [v0, v1, v2, v3, v4, v5, v6, v7, v8] st im rm := ev_icmp_ge pm_m144 d144_45 rfl rfl rfl
theorem d144_48 : decode prog_10_method_42_code 48 = .ok (.aload_n 0, 1) := by decide +kernel
theorem s144_48 {v1 v2 v3 v4 v5 v6 v7 v8 : Value} {l1 : Nat} {st : List Value} {im : IM} {rm : RM}  : ev 144 48 [.ref l1, v1, v2, v3, v4, v5, v6, v7, v8] st im rm = ev 144 49 [.ref l1, v1, v2, v3, v4, v5, v6, v7, v8] (.ref l1 :: st) (im) (rm) := ev_aload_n pm_m144 d144_48 rfl rfl
theorem d144_49 : decode prog_10_method_42_code 49 = .ok (.getfield 25, 3) := by decide +kernel
theorem s144_49 {v0 v1 v2 v3 v4 v5 v6 v7 v8 : Value} {a : Nat} {st : List Value} {im : IM} {rm : RM} (hk : kd a = 18) : ev 144 49 [v0, v1, v2, v3, v4, v5, v6, v7, v8] (.ref a :: st) im rm = ev 144 52 [v0, v1, v2, v3, v4, v5, v6, v7, v8] (pm_ro (rm a 5) :: st) (im) (rm) := ev_getR pm_m144 d144_49 f8_25 rfl hk rfl
theorem d144_52 : decode prog_10_method_42_code 52 = .ok (.bipush 40, 2) := by decide +kernel
theorem s144_52 {v0 v1 v2 v3 v4 v5 v6 v7 v8 : Value}  {st : List Value} {im : IM} {rm : RM}  : ev 144 52 [v0, v1, v2, v3, v4, v5, v6, v7, v8] st im rm = ev 144 54 [v0, v1, v2, v3, v4, v5, v6, v7, v8] (.int (nI 40) :: st) (im) (rm) := ev_bipush pm_m144 d144_52 rfl rfl
theorem d144_54 : decode prog_10_method_42_code 54 = .ok (.iload_n 2, 1) := by decide +kernel
theorem s144_54 {v0 v1 v3 v4 v5 v6 v7 v8 : Value} {l1 : Int32} {st : List Value} {im : IM} {rm : RM}  : ev 144 54 [v0, v1, .int l1, v3, v4, v5, v6, v7, v8] st im rm = ev 144 55 [v0, v1, .int l1, v3, v4, v5, v6, v7, v8] (.int l1 :: st) (im) (rm) := ev_iload_n pm_m144 d144_54 rfl rfl
theorem d144_55 : decode prog_10_method_42_code 55 = .ok (.imul, 1) := by decide +kernel
theorem s144_55 {v0 v1 v2 v3 v4 v5 v6 v7 v8 : Value} {x : Int32} {y : Int32} {st : List Value} {im : IM} {rm : RM}  : ev 144 55 [v0, v1, v2, v3, v4, v5, v6, v7, v8] (.int y :: .int x :: st) im rm = ev 144 56 [v0, v1, v2, v3, v4, v5, v6, v7, v8] (.int (x * y) :: st) (im) (rm) := ev_imul pm_m144 d144_55 rfl
theorem d144_56 : decode prog_10_method_42_code 56 = .ok (.iload 5, 2) := by decide +kernel
theorem s144_56 {v0 v1 v2 v3 v4 v6 v7 v8 : Value} {l1 : Int32} {st : List Value} {im : IM} {rm : RM}  : ev 144 56 [v0, v1, v2, v3, v4, .int l1, v6, v7, v8] st im rm = ev 144 58 [v0, v1, v2, v3, v4, .int l1, v6, v7, v8] (.int l1 :: st) (im) (rm) := ev_iload pm_m144 d144_56 rfl rfl
theorem d144_58 : decode prog_10_method_42_code 58 = .ok (.iadd, 1) := by decide +kernel
theorem s144_58 {v0 v1 v2 v3 v4 v5 v6 v7 v8 : Value} {x : Int32} {y : Int32} {st : List Value} {im : IM} {rm : RM}  : ev 144 58 [v0, v1, v2, v3, v4, v5, v6, v7, v8] (.int y :: .int x :: st) im rm = ev 144 59 [v0, v1, v2, v3, v4, v5, v6, v7, v8] (.int (x + y) :: st) (im) (rm) := ev_iadd pm_m144 d144_58 rfl
theorem d144_59 : decode prog_10_method_42_code 59 = .ok (.iaload, 1) := by decide +kernel
theorem s144_59 {v0 v1 v2 v3 v4 v5 v6 v7 v8 : Value} {a : Nat} {i : Int32} {st : List Value} {im : IM} {rm : RM} (hk : kd a = 0) (hi : pm_in i (ln a) = true) : ev 144 59 [v0, v1, v2, v3, v4, v5, v6, v7, v8] (.int i :: .ref a :: st) im rm = ev 144 60 [v0, v1, v2, v3, v4, v5, v6, v7, v8] (.int (im a i.toNatClampNeg) :: st) (im) (rm) := ev_iald pm_m144 d144_59 hk hi rfl
theorem d144_60 : decode prog_10_method_42_code 60 = .ok (.istore 6, 2) := by decide +kernel
theorem s144_60 {v0 v1 v2 v3 v4 v6 v7 v8 : Value} {l1 : Int32} {x2 : Int32} {st : List Value} {im : IM} {rm : RM}  : ev 144 60 [v0, v1, v2, v3, v4, .int l1, v6, v7, v8] (.int x2 :: st) im rm = ev 144 62 [v0, v1, v2, v3, v4, .int l1, .int x2, v7, v8] st (im) (rm) := ev_istore pm_m144 d144_60 (Nat.le_of_ble_eq_true rfl) rfl rfl
theorem d144_62 : decode prog_10_method_42_code 62 = .ok (.aload_n 0, 1) := by decide +kernel
theorem s144_62 {v1 v2 v3 v4 v5 v6 v7 v8 : Value} {l1 : Nat} {st : List Value} {im : IM} {rm : RM}  : ev 144 62 [.ref l1, v1, v2, v3, v4, v5, v6, v7, v8] st im rm = ev 144 63 [.ref l1, v1, v2, v3, v4, v5, v6, v7, v8] (.ref l1 :: st) (im) (rm) := ev_aload_n pm_m144 d144_62 rfl rfl
theorem d144_63 : decode prog_10_method_42_code 63 = .ok (.getfield 25, 3) := by decide +kernel
theorem s144_63 {v0 v1 v2 v3 v4 v5 v6 v7 v8 : Value} {a : Nat} {st : List Value} {im : IM} {rm : RM} (hk : kd a = 18) : ev 144 63 [v0, v1, v2, v3, v4, v5, v6, v7, v8] (.ref a :: st) im rm = ev 144 66 [v0, v1, v2, v3, v4, v5, v6, v7, v8] (pm_ro (rm a 5) :: st) (im) (rm) := ev_getR pm_m144 d144_63 f8_25 rfl hk rfl
theorem d144_66 : decode prog_10_method_42_code 66 = .ok (.bipush 40, 2) := by decide +kernel
theorem s144_66 {v0 v1 v2 v3 v4 v5 v6 v7 v8 : Value}  {st : List Value} {im : IM} {rm : RM}  : ev 144 66 [v0, v1, v2, v3, v4, v5, v6, v7, v8] st im rm = ev 144 68 [v0, v1, v2, v3, v4, v5, v6, v7, v8] (.int (nI 40) :: st) (im) (rm) := ev_bipush pm_m144 d144_66 rfl rfl
theorem d144_68 : decode prog_10_method_42_code 68 = .ok (.iload_n 2, 1) := by decide +kernel
theorem s144_68 {v0 v1 v3 v4 v5 v6 v7 v8 : Value} {l1 : Int32} {st : List Value} {im : IM} {rm : RM}  : ev 144 68 [v0, v1, .int l1, v3, v4, v5, v6, v7, v8] st im rm = ev 144 69 [v0, v1, .int l1, v3, v4, v5, v6, v7, v8] (.int l1 :: st) (im) (rm) := ev_iload_n pm_m144 d144_68 rfl rfl
theorem d144_69 : decode prog_10_method_42_code 69 = .ok (.imul, 1) := by decide +kernel
theorem s144_69 {v0 v1 v2 v3 v4 v5 v6 v7 v8 : Value} {x : Int32} {y : Int32} {st : List Value} {im : IM} {rm : RM}  : ev 144 69 [v0, v1, v2, v3, v4, v5, v6, v7, v8] (.int y :: .int x :: st) im rm = ev 144 70 [v0, v1, v2, v3, v4, v5, v6, v7, v8] (.int (x * y) :: st) (im) (rm) := ev_imul pm_m144 d144_69 rfl
theorem d144_70 : decode prog_10_method_42_code 70 = .ok (.iload 5, 2) := by decide +kernel
theorem s144_70 {v0 v1 v2 v3 v4 v6 v7 v8 : Value} {l1 : Int32} {st : List Value} {im : IM} {rm : RM}  : ev 144 70 [v0, v1, v2, v3, v4, .int l1, v6, v7, v8] st im rm = ev 144 72 [v0, v1, v2, v3, v4, .int l1, v6, v7, v8] (.int l1 :: st) (im) (rm) := ev_iload pm_m144 d144_70 rfl rfl
theorem d144_72 : decode prog_10_method_42_code 72 = .ok (.iadd, 1) := by decide +kernel
theorem s144_72 {v0 v1 v2 v3 v4 v5 v6 v7 v8 : Value} {x : Int32} {y : Int32} {st : List Value} {im : IM} {rm : RM}  : ev 144 72 [v0, v1, v2, v3, v4, v5, v6, v7, v8] (.int y :: .int x :: st) im rm = ev 144 73 [v0, v1, v2, v3, v4, v5, v6, v7, v8] (.int (x + y) :: st) (im) (rm) := ev_iadd pm_m144 d144_72 rfl
theorem d144_73 : decode prog_10_method_42_code 73 = .ok (.iload 4, 2) := by decide +kernel
theorem s144_73 {v0 v1 v2 v3 v5 v6 v7 v8 : Value} {l1 : Int32} {st : List Value} {im : IM} {rm : RM}  : ev 144 73 [v0, v1, v2, v3, .int l1, v5, v6, v7, v8] st im rm = ev 144 75 [v0, v1, v2, v3, .int l1, v5, v6, v7, v8] (.int l1 :: st) (im) (rm) := ev_iload pm_m144 d144_73 rfl rfl
theorem d144_75 : decode prog_10_method_42_code 75 = .ok (.iastore, 1) := by decide +kernel
theorem s144_75 {v0 v1 v2 v3 v4 v5 v6 v7 v8 : Value} {a : Nat} {i : Int32} {v : Int32} {st : List Value} {im : IM} {rm : RM} (hk : kd a = 0) (hi : pm_in i (ln a) = true) : ev 144 75 [v0, v1, v2, v3, v4, v5, v6, v7, v8] (.int v :: .int i :: .ref a :: st) im rm = ev 144 76 [v0, v1, v2, v3, v4, v5, v6, v7, v8] st (pm_w2 im a i.toNatClampNeg v) (rm) := ev_iast pm_m144 d144_75 hk hi rfl
theorem d144_76 : decode prog_10_method_42_code 76 = .ok (.iload 6, 2) := by decide +kernel
theorem s144_76 {v0 v1 v2 v3 v4 v5 v7 v8 : Value} {l1 : Int32} {st : List Value} {im : IM} {rm : RM}  : ev 144 76 [v0, v1, v2, v3, v4, v5, .int l1, v7, v8] st im rm = ev 144 78 [v0, v1, v2, v3, v4, v5, .int l1, v7, v8] (.int l1 :: st) (im) (rm) := ev_iload pm_m144 d144_76 rfl rfl
theorem d144_78 : decode prog_10_method_42_code 78 = .ok (.iload 4, 2) := by decide +kernel
theorem s144_78 {v0 v1 v2 v3 v5 v6 v7 v8 : Value} {l1 : Int32} {st : List Value} {im : IM} {rm : RM}  : ev 144 78 [v0, v1, v2, v3, .int l1, v5, v6, v7, v8] st im rm = ev 144 80 [v0, v1, v2, v3, .int l1, v5, v6, v7, v8] (.int l1 :: st) (im) (rm) := ev_iload pm_m144 d144_78 rfl rfl
theorem d144_80 : decode prog_10_method_42_code 80 = .ok (.if_icmp .eq 7, 3) := by decide +kernel
theorem s144_80 {v0 v1 v2 v3 v4 v5 v6 v7 v8 : Value} {x : Int32} {y : Int32} {st : List Value} {im : IM} {rm : RM} : ev 144 80 [v0, v1, v2, v3, v4, v5, v6, v7, v8] (.int y :: .int x :: st) im rm = if x = y then ev 144 87 [v0, v1, v2, v3, v4, v5, v6, pm_u, pm_u] st im rm else ev 144 83 [v0, v1, v2, v3, v4, v5, v6, v7, v8] st im rm := ev_icmp_eq pm_m144 d144_80 rfl rfl rfl
theorem d144_83 : decode prog_10_method_42_code 83 = .ok (.iconst 1, 1) := by decide +kernel
theorem s144_83 {v0 v1 v2 v3 v4 v5 v6 v7 v8 : Value}  {st : List Value} {im : IM} {rm : RM}  : ev 144 83 [v0, v1, v2, v3, v4, v5, v6, v7, v8] st im rm = ev 144 84 [v0, v1, v2, v3, v4, v5, v6, v7, v8] (.int (nI 1) :: st) (im) (rm) := ev_iconst pm_m144 d144_83 rfl rfl
theorem d144_84 : decode prog_10_method_42_code 84 = .ok (.goto 4, 3) := by decide +kernel
theorem s144_84 {v0 v1 v2 v3 v4 v5 v6 v7 v8 : Value}  {st : List Value} {im : IM} {rm : RM}  : ev 144 84 [v0, v1, v2, v3, v4, v5, v6, v7, v8] st im rm = ev 144 88 [v0, v1, v2, v3, v4, v5, v6, pm_u, pm_u] st (im) (rm) := ev_goto pm_m144 d144_84 rfl rfl
theorem d144_87 : decode prog_10_method_42_code 87 = .ok (.iconst 0, 1) := by decide +kernel
theorem s144_87 {v0 v1 v2 v3 v4 v5 v6 v7 v8 : Value}  {st : List Value} {im : IM} {rm : RM}  : ev 144 87 [v0, v1, v2, v3, v4, v5, v6, v7, v8] st im rm = ev 144 88 [v0, v1, v2, v3, v4, v5, v6, pm_u, pm_u] (.int (nI 0) :: st) (im) (rm) := ev_iconst pm_m144 d144_87 rfl rfl
theorem d144_88 : decode prog_10_method_42_code 88 = .ok (.istore 7, 2) := by decide +kernel
theorem s144_88 {v0 v1 v2 v3 v4 v5 v7 v8 : Value} {l1 : Int32} {x2 : Int32} {st : List Value} {im : IM} {rm : RM}  : ev 144 88 [v0, v1, v2, v3, v4, v5, .int l1, v7, v8] (.int x2 :: st) im rm = ev 144 90 [v0, v1, v2, v3, v4, v5, .int l1, .int x2, v8] st (im) (rm) := ev_istore pm_m144 d144_88 (Nat.le_of_ble_eq_true rfl) rfl rfl
theorem d144_90 : decode prog_10_method_42_code 90 = .ok (.iload 5, 2) := by decide +kernel
theorem s144_90 {v0 v1 v2 v3 v4 v6 v7 v8 : Value} {l1 : Int32} {st : List Value} {im : IM} {rm : RM}  : ev 144 90 [v0, v1, v2, v3, v4, .int l1, v6, v7, v8] st im rm = ev 144 92 [v0, v1, v2, v3, v4, .int l1, v6, v7, v8] (.int l1 :: st) (im) (rm) := ev_iload pm_m144 d144_90 rfl rfl
theorem d144_92 : decode prog_10_method_42_code 92 = .ok (.istore 8, 2) := by decide +kernel
theorem s144_92 {v0 v1 v2 v3 v4 v5 v6 v8 : Value} {l1 : Int32} {x2 : Int32} {st : List Value} {im : IM} {rm : RM}  : ev 144 92 [v0, v1, v2, v3, v4, v5, v6, .int l1, v8] (.int x2 :: st) im rm = ev 144 94 [v0, v1, v2, v3, v4, v5, v6, .int l1, .int x2] st (im) (rm) := ev_istore pm_m144 d144_92 (Nat.le_of_ble_eq_true rfl) rfl rfl
theorem d144_94 : decode prog_10_method_42_code 94 = .ok (.iload 8, 2) := by decide +kernel
theorem s144_94 {v0 v1 v2 v3 v4 v5 v6 v7 : Value} {l1 : Int32} {st : List Value} {im : IM} {rm : RM}  : ev 144 94 [v0, v1, v2, v3, v4, v5, v6, v7, .int l1] st im rm = ev 144 96 [v0, v1, v2, v3, v4, v5, v6, v7, .int l1] (.int l1 :: st) (im) (rm) := ev_iload pm_m144 d144_94 rfl rfl
theorem d144_96 : decode prog_10_method_42_code 96 = .ok (.aload_n 0, 1) := by decide +kernel
theorem s144_96 {v1 v2 v3 v4 v5 v6 v7 v8 : Value} {l1 : Nat} {st : List Value} {im : IM} {rm : RM}  : ev 144 96 [.ref l1, v1, v2, v3, v4, v5, v6, v7, v8] st im rm = ev 144 97 [.ref l1, v1, v2, v3, v4, v5, v6, v7, v8] (.ref l1 :: st) (im) (rm) := ev_aload_n pm_m144 d144_96 rfl rfl
theorem d144_97 : decode prog_10_method_42_code 97 = .ok (.getfield 16, 3) := by decide +kernel
theorem s144_97 {v0 v1 v2 v3 v4 v5 v6 v7 v8 : Value} {a : Nat} {st : List Value} {im : IM} {rm : RM} (hk : kd a = 18) : ev 144 97 [v0, v1, v2, v3, v4, v5, v6, v7, v8] (.ref a :: st) im rm = ev 144 100 [v0, v1, v2, v3, v4, v5, v6, v7, v8] (pm_ro (rm a 2) :: st) (im) (rm) := ev_getR pm_m144 d144_97 f8_16 rfl hk rfl
theorem d144_100 : decode prog_10_method_42_code 100 = .ok (.iload_n 2, 1) := by decide +kernel
theorem s144_100 {v0 v1 v3 v4 v5 v6 v7 v8 : Value} {l1 : Int32} {st : List Value} {im : IM} {rm : RM}  : ev 144 100 [v0, v1, .int l1, v3, v4, v5, v6, v7, v8] st im rm = ev 144 101 [v0, v1, .int l1, v3, v4, v5, v6, v7, v8] (.int l1 :: st) (im) (rm) := ev_iload_n pm_m144 d144_100 rfl rfl
theorem d144_101 : decode prog_10_method_42_code 101 = .ok (.iaload, 1) := by decide +kernel
theorem s144_101 {v0 v1 v2 v3 v4 v5 v6 v7 v8 : Value} {a : Nat} {i : Int32} {st : List Value} {im : IM} {rm : RM} (hk : kd a = 0) (hi : pm_in i (ln a) = true) : ev 144 101 [v0, v1, v2, v3, v4, v5, v6, v7, v8] (.int i :: .ref a :: st) im rm = ev 144 102 [v0, v1, v2, v3, v4, v5, v6, v7, v8] (.int (im a i.toNatClampNeg) :: st) (im) (rm) := ev_iald pm_m144 d144_101 hk hi rfl
theorem d144_102 : decode prog_10_method_42_code 102 = .ok (.if_icmp .ge 33, 3) := by decide +kernel
theorem s144_102 {v0 v1 v2 v3 v4 v5 v6 v7 v8 : Value} {x : Int32} {y : Int32} {st : List Value} {im : IM} {rm : RM} : ev 144 102 [v0, v1, v2, v3, v4, v5, v6, v7, v8] (.int y :: .int x :: st) im rm = if y ≤ x then ev 144 135 [v0, v1, v2, v3, v4, v5, v6, v7, pm_u] st im rm else ev 144 105 [v0, v1, v2, v3, v4, v5, v6, v7, v8] st im rm := ev_icmp_ge pm_m144 d144_102 rfl rfl rfl
theorem d144_105 : decode prog_10_method_42_code 105 = .ok (.iload 7, 2) := by decide +kernel
theorem s144_105 {v0 v1 v2 v3 v4 v5 v6 v8 : Value} {l1 : Int32} {st : List Value} {im : IM} {rm : RM}  : ev 144 105 [v0, v1, v2, v3, v4, v5, v6, .int l1, v8] st im rm = ev 144 107 [v0, v1, v2, v3, v4, v5, v6, .int l1, v8] (.int l1 :: st) (im) (rm) := ev_iload pm_m144 d144_105 rfl rfl
theorem d144_107 : decode prog_10_method_42_code 107 = .ok (.ifCond .eq 19, 3) := by decide +kernel
theorem s144_107 {v0 v1 v2 v3 v4 v5 v6 v7 v8 : Value} {x : Int32} {st : List Value} {im : IM} {rm : RM} : ev 144 107 [v0, v1, v2, v3, v4, v5, v6, v7, v8] (.int x :: st) im rm = if x = nI 0 then ev 144 126 [v0, v1, v2, v3, v4, v5, v6, pm_u, v8] st im rm else ev 144 110 [v0, v1, v2, v3, v4, v5, v6, v7, v8] st im rm := ev_if_eq (y := 0) pm_m144 d144_107 rfl rfl rfl
theorem d144_110 : decode prog_10_method_42_code 110 = .ok (.aload_n 0, 1) := by decide +kernel
theorem s144_110 {v1 v2 v3 v4 v5 v6 v7 v8 : Value} {l1 : Nat} {st : List Value} {im : IM} {rm : RM}  : ev 144 110 [.ref l1, v1, v2, v3, v4, v5, v6, v7, v8] st im rm = ev 144 111 [.ref l1, v1, v2, v3, v4, v5, v6, v7, v8] (.ref l1 :: st) (im) (rm) := ev_aload_n pm_m144 d144_110 rfl rfl
theorem d144_111 : decode prog_10_method_42_code 111 = .ok (.iload_n 1, 1) := by decide +kernel
theorem s144_111 {v0 v2 v3 v4 v5 v6 v7 v8 : Value} {l1 : Int32} {st : List Value} {im : IM} {rm : RM}  : ev 144 111 [v0, .int l1, v2, v3, v4, v5, v6, v7, v8] st im rm = ev 144 112 [v0, .int l1, v2, v3, v4, v5, v6, v7, v8] (.int l1 :: st) (im) (rm) := ev_iload_n pm_m144 d144_111 rfl rfl
theorem d144_112 : decode prog_10_method_42_code 112 = .ok (.iload_n 2, 1) := by decide +kernel
theorem s144_112 {v0 v1 v3 v4 v5 v6 v7 v8 : Value} {l1 : Int32} {st : List Value} {im : IM} {rm : RM}  : ev 144 112 [v0, v1, .int l1, v3, v4, v5, v6, v7, v8] st im rm = ev 144 113 [v0, v1, .int l1, v3, v4, v5, v6, v7, v8] (.int l1 :: st) (im) (rm) := ev_iload_n pm_m144 d144_112 rfl rfl
theorem d144_113 : decode prog_10_method_42_code 113 = .ok (.iload 8, 2) := by decide +kernel
theorem s144_113 {v0 v1 v2 v3 v4 v5 v6 v7 : Value} {l1 : Int32} {st : List Value} {im : IM} {rm : RM}  : ev 144 113 [v0, v1, v2, v3, v4, v5, v6, v7, .int l1] st im rm = ev 144 115 [v0, v1, v2, v3, v4, v5, v6, v7, .int l1] (.int l1 :: st) (im) (rm) := ev_iload pm_m144 d144_113 rfl rfl
theorem d144_115 : decode prog_10_method_42_code 115 = .ok (.invokevirtual 258, 3) := by decide +kernel
theorem s144_115 {v0 v1 v2 v3 v4 v5 v6 v7 v8 : Value} {a : Nat} {p1 : Int32} {p2 : Int32} {p3 : Int32} {im : IM} {rm : RM} (hk : kd a = 18) : ev 144 115 [v0, v1, v2, v3, v4, v5, v6, v7, v8] [.int p3, .int p2, .int p1, .ref a] im rm = (ev 134 0 [.ref a, .int p1, .int p2, .int p3, pm_u] [] im rm).bind (fun r => ev 144 118 [v0, v1, v2, v3, v4, v5, v6, v7, v8] (r.1.toList ++ []) r.2.1 r.2.2) := ev_callV pm_m144 d144_115 l8_258 rfl pm_m134 (by decide) hk rfl ⟨rfl, rfl⟩ rfl rfl
theorem d144_118 : decode prog_10_method_42_code 118 = .ok (.iload_n 3, 1) := by decide +kernel
theorem s144_118 {v0 v1 v2 v4 v5 v6 v7 v8 : Value} {l1 : Int32} {st : List Value} {im : IM} {rm : RM}  : ev 144 118 [v0, v1, v2, .int l1, v4, v5, v6, v7, v8] st im rm = ev 144 119 [v0, v1, v2, .int l1, v4, v5, v6, v7, v8] (.int l1 :: st) (im) (rm) := ev_iload_n pm_m144 d144_118 rfl rfl
theorem d144_119 : decode prog_10_method_42_code 119 = .ok (.if_icmp .eq 7, 3) := by decide +kernel
theorem s144_119 {v0 v1 v2 v3 v4 v5 v6 v7 v8 : Value} {x : Int32} {y : Int32} {st : List Value} {im : IM} {rm : RM} : ev 144 119 [v0, v1, v2, v3, v4, v5, v6, v7, v8] (.int y :: .int x :: st) im rm = if x = y then ev 144 126 [v0, v1, v2, v3, v4, v5, v6, pm_u, v8] st im rm else ev 144 122 [v0, v1, v2, v3, v4, v5, v6, v7, v8] st im rm := ev_icmp_eq pm_m144 d144_119 rfl rfl rfl
theorem d144_122 : decode prog_10_method_42_code 122 = .ok (.iconst 1, 1) := by decide +kernel
theorem s144_122 {v0 v1 v2 v3 v4 v5 v6 v7 v8 : Value}  {st : List Value} {im : IM} {rm : RM}  : ev 144 122 [v0, v1, v2, v3, v4, v5, v6, v7, v8] st im rm = ev 144 123 [v0, v1, v2, v3, v4, v5, v6, v7, v8] (.int (nI 1) :: st) (im) (rm) := ev_iconst pm_m144 d144_122 rfl rfl
theorem d144_123 : decode prog_10_method_42_code 123 = .ok (.goto 4, 3) := by decide +kernel
theorem s144_123 {v0 v1 v2 v3 v4 v5 v6 v7 v8 : Value}  {st : List Value} {im : IM} {rm : RM}  : ev 144 123 [v0, v1, v2, v3, v4, v5, v6, v7, v8] st im rm = ev 144 127 [v0, v1, v2, v3, v4, v5, v6, pm_u, v8] st (im) (rm) := ev_goto pm_m144 d144_123 rfl rfl
theorem d144_126 : decode prog_10_method_42_code 126 = .ok (.iconst 0, 1) := by decide +kernel
theorem s144_126 {v0 v1 v2 v3 v4 v5 v6 v7 v8 : Value}  {st : List Value} {im : IM} {rm : RM}  : ev 144 126 [v0, v1, v2, v3, v4, v5, v6, v7, v8] st im rm = ev 144 127 [v0, v1, v2, v3, v4, v5, v6, pm_u, v8] (.int (nI 0) :: st) (im) (rm) := ev_iconst pm_m144 d144_126 rfl rfl
theorem d144_127 : decode prog_10_method_42_code 127 = .ok (.istore 7, 2) := by decide +kernel
theorem s144_127 {v0 v1 v2 v3 v4 v5 v7 v8 : Value} {l1 : Int32} {x2 : Int32} {st : List Value} {im : IM} {rm : RM}  : ev 144 127 [v0, v1, v2, v3, v4, v5, .int l1, v7, v8] (.int x2 :: st) im rm = ev 144 129 [v0, v1, v2, v3, v4, v5, .int l1, .int x2, v8] st (im) (rm) := ev_istore pm_m144 d144_127 (Nat.le_of_ble_eq_true rfl) rfl rfl
theorem d144_129 : decode prog_10_method_42_code 129 = .ok (.iinc 8 1, 3) := by decide +kernel
theorem s144_129 {v0 v1 v2 v3 v4 v5 v6 : Value} {l1 : Int32} {l2 : Int32} {st : List Value} {im : IM} {rm : RM}  : ev 144 129 [v0, v1, v2, v3, v4, v5, v6, .int l1, .int l2] st im rm = ev 144 132 [v0, v1, v2, v3, v4, v5, v6, .int l1, .int (l2 + nI 1)] st (im) (rm) := ev_iinc pm_m144 d144_129 rfl rfl rfl rfl
theorem d144_132 : decode prog_10_method_42_code 132 = .ok (.goto (-38), 3) := by decide +kernel
theorem s144_132 {v0 v1 v2 v3 v4 v5 v6 v7 v8 : Value}  {st : List Value} {im : IM} {rm : RM}  : ev 144 132 [v0, v1, v2, v3, v4, v5, v6, v7, v8] st im rm = ev 144 94 [v0, v1, v2, v3, v4, v5, v6, v7, v8] st (im) (rm) := ev_goto pm_m144 d144_132 rfl rfl
theorem d144_135 : decode prog_10_method_42_code 135 = .ok (.aload_n 0, 1) := by decide +kernel
theorem s144_135 {v1 v2 v3 v4 v5 v6 v7 v8 : Value} {l1 : Nat} {st : List Value} {im : IM} {rm : RM}  : ev 144 135 [.ref l1, v1, v2, v3, v4, v5, v6, v7, v8] st im rm = ev 144 136 [.ref l1, v1, v2, v3, v4, v5, v6, v7, v8] (.ref l1 :: st) (im) (rm) := ev_aload_n pm_m144 d144_135 rfl rfl
theorem d144_136 : decode prog_10_method_42_code 136 = .ok (.getfield 25, 3) := by decide +kernel
theorem s144_136 {v0 v1 v2 v3 v4 v5 v6 v7 v8 : Value} {a : Nat} {st : List Value} {im : IM} {rm : RM} (hk : kd a = 18) : ev 144 136 [v0, v1, v2, v3, v4, v5, v6, v7, v8] (.ref a :: st) im rm = ev 144 139 [v0, v1, v2, v3, v4, v5, v6, v7, v8] (pm_ro (rm a 5) :: st) (im) (rm) := ev_getR pm_m144 d144_136 f8_25 rfl hk rfl
theorem d144_139 : decode prog_10_method_42_code 139 = .ok (.bipush 40, 2) := by decide +kernel
theorem s144_139 {v0 v1 v2 v3 v4 v5 v6 v7 v8 : Value}  {st : List Value} {im : IM} {rm : RM}  : ev 144 139 [v0, v1, v2, v3, v4, v5, v6, v7, v8] st im rm = ev 144 141 [v0, v1, v2, v3, v4, v5, v6, v7, v8] (.int (nI 40) :: st) (im) (rm) := ev_bipush pm_m144 d144_139 rfl rfl
theorem d144_141 : decode prog_10_method_42_code 141 = .ok (.iload_n 2, 1) := by decide +kernel
theorem s144_141 {v0 v1 v3 v4 v5 v6 v7 v8 : Value} {l1 : Int32} {st : List Value} {im : IM} {rm : RM}  : ev 144 141 [v0, v1, .int l1, v3, v4, v5, v6, v7, v8] st im rm = ev 144 142 [v0, v1, .int l1, v3, v4, v5, v6, v7, v8] (.int l1 :: st) (im) (rm) := ev_iload_n pm_m144 d144_141 rfl rfl
theorem d144_142 : decode prog_10_method_42_code 142 = .ok (.imul, 1) := by decide +kernel
theorem s144_142 {v0 v1 v2 v3 v4 v5 v6 v7 v8 : Value} {x : Int32} {y : Int32} {st : List Value} {im : IM} {rm : RM}  : ev 144 142 [v0, v1, v2, v3, v4, v5, v6, v7, v8] (.int y :: .int x :: st) im rm = ev 144 143 [v0, v1, v2, v3, v4, v5, v6, v7, v8] (.int (x * y) :: st) (im) (rm) := ev_imul pm_m144 d144_142 rfl
theorem d144_143 : decode prog_10_method_42_code 143 = .ok (.iload 5, 2) := by decide +kernel
theorem s144_143 {v0 v1 v2 v3 v4 v6 v7 v8 : Value} {l1 : Int32} {st : List Value} {im : IM} {rm : RM}  : ev 144 143 [v0, v1, v2, v3, v4, .int l1, v6, v7, v8] st im rm = ev 144 145 [v0, v1, v2, v3, v4, .int l1, v6, v7, v8] (.int l1 :: st) (im) (rm) := ev_iload pm_m144 d144_143 rfl rfl
theorem d144_145 : decode prog_10_method_42_code 145 = .ok (.iadd, 1) := by decide +kernel
theorem s144_145 {v0 v1 v2 v3 v4 v5 v6 v7 v8 : Value} {x : Int32} {y : Int32} {st : List Value} {im : IM} {rm : RM}  : ev 144 145 [v0, v1, v2, v3, v4, v5, v6, v7, v8] (.int y :: .int x :: st) im rm = ev 144 146 [v0, v1, v2, v3, v4, v5, v6, v7, v8] (.int (x + y) :: st) (im) (rm) := ev_iadd pm_m144 d144_145 rfl
theorem d144_146 : decode prog_10_method_42_code 146 = .ok (.iload 6, 2) := by decide +kernel
theorem s144_146 {v0 v1 v2 v3 v4 v5 v7 v8 : Value} {l1 : Int32} {st : List Value} {im : IM} {rm : RM}  : ev 144 146 [v0, v1, v2, v3, v4, v5, .int l1, v7, v8] st im rm = ev 144 148 [v0, v1, v2, v3, v4, v5, .int l1, v7, v8] (.int l1 :: st) (im) (rm) := ev_iload pm_m144 d144_146 rfl rfl
theorem d144_148 : decode prog_10_method_42_code 148 = .ok (.iastore, 1) := by decide +kernel
theorem s144_148 {v0 v1 v2 v3 v4 v5 v6 v7 v8 : Value} {a : Nat} {i : Int32} {v : Int32} {st : List Value} {im : IM} {rm : RM} (hk : kd a = 0) (hi : pm_in i (ln a) = true) : ev 144 148 [v0, v1, v2, v3, v4, v5, v6, v7, v8] (.int v :: .int i :: .ref a :: st) im rm = ev 144 149 [v0, v1, v2, v3, v4, v5, v6, v7, v8] st (pm_w2 im a i.toNatClampNeg v) (rm) := ev_iast pm_m144 d144_148 hk hi rfl
theorem d144_149 : decode prog_10_method_42_code 149 = .ok (.iload 7, 2) := by decide +kernel
theorem s144_149 {v0 v1 v2 v3 v4 v5 v6 v8 : Value} {l1 : Int32} {st : List Value} {im : IM} {rm : RM}  : ev 144 149 [v0, v1, v2, v3, v4, v5, v6, .int l1, v8] st im rm = ev 144 151 [v0, v1, v2, v3, v4, v5, v6, .int l1, v8] (.int l1 :: st) (im) (rm) := ev_iload pm_m144 d144_149 rfl rfl
theorem d144_151 : decode prog_10_method_42_code 151 = .ok (.ifCond .eq 12, 3) := by decide +kernel
theorem s144_151 {v0 v1 v2 v3 v4 v5 v6 v7 v8 : Value} {x : Int32} {st : List Value} {im : IM} {rm : RM} : ev 144 151 [v0, v1, v2, v3, v4, v5, v6, v7, v8] (.int x :: st) im rm = if x = nI 0 then ev 144 163 [v0, v1, v2, v3, v4, v5, pm_u, pm_u, pm_u] st im rm else ev 144 154 [v0, v1, v2, v3, v4, v5, v6, v7, v8] st im rm := ev_if_eq (y := 0) pm_m144 d144_151 rfl rfl rfl
theorem d144_154 : decode prog_10_method_42_code 154 = .ok (.bipush 64, 2) := by decide +kernel
theorem s144_154 {v0 v1 v2 v3 v4 v5 v6 v7 v8 : Value}  {st : List Value} {im : IM} {rm : RM}  : ev 144 154 [v0, v1, v2, v3, v4, v5, v6, v7, v8] st im rm = ev 144 156 [v0, v1, v2, v3, v4, v5, v6, v7, v8] (.int (nI 64) :: st) (im) (rm) := ev_bipush pm_m144 d144_154 rfl rfl
theorem d144_156 : decode prog_10_method_42_code 156 = .ok (.iload 4, 2) := by decide +kernel
theorem s144_156 {v0 v1 v2 v3 v5 v6 v7 v8 : Value} {l1 : Int32} {st : List Value} {im : IM} {rm : RM}  : ev 144 156 [v0, v1, v2, v3, .int l1, v5, v6, v7, v8] st im rm = ev 144 158 [v0, v1, v2, v3, .int l1, v5, v6, v7, v8] (.int l1 :: st) (im) (rm) := ev_iload pm_m144 d144_156 rfl rfl
theorem d144_158 : decode prog_10_method_42_code 158 = .ok (.imul, 1) := by decide +kernel
theorem s144_158 {v0 v1 v2 v3 v4 v5 v6 v7 v8 : Value} {x : Int32} {y : Int32} {st : List Value} {im : IM} {rm : RM}  : ev 144 158 [v0, v1, v2, v3, v4, v5, v6, v7, v8] (.int y :: .int x :: st) im rm = ev 144 159 [v0, v1, v2, v3, v4, v5, v6, v7, v8] (.int (x * y) :: st) (im) (rm) := ev_imul pm_m144 d144_158 rfl
theorem d144_159 : decode prog_10_method_42_code 159 = .ok (.iload 5, 2) := by decide +kernel
theorem s144_159 {v0 v1 v2 v3 v4 v6 v7 v8 : Value} {l1 : Int32} {st : List Value} {im : IM} {rm : RM}  : ev 144 159 [v0, v1, v2, v3, v4, .int l1, v6, v7, v8] st im rm = ev 144 161 [v0, v1, v2, v3, v4, .int l1, v6, v7, v8] (.int l1 :: st) (im) (rm) := ev_iload pm_m144 d144_159 rfl rfl
theorem d144_161 : decode prog_10_method_42_code 161 = .ok (.iadd, 1) := by decide +kernel
theorem s144_161 {v0 v1 v2 v3 v4 v5 v6 v7 v8 : Value} {x : Int32} {y : Int32} {st : List Value} {im : IM} {rm : RM}  : ev 144 161 [v0, v1, v2, v3, v4, v5, v6, v7, v8] (.int y :: .int x :: st) im rm = ev 144 162 [v0, v1, v2, v3, v4, v5, v6, v7, v8] (.int (x + y) :: st) (im) (rm) := ev_iadd pm_m144 d144_161 rfl
theorem d144_162 : decode prog_10_method_42_code 162 = .ok (.ireturn, 1) := by decide +kernel
theorem s144_162 {v0 v1 v2 v3 v4 v5 v6 v7 v8 : Value} {x : Int32} {im : IM} {rm : RM} : ev 144 162 [v0, v1, v2, v3, v4, v5, v6, v7, v8] [.int x] im rm = some (some (.int x), im, rm) := ev_ireturn pm_m144 d144_162 rfl
theorem d144_163 : decode prog_10_method_42_code 163 = .ok (.iinc 5 1, 3) := by decide +kernel
theorem s144_163 {v0 v1 v2 v3 v6 v7 v8 : Value} {l1 : Int32} {l2 : Int32} {st : List Value} {im : IM} {rm : RM}  : ev 144 163 [v0, v1, v2, v3, .int l1, .int l2, v6, v7, v8] st im rm = ev 144 166 [v0, v1, v2, v3, .int l1, .int (l2 + nI 1), v6, v7, v8] st (im) (rm) := ev_iinc pm_m144 d144_163 rfl rfl rfl rfl
theorem d144_166 : decode prog_10_method_42_code 166 = .ok (.goto (-129), 3) := by decide +kernel
theorem s144_166 {v0 v1 v2 v3 v4 v5 v6 v7 v8 : Value}  {st : List Value} {im : IM} {rm : RM}  : ev 144 166 [v0, v1, v2, v3, v4, v5, v6, v7, v8] st im rm = ev 144 37 [v0, v1, v2, v3, v4, v5, pm_u, pm_u, pm_u] st (im) (rm) := ev_goto pm_m144 d144_166 rfl rfl
theorem d144_169 : decode prog_10_method_42_code 169 = .ok (.iinc 4 1, 3) := by decide +kernel
theorem s144_169 {v0 v1 v2 v5 v6 v7 v8 : Value} {l1 : Int32} {l2 : Int32} {st : List Value} {im : IM} {rm : RM}  : ev 144 169 [v0, v1, v2, .int l1, .int l2, v5, v6, v7, v8] st im rm = ev 144 172 [v0, v1, v2, .int l1, .int (l2 + nI 1), v5, v6, v7, v8] st (im) (rm) := ev_iinc pm_m144 d144_169 rfl rfl rfl rfl
theorem d144_172 : decode prog_10_method_42_code 172 = .ok (.goto (-145), 3) := by decide +kernel
theorem s144_172 {v0 v1 v2 v3 v4 v5 v6 v7 v8 : Value}  {st : List Value} {im : IM} {rm : RM}  : ev 144 172 [v0, v1, v2, v3, v4, v5, v6, v7, v8] st im rm = ev 144 27 [v0, v1, v2, v3, v4, pm_u, pm_u, pm_u, pm_u] st (im) (rm) := ev_goto pm_m144 d144_172 rfl rfl
theorem d144_175 : decode prog_10_method_42_code 175 = .ok (.iconst (-1), 1) := by decide +kernel
theorem s144_175 {v0 v1 v2 v3 v4 v5 v6 v7 v8 : Value}  {st : List Value} {im : IM} {rm : RM}  : ev 144 175 [v0, v1, v2, v3, v4, v5, v6, v7, v8] st im rm = ev 144 176 [v0, v1, v2, v3, v4, v5, v6, v7, v8] (.int ((-1 : Int32)) :: st) (im) (rm) := ev_iconst pm_m144 d144_175 rfl rfl
theorem d144_176 : decode prog_10_method_42_code 176 = .ok (.ireturn, 1) := by decide +kernel
theorem s144_176 {v0 v1 v2 v3 v4 v5 v6 v7 v8 : Value} {x : Int32} {im : IM} {rm : RM} : ev 144 176 [v0, v1, v2, v3, v4, v5, v6, v7, v8] [.int x] im rm = some (some (.int x), im, rm) := ev_ireturn pm_m144 d144_176 rfl
theorem d145_0 : decode prog_10_method_43_code 0 = .ok (.aload_n 0, 1) := by decide +kernel
theorem s145_0 {v1 v2 v3 : Value} {l1 : Nat} {st : List Value} {im : IM} {rm : RM}  : ev 145 0 [.ref l1, v1, v2, v3] st im rm = ev 145 1 [.ref l1, v1, v2, v3] (.ref l1 :: st) (im) (rm) := ev_aload_n pm_m145 d145_0 rfl rfl
theorem d145_1 : decode prog_10_method_43_code 1 = .ok (.iload_n 1, 1) := by decide +kernel
theorem s145_1 {v0 v2 v3 : Value} {l1 : Int32} {st : List Value} {im : IM} {rm : RM}  : ev 145 1 [v0, .int l1, v2, v3] st im rm = ev 145 2 [v0, .int l1, v2, v3] (.int l1 :: st) (im) (rm) := ev_iload_n pm_m145 d145_1 rfl rfl
theorem d145_2 : decode prog_10_method_43_code 2 = .ok (.iload_n 2, 1) := by decide +kernel
theorem s145_2 {v0 v1 v3 : Value} {l1 : Int32} {st : List Value} {im : IM} {rm : RM}  : ev 145 2 [v0, v1, .int l1, v3] st im rm = ev 145 3 [v0, v1, .int l1, v3] (.int l1 :: st) (im) (rm) := ev_iload_n pm_m145 d145_2 rfl rfl
theorem d145_3 : decode prog_10_method_43_code 3 = .ok (.invokevirtual 162, 3) := by decide +kernel
theorem s145_3 {v0 v1 v2 v3 : Value} {a : Nat} {p1 : Int32} {p2 : Int32} {im : IM} {rm : RM} (hk : kd a = 18) : ev 145 3 [v0, v1, v2, v3] [.int p2, .int p1, .ref a] im rm = (ev 108 0 [.ref a, .int p1, .int p2] [] im rm).bind (fun r => ev 145 6 [v0, v1, v2, v3] (r.1.toList ++ []) r.2.1 r.2.2) := ev_callV pm_m145 d145_3 l8_162 rfl pm_m108 (by decide) hk rfl ⟨rfl, rfl⟩ rfl rfl
theorem d145_6 : decode prog_10_method_43_code 6 = .ok (.ifCond .ne 6, 3) := by decide +kernel
theorem s145_6 {v0 v1 v2 v3 : Value} {x : Int32} {st : List Value} {im : IM} {rm : RM} : ev 145 6 [v0, v1, v2, v3] (.int x :: st) im rm = if x = nI 0 then ev 145 9 [v0, v1, v2, v3] st im rm else ev 145 12 [v0, v1, v2, v3] st im rm := ev_if_ne (y := 0) pm_m145 d145_6 rfl rfl rfl
theorem d145_9 : decode prog_10_method_43_code 9 = .ok (.bipush (-2), 2) := by decide +kernel
theorem s145_9 {v0 v1 v2 v3 : Value}  {st : List Value} {im : IM} {rm : RM}  : ev 145 9 [v0, v1, v2, v3] st im rm = ev 145 11 [v0, v1, v2, v3] (.int ((-2 : Int32)) :: st) (im) (rm) := ev_bipush pm_m145 d145_9 rfl rfl
theorem d145_11 : decode prog_10_method_43_code 11 = .ok (.ireturn, 1) := by decide +kernel
theorem s145_11 {v0 v1 v2 v3 : Value} {x : Int32} {im : IM} {rm : RM} : ev 145 11 [v0, v1, v2, v3] [.int x] im rm = some (some (.int x), im, rm) := ev_ireturn pm_m145 d145_11 rfl
theorem d145_12 : decode prog_10_method_43_code 12 = .ok (.iload_n 3, 1) := by decide +kernel
theorem s145_12 {v0 v1 v2 : Value} {l1 : Int32} {st : List Value} {im : IM} {rm : RM}  : ev 145 12 [v0, v1, v2, .int l1] st im rm = ev 145 13 [v0, v1, v2, .int l1] (.int l1 :: st) (im) (rm) := ev_iload_n pm_m145 d145_12 rfl rfl
theorem d145_13 : decode prog_10_method_43_code 13 = .ok (.i2l, 1) := by decide +kernel
theorem s145_13 {v0 v1 v2 v3 : Value} {x : Int32} {st : List Value} {im : IM} {rm : RM}  : ev 145 13 [v0, v1, v2, v3] (.int x :: st) im rm = ev 145 14 [v0, v1, v2, v3] (.long x.toInt64 :: st) (im) (rm) := ev_i2l pm_m145 d145_13 rfl
theorem d145_14 : decode prog_10_method_43_code 14 = .ok (.lconst 0, 1) := by decide +kernel
theorem s145_14 {v0 v1 v2 v3 : Value}  {st : List Value} {im : IM} {rm : RM}  : ev 145 14 [v0, v1, v2, v3] st im rm = ev 145 15 [v0, v1, v2, v3] (.long (lN 0) :: st) (im) (rm) := ev_lconst pm_m145 d145_14 rfl rfl
theorem d145_15 : decode prog_10_method_43_code 15 = .ok (.ldc2_w 147, 3) := by decide +kernel
theorem s145_15 {v0 v1 v2 v3 : Value}  {st : List Value} {im : IM} {rm : RM}  : ev 145 15 [v0, v1, v2, v3] st im rm = ev 145 18 [v0, v1, v2, v3] (.long (lN 9999) :: st) (im) (rm) := ev_ldc2 pm_m145 d145_15 (by decide +kernel) rfl
theorem d145_18 : decode prog_10_method_43_code 18 = .ok (.invokestatic 120, 3) := by decide +kernel
theorem s145_18 {v0 v1 v2 v3 : Value} {p1 : Int64} {p2 : Int64} {p3 : Int64} {im : IM} {rm : RM}  : ev 145 18 [v0, v1, v2, v3] [.long p3, .long p2, .long p1] im rm = (ev 104 0 [.long p1, pm_u, .long p2, pm_u, .long p3, pm_u] [] im rm).bind (fun r => ev 145 21 [v0, v1, v2, v3] (r.1.toList ++ []) r.2.1 r.2.2) := ev_callS pm_m145 d145_18 (by decide) l8_120 rfl pm_m104 rfl ⟨rfl, rfl⟩ rfl rfl
theorem d145_21 : decode prog_10_method_43_code 21 = .ok (.ifCond .ne 6, 3) := by decide +kernel
theorem s145_21 {v0 v1 v2 v3 : Value} {x : Int32} {st : List Value} {im : IM} {rm : RM} : ev 145 21 [v0, v1, v2, v3] (.int x :: st) im rm = if x = nI 0 then ev 145 24 [v0, v1, v2, v3] st im rm else ev 145 27 [v0, v1, v2, v3] st im rm := ev_if_ne (y := 0) pm_m145 d145_21 rfl rfl rfl
theorem d145_24 : decode prog_10_method_43_code 24 = .ok (.bipush (-3), 2) := by decide +kernel
theorem s145_24 {v0 v1 v2 v3 : Value}  {st : List Value} {im : IM} {rm : RM}  : ev 145 24 [v0, v1, v2, v3] st im rm = ev 145 26 [v0, v1, v2, v3] (.int ((-3 : Int32)) :: st) (im) (rm) := ev_bipush pm_m145 d145_24 rfl rfl
theorem d145_26 : decode prog_10_method_43_code 26 = .ok (.ireturn, 1) := by decide +kernel
theorem s145_26 {v0 v1 v2 v3 : Value} {x : Int32} {im : IM} {rm : RM} : ev 145 26 [v0, v1, v2, v3] [.int x] im rm = some (some (.int x), im, rm) := ev_ireturn pm_m145 d145_26 rfl
theorem d145_27 : decode prog_10_method_43_code 27 = .ok (.aload_n 0, 1) := by decide +kernel
theorem s145_27 {v1 v2 v3 : Value} {l1 : Nat} {st : List Value} {im : IM} {rm : RM}  : ev 145 27 [.ref l1, v1, v2, v3] st im rm = ev 145 28 [.ref l1, v1, v2, v3] (.ref l1 :: st) (im) (rm) := ev_aload_n pm_m145 d145_27 rfl rfl
theorem d145_28 : decode prog_10_method_43_code 28 = .ok (.getfield 283, 3) := by decide +kernel
theorem s145_28 {v0 v1 v2 v3 : Value} {a : Nat} {st : List Value} {im : IM} {rm : RM} (hk : kd a = 18) : ev 145 28 [v0, v1, v2, v3] (.ref a :: st) im rm = ev 145 31 [v0, v1, v2, v3] (.int (im a 24) :: st) (im) (rm) := ev_getI pm_m145 d145_28 f8_283 rfl hk rfl
theorem d145_31 : decode prog_10_method_43_code 31 = .ok (.bipush 20, 2) := by decide +kernel
theorem s145_31 {v0 v1 v2 v3 : Value}  {st : List Value} {im : IM} {rm : RM}  : ev 145 31 [v0, v1, v2, v3] st im rm = ev 145 33 [v0, v1, v2, v3] (.int (nI 20) :: st) (im) (rm) := ev_bipush pm_m145 d145_31 rfl rfl
theorem d145_33 : decode prog_10_method_43_code 33 = .ok (.if_icmp .ne 6, 3) := by decide +kernel
theorem s145_33 {v0 v1 v2 v3 : Value} {x : Int32} {y : Int32} {st : List Value} {im : IM} {rm : RM} : ev 145 33 [v0, v1, v2, v3] (.int y :: .int x :: st) im rm = if x = y then ev 145 36 [v0, v1, v2, v3] st im rm else ev 145 39 [v0, v1, v2, v3] st im rm := ev_icmp_ne pm_m145 d145_33 rfl rfl rfl
theorem d145_36 : decode prog_10_method_43_code 36 = .ok (.bipush (-5), 2) := by decide +kernel
theorem s145_36 {v0 v1 v2 v3 : Value}  {st : List Value} {im : IM} {rm : RM}  : ev 145 36 [v0, v1, v2, v3] st im rm = ev 145 38 [v0, v1, v2, v3] (.int ((-5 : Int32)) :: st) (im) (rm) := ev_bipush pm_m145 d145_36 rfl rfl
theorem d145_38 : decode prog_10_method_43_code 38 = .ok (.ireturn, 1) := by decide +kernel
theorem s145_38 {v0 v1 v2 v3 : Value} {x : Int32} {im : IM} {rm : RM} : ev 145 38 [v0, v1, v2, v3] [.int x] im rm = some (some (.int x), im, rm) := ev_ireturn pm_m145 d145_38 rfl
theorem d145_39 : decode prog_10_method_43_code 39 = .ok (.aload_n 0, 1) := by decide +kernel
theorem s145_39 {v1 v2 v3 : Value} {l1 : Nat} {st : List Value} {im : IM} {rm : RM}  : ev 145 39 [.ref l1, v1, v2, v3] st im rm = ev 145 40 [.ref l1, v1, v2, v3] (.ref l1 :: st) (im) (rm) := ev_aload_n pm_m145 d145_39 rfl rfl
theorem d145_40 : decode prog_10_method_43_code 40 = .ok (.getfield 70, 3) := by decide +kernel
theorem s145_40 {v0 v1 v2 v3 : Value} {a : Nat} {st : List Value} {im : IM} {rm : RM} (hk : kd a = 18) : ev 145 40 [v0, v1, v2, v3] (.ref a :: st) im rm = ev 145 43 [v0, v1, v2, v3] (pm_ro (rm a 21) :: st) (im) (rm) := ev_getR pm_m145 d145_40 f8_70 rfl hk rfl
theorem d145_43 : decode prog_10_method_43_code 43 = .ok (.aload_n 0, 1) := by decide +kernel
theorem s145_43 {v1 v2 v3 : Value} {l1 : Nat} {st : List Value} {im : IM} {rm : RM}  : ev 145 43 [.ref l1, v1, v2, v3] st im rm = ev 145 44 [.ref l1, v1, v2, v3] (.ref l1 :: st) (im) (rm) := ev_aload_n pm_m145 d145_43 rfl rfl
theorem d145_44 : decode prog_10_method_43_code 44 = .ok (.getfield 283, 3) := by decide +kernel
theorem s145_44 {v0 v1 v2 v3 : Value} {a : Nat} {st : List Value} {im : IM} {rm : RM} (hk : kd a = 18) : ev 145 44 [v0, v1, v2, v3] (.ref a :: st) im rm = ev 145 47 [v0, v1, v2, v3] (.int (im a 24) :: st) (im) (rm) := ev_getI pm_m145 d145_44 f8_283 rfl hk rfl
theorem d145_47 : decode prog_10_method_43_code 47 = .ok (.iload_n 1, 1) := by decide +kernel
theorem s145_47 {v0 v2 v3 : Value} {l1 : Int32} {st : List Value} {im : IM} {rm : RM}  : ev 145 47 [v0, .int l1, v2, v3] st im rm = ev 145 48 [v0, .int l1, v2, v3] (.int l1 :: st) (im) (rm) := ev_iload_n pm_m145 d145_47 rfl rfl
theorem d145_48 : decode prog_10_method_43_code 48 = .ok (.iastore, 1) := by decide +kernel
theorem s145_48 {v0 v1 v2 v3 : Value} {a : Nat} {i : Int32} {v : Int32} {st : List Value} {im : IM} {rm : RM} (hk : kd a = 0) (hi : pm_in i (ln a) = true) : ev 145 48 [v0, v1, v2, v3] (.int v :: .int i :: .ref a :: st) im rm = ev 145 49 [v0, v1, v2, v3] st (pm_w2 im a i.toNatClampNeg v) (rm) := ev_iast pm_m145 d145_48 hk hi rfl
theorem d145_49 : decode prog_10_method_43_code 49 = .ok (.aload_n 0, 1) := by decide +kernel
theorem s145_49 {v1 v2 v3 : Value} {l1 : Nat} {st : List Value} {im : IM} {rm : RM}  : ev 145 49 [.ref l1, v1, v2, v3] st im rm = ev 145 50 [.ref l1, v1, v2, v3] (.ref l1 :: st) (im) (rm) := ev_aload_n pm_m145 d145_49 rfl rfl
theorem d145_50 : decode prog_10_method_43_code 50 = .ok (.getfield 73, 3) := by decide +kernel
theorem s145_50 {v0 v1 v2 v3 : Value} {a : Nat} {st : List Value} {im : IM} {rm : RM} (hk : kd a = 18) : ev 145 50 [v0, v1, v2, v3] (.ref a :: st) im rm = ev 145 53 [v0, v1, v2, v3] (pm_ro (rm a 22) :: st) (im) (rm) := ev_getR pm_m145 d145_50 f8_73 rfl hk rfl
theorem d145_53 : decode prog_10_method_43_code 53 = .ok (.aload_n 0, 1) := by decide +kernel
theorem s145_53 {v1 v2 v3 : Value} {l1 : Nat} {st : List Value} {im : IM} {rm : RM}  : ev 145 53 [.ref l1, v1, v2, v3] st im rm = ev 145 54 [.ref l1, v1, v2, v3] (.ref l1 :: st) (im) (rm) := ev_aload_n pm_m145 d145_53 rfl rfl
theorem d145_54 : decode prog_10_method_43_code 54 = .ok (.getfield 283, 3) := by decide +kernel
theorem s145_54 {v0 v1 v2 v3 : Value} {a : Nat} {st : List Value} {im : IM} {rm : RM} (hk : kd a = 18) : ev 145 54 [v0, v1, v2, v3] (.ref a :: st) im rm = ev 145 57 [v0, v1, v2, v3] (.int (im a 24) :: st) (im) (rm) := ev_getI pm_m145 d145_54 f8_283 rfl hk rfl
theorem d145_57 : decode prog_10_method_43_code 57 = .ok (.iload_n 2, 1) := by decide +kernel
theorem s145_57 {v0 v1 v3 : Value} {l1 : Int32} {st : List Value} {im : IM} {rm : RM}  : ev 145 57 [v0, v1, .int l1, v3] st im rm = ev 145 58 [v0, v1, .int l1, v3] (.int l1 :: st) (im) (rm) := ev_iload_n pm_m145 d145_57 rfl rfl
theorem d145_58 : decode prog_10_method_43_code 58 = .ok (.iastore, 1) := by decide +kernel
theorem s145_58 {v0 v1 v2 v3 : Value} {a : Nat} {i : Int32} {v : Int32} {st : List Value} {im : IM} {rm : RM} (hk : kd a = 0) (hi : pm_in i (ln a) = true) : ev 145 58 [v0, v1, v2, v3] (.int v :: .int i :: .ref a :: st) im rm = ev 145 59 [v0, v1, v2, v3] st (pm_w2 im a i.toNatClampNeg v) (rm) := ev_iast pm_m145 d145_58 hk hi rfl
theorem d145_59 : decode prog_10_method_43_code 59 = .ok (.aload_n 0, 1) := by decide +kernel
theorem s145_59 {v1 v2 v3 : Value} {l1 : Nat} {st : List Value} {im : IM} {rm : RM}  : ev 145 59 [.ref l1, v1, v2, v3] st im rm = ev 145 60 [.ref l1, v1, v2, v3] (.ref l1 :: st) (im) (rm) := ev_aload_n pm_m145 d145_59 rfl rfl
theorem d145_60 : decode prog_10_method_43_code 60 = .ok (.getfield 76, 3) := by decide +kernel
theorem s145_60 {v0 v1 v2 v3 : Value} {a : Nat} {st : List Value} {im : IM} {rm : RM} (hk : kd a = 18) : ev 145 60 [v0, v1, v2, v3] (.ref a :: st) im rm = ev 145 63 [v0, v1, v2, v3] (pm_ro (rm a 23) :: st) (im) (rm) := ev_getR pm_m145 d145_60 f8_76 rfl hk rfl
theorem d145_63 : decode prog_10_method_43_code 63 = .ok (.aload_n 0, 1) := by decide +kernel
theorem s145_63 {v1 v2 v3 : Value} {l1 : Nat} {st : List Value} {im : IM} {rm : RM}  : ev 145 63 [.ref l1, v1, v2, v3] st im rm = ev 145 64 [.ref l1, v1, v2, v3] (.ref l1 :: st) (im) (rm) := ev_aload_n pm_m145 d145_63 rfl rfl
theorem d145_64 : decode prog_10_method_43_code 64 = .ok (.getfield 283, 3) := by decide +kernel
theorem s145_64 {v0 v1 v2 v3 : Value} {a : Nat} {st : List Value} {im : IM} {rm : RM} (hk : kd a = 18) : ev 145 64 [v0, v1, v2, v3] (.ref a :: st) im rm = ev 145 67 [v0, v1, v2, v3] (.int (im a 24) :: st) (im) (rm) := ev_getI pm_m145 d145_64 f8_283 rfl hk rfl
theorem d145_67 : decode prog_10_method_43_code 67 = .ok (.iload_n 3, 1) := by decide +kernel
theorem s145_67 {v0 v1 v2 : Value} {l1 : Int32} {st : List Value} {im : IM} {rm : RM}  : ev 145 67 [v0, v1, v2, .int l1] st im rm = ev 145 68 [v0, v1, v2, .int l1] (.int l1 :: st) (im) (rm) := ev_iload_n pm_m145 d145_67 rfl rfl
theorem d145_68 : decode prog_10_method_43_code 68 = .ok (.iastore, 1) := by decide +kernel
theorem s145_68 {v0 v1 v2 v3 : Value} {a : Nat} {i : Int32} {v : Int32} {st : List Value} {im : IM} {rm : RM} (hk : kd a = 0) (hi : pm_in i (ln a) = true) : ev 145 68 [v0, v1, v2, v3] (.int v :: .int i :: .ref a :: st) im rm = ev 145 69 [v0, v1, v2, v3] st (pm_w2 im a i.toNatClampNeg v) (rm) := ev_iast pm_m145 d145_68 hk hi rfl
theorem d145_69 : decode prog_10_method_43_code 69 = .ok (.aload_n 0, 1) := by decide +kernel
theorem s145_69 {v1 v2 v3 : Value} {l1 : Nat} {st : List Value} {im : IM} {rm : RM}  : ev 145 69 [.ref l1, v1, v2, v3] st im rm = ev 145 70 [.ref l1, v1, v2, v3] (.ref l1 :: st) (im) (rm) := ev_aload_n pm_m145 d145_69 rfl rfl
theorem d145_70 : decode prog_10_method_43_code 70 = .ok (.dup, 1) := by decide +kernel
theorem s145_70 {v0 v1 v2 v3 : Value} {x1 : Nat} {st : List Value} {im : IM} {rm : RM}  : ev 145 70 [v0, v1, v2, v3] (.ref x1 :: st) im rm = ev 145 71 [v0, v1, v2, v3] (.ref x1 :: .ref x1 :: st) (im) (rm) := ev_dupA pm_m145 d145_70 rfl
theorem d145_71 : decode prog_10_method_43_code 71 = .ok (.getfield 283, 3) := by decide +kernel
theorem s145_71 {v0 v1 v2 v3 : Value} {a : Nat} {st : List Value} {im : IM} {rm : RM} (hk : kd a = 18) : ev 145 71 [v0, v1, v2, v3] (.ref a :: st) im rm = ev 145 74 [v0, v1, v2, v3] (.int (im a 24) :: st) (im) (rm) := ev_getI pm_m145 d145_71 f8_283 rfl hk rfl
theorem d145_74 : decode prog_10_method_43_code 74 = .ok (.iconst 1, 1) := by decide +kernel
theorem s145_74 {v0 v1 v2 v3 : Value}  {st : List Value} {im : IM} {rm : RM}  : ev 145 74 [v0, v1, v2, v3] st im rm = ev 145 75 [v0, v1, v2, v3] (.int (nI 1) :: st) (im) (rm) := ev_iconst pm_m145 d145_74 rfl rfl
theorem d145_75 : decode prog_10_method_43_code 75 = .ok (.iadd, 1) := by decide +kernel
theorem s145_75 {v0 v1 v2 v3 : Value} {x : Int32} {y : Int32} {st : List Value} {im : IM} {rm : RM}  : ev 145 75 [v0, v1, v2, v3] (.int y :: .int x :: st) im rm = ev 145 76 [v0, v1, v2, v3] (.int (x + y) :: st) (im) (rm) := ev_iadd pm_m145 d145_75 rfl
theorem d145_76 : decode prog_10_method_43_code 76 = .ok (.putfield 283, 3) := by decide +kernel
theorem s145_76 {v0 v1 v2 v3 : Value} {a : Nat} {v : Int32} {st : List Value} {im : IM} {rm : RM} (hk : kd a = 18) : ev 145 76 [v0, v1, v2, v3] (.int v :: .ref a :: st) im rm = ev 145 79 [v0, v1, v2, v3] st (pm_w2 im a 24 v) (rm) := ev_putI pm_m145 d145_76 f8_283 rfl rfl hk rfl
theorem d145_79 : decode prog_10_method_43_code 79 = .ok (.aload_n 0, 1) := by decide +kernel
theorem s145_79 {v1 v2 v3 : Value} {l1 : Nat} {st : List Value} {im : IM} {rm : RM}  : ev 145 79 [.ref l1, v1, v2, v3] st im rm = ev 145 80 [.ref l1, v1, v2, v3] (.ref l1 :: st) (im) (rm) := ev_aload_n pm_m145 d145_79 rfl rfl
theorem d145_80 : decode prog_10_method_43_code 80 = .ok (.getfield 283, 3) := by decide +kernel
theorem s145_80 {v0 v1 v2 v3 : Value} {a : Nat} {st : List Value} {im : IM} {rm : RM} (hk : kd a = 18) : ev 145 80 [v0, v1, v2, v3] (.ref a :: st) im rm = ev 145 83 [v0, v1, v2, v3] (.int (im a 24) :: st) (im) (rm) := ev_getI pm_m145 d145_80 f8_283 rfl hk rfl
theorem d145_83 : decode prog_10_method_43_code 83 = .ok (.ireturn, 1) := by decide +kernel
theorem s145_83 {v0 v1 v2 v3 : Value} {x : Int32} {im : IM} {rm : RM} : ev 145 83 [v0, v1, v2, v3] [.int x] im rm = some (some (.int x), im, rm) := ev_ireturn pm_m145 d145_83 rfl
theorem d146_0 : decode prog_10_method_44_code 0 = .ok (.iconst 0, 1) := by decide +kernel
theorem s146_0 {v0 v1 v2 v3 v4 : Value}  {st : List Value} {im : IM} {rm : RM}  : ev 146 0 [v0, v1, v2, v3, v4] st im rm = ev 146 1 [v0, v1, v2, v3, v4] (.int (nI 0) :: st) (im) (rm) := ev_iconst pm_m146 d146_0 rfl rfl
theorem d146_1 : decode prog_10_method_44_code 1 = .ok (.istore_n 2, 1) := by decide +kernel
theorem s146_1 {v0 v2 v3 v4 : Value} {l1 : Int32} {x2 : Int32} {st : List Value} {im : IM} {rm : RM}  : ev 146 1 [v0, .int l1, v2, v3, v4] (.int x2 :: st) im rm = ev 146 2 [v0, .int l1, .int x2, pm_u, pm_u] st (im) (rm) := ev_istore_n pm_m146 d146_1 (Nat.le_of_ble_eq_true rfl) rfl rfl
theorem d146_2 : decode prog_10_method_44_code 2 = .ok (.iload_n 2, 1) := by decide +kernel
theorem s146_2 {v0 v1 v3 v4 : Value} {l1 : Int32} {st : List Value} {im : IM} {rm : RM}  : ev 146 2 [v0, v1, .int l1, v3, v4] st im rm = ev 146 3 [v0, v1, .int l1, v3, v4] (.int l1 :: st) (im) (rm) := ev_iload_n pm_m146 d146_2 rfl rfl
theorem d146_3 : decode prog_10_method_44_code 3 = .ok (.aload_n 0, 1) := by decide +kernel
theorem s146_3 {v1 v2 v3 v4 : Value} {l1 : Nat} {st : List Value} {im : IM} {rm : RM}  : ev 146 3 [.ref l1, v1, v2, v3, v4] st im rm = ev 146 4 [.ref l1, v1, v2, v3, v4] (.ref l1 :: st) (im) (rm) := ev_aload_n pm_m146 d146_3 rfl rfl
theorem d146_4 : decode prog_10_method_44_code 4 = .ok (.getfield 283, 3) := by decide +kernel
theorem s146_4 {v0 v1 v2 v3 v4 : Value} {a : Nat} {st : List Value} {im : IM} {rm : RM} (hk : kd a = 18) : ev 146 4 [v0, v1, v2, v3, v4] (.ref a :: st) im rm = ev 146 7 [v0, v1, v2, v3, v4] (.int (im a 24) :: st) (im) (rm) := ev_getI pm_m146 d146_4 f8_283 rfl hk rfl
theorem d146_7 : decode prog_10_method_44_code 7 = .ok (.if_icmp .ge 85, 3) := by decide +kernel
theorem s146_7 {v0 v1 v2 v3 v4 : Value} {x : Int32} {y : Int32} {st : List Value} {im : IM} {rm : RM} : ev 146 7 [v0, v1, v2, v3, v4] (.int y :: .int x :: st) im rm = if y ≤ x then ev 146 92 [pm_u, pm_u, pm_u, pm_u, pm_u] st im rm else ev 146 10 [v0, v1, v2, v3, v4] st im rm := ev_icmp_ge pm_m146 d146_7 rfl rfl rfl
theorem d146_10 : decode prog_10_method_44_code 10 = .ok (.aload_n 0, 1) := by decide +kernel
theorem s146_10 {v1 v2 v3 v4 : Value} {l1 : Nat} {st : List Value} {im : IM} {rm : RM}  : ev 146 10 [.ref l1, v1, v2, v3, v4] st im rm = ev 146 11 [.ref l1, v1, v2, v3, v4] (.ref l1 :: st) (im) (rm) := ev_aload_n pm_m146 d146_10 rfl rfl
theorem d146_11 : decode prog_10_method_44_code 11 = .ok (.aload_n 0, 1) := by decide +kernel
theorem s146_11 {v1 v2 v3 v4 : Value} {l1 : Nat} {st : List Value} {im : IM} {rm : RM}  : ev 146 11 [.ref l1, v1, v2, v3, v4] st im rm = ev 146 12 [.ref l1, v1, v2, v3, v4] (.ref l1 :: st) (im) (rm) := ev_aload_n pm_m146 d146_11 rfl rfl
theorem d146_12 : decode prog_10_method_44_code 12 = .ok (.getfield 70, 3) := by decide +kernel
theorem s146_12 {v0 v1 v2 v3 v4 : Value} {a : Nat} {st : List Value} {im : IM} {rm : RM} (hk : kd a = 18) : ev 146 12 [v0, v1, v2, v3, v4] (.ref a :: st) im rm = ev 146 15 [v0, v1, v2, v3, v4] (pm_ro (rm a 21) :: st) (im) (rm) := ev_getR pm_m146 d146_12 f8_70 rfl hk rfl
theorem d146_15 : decode prog_10_method_44_code 15 = .ok (.iload_n 2, 1) := by decide +kernel
theorem s146_15 {v0 v1 v3 v4 : Value} {l1 : Int32} {st : List Value} {im : IM} {rm : RM}  : ev 146 15 [v0, v1, .int l1, v3, v4] st im rm = ev 146 16 [v0, v1, .int l1, v3, v4] (.int l1 :: st) (im) (rm) := ev_iload_n pm_m146 d146_15 rfl rfl
theorem d146_16 : decode prog_10_method_44_code 16 = .ok (.iaload, 1) := by decide +kernel
theorem s146_16 {v0 v1 v2 v3 v4 : Value} {a : Nat} {i : Int32} {st : List Value} {im : IM} {rm : RM} (hk : kd a = 0) (hi : pm_in i (ln a) = true) : ev 146 16 [v0, v1, v2, v3, v4] (.int i :: .ref a :: st) im rm = ev 146 17 [v0, v1, v2, v3, v4] (.int (im a i.toNatClampNeg) :: st) (im) (rm) := ev_iald pm_m146 d146_16 hk hi rfl
theorem d146_17 : decode prog_10_method_44_code 17 = .ok (.aload_n 0, 1) := by decide +kernel
theorem s146_17 {v1 v2 v3 v4 : Value} {l1 : Nat} {st : List Value} {im : IM} {rm : RM}  : ev 146 17 [.ref l1, v1, v2, v3, v4] st im rm = ev 146 18 [.ref l1, v1, v2, v3, v4] (.ref l1 :: st) (im) (rm) := ev_aload_n pm_m146 d146_17 rfl rfl
theorem d146_18 : decode prog_10_method_44_code 18 = .ok (.getfield 73, 3) := by decide +kernel
theorem s146_18 {v0 v1 v2 v3 v4 : Value} {a : Nat} {st : List Value} {im : IM} {rm : RM} (hk : kd a = 18) : ev 146 18 [v0, v1, v2, v3, v4] (.ref a :: st) im rm = ev 146 21 [v0, v1, v2, v3, v4] (pm_ro (rm a 22) :: st) (im) (rm) := ev_getR pm_m146 d146_18 f8_73 rfl hk rfl
theorem d146_21 : decode prog_10_method_44_code 21 = .ok (.iload_n 2, 1) := by decide +kernel
theorem s146_21 {v0 v1 v3 v4 : Value} {l1 : Int32} {st : List Value} {im : IM} {rm : RM}  : ev 146 21 [v0, v1, .int l1, v3, v4] st im rm = ev 146 22 [v0, v1, .int l1, v3, v4] (.int l1 :: st) (im) (rm) := ev_iload_n pm_m146 d146_21 rfl rfl
theorem d146_22 : decode prog_10_method_44_code 22 = .ok (.iaload, 1) := by decide +kernel
theorem s146_22 {v0 v1 v2 v3 v4 : Value} {a : Nat} {i : Int32} {st : List Value} {im : IM} {rm : RM} (hk : kd a = 0) (hi : pm_in i (ln a) = true) : ev 146 22 [v0, v1, v2, v3, v4] (.int i :: .ref a :: st) im rm = ev 146 23 [v0, v1, v2, v3, v4] (.int (im a i.toNatClampNeg) :: st) (im) (rm) := ev_iald pm_m146 d146_22 hk hi rfl
theorem d146_23 : decode prog_10_method_44_code 23 = .ok (.invokevirtual 162, 3) := by decide +kernel
theorem s146_23 {v0 v1 v2 v3 v4 : Value} {a : Nat} {p1 : Int32} {p2 : Int32} {im : IM} {rm : RM} (hk : kd a = 18) : ev 146 23 [v0, v1, v2, v3, v4] [.int p2, .int p1, .ref a] im rm = (ev 108 0 [.ref a, .int p1, .int p2] [] im rm).bind (fun r => ev 146 26 [v0, v1, v2, v3, v4] (r.1.toList ++ []) r.2.1 r.2.2) := ev_callV pm_m146 d146_23 l8_162 rfl pm_m108 (by decide) hk rfl ⟨rfl, rfl⟩ rfl rfl
theorem d146_26 : decode prog_10_method_44_code 26 = .ok (.ifCond .ne 5, 3) := by decide +kernel
theorem s146_26 {v0 v1 v2 v3 v4 : Value} {x : Int32} {st : List Value} {im : IM} {rm : RM} : ev 146 26 [v0, v1, v2, v3, v4] (.int x :: st) im rm = if x = nI 0 then ev 146 29 [v0, v1, v2, v3, v4] st im rm else ev 146 31 [v0, v1, v2, pm_u, pm_u] st im rm := ev_if_ne (y := 0) pm_m146 d146_26 rfl rfl rfl
theorem d146_29 : decode prog_10_method_44_code 29 = .ok (.iconst 0, 1) := by decide +kernel
theorem s146_29 {v0 v1 v2 v3 v4 : Value}  {st : List Value} {im : IM} {rm : RM}  : ev 146 29 [v0, v1, v2, v3, v4] st im rm = ev 146 30 [v0, v1, v2, v3, v4] (.int (nI 0) :: st) (im) (rm) := ev_iconst pm_m146 d146_29 rfl rfl
theorem d146_30 : decode prog_10_method_44_code 30 = .ok (.ireturn, 1) := by decide +kernel
theorem s146_30 {v0 v1 v2 v3 v4 : Value} {x : Int32} {im : IM} {rm : RM} (hx : x = 0 ∨ x = 1) : ev 146 30 [v0, v1, v2, v3, v4] [.int x] im rm = some (some (.int x), im, rm) := ev_zreturn pm_m146 d146_30 rfl hx
theorem d146_31 : decode prog_10_method_44_code 31 = .ok (.aload_n 0, 1) := by decide +kernel
theorem s146_31 {v1 v2 v3 v4 : Value} {l1 : Nat} {st : List Value} {im : IM} {rm : RM}  : ev 146 31 [.ref l1, v1, v2, v3, v4] st im rm = ev 146 32 [.ref l1, v1, v2, v3, v4] (.ref l1 :: st) (im) (rm) := ev_aload_n pm_m146 d146_31 rfl rfl
theorem d146_32 : decode prog_10_method_44_code 32 = .ok (.iload_n 1, 1) := by decide +kernel
theorem s146_32 {v0 v2 v3 v4 : Value} {l1 : Int32} {st : List Value} {im : IM} {rm : RM}  : ev 146 32 [v0, .int l1, v2, v3, v4] st im rm = ev 146 33 [v0, .int l1, v2, v3, v4] (.int l1 :: st) (im) (rm) := ev_iload_n pm_m146 d146_32 rfl rfl
theorem d146_33 : decode prog_10_method_44_code 33 = .ok (.aload_n 0, 1) := by decide +kernel
theorem s146_33 {v1 v2 v3 v4 : Value} {l1 : Nat} {st : List Value} {im : IM} {rm : RM}  : ev 146 33 [.ref l1, v1, v2, v3, v4] st im rm = ev 146 34 [.ref l1, v1, v2, v3, v4] (.ref l1 :: st) (im) (rm) := ev_aload_n pm_m146 d146_33 rfl rfl
theorem d146_34 : decode prog_10_method_44_code 34 = .ok (.getfield 70, 3) := by decide +kernel
theorem s146_34 {v0 v1 v2 v3 v4 : Value} {a : Nat} {st : List Value} {im : IM} {rm : RM} (hk : kd a = 18) : ev 146 34 [v0, v1, v2, v3, v4] (.ref a :: st) im rm = ev 146 37 [v0, v1, v2, v3, v4] (pm_ro (rm a 21) :: st) (im) (rm) := ev_getR pm_m146 d146_34 f8_70 rfl hk rfl
theorem d146_37 : decode prog_10_method_44_code 37 = .ok (.iload_n 2, 1) := by decide +kernel
theorem s146_37 {v0 v1 v3 v4 : Value} {l1 : Int32} {st : List Value} {im : IM} {rm : RM}  : ev 146 37 [v0, v1, .int l1, v3, v4] st im rm = ev 146 38 [v0, v1, .int l1, v3, v4] (.int l1 :: st) (im) (rm) := ev_iload_n pm_m146 d146_37 rfl rfl
theorem d146_38 : decode prog_10_method_44_code 38 = .ok (.iaload, 1) := by decide +kernel
theorem s146_38 {v0 v1 v2 v3 v4 : Value} {a : Nat} {i : Int32} {st : List Value} {im : IM} {rm : RM} (hk : kd a = 0) (hi : pm_in i (ln a) = true) : ev 146 38 [v0, v1, v2, v3, v4] (.int i :: .ref a :: st) im rm = ev 146 39 [v0, v1, v2, v3, v4] (.int (im a i.toNatClampNeg) :: st) (im) (rm) := ev_iald pm_m146 d146_38 hk hi rfl
theorem d146_39 : decode prog_10_method_44_code 39 = .ok (.invokevirtual 263, 3) := by decide +kernel
theorem s146_39 {v0 v1 v2 v3 v4 : Value} {a : Nat} {p1 : Int32} {p2 : Int32} {im : IM} {rm : RM} (hk : kd a = 18) : ev 146 39 [v0, v1, v2, v3, v4] [.int p2, .int p1, .ref a] im rm = (ev 135 0 [.ref a, .int p1, .int p2, pm_u, pm_u, pm_u, pm_u, pm_u, pm_u] [] im rm).bind (fun r => ev 146 42 [v0, v1, v2, v3, v4] (r.1.toList ++ []) r.2.1 r.2.2) := ev_callV pm_m146 d146_39 l8_263 rfl pm_m135 (by decide) hk rfl ⟨rfl, rfl⟩ rfl rfl
theorem d146_42 : decode prog_10_method_44_code 42 = .ok (.iconst 0, 1) := by decide +kernel
theorem s146_42 {v0 v1 v2 v3 v4 : Value}  {st : List Value} {im : IM} {rm : RM}  : ev 146 42 [v0, v1, v2, v3, v4] st im rm = ev 146 43 [v0, v1, v2, v3, v4] (.int (nI 0) :: st) (im) (rm) := ev_iconst pm_m146 d146_42 rfl rfl
theorem d146_43 : decode prog_10_method_44_code 43 = .ok (.istore_n 3, 1) := by decide +kernel
theorem s146_43 {v0 v1 v3 v4 : Value} {l1 : Int32} {x2 : Int32} {st : List Value} {im : IM} {rm : RM}  : ev 146 43 [v0, v1, .int l1, v3, v4] (.int x2 :: st) im rm = ev 146 44 [v0, v1, .int l1, .int x2, v4] st (im) (rm) := ev_istore_n pm_m146 d146_43 (Nat.le_of_ble_eq_true rfl) rfl rfl
theorem d146_44 : decode prog_10_method_44_code 44 = .ok (.iconst 0, 1) := by decide +kernel
theorem s146_44 {v0 v1 v2 v3 v4 : Value}  {st : List Value} {im : IM} {rm : RM}  : ev 146 44 [v0, v1, v2, v3, v4] st im rm = ev 146 45 [v0, v1, v2, v3, v4] (.int (nI 0) :: st) (im) (rm) := ev_iconst pm_m146 d146_44 rfl rfl
theorem d146_45 : decode prog_10_method_44_code 45 = .ok (.istore 4, 2) := by decide +kernel
theorem s146_45 {v0 v1 v2 v4 : Value} {l1 : Int32} {x2 : Int32} {st : List Value} {im : IM} {rm : RM}  : ev 146 45 [v0, v1, v2, .int l1, v4] (.int x2 :: st) im rm = ev 146 47 [v0, v1, v2, .int l1, .int x2] st (im) (rm) := ev_istore pm_m146 d146_45 (Nat.le_of_ble_eq_true rfl) rfl rfl
theorem d146_47 : decode prog_10_method_44_code 47 = .ok (.iload 4, 2) := by decide +kernel
theorem s146_47 {v0 v1 v2 v3 : Value} {l1 : Int32} {st : List Value} {im : IM} {rm : RM}  : ev 146 47 [v0, v1, v2, v3, .int l1] st im rm = ev 146 49 [v0, v1, v2, v3, .int l1] (.int l1 :: st) (im) (rm) := ev_iload pm_m146 d146_47 rfl rfl
theorem d146_49 : decode prog_10_method_44_code 49 = .ok (.aload_n 0, 1) := by decide +kernel
theorem s146_49 {v1 v2 v3 v4 : Value} {l1 : Nat} {st : List Value} {im : IM} {rm : RM}  : ev 146 49 [.ref l1, v1, v2, v3, v4] st im rm = ev 146 50 [.ref l1, v1, v2, v3, v4] (.ref l1 :: st) (im) (rm) := ev_aload_n pm_m146 d146_49 rfl rfl
theorem d146_50 : decode prog_10_method_44_code 50 = .ok (.getfield 73, 3) := by decide +kernel
theorem s146_50 {v0 v1 v2 v3 v4 : Value} {a : Nat} {st : List Value} {im : IM} {rm : RM} (hk : kd a = 18) : ev 146 50 [v0, v1, v2, v3, v4] (.ref a :: st) im rm = ev 146 53 [v0, v1, v2, v3, v4] (pm_ro (rm a 22) :: st) (im) (rm) := ev_getR pm_m146 d146_50 f8_73 rfl hk rfl
theorem d146_53 : decode prog_10_method_44_code 53 = .ok (.iload_n 2, 1) := by decide +kernel
theorem s146_53 {v0 v1 v3 v4 : Value} {l1 : Int32} {st : List Value} {im : IM} {rm : RM}  : ev 146 53 [v0, v1, .int l1, v3, v4] st im rm = ev 146 54 [v0, v1, .int l1, v3, v4] (.int l1 :: st) (im) (rm) := ev_iload_n pm_m146 d146_53 rfl rfl
theorem d146_54 : decode prog_10_method_44_code 54 = .ok (.iaload, 1) := by decide +kernel
theorem s146_54 {v0 v1 v2 v3 v4 : Value} {a : Nat} {i : Int32} {st : List Value} {im : IM} {rm : RM} (hk : kd a = 0) (hi : pm_in i (ln a) = true) : ev 146 54 [v0, v1, v2, v3, v4] (.int i :: .ref a :: st) im rm = ev 146 55 [v0, v1, v2, v3, v4] (.int (im a i.toNatClampNeg) :: st) (im) (rm) := ev_iald pm_m146 d146_54 hk hi rfl
theorem d146_55 : decode prog_10_method_44_code 55 = .ok (.if_icmp .gt 19, 3) := by decide +kernel
theorem s146_55 {v0 v1 v2 v3 v4 : Value} {x : Int32} {y : Int32} {st : List Value} {im : IM} {rm : RM} : ev 146 55 [v0, v1, v2, v3, v4] (.int y :: .int x :: st) im rm = if y < x then ev 146 74 [v0, v1, v2, v3, pm_u] st im rm else ev 146 58 [v0, v1, v2, v3, v4] st im rm := ev_icmp_gt pm_m146 d146_55 rfl rfl rfl
theorem d146_58 : decode prog_10_method_44_code 58 = .ok (.iload_n 3, 1) := by decide +kernel
theorem s146_58 {v0 v1 v2 v4 : Value} {l1 : Int32} {st : List Value} {im : IM} {rm : RM}  : ev 146 58 [v0, v1, v2, .int l1, v4] st im rm = ev 146 59 [v0, v1, v2, .int l1, v4] (.int l1 :: st) (im) (rm) := ev_iload_n pm_m146 d146_58 rfl rfl
theorem d146_59 : decode prog_10_method_44_code 59 = .ok (.aload_n 0, 1) := by decide +kernel
theorem s146_59 {v1 v2 v3 v4 : Value} {l1 : Nat} {st : List Value} {im : IM} {rm : RM}  : ev 146 59 [.ref l1, v1, v2, v3, v4] st im rm = ev 146 60 [.ref l1, v1, v2, v3, v4] (.ref l1 :: st) (im) (rm) := ev_aload_n pm_m146 d146_59 rfl rfl
theorem d146_60 : decode prog_10_method_44_code 60 = .ok (.getfield 106, 3) := by decide +kernel
theorem s146_60 {v0 v1 v2 v3 v4 : Value} {a : Nat} {st : List Value} {im : IM} {rm : RM} (hk : kd a = 18) : ev 146 60 [v0, v1, v2, v3, v4] (.ref a :: st) im rm = ev 146 63 [v0, v1, v2, v3, v4] (pm_ro (rm a 40) :: st) (im) (rm) := ev_getR pm_m146 d146_60 f8_106 rfl hk rfl
theorem d146_63 : decode prog_10_method_44_code 63 = .ok (.iload 4, 2) := by decide +kernel
theorem s146_63 {v0 v1 v2 v3 : Value} {l1 : Int32} {st : List Value} {im : IM} {rm : RM}  : ev 146 63 [v0, v1, v2, v3, .int l1] st im rm = ev 146 65 [v0, v1, v2, v3, .int l1] (.int l1 :: st) (im) (rm) := ev_iload pm_m146 d146_63 rfl rfl
theorem d146_65 : decode prog_10_method_44_code 65 = .ok (.iaload, 1) := by decide +kernel
theorem s146_65 {v0 v1 v2 v3 v4 : Value} {a : Nat} {i : Int32} {st : List Value} {im : IM} {rm : RM} (hk : kd a = 0) (hi : pm_in i (ln a) = true) : ev 146 65 [v0, v1, v2, v3, v4] (.int i :: .ref a :: st) im rm = ev 146 66 [v0, v1, v2, v3, v4] (.int (im a i.toNatClampNeg) :: st) (im) (rm) := ev_iald pm_m146 d146_65 hk hi rfl
theorem d146_66 : decode prog_10_method_44_code 66 = .ok (.iadd, 1) := by decide +kernel
theorem s146_66 {v0 v1 v2 v3 v4 : Value} {x : Int32} {y : Int32} {st : List Value} {im : IM} {rm : RM}  : ev 146 66 [v0, v1, v2, v3, v4] (.int y :: .int x :: st) im rm = ev 146 67 [v0, v1, v2, v3, v4] (.int (x + y) :: st) (im) (rm) := ev_iadd pm_m146 d146_66 rfl
theorem d146_67 : decode prog_10_method_44_code 67 = .ok (.istore_n 3, 1) := by decide +kernel
theorem s146_67 {v0 v1 v3 v4 : Value} {l1 : Int32} {x2 : Int32} {st : List Value} {im : IM} {rm : RM}  : ev 146 67 [v0, v1, .int l1, v3, v4] (.int x2 :: st) im rm = ev 146 68 [v0, v1, .int l1, .int x2, v4] st (im) (rm) := ev_istore_n pm_m146 d146_67 (Nat.le_of_ble_eq_true rfl) rfl rfl
theorem d146_68 : decode prog_10_method_44_code 68 = .ok (.iinc 4 1, 3) := by decide +kernel
theorem s146_68 {v0 v1 v2 : Value} {l1 : Int32} {l2 : Int32} {st : List Value} {im : IM} {rm : RM}  : ev 146 68 [v0, v1, v2, .int l1, .int l2] st im rm = ev 146 71 [v0, v1, v2, .int l1, .int (l2 + nI 1)] st (im) (rm) := ev_iinc pm_m146 d146_68 rfl rfl rfl rfl
theorem d146_71 : decode prog_10_method_44_code 71 = .ok (.goto (-24), 3) := by decide +kernel
theorem s146_71 {v0 v1 v2 v3 v4 : Value}  {st : List Value} {im : IM} {rm : RM}  : ev 146 71 [v0, v1, v2, v3, v4] st im rm = ev 146 47 [v0, v1, v2, v3, v4] st (im) (rm) := ev_goto pm_m146 d146_71 rfl rfl
theorem d146_74 : decode prog_10_method_44_code 74 = .ok (.iload_n 3, 1) := by decide +kernel
theorem s146_74 {v0 v1 v2 v4 : Value} {l1 : Int32} {st : List Value} {im : IM} {rm : RM}  : ev 146 74 [v0, v1, v2, .int l1, v4] st im rm = ev 146 75 [v0, v1, v2, .int l1, v4] (.int l1 :: st) (im) (rm) := ev_iload_n pm_m146 d146_74 rfl rfl
theorem d146_75 : decode prog_10_method_44_code 75 = .ok (.aload_n 0, 1) := by decide +kernel
theorem s146_75 {v1 v2 v3 v4 : Value} {l1 : Nat} {st : List Value} {im : IM} {rm : RM}  : ev 146 75 [.ref l1, v1, v2, v3, v4] st im rm = ev 146 76 [.ref l1, v1, v2, v3, v4] (.ref l1 :: st) (im) (rm) := ev_aload_n pm_m146 d146_75 rfl rfl
theorem d146_76 : decode prog_10_method_44_code 76 = .ok (.getfield 76, 3) := by decide +kernel
theorem s146_76 {v0 v1 v2 v3 v4 : Value} {a : Nat} {st : List Value} {im : IM} {rm : RM} (hk : kd a = 18) : ev 146 76 [v0, v1, v2, v3, v4] (.ref a :: st) im rm = ev 146 79 [v0, v1, v2, v3, v4] (pm_ro (rm a 23) :: st) (im) (rm) := ev_getR pm_m146 d146_76 f8_76 rfl hk rfl
theorem d146_79 : decode prog_10_method_44_code 79 = .ok (.iload_n 2, 1) := by decide +kernel
theorem s146_79 {v0 v1 v3 v4 : Value} {l1 : Int32} {st : List Value} {im : IM} {rm : RM}  : ev 146 79 [v0, v1, .int l1, v3, v4] st im rm = ev 146 80 [v0, v1, .int l1, v3, v4] (.int l1 :: st) (im) (rm) := ev_iload_n pm_m146 d146_79 rfl rfl
theorem d146_80 : decode prog_10_method_44_code 80 = .ok (.iaload, 1) := by decide +kernel
theorem s146_80 {v0 v1 v2 v3 v4 : Value} {a : Nat} {i : Int32} {st : List Value} {im : IM} {rm : RM} (hk : kd a = 0) (hi : pm_in i (ln a) = true) : ev 146 80 [v0, v1, v2, v3, v4] (.int i :: .ref a :: st) im rm = ev 146 81 [v0, v1, v2, v3, v4] (.int (im a i.toNatClampNeg) :: st) (im) (rm) := ev_iald pm_m146 d146_80 hk hi rfl
theorem d146_81 : decode prog_10_method_44_code 81 = .ok (.if_icmp .eq 5, 3) := by decide +kernel
theorem s146_81 {v0 v1 v2 v3 v4 : Value} {x : Int32} {y : Int32} {st : List Value} {im : IM} {rm : RM} : ev 146 81 [v0, v1, v2, v3, v4] (.int y :: .int x :: st) im rm = if x = y then ev 146 86 [v0, v1, v2, pm_u, pm_u] st im rm else ev 146 84 [v0, v1, v2, v3, v4] st im rm := ev_icmp_eq pm_m146 d146_81 rfl rfl rfl
theorem d146_84 : decode prog_10_method_44_code 84 = .ok (.iconst 0, 1) := by decide +kernel
theorem s146_84 {v0 v1 v2 v3 v4 : Value}  {st : List Value} {im : IM} {rm : RM}  : ev 146 84 [v0, v1, v2, v3, v4] st im rm = ev 146 85 [v0, v1, v2, v3, v4] (.int (nI 0) :: st) (im) (rm) := ev_iconst pm_m146 d146_84 rfl rfl
theorem d146_85 : decode prog_10_method_44_code 85 = .ok (.ireturn, 1) := by decide +kernel
theorem s146_85 {v0 v1 v2 v3 v4 : Value} {x : Int32} {im : IM} {rm : RM} (hx : x = 0 ∨ x = 1) : ev 146 85 [v0, v1, v2, v3, v4] [.int x] im rm = some (some (.int x), im, rm) := ev_zreturn pm_m146 d146_85 rfl hx
theorem d146_86 : decode prog_10_method_44_code 86 = .ok (.iinc 2 1, 3) := by decide +kernel
theorem s146_86 {v0 v3 v4 : Value} {l1 : Int32} {l2 : Int32} {st : List Value} {im : IM} {rm : RM}  : ev 146 86 [v0, .int l1, .int l2, v3, v4] st im rm = ev 146 89 [v0, .int l1, .int (l2 + nI 1), v3, v4] st (im) (rm) := ev_iinc pm_m146 d146_86 rfl rfl rfl rfl
theorem d146_89 : decode prog_10_method_44_code 89 = .ok (.goto (-87), 3) := by decide +kernel
theorem s146_89 {v0 v1 v2 v3 v4 : Value}  {st : List Value} {im : IM} {rm : RM}  : ev 146 89 [v0, v1, v2, v3, v4] st im rm = ev 146 2 [v0, v1, v2, pm_u, pm_u] st (im) (rm) := ev_goto pm_m146 d146_89 rfl rfl
theorem d146_92 : decode prog_10_method_44_code 92 = .ok (.iconst 1, 1) := by decide +kernel
theorem s146_92 {v0 v1 v2 v3 v4 : Value}  {st : List Value} {im : IM} {rm : RM}  : ev 146 92 [v0, v1, v2, v3, v4] st im rm = ev 146 93 [v0, v1, v2, v3, v4] (.int (nI 1) :: st) (im) (rm) := ev_iconst pm_m146 d146_92 rfl rfl
theorem d146_93 : decode prog_10_method_44_code 93 = .ok (.ireturn, 1) := by decide +kernel
theorem s146_93 {v0 v1 v2 v3 v4 : Value} {x : Int32} {im : IM} {rm : RM} (hx : x = 0 ∨ x = 1) : ev 146 93 [v0, v1, v2, v3, v4] [.int x] im rm = some (some (.int x), im, rm) := ev_zreturn pm_m146 d146_93 rfl hx
theorem d147_0 : decode prog_10_method_45_code 0 = .ok (.iconst 0, 1) := by decide +kernel
theorem s147_0 {v0 v1 v2 : Value}  {st : List Value} {im : IM} {rm : RM}  : ev 147 0 [v0, v1, v2] st im rm = ev 147 1 [v0, v1, v2] (.int (nI 0) :: st) (im) (rm) := ev_iconst pm_m147 d147_0 rfl rfl
theorem d147_1 : decode prog_10_method_45_code 1 = .ok (.istore_n 1, 1) := by decide +kernel
theorem s147_1 {v1 v2 : Value} {l1 : Nat} {x2 : Int32} {st : List Value} {im : IM} {rm : RM}  : ev 147 1 [.ref l1, v1, v2] (.int x2 :: st) im rm = ev 147 2 [.ref l1, .int x2, v2] st (im) (rm) := ev_istore_n pm_m147 d147_1 (Nat.le_of_ble_eq_true rfl) rfl rfl
theorem d147_2 : decode prog_10_method_45_code 2 = .ok (.iconst 0, 1) := by decide +kernel
theorem s147_2 {v0 v1 v2 : Value}  {st : List Value} {im : IM} {rm : RM}  : ev 147 2 [v0, v1, v2] st im rm = ev 147 3 [v0, v1, v2] (.int (nI 0) :: st) (im) (rm) := ev_iconst pm_m147 d147_2 rfl rfl
theorem d147_3 : decode prog_10_method_45_code 3 = .ok (.istore_n 2, 1) := by decide +kernel
theorem s147_3 {v0 v2 : Value} {l1 : Int32} {x2 : Int32} {st : List Value} {im : IM} {rm : RM}  : ev 147 3 [v0, .int l1, v2] (.int x2 :: st) im rm = ev 147 4 [v0, .int l1, .int x2] st (im) (rm) := ev_istore_n pm_m147 d147_3 (Nat.le_of_ble_eq_true rfl) rfl rfl
theorem d147_4 : decode prog_10_method_45_code 4 = .ok (.iload_n 2, 1) := by decide +kernel
theorem s147_4 {v0 v1 : Value} {l1 : Int32} {st : List Value} {im : IM} {rm : RM}  : ev 147 4 [v0, v1, .int l1] st im rm = ev 147 5 [v0, v1, .int l1] (.int l1 :: st) (im) (rm) := ev_iload_n pm_m147 d147_4 rfl rfl
theorem d147_5 : decode prog_10_method_45_code 5 = .ok (.iconst 4, 1) := by decide +kernel
theorem s147_5 {v0 v1 v2 : Value}  {st : List Value} {im : IM} {rm : RM}  : ev 147 5 [v0, v1, v2] st im rm = ev 147 6 [v0, v1, v2] (.int (nI 4) :: st) (im) (rm) := ev_iconst pm_m147 d147_5 rfl rfl
theorem d147_6 : decode prog_10_method_45_code 6 = .ok (.if_icmp .ge 27, 3) := by decide +kernel
theorem s147_6 {v0 v1 v2 : Value} {x : Int32} {y : Int32} {st : List Value} {im : IM} {rm : RM} : ev 147 6 [v0, v1, v2] (.int y :: .int x :: st) im rm = if y ≤ x then ev 147 33 [pm_u, v1, pm_u] st im rm else ev 147 9 [v0, v1, v2] st im rm := ev_icmp_ge pm_m147 d147_6 rfl rfl rfl
theorem d147_9 : decode prog_10_method_45_code 9 = .ok (.iload_n 1, 1) := by decide +kernel
theorem s147_9 {v0 v2 : Value} {l1 : Int32} {st : List Value} {im : IM} {rm : RM}  : ev 147 9 [v0, .int l1, v2] st im rm = ev 147 10 [v0, .int l1, v2] (.int l1 :: st) (im) (rm) := ev_iload_n pm_m147 d147_9 rfl rfl
theorem d147_10 : decode prog_10_method_45_code 10 = .ok (.aload_n 0, 1) := by decide +kernel
theorem s147_10 {v1 v2 : Value} {l1 : Nat} {st : List Value} {im : IM} {rm : RM}  : ev 147 10 [.ref l1, v1, v2] st im rm = ev 147 11 [.ref l1, v1, v2] (.ref l1 :: st) (im) (rm) := ev_aload_n pm_m147 d147_10 rfl rfl
theorem d147_11 : decode prog_10_method_45_code 11 = .ok (.iload_n 2, 1) := by decide +kernel
theorem s147_11 {v0 v1 : Value} {l1 : Int32} {st : List Value} {im : IM} {rm : RM}  : ev 147 11 [v0, v1, .int l1] st im rm = ev 147 12 [v0, v1, .int l1] (.int l1 :: st) (im) (rm) := ev_iload_n pm_m147 d147_11 rfl rfl
theorem d147_12 : decode prog_10_method_45_code 12 = .ok (.invokevirtual 286, 3) := by decide +kernel
theorem s147_12 {v0 v1 v2 : Value} {a : Nat} {p1 : Int32} {r2 : Int32} {im : IM} {rm : RM} (hk : kd a = 18) : ev 147 12 [v0, v1, v2] [.int p1, .ref a, .int r2] im rm = (ev 146 0 [.ref a, .int p1, pm_u, pm_u, pm_u] [] im rm).bind (fun r => ev 147 15 [v0, v1, v2] (r.1.toList ++ [.int r2]) r.2.1 r.2.2) := ev_callV pm_m147 d147_12 l8_286 rfl pm_m146 (by decide) hk rfl ⟨rfl, rfl⟩ rfl rfl
theorem d147_15 : decode prog_10_method_45_code 15 = .ok (.ifCond .eq 9, 3) := by decide +kernel
theorem s147_15 {v0 v1 v2 : Value} {x : Int32} {st : List Value} {im : IM} {rm : RM} : ev 147 15 [v0, v1, v2] (.int x :: st) im rm = if x = nI 0 then ev 147 24 [v0, pm_u, v2] st im rm else ev 147 18 [v0, v1, v2] st im rm := ev_if_eq (y := 0) pm_m147 d147_15 rfl rfl rfl
theorem d147_18 : decode prog_10_method_45_code 18 = .ok (.iconst 1, 1) := by decide +kernel
theorem s147_18 {v0 v1 v2 : Value}  {st : List Value} {im : IM} {rm : RM}  : ev 147 18 [v0, v1, v2] st im rm = ev 147 19 [v0, v1, v2] (.int (nI 1) :: st) (im) (rm) := ev_iconst pm_m147 d147_18 rfl rfl
theorem d147_19 : decode prog_10_method_45_code 19 = .ok (.iload_n 2, 1) := by decide +kernel
theorem s147_19 {v0 v1 : Value} {l1 : Int32} {st : List Value} {im : IM} {rm : RM}  : ev 147 19 [v0, v1, .int l1] st im rm = ev 147 20 [v0, v1, .int l1] (.int l1 :: st) (im) (rm) := ev_iload_n pm_m147 d147_19 rfl rfl
theorem d147_20 : decode prog_10_method_45_code 20 = .ok (.ishl, 1) := by decide +kernel
theorem s147_20 {v0 v1 v2 : Value} {x : Int32} {y : Int32} {st : List Value} {im : IM} {rm : RM}  : ev 147 20 [v0, v1, v2] (.int y :: .int x :: st) im rm = ev 147 21 [v0, v1, v2] (.int (x <<< (y &&& 31)) :: st) (im) (rm) := ev_ishl pm_m147 d147_20 rfl
theorem d147_21 : decode prog_10_method_45_code 21 = .ok (.goto 4, 3) := by decide +kernel
theorem s147_21 {v0 v1 v2 : Value}  {st : List Value} {im : IM} {rm : RM}  : ev 147 21 [v0, v1, v2] st im rm = ev 147 25 [v0, pm_u, v2] st (im) (rm) := ev_goto pm_m147 d147_21 rfl rfl
theorem d147_24 : decode prog_10_method_45_code 24 = .ok (.iconst 0, 1) := by decide +kernel
theorem s147_24 {v0 v1 v2 : Value}  {st : List Value} {im : IM} {rm : RM}  : ev 147 24 [v0, v1, v2] st im rm = ev 147 25 [v0, pm_u, v2] (.int (nI 0) :: st) (im) (rm) := ev_iconst pm_m147 d147_24 rfl rfl
theorem d147_25 : decode prog_10_method_45_code 25 = .ok (.ior, 1) := by decide +kernel
theorem s147_25 {v0 v1 v2 : Value} {x : Int32} {y : Int32} {st : List Value} {im : IM} {rm : RM}  : ev 147 25 [v0, v1, v2] (.int y :: .int x :: st) im rm = ev 147 26 [v0, v1, v2] (.int (x ||| y) :: st) (im) (rm) := ev_ior pm_m147 d147_25 rfl
theorem d147_26 : decode prog_10_method_45_code 26 = .ok (.istore_n 1, 1) := by decide +kernel
theorem s147_26 {v1 v2 : Value} {l1 : Nat} {x2 : Int32} {st : List Value} {im : IM} {rm : RM}  : ev 147 26 [.ref l1, v1, v2] (.int x2 :: st) im rm = ev 147 27 [.ref l1, .int x2, v2] st (im) (rm) := ev_istore_n pm_m147 d147_26 (Nat.le_of_ble_eq_true rfl) rfl rfl
theorem d147_27 : decode prog_10_method_45_code 27 = .ok (.iinc 2 1, 3) := by decide +kernel
theorem s147_27 {v0 : Value} {l1 : Int32} {l2 : Int32} {st : List Value} {im : IM} {rm : RM}  : ev 147 27 [v0, .int l1, .int l2] st im rm = ev 147 30 [v0, .int l1, .int (l2 + nI 1)] st (im) (rm) := ev_iinc pm_m147 d147_27 rfl rfl rfl rfl
theorem d147_30 : decode prog_10_method_45_code 30 = .ok (.goto (-26), 3) := by decide +kernel
theorem s147_30 {v0 v1 v2 : Value}  {st : List Value} {im : IM} {rm : RM}  : ev 147 30 [v0, v1, v2] st im rm = ev 147 4 [v0, v1, v2] st (im) (rm) := ev_goto pm_m147 d147_30 rfl rfl
theorem d147_33 : decode prog_10_method_45_code 33 = .ok (.iload_n 1, 1) := by decide +kernel
theorem s147_33 {v0 v2 : Value} {l1 : Int32} {st : List Value} {im : IM} {rm : RM}  : ev 147 33 [v0, .int l1, v2] st im rm = ev 147 34 [v0, .int l1, v2] (.int l1 :: st) (im) (rm) := ev_iload_n pm_m147 d147_33 rfl rfl
theorem d147_34 : decode prog_10_method_45_code 34 = .ok (.ireturn, 1) := by decide +kernel
theorem s147_34 {v0 v1 v2 : Value} {x : Int32} {im : IM} {rm : RM} : ev 147 34 [v0, v1, v2] [.int x] im rm = some (some (.int x), im, rm) := ev_ireturn pm_m147 d147_34 rfl
theorem d148_0 : decode prog_10_method_46_code 0 = .ok (.aload_n 0, 1) := by decide +kernel
theorem s148_0 {l1 : Nat} {st : List Value} {im : IM} {rm : RM}  : ev 148 0 [.ref l1] st im rm = ev 148 1 [.ref l1] (.ref l1 :: st) (im) (rm) := ev_aload_n pm_m148 d148_0 rfl rfl
theorem d148_1 : decode prog_10_method_46_code 1 = .ok (.invokevirtual 289, 3) := by decide +kernel
theorem s148_1 {v0 : Value} {a : Nat} {im : IM} {rm : RM} (hk : kd a = 18) : ev 148 1 [v0] [.ref a] im rm = (ev 147 0 [.ref a, pm_u, pm_u] [] im rm).bind (fun r => ev 148 4 [v0] (r.1.toList ++ []) r.2.1 r.2.2) := ev_callV pm_m148 d148_1 l8_289 rfl pm_m147 (by decide) hk rfl ⟨rfl, rfl⟩ rfl rfl
theorem d148_4 : decode prog_10_method_46_code 4 = .ok (.ireturn, 1) := by decide +kernel
theorem s148_4 {v0 : Value} {x : Int32} {im : IM} {rm : RM} : ev 148 4 [v0] [.int x] im rm = some (some (.int x), im, rm) := ev_ireturn pm_m148 d148_4 rfl
theorem d149_0 : decode prog_10_method_47_code 0 = .ok (.iconst 0, 1) := by decide +kernel
theorem s149_0 {v0 v1 v2 v3 v4 v5 v6 : Value}  {st : List Value} {im : IM} {rm : RM}  : ev 149 0 [v0, v1, v2, v3, v4, v5, v6] st im rm = ev 149 1 [v0, v1, v2, v3, v4, v5, v6] (.int (nI 0) :: st) (im) (rm) := ev_iconst pm_m149 d149_0 rfl rfl
theorem d149_1 : decode prog_10_method_47_code 1 = .ok (.istore_n 3, 1) := by decide +kernel
theorem s149_1 {v0 v1 v3 v4 v5 v6 : Value} {l1 : Int32} {x2 : Int32} {st : List Value} {im : IM} {rm : RM}  : ev 149 1 [v0, v1, .int l1, v3, v4, v5, v6] (.int x2 :: st) im rm = ev 149 2 [v0, v1, .int l1, .int x2, v4, v5, v6] st (im) (rm) := ev_istore_n pm_m149 d149_1 (Nat.le_of_ble_eq_true rfl) rfl rfl
theorem d149_2 : decode prog_10_method_47_code 2 = .ok (.iconst 0, 1) := by decide +kernel
theorem s149_2 {v0 v1 v2 v3 v4 v5 v6 : Value}  {st : List Value} {im : IM} {rm : RM}  : ev 149 2 [v0, v1, v2, v3, v4, v5, v6] st im rm = ev 149 3 [v0, v1, v2, v3, v4, v5, v6] (.int (nI 0) :: st) (im) (rm) := ev_iconst pm_m149 d149_2 rfl rfl
theorem d149_3 : decode prog_10_method_47_code 3 = .ok (.istore 4, 2) := by decide +kernel
theorem s149_3 {v0 v1 v2 v4 v5 v6 : Value} {l1 : Int32} {x2 : Int32} {st : List Value} {im : IM} {rm : RM}  : ev 149 3 [v0, v1, v2, .int l1, v4, v5, v6] (.int x2 :: st) im rm = ev 149 5 [v0, v1, v2, .int l1, .int x2, pm_u, pm_u] st (im) (rm) := ev_istore pm_m149 d149_3 (Nat.le_of_ble_eq_true rfl) rfl rfl
theorem d149_5 : decode prog_10_method_47_code 5 = .ok (.iload 4, 2) := by decide +kernel
theorem s149_5 {v0 v1 v2 v3 v5 v6 : Value} {l1 : Int32} {st : List Value} {im : IM} {rm : RM}  : ev 149 5 [v0, v1, v2, v3, .int l1, v5, v6] st im rm = ev 149 7 [v0, v1, v2, v3, .int l1, v5, v6] (.int l1 :: st) (im) (rm) := ev_iload pm_m149 d149_5 rfl rfl
theorem d149_7 : decode prog_10_method_47_code 7 = .ok (.iconst 4, 1) := by decide +kernel
theorem s149_7 {v0 v1 v2 v3 v4 v5 v6 : Value}  {st : List Value} {im : IM} {rm : RM}  : ev 149 7 [v0, v1, v2, v3, v4, v5, v6] st im rm = ev 149 8 [v0, v1, v2, v3, v4, v5, v6] (.int (nI 4) :: st) (im) (rm) := ev_iconst pm_m149 d149_7 rfl rfl
theorem d149_8 : decode prog_10_method_47_code 8 = .ok (.if_icmp .ge 88, 3) := by decide +kernel
theorem s149_8 {v0 v1 v2 v3 v4 v5 v6 : Value} {x : Int32} {y : Int32} {st : List Value} {im : IM} {rm : RM} : ev 149 8 [v0, v1, v2, v3, v4, v5, v6] (.int y :: .int x :: st) im rm = if y ≤ x then ev 149 96 [pm_u, pm_u, pm_u, v3, pm_u, pm_u, pm_u] st im rm else ev 149 11 [v0, v1, v2, v3, v4, v5, v6] st im rm := ev_icmp_ge pm_m149 d149_8 rfl rfl rfl
theorem d149_11 : decode prog_10_method_47_code 11 = .ok (.iload_n 1, 1) := by decide +kernel
theorem s149_11 {v0 v2 v3 v4 v5 v6 : Value} {l1 : Int32} {st : List Value} {im : IM} {rm : RM}  : ev 149 11 [v0, .int l1, v2, v3, v4, v5, v6] st im rm = ev 149 12 [v0, .int l1, v2, v3, v4, v5, v6] (.int l1 :: st) (im) (rm) := ev_iload_n pm_m149 d149_11 rfl rfl
theorem d149_12 : decode prog_10_method_47_code 12 = .ok (.iload 4, 2) := by decide +kernel
theorem s149_12 {v0 v1 v2 v3 v5 v6 : Value} {l1 : Int32} {st : List Value} {im : IM} {rm : RM}  : ev 149 12 [v0, v1, v2, v3, .int l1, v5, v6] st im rm = ev 149 14 [v0, v1, v2, v3, .int l1, v5, v6] (.int l1 :: st) (im) (rm) := ev_iload pm_m149 d149_12 rfl rfl
theorem d149_14 : decode prog_10_method_47_code 14 = .ok (.ishr, 1) := by decide +kernel
theorem s149_14 {v0 v1 v2 v3 v4 v5 v6 : Value} {x : Int32} {y : Int32} {st : List Value} {im : IM} {rm : RM}  : ev 149 14 [v0, v1, v2, v3, v4, v5, v6] (.int y :: .int x :: st) im rm = ev 149 15 [v0, v1, v2, v3, v4, v5, v6] (.int (x >>> (y &&& 31)) :: st) (im) (rm) := ev_ishr pm_m149 d149_14 rfl
theorem d149_15 : decode prog_10_method_47_code 15 = .ok (.iconst 1, 1) := by decide +kernel
theorem s149_15 {v0 v1 v2 v3 v4 v5 v6 : Value}  {st : List Value} {im : IM} {rm : RM}  : ev 149 15 [v0, v1, v2, v3, v4, v5, v6] st im rm = ev 149 16 [v0, v1, v2, v3, v4, v5, v6] (.int (nI 1) :: st) (im) (rm) := ev_iconst pm_m149 d149_15 rfl rfl
theorem d149_16 : decode prog_10_method_47_code 16 = .ok (.iand, 1) := by decide +kernel
theorem s149_16 {v0 v1 v2 v3 v4 v5 v6 : Value} {x : Int32} {y : Int32} {st : List Value} {im : IM} {rm : RM}  : ev 149 16 [v0, v1, v2, v3, v4, v5, v6] (.int y :: .int x :: st) im rm = ev 149 17 [v0, v1, v2, v3, v4, v5, v6] (.int (x &&& y) :: st) (im) (rm) := ev_iand pm_m149 d149_16 rfl
theorem d149_17 : decode prog_10_method_47_code 17 = .ok (.iconst 1, 1) := by decide +kernel
theorem s149_17 {v0 v1 v2 v3 v4 v5 v6 : Value}  {st : List Value} {im : IM} {rm : RM}  : ev 149 17 [v0, v1, v2, v3, v4, v5, v6] st im rm = ev 149 18 [v0, v1, v2, v3, v4, v5, v6] (.int (nI 1) :: st) (im) (rm) := ev_iconst pm_m149 d149_17 rfl rfl
theorem d149_18 : decode prog_10_method_47_code 18 = .ok (.if_icmp .ne 72, 3) := by decide +kernel
theorem s149_18 {v0 v1 v2 v3 v4 v5 v6 : Value} {x : Int32} {y : Int32} {st : List Value} {im : IM} {rm : RM} : ev 149 18 [v0, v1, v2, v3, v4, v5, v6] (.int y :: .int x :: st) im rm = if x = y then ev 149 21 [v0, v1, v2, v3, v4, v5, v6] st im rm else ev 149 90 [v0, v1, v2, v3, v4, pm_u, pm_u] st im rm := ev_icmp_ne pm_m149 d149_18 rfl rfl rfl
theorem d149_21 : decode prog_10_method_47_code 21 = .ok (.aload_n 0, 1) := by decide +kernel
theorem s149_21 {v1 v2 v3 v4 v5 v6 : Value} {l1 : Nat} {st : List Value} {im : IM} {rm : RM}  : ev 149 21 [.ref l1, v1, v2, v3, v4, v5, v6] st im rm = ev 149 22 [.ref l1, v1, v2, v3, v4, v5, v6] (.ref l1 :: st) (im) (rm) := ev_aload_n pm_m149 d149_21 rfl rfl
theorem d149_22 : decode prog_10_method_47_code 22 = .ok (.iload 4, 2) := by decide +kernel
theorem s149_22 {v0 v1 v2 v3 v5 v6 : Value} {l1 : Int32} {st : List Value} {im : IM} {rm : RM}  : ev 149 22 [v0, v1, v2, v3, .int l1, v5, v6] st im rm = ev 149 24 [v0, v1, v2, v3, .int l1, v5, v6] (.int l1 :: st) (im) (rm) := ev_iload pm_m149 d149_22 rfl rfl
theorem d149_24 : decode prog_10_method_47_code 24 = .ok (.iload_n 2, 1) := by decide +kernel
theorem s149_24 {v0 v1 v3 v4 v5 v6 : Value} {l1 : Int32} {st : List Value} {im : IM} {rm : RM}  : ev 149 24 [v0, v1, .int l1, v3, v4, v5, v6] st im rm = ev 149 25 [v0, v1, .int l1, v3, v4, v5, v6] (.int l1 :: st) (im) (rm) := ev_iload_n pm_m149 d149_24 rfl rfl
theorem d149_25 : decode prog_10_method_47_code 25 = .ok (.invokevirtual 263, 3) := by decide +kernel
theorem s149_25 {v0 v1 v2 v3 v4 v5 v6 : Value} {a : Nat} {p1 : Int32} {p2 : Int32} {im : IM} {rm : RM} (hk : kd a = 18) : ev 149 25 [v0, v1, v2, v3, v4, v5, v6] [.int p2, .int p1, .ref a] im rm = (ev 135 0 [.ref a, .int p1, .int p2, pm_u, pm_u, pm_u, pm_u, pm_u, pm_u] [] im rm).bind (fun r => ev 149 28 [v0, v1, v2, v3, v4, v5, v6] (r.1.toList ++ []) r.2.1 r.2.2) := ev_callV pm_m149 d149_25 l8_263 rfl pm_m135 (by decide) hk rfl ⟨rfl, rfl⟩ rfl rfl
theorem d149_28 : decode prog_10_method_47_code 28 = .ok (.iconst 0, 1) := by decide +kernel
theorem s149_28 {v0 v1 v2 v3 v4 v5 v6 : Value}  {st : List Value} {im : IM} {rm : RM}  : ev 149 28 [v0, v1, v2, v3, v4, v5, v6] st im rm = ev 149 29 [v0, v1, v2, v3, v4, v5, v6] (.int (nI 0) :: st) (im) (rm) := ev_iconst pm_m149 d149_28 rfl rfl
theorem d149_29 : decode prog_10_method_47_code 29 = .ok (.istore 5, 2) := by decide +kernel
theorem s149_29 {v0 v1 v2 v3 v5 v6 : Value} {l1 : Int32} {x2 : Int32} {st : List Value} {im : IM} {rm : RM}  : ev 149 29 [v0, v1, v2, v3, .int l1, v5, v6] (.int x2 :: st) im rm = ev 149 31 [v0, v1, v2, v3, .int l1, .int x2, v6] st (im) (rm) := ev_istore pm_m149 d149_29 (Nat.le_of_ble_eq_true rfl) rfl rfl
theorem d149_31 : decode prog_10_method_47_code 31 = .ok (.iconst 0, 1) := by decide +kernel
theorem s149_31 {v0 v1 v2 v3 v4 v5 v6 : Value}  {st : List Value} {im : IM} {rm : RM}  : ev 149 31 [v0, v1, v2, v3, v4, v5, v6] st im rm = ev 149 32 [v0, v1, v2, v3, v4, v5, v6] (.int (nI 0) :: st) (im) (rm) := ev_iconst pm_m149 d149_31 rfl rfl
theorem d149_32 : decode prog_10_method_47_code 32 = .ok (.istore 6, 2) := by decide +kernel
theorem s149_32 {v0 v1 v2 v3 v4 v6 : Value} {l1 : Int32} {x2 : Int32} {st : List Value} {im : IM} {rm : RM}  : ev 149 32 [v0, v1, v2, v3, v4, .int l1, v6] (.int x2 :: st) im rm = ev 149 34 [v0, v1, v2, v3, v4, .int l1, .int x2] st (im) (rm) := ev_istore pm_m149 d149_32 (Nat.le_of_ble_eq_true rfl) rfl rfl
theorem d149_34 : decode prog_10_method_47_code 34 = .ok (.iload 6, 2) := by decide +kernel
theorem s149_34 {v0 v1 v2 v3 v4 v5 : Value} {l1 : Int32} {st : List Value} {im : IM} {rm : RM}  : ev 149 34 [v0, v1, v2, v3, v4, v5, .int l1] st im rm = ev 149 36 [v0, v1, v2, v3, v4, v5, .int l1] (.int l1 :: st) (im) (rm) := ev_iload pm_m149 d149_34 rfl rfl
theorem d149_36 : decode prog_10_method_47_code 36 = .ok (.iload_n 3, 1) := by decide +kernel
theorem s149_36 {v0 v1 v2 v4 v5 v6 : Value} {l1 : Int32} {st : List Value} {im : IM} {rm : RM}  : ev 149 36 [v0, v1, v2, .int l1, v4, v5, v6] st im rm = ev 149 37 [v0, v1, v2, .int l1, v4, v5, v6] (.int l1 :: st) (im) (rm) := ev_iload_n pm_m149 d149_36 rfl rfl
theorem d149_37 : decode prog_10_method_47_code 37 = .ok (.if_icmp .ge 35, 3) := by decide +kernel
theorem s149_37 {v0 v1 v2 v3 v4 v5 v6 : Value} {x : Int32} {y : Int32} {st : List Value} {im : IM} {rm : RM} : ev 149 37 [v0, v1, v2, v3, v4, v5, v6] (.int y :: .int x :: st) im rm = if y ≤ x then ev 149 72 [v0, v1, v2, v3, v4, v5, pm_u] st im rm else ev 149 40 [v0, v1, v2, v3, v4, v5, v6] st im rm := ev_icmp_ge pm_m149 d149_37 rfl rfl rfl
theorem d149_40 : decode prog_10_method_47_code 40 = .ok (.iload 5, 2) := by decide +kernel
theorem s149_40 {v0 v1 v2 v3 v4 v6 : Value} {l1 : Int32} {st : List Value} {im : IM} {rm : RM}  : ev 149 40 [v0, v1, v2, v3, v4, .int l1, v6] st im rm = ev 149 42 [v0, v1, v2, v3, v4, .int l1, v6] (.int l1 :: st) (im) (rm) := ev_iload pm_m149 d149_40 rfl rfl
theorem d149_42 : decode prog_10_method_47_code 42 = .ok (.ifCond .ne 17, 3) := by decide +kernel
theorem s149_42 {v0 v1 v2 v3 v4 v5 v6 : Value} {x : Int32} {st : List Value} {im : IM} {rm : RM} : ev 149 42 [v0, v1, v2, v3, v4, v5, v6] (.int x :: st) im rm = if x = nI 0 then ev 149 45 [v0, v1, v2, v3, v4, v5, v6] st im rm else ev 149 59 [v0, v1, v2, v3, v4, pm_u, v6] st im rm := ev_if_ne (y := 0) pm_m149 d149_42 rfl rfl rfl
theorem d149_45 : decode prog_10_method_47_code 45 = .ok (.aload_n 0, 1) := by decide +kernel
theorem s149_45 {v1 v2 v3 v4 v5 v6 : Value} {l1 : Nat} {st : List Value} {im : IM} {rm : RM}  : ev 149 45 [.ref l1, v1, v2, v3, v4, v5, v6] st im rm = ev 149 46 [.ref l1, v1, v2, v3, v4, v5, v6] (.ref l1 :: st) (im) (rm) := ev_aload_n pm_m149 d149_45 rfl rfl
theorem d149_46 : decode prog_10_method_47_code 46 = .ok (.getfield 112, 3) := by decide +kernel
theorem s149_46 {v0 v1 v2 v3 v4 v5 v6 : Value} {a : Nat} {st : List Value} {im : IM} {rm : RM} (hk : kd a = 18) : ev 149 46 [v0, v1, v2, v3, v4, v5, v6] (.ref a :: st) im rm = ev 149 49 [v0, v1, v2, v3, v4, v5, v6] (pm_ro (rm a 46) :: st) (im) (rm) := ev_getR pm_m149 d149_46 f8_112 rfl hk rfl
theorem d149_49 : decode prog_10_method_47_code 49 = .ok (.iload 6, 2) := by decide +kernel
theorem s149_49 {v0 v1 v2 v3 v4 v5 : Value} {l1 : Int32} {st : List Value} {im : IM} {rm : RM}  : ev 149 49 [v0, v1, v2, v3, v4, v5, .int l1] st im rm = ev 149 51 [v0, v1, v2, v3, v4, v5, .int l1] (.int l1 :: st) (im) (rm) := ev_iload pm_m149 d149_49 rfl rfl
theorem d149_51 : decode prog_10_method_47_code 51 = .ok (.iaload, 1) := by decide +kernel
theorem s149_51 {v0 v1 v2 v3 v4 v5 v6 : Value} {a : Nat} {i : Int32} {st : List Value} {im : IM} {rm : RM} (hk : kd a = 0) (hi : pm_in i (ln a) = true) : ev 149 51 [v0, v1, v2, v3, v4, v5, v6] (.int i :: .ref a :: st) im rm = ev 149 52 [v0, v1, v2, v3, v4, v5, v6] (.int (im a i.toNatClampNeg) :: st) (im) (rm) := ev_iald pm_m149 d149_51 hk hi rfl
theorem d149_52 : decode prog_10_method_47_code 52 = .ok (.aload_n 0, 1) := by decide +kernel
theorem s149_52 {v1 v2 v3 v4 v5 v6 : Value} {l1 : Nat} {st : List Value} {im : IM} {rm : RM}  : ev 149 52 [.ref l1, v1, v2, v3, v4, v5, v6] st im rm = ev 149 53 [.ref l1, v1, v2, v3, v4, v5, v6] (.ref l1 :: st) (im) (rm) := ev_aload_n pm_m149 d149_52 rfl rfl
theorem d149_53 : decode prog_10_method_47_code 53 = .ok (.getfield 252, 3) := by decide +kernel
theorem s149_53 {v0 v1 v2 v3 v4 v5 v6 : Value} {a : Nat} {st : List Value} {im : IM} {rm : RM} (hk : kd a = 18) : ev 149 53 [v0, v1, v2, v3, v4, v5, v6] (.ref a :: st) im rm = ev 149 56 [v0, v1, v2, v3, v4, v5, v6] (.int (im a 43) :: st) (im) (rm) := ev_getI pm_m149 d149_53 f8_252 rfl hk rfl
theorem d149_56 : decode prog_10_method_47_code 56 = .ok (.if_icmp .ne 7, 3) := by decide +kernel
theorem s149_56 {v0 v1 v2 v3 v4 v5 v6 : Value} {x : Int32} {y : Int32} {st : List Value} {im : IM} {rm : RM} : ev 149 56 [v0, v1, v2, v3, v4, v5, v6] (.int y :: .int x :: st) im rm = if x = y then ev 149 59 [v0, v1, v2, v3, v4, pm_u, v6] st im rm else ev 149 63 [v0, v1, v2, v3, v4, pm_u, v6] st im rm := ev_icmp_ne pm_m149 d149_56 rfl rfl rfl
theorem d149_59 : decode prog_10_method_47_code 59 = .ok (.iconst 1, 1) := by decide +kernel
theorem s149_59 {v0 v1 v2 v3 v4 v5 v6 : Value}  {st : List Value} {im : IM} {rm : RM}  : ev 149 59 [v0, v1, v2, v3, v4, v5, v6] st im rm = ev 149 60 [v0, v1, v2, v3, v4, v5, v6] (.int (nI 1) :: st) (im) (rm) := ev_iconst pm_m149 d149_59 rfl rfl
theorem d149_60 : decode prog_10_method_47_code 60 = .ok (.goto 4, 3) := by decide +kernel
theorem s149_60 {v0 v1 v2 v3 v4 v5 v6 : Value}  {st : List Value} {im : IM} {rm : RM}  : ev 149 60 [v0, v1, v2, v3, v4, v5, v6] st im rm = ev 149 64 [v0, v1, v2, v3, v4, pm_u, v6] st (im) (rm) := ev_goto pm_m149 d149_60 rfl rfl
theorem d149_63 : decode prog_10_method_47_code 63 = .ok (.iconst 0, 1) := by decide +kernel
theorem s149_63 {v0 v1 v2 v3 v4 v5 v6 : Value}  {st : List Value} {im : IM} {rm : RM}  : ev 149 63 [v0, v1, v2, v3, v4, v5, v6] st im rm = ev 149 64 [v0, v1, v2, v3, v4, pm_u, v6] (.int (nI 0) :: st) (im) (rm) := ev_iconst pm_m149 d149_63 rfl rfl
theorem d149_64 : decode prog_10_method_47_code 64 = .ok (.istore 5, 2) := by decide +kernel
theorem s149_64 {v0 v1 v2 v3 v5 v6 : Value} {l1 : Int32} {x2 : Int32} {st : List Value} {im : IM} {rm : RM}  : ev 149 64 [v0, v1, v2, v3, .int l1, v5, v6] (.int x2 :: st) im rm = ev 149 66 [v0, v1, v2, v3, .int l1, .int x2, v6] st (im) (rm) := ev_istore pm_m149 d149_64 (Nat.le_of_ble_eq_true rfl) rfl rfl
theorem d149_66 : decode prog_10_method_47_code 66 = .ok (.iinc 6 1, 3) := by decide +kernel
theorem s149_66 {v0 v1 v2 v3 v4 : Value} {l1 : Int32} {l2 : Int32} {st : List Value} {im : IM} {rm : RM}  : ev 149 66 [v0, v1, v2, v3, v4, .int l1, .int l2] st im rm = ev 149 69 [v0, v1, v2, v3, v4, .int l1, .int (l2 + nI 1)] st (im) (rm) := ev_iinc pm_m149 d149_66 rfl rfl rfl rfl
theorem d149_69 : decode prog_10_method_47_code 69 = .ok (.goto (-35), 3) := by decide +kernel
theorem s149_69 {v0 v1 v2 v3 v4 v5 v6 : Value}  {st : List Value} {im : IM} {rm : RM}  : ev 149 69 [v0, v1, v2, v3, v4, v5, v6] st im rm = ev 149 34 [v0, v1, v2, v3, v4, v5, v6] st (im) (rm) := ev_goto pm_m149 d149_69 rfl rfl
theorem d149_72 : decode prog_10_method_47_code 72 = .ok (.iload 5, 2) := by decide +kernel
theorem s149_72 {v0 v1 v2 v3 v4 v6 : Value} {l1 : Int32} {st : List Value} {im : IM} {rm : RM}  : ev 149 72 [v0, v1, v2, v3, v4, .int l1, v6] st im rm = ev 149 74 [v0, v1, v2, v3, v4, .int l1, v6] (.int l1 :: st) (im) (rm) := ev_iload pm_m149 d149_72 rfl rfl
theorem d149_74 : decode prog_10_method_47_code 74 = .ok (.ifCond .ne 16, 3) := by decide +kernel
theorem s149_74 {v0 v1 v2 v3 v4 v5 v6 : Value} {x : Int32} {st : List Value} {im : IM} {rm : RM} : ev 149 74 [v0, v1, v2, v3, v4, v5, v6] (.int x :: st) im rm = if x = nI 0 then ev 149 77 [v0, v1, v2, v3, v4, v5, v6] st im rm else ev 149 90 [v0, v1, v2, v3, v4, pm_u, pm_u] st im rm := ev_if_ne (y := 0) pm_m149 d149_74 rfl rfl rfl
theorem d149_77 : decode prog_10_method_47_code 77 = .ok (.aload_n 0, 1) := by decide +kernel
theorem s149_77 {v1 v2 v3 v4 v5 v6 : Value} {l1 : Nat} {st : List Value} {im : IM} {rm : RM}  : ev 149 77 [.ref l1, v1, v2, v3, v4, v5, v6] st im rm = ev 149 78 [.ref l1, v1, v2, v3, v4, v5, v6] (.ref l1 :: st) (im) (rm) := ev_aload_n pm_m149 d149_77 rfl rfl
theorem d149_78 : decode prog_10_method_47_code 78 = .ok (.getfield 112, 3) := by decide +kernel
theorem s149_78 {v0 v1 v2 v3 v4 v5 v6 : Value} {a : Nat} {st : List Value} {im : IM} {rm : RM} (hk : kd a = 18) : ev 149 78 [v0, v1, v2, v3, v4, v5, v6] (.ref a :: st) im rm = ev 149 81 [v0, v1, v2, v3, v4, v5, v6] (pm_ro (rm a 46) :: st) (im) (rm) := ev_getR pm_m149 d149_78 f8_112 rfl hk rfl
theorem d149_81 : decode prog_10_method_47_code 81 = .ok (.iload_n 3, 1) := by decide +kernel
theorem s149_81 {v0 v1 v2 v4 v5 v6 : Value} {l1 : Int32} {st : List Value} {im : IM} {rm : RM}  : ev 149 81 [v0, v1, v2, .int l1, v4, v5, v6] st im rm = ev 149 82 [v0, v1, v2, .int l1, v4, v5, v6] (.int l1 :: st) (im) (rm) := ev_iload_n pm_m149 d149_81 rfl rfl
theorem d149_82 : decode prog_10_method_47_code 82 = .ok (.aload_n 0, 1) := by decide +kernel
theorem s149_82 {v1 v2 v3 v4 v5 v6 : Value} {l1 : Nat} {st : List Value} {im : IM} {rm : RM}  : ev 149 82 [.ref l1, v1, v2, v3, v4, v5, v6] st im rm = ev 149 83 [.ref l1, v1, v2, v3, v4, v5, v6] (.ref l1 :: st) (im) (rm) := ev_aload_n pm_m149 d149_82 rfl rfl
theorem d149_83 : decode prog_10_method_47_code 83 = .ok (.getfield 252, 3) := by decide +kernel
theorem s149_83 {v0 v1 v2 v3 v4 v5 v6 : Value} {a : Nat} {st : List Value} {im : IM} {rm : RM} (hk : kd a = 18) : ev 149 83 [v0, v1, v2, v3, v4, v5, v6] (.ref a :: st) im rm = ev 149 86 [v0, v1, v2, v3, v4, v5, v6] (.int (im a 43) :: st) (im) (rm) := ev_getI pm_m149 d149_83 f8_252 rfl hk rfl
theorem d149_86 : decode prog_10_method_47_code 86 = .ok (.iastore, 1) := by decide +kernel
theorem s149_86 {v0 v1 v2 v3 v4 v5 v6 : Value} {a : Nat} {i : Int32} {v : Int32} {st : List Value} {im : IM} {rm : RM} (hk : kd a = 0) (hi : pm_in i (ln a) = true) : ev 149 86 [v0, v1, v2, v3, v4, v5, v6] (.int v :: .int i :: .ref a :: st) im rm = ev 149 87 [v0, v1, v2, v3, v4, v5, v6] st (pm_w2 im a i.toNatClampNeg v) (rm) := ev_iast pm_m149 d149_86 hk hi rfl
theorem d149_87 : decode prog_10_method_47_code 87 = .ok (.iinc 3 1, 3) := by decide +kernel
theorem s149_87 {v0 v1 v4 v5 v6 : Value} {l1 : Int32} {l2 : Int32} {st : List Value} {im : IM} {rm : RM}  : ev 149 87 [v0, v1, .int l1, .int l2, v4, v5, v6] st im rm = ev 149 90 [v0, v1, .int l1, .int (l2 + nI 1), v4, pm_u, pm_u] st (im) (rm) := ev_iinc pm_m149 d149_87 rfl rfl rfl rfl
theorem d149_90 : decode prog_10_method_47_code 90 = .ok (.iinc 4 1, 3) := by decide +kernel
theorem s149_90 {v0 v1 v2 v5 v6 : Value} {l1 : Int32} {l2 : Int32} {st : List Value} {im : IM} {rm : RM}  : ev 149 90 [v0, v1, v2, .int l1, .int l2, v5, v6] st im rm = ev 149 93 [v0, v1, v2, .int l1, .int (l2 + nI 1), v5, v6] st (im) (rm) := ev_iinc pm_m149 d149_90 rfl rfl rfl rfl
theorem d149_93 : decode prog_10_method_47_code 93 = .ok (.goto (-88), 3) := by decide +kernel
theorem s149_93 {v0 v1 v2 v3 v4 v5 v6 : Value}  {st : List Value} {im : IM} {rm : RM}  : ev 149 93 [v0, v1, v2, v3, v4, v5, v6] st im rm = ev 149 5 [v0, v1, v2, v3, v4, pm_u, pm_u] st (im) (rm) := ev_goto pm_m149 d149_93 rfl rfl
theorem d149_96 : decode prog_10_method_47_code 96 = .ok (.iload_n 3, 1) := by decide +kernel
theorem s149_96 {v0 v1 v2 v4 v5 v6 : Value} {l1 : Int32} {st : List Value} {im : IM} {rm : RM}  : ev 149 96 [v0, v1, v2, .int l1, v4, v5, v6] st im rm = ev 149 97 [v0, v1, v2, .int l1, v4, v5, v6] (.int l1 :: st) (im) (rm) := ev_iload_n pm_m149 d149_96 rfl rfl
theorem d149_97 : decode prog_10_method_47_code 97 = .ok (.ireturn, 1) := by decide +kernel
theorem s149_97 {v0 v1 v2 v3 v4 v5 v6 : Value} {x : Int32} {im : IM} {rm : RM} : ev 149 97 [v0, v1, v2, v3, v4, v5, v6] [.int x] im rm = some (some (.int x), im, rm) := ev_ireturn pm_m149 d149_97 rfl
theorem d150_0 : decode prog_10_method_48_code 0 = .ok (.iload_n 1, 1) := by decide +kernel
theorem s150_0 {v0 v2 v3 v4 v5 v6 : Value} {l1 : Int32} {st : List Value} {im : IM} {rm : RM}  : ev 150 0 [v0, .int l1, v2, v3, v4, v5, v6] st im rm = ev 150 1 [v0, .int l1, v2, v3, v4, v5, v6] (.int l1 :: st) (im) (rm) := ev_iload_n pm_m150 d150_0 rfl rfl
theorem d150_1 : decode prog_10_method_48_code 1 = .ok (.i2l, 1) := by decide +kernel
theorem s150_1 {v0 v1 v2 v3 v4 v5 v6 : Value} {x : Int32} {st : List Value} {im : IM} {rm : RM}  : ev 150 1 [v0, v1, v2, v3, v4, v5, v6] (.int x :: st) im rm = ev 150 2 [v0, v1, v2, v3, v4, v5, v6] (.long x.toInt64 :: st) (im) (rm) := ev_i2l pm_m150 d150_1 rfl
theorem d150_2 : decode prog_10_method_48_code 2 = .ok (.lconst 0, 1) := by decide +kernel
theorem s150_2 {v0 v1 v2 v3 v4 v5 v6 : Value}  {st : List Value} {im : IM} {rm : RM}  : ev 150 2 [v0, v1, v2, v3, v4, v5, v6] st im rm = ev 150 3 [v0, v1, v2, v3, v4, v5, v6] (.long (lN 0) :: st) (im) (rm) := ev_lconst pm_m150 d150_2 rfl rfl
theorem d150_3 : decode prog_10_method_48_code 3 = .ok (.lconst 1, 1) := by decide +kernel
theorem s150_3 {v0 v1 v2 v3 v4 v5 v6 : Value}  {st : List Value} {im : IM} {rm : RM}  : ev 150 3 [v0, v1, v2, v3, v4, v5, v6] st im rm = ev 150 4 [v0, v1, v2, v3, v4, v5, v6] (.long (lN 1) :: st) (im) (rm) := ev_lconst pm_m150 d150_3 rfl rfl
theorem d150_4 : decode prog_10_method_48_code 4 = .ok (.invokestatic 120, 3) := by decide +kernel
theorem s150_4 {v0 v1 v2 v3 v4 v5 v6 : Value} {p1 : Int64} {p2 : Int64} {p3 : Int64} {im : IM} {rm : RM}  : ev 150 4 [v0, v1, v2, v3, v4, v5, v6] [.long p3, .long p2, .long p1] im rm = (ev 104 0 [.long p1, pm_u, .long p2, pm_u, .long p3, pm_u] [] im rm).bind (fun r => ev 150 7 [v0, v1, v2, v3, v4, v5, v6] (r.1.toList ++ []) r.2.1 r.2.2) := ev_callS pm_m150 d150_4 (by decide) l8_120 rfl pm_m104 rfl ⟨rfl, rfl⟩ rfl rfl
theorem d150_7 : decode prog_10_method_48_code 7 = .ok (.ifCond .ne 6, 3) := by decide +kernel
theorem s150_7 {v0 v1 v2 v3 v4 v5 v6 : Value} {x : Int32} {st : List Value} {im : IM} {rm : RM} : ev 150 7 [v0, v1, v2, v3, v4, v5, v6] (.int x :: st) im rm = if x = nI 0 then ev 150 10 [v0, v1, v2, v3, v4, v5, v6] st im rm else ev 150 13 [v0, v1, pm_u, pm_u, pm_u, pm_u, pm_u] st im rm := ev_if_ne (y := 0) pm_m150 d150_7 rfl rfl rfl
theorem d150_10 : decode prog_10_method_48_code 10 = .ok (.bipush (-3), 2) := by decide +kernel
theorem s150_10 {v0 v1 v2 v3 v4 v5 v6 : Value}  {st : List Value} {im : IM} {rm : RM}  : ev 150 10 [v0, v1, v2, v3, v4, v5, v6] st im rm = ev 150 12 [v0, v1, v2, v3, v4, v5, v6] (.int ((-3 : Int32)) :: st) (im) (rm) := ev_bipush pm_m150 d150_10 rfl rfl
theorem d150_12 : decode prog_10_method_48_code 12 = .ok (.ireturn, 1) := by decide +kernel
theorem s150_12 {v0 v1 v2 v3 v4 v5 v6 : Value} {x : Int32} {im : IM} {rm : RM} : ev 150 12 [v0, v1, v2, v3, v4, v5, v6] [.int x] im rm = some (some (.int x), im, rm) := ev_ireturn pm_m150 d150_12 rfl
theorem d150_13 : decode prog_10_method_48_code 13 = .ok (.aload_n 0, 1) := by decide +kernel
theorem s150_13 {v1 v2 v3 v4 v5 v6 : Value} {l1 : Nat} {st : List Value} {im : IM} {rm : RM}  : ev 150 13 [.ref l1, v1, v2, v3, v4, v5, v6] st im rm = ev 150 14 [.ref l1, v1, v2, v3, v4, v5, v6] (.ref l1 :: st) (im) (rm) := ev_aload_n pm_m150 d150_13 rfl rfl
theorem d150_14 : decode prog_10_method_48_code 14 = .ok (.invokevirtual 289, 3) := by decide +kernel
theorem s150_14 {v0 v1 v2 v3 v4 v5 v6 : Value} {a : Nat} {im : IM} {rm : RM} (hk : kd a = 18) : ev 150 14 [v0, v1, v2, v3, v4, v5, v6] [.ref a] im rm = (ev 147 0 [.ref a, pm_u, pm_u] [] im rm).bind (fun r => ev 150 17 [v0, v1, v2, v3, v4, v5, v6] (r.1.toList ++ []) r.2.1 r.2.2) := ev_callV pm_m150 d150_14 l8_289 rfl pm_m147 (by decide) hk rfl ⟨rfl, rfl⟩ rfl rfl
theorem d150_17 : decode prog_10_method_48_code 17 = .ok (.istore_n 2, 1) := by decide +kernel
theorem s150_17 {v0 v2 v3 v4 v5 v6 : Value} {l1 : Int32} {x2 : Int32} {st : List Value} {im : IM} {rm : RM}  : ev 150 17 [v0, .int l1, v2, v3, v4, v5, v6] (.int x2 :: st) im rm = ev 150 18 [v0, .int l1, .int x2, v3, v4, v5, v6] st (im) (rm) := ev_istore_n pm_m150 d150_17 (Nat.le_of_ble_eq_true rfl) rfl rfl
theorem d150_18 : decode prog_10_method_48_code 18 = .ok (.iconst 0, 1) := by decide +kernel
theorem s150_18 {v0 v1 v2 v3 v4 v5 v6 : Value}  {st : List Value} {im : IM} {rm : RM}  : ev 150 18 [v0, v1, v2, v3, v4, v5, v6] st im rm = ev 150 19 [v0, v1, v2, v3, v4, v5, v6] (.int (nI 0) :: st) (im) (rm) := ev_iconst pm_m150 d150_18 rfl rfl
theorem d150_19 : decode prog_10_method_48_code 19 = .ok (.istore_n 3, 1) := by decide +kernel
theorem s150_19 {v0 v1 v3 v4 v5 v6 : Value} {l1 : Int32} {x2 : Int32} {st : List Value} {im : IM} {rm : RM}  : ev 150 19 [v0, v1, .int l1, v3, v4, v5, v6] (.int x2 :: st) im rm = ev 150 20 [v0, v1, .int l1, .int x2, v4, v5, v6] st (im) (rm) := ev_istore_n pm_m150 d150_19 (Nat.le_of_ble_eq_true rfl) rfl rfl
theorem d150_20 : decode prog_10_method_48_code 20 = .ok (.iconst 0, 1) := by decide +kernel
theorem s150_20 {v0 v1 v2 v3 v4 v5 v6 : Value}  {st : List Value} {im : IM} {rm : RM}  : ev 150 20 [v0, v1, v2, v3, v4, v5, v6] st im rm = ev 150 21 [v0, v1, v2, v3, v4, v5, v6] (.int (nI 0) :: st) (im) (rm) := ev_iconst pm_m150 d150_20 rfl rfl
theorem d150_21 : decode prog_10_method_48_code 21 = .ok (.istore 4, 2) := by decide +kernel
theorem s150_21 {v0 v1 v2 v4 v5 v6 : Value} {l1 : Int32} {x2 : Int32} {st : List Value} {im : IM} {rm : RM}  : ev 150 21 [v0, v1, v2, .int l1, v4, v5, v6] (.int x2 :: st) im rm = ev 150 23 [v0, v1, v2, .int l1, .int x2, v5, v6] st (im) (rm) := ev_istore pm_m150 d150_21 (Nat.le_of_ble_eq_true rfl) rfl rfl
theorem d150_23 : decode prog_10_method_48_code 23 = .ok (.iconst 0, 1) := by decide +kernel
theorem s150_23 {v0 v1 v2 v3 v4 v5 v6 : Value}  {st : List Value} {im : IM} {rm : RM}  : ev 150 23 [v0, v1, v2, v3, v4, v5, v6] st im rm = ev 150 24 [v0, v1, v2, v3, v4, v5, v6] (.int (nI 0) :: st) (im) (rm) := ev_iconst pm_m150 d150_23 rfl rfl
theorem d150_24 : decode prog_10_method_48_code 24 = .ok (.istore 5, 2) := by decide +kernel
theorem s150_24 {v0 v1 v2 v3 v5 v6 : Value} {l1 : Int32} {x2 : Int32} {st : List Value} {im : IM} {rm : RM}  : ev 150 24 [v0, v1, v2, v3, .int l1, v5, v6] (.int x2 :: st) im rm = ev 150 26 [v0, v1, v2, v3, .int l1, .int x2, pm_u] st (im) (rm) := ev_istore pm_m150 d150_24 (Nat.le_of_ble_eq_true rfl) rfl rfl
theorem d150_26 : decode prog_10_method_48_code 26 = .ok (.iload 5, 2) := by decide +kernel
theorem s150_26 {v0 v1 v2 v3 v4 v6 : Value} {l1 : Int32} {st : List Value} {im : IM} {rm : RM}  : ev 150 26 [v0, v1, v2, v3, v4, .int l1, v6] st im rm = ev 150 28 [v0, v1, v2, v3, v4, .int l1, v6] (.int l1 :: st) (im) (rm) := ev_iload pm_m150 d150_26 rfl rfl
theorem d150_28 : decode prog_10_method_48_code 28 = .ok (.bipush 6, 2) := by decide +kernel
theorem s150_28 {v0 v1 v2 v3 v4 v5 v6 : Value}  {st : List Value} {im : IM} {rm : RM}  : ev 150 28 [v0, v1, v2, v3, v4, v5, v6] st im rm = ev 150 30 [v0, v1, v2, v3, v4, v5, v6] (.int (nI 6) :: st) (im) (rm) := ev_bipush pm_m150 d150_28 rfl rfl
theorem d150_30 : decode prog_10_method_48_code 30 = .ok (.if_icmp .ge 48, 3) := by decide +kernel
theorem s150_30 {v0 v1 v2 v3 v4 v5 v6 : Value} {x : Int32} {y : Int32} {st : List Value} {im : IM} {rm : RM} : ev 150 30 [v0, v1, v2, v3, v4, v5, v6] (.int y :: .int x :: st) im rm = if y ≤ x then ev 150 78 [pm_u, v1, v2, v3, v4, pm_u, pm_u] st im rm else ev 150 33 [v0, v1, v2, v3, v4, v5, v6] st im rm := ev_icmp_ge pm_m150 d150_30 rfl rfl rfl
theorem d150_33 : decode prog_10_method_48_code 33 = .ok (.aload_n 0, 1) := by decide +kernel
theorem s150_33 {v1 v2 v3 v4 v5 v6 : Value} {l1 : Nat} {st : List Value} {im : IM} {rm : RM}  : ev 150 33 [.ref l1, v1, v2, v3, v4, v5, v6] st im rm = ev 150 34 [.ref l1, v1, v2, v3, v4, v5, v6] (.ref l1 :: st) (im) (rm) := ev_aload_n pm_m150 d150_33 rfl rfl
theorem d150_34 : decode prog_10_method_48_code 34 = .ok (.iload_n 2, 1) := by decide +kernel
theorem s150_34 {v0 v1 v3 v4 v5 v6 : Value} {l1 : Int32} {st : List Value} {im : IM} {rm : RM}  : ev 150 34 [v0, v1, .int l1, v3, v4, v5, v6] st im rm = ev 150 35 [v0, v1, .int l1, v3, v4, v5, v6] (.int l1 :: st) (im) (rm) := ev_iload_n pm_m150 d150_34 rfl rfl
theorem d150_35 : decode prog_10_method_48_code 35 = .ok (.iload 5, 2) := by decide +kernel
theorem s150_35 {v0 v1 v2 v3 v4 v6 : Value} {l1 : Int32} {st : List Value} {im : IM} {rm : RM}  : ev 150 35 [v0, v1, v2, v3, v4, .int l1, v6] st im rm = ev 150 37 [v0, v1, v2, v3, v4, .int l1, v6] (.int l1 :: st) (im) (rm) := ev_iload pm_m150 d150_35 rfl rfl
theorem d150_37 : decode prog_10_method_48_code 37 = .ok (.invokevirtual 293, 3) := by decide +kernel
theorem s150_37 {v0 v1 v2 v3 v4 v5 v6 : Value} {a : Nat} {p1 : Int32} {p2 : Int32} {im : IM} {rm : RM} (hk : kd a = 18) : ev 150 37 [v0, v1, v2, v3, v4, v5, v6] [.int p2, .int p1, .ref a] im rm = (ev 149 0 [.ref a, .int p1, .int p2, pm_u, pm_u, pm_u, pm_u] [] im rm).bind (fun r => ev 150 40 [v0, v1, v2, v3, v4, v5, v6] (r.1.toList ++ []) r.2.1 r.2.2) := ev_callV pm_m150 d150_37 l8_293 rfl pm_m149 (by decide) hk rfl ⟨rfl, rfl⟩ rfl rfl
theorem d150_40 : decode prog_10_method_48_code 40 = .ok (.istore 6, 2) := by decide +kernel
theorem s150_40 {v0 v1 v2 v3 v4 v6 : Value} {l1 : Int32} {x2 : Int32} {st : List Value} {im : IM} {rm : RM}  : ev 150 40 [v0, v1, v2, v3, v4, .int l1, v6] (.int x2 :: st) im rm = ev 150 42 [v0, v1, v2, v3, v4, .int l1, .int x2] st (im) (rm) := ev_istore pm_m150 d150_40 (Nat.le_of_ble_eq_true rfl) rfl rfl
theorem d150_42 : decode prog_10_method_48_code 42 = .ok (.iload 6, 2) := by decide +kernel
theorem s150_42 {v0 v1 v2 v3 v4 v5 : Value} {l1 : Int32} {st : List Value} {im : IM} {rm : RM}  : ev 150 42 [v0, v1, v2, v3, v4, v5, .int l1] st im rm = ev 150 44 [v0, v1, v2, v3, v4, v5, .int l1] (.int l1 :: st) (im) (rm) := ev_iload pm_m150 d150_42 rfl rfl
theorem d150_44 : decode prog_10_method_48_code 44 = .ok (.iload 4, 2) := by decide +kernel
theorem s150_44 {v0 v1 v2 v3 v5 v6 : Value} {l1 : Int32} {st : List Value} {im : IM} {rm : RM}  : ev 150 44 [v0, v1, v2, v3, .int l1, v5, v6] st im rm = ev 150 46 [v0, v1, v2, v3, .int l1, v5, v6] (.int l1 :: st) (im) (rm) := ev_iload pm_m150 d150_44 rfl rfl
theorem d150_46 : decode prog_10_method_48_code 46 = .ok (.if_icmp .le 8, 3) := by decide +kernel
theorem s150_46 {v0 v1 v2 v3 v4 v5 v6 : Value} {x : Int32} {y : Int32} {st : List Value} {im : IM} {rm : RM} : ev 150 46 [v0, v1, v2, v3, v4, v5, v6] (.int y :: .int x :: st) im rm = if x ≤ y then ev 150 54 [v0, v1, v2, v3, v4, v5, v6] st im rm else ev 150 49 [v0, v1, v2, v3, v4, v5, v6] st im rm := ev_icmp_le pm_m150 d150_46 rfl rfl rfl
theorem d150_49 : decode prog_10_method_48_code 49 = .ok (.iload 5, 2) := by decide +kernel
theorem s150_49 {v0 v1 v2 v3 v4 v6 : Value} {l1 : Int32} {st : List Value} {im : IM} {rm : RM}  : ev 150 49 [v0, v1, v2, v3, v4, .int l1, v6] st im rm = ev 150 51 [v0, v1, v2, v3, v4, .int l1, v6] (.int l1 :: st) (im) (rm) := ev_iload pm_m150 d150_49 rfl rfl
theorem d150_51 : decode prog_10_method_48_code 51 = .ok (.goto 4, 3) := by decide +kernel
theorem s150_51 {v0 v1 v2 v3 v4 v5 v6 : Value}  {st : List Value} {im : IM} {rm : RM}  : ev 150 51 [v0, v1, v2, v3, v4, v5, v6] st im rm = ev 150 55 [v0, v1, v2, pm_u, v4, v5, v6] st (im) (rm) := ev_goto pm_m150 d150_51 rfl rfl
theorem d150_54 : decode prog_10_method_48_code 54 = .ok (.iload_n 3, 1) := by decide +kernel
theorem s150_54 {v0 v1 v2 v4 v5 v6 : Value} {l1 : Int32} {st : List Value} {im : IM} {rm : RM}  : ev 150 54 [v0, v1, v2, .int l1, v4, v5, v6] st im rm = ev 150 55 [v0, v1, v2, pm_u, v4, v5, v6] (.int l1 :: st) (im) (rm) := ev_iload_n pm_m150 d150_54 rfl rfl
theorem d150_55 : decode prog_10_method_48_code 55 = .ok (.istore_n 3, 1) := by decide +kernel
theorem s150_55 {v0 v1 v3 v4 v5 v6 : Value} {l1 : Int32} {x2 : Int32} {st : List Value} {im : IM} {rm : RM}  : ev 150 55 [v0, v1, .int l1, v3, v4, v5, v6] (.int x2 :: st) im rm = ev 150 56 [v0, v1, .int l1, .int x2, v4, v5, v6] st (im) (rm) := ev_istore_n pm_m150 d150_55 (Nat.le_of_ble_eq_true rfl) rfl rfl
theorem d150_56 : decode prog_10_method_48_code 56 = .ok (.iload 6, 2) := by decide +kernel
theorem s150_56 {v0 v1 v2 v3 v4 v5 : Value} {l1 : Int32} {st : List Value} {im : IM} {rm : RM}  : ev 150 56 [v0, v1, v2, v3, v4, v5, .int l1] st im rm = ev 150 58 [v0, v1, v2, v3, v4, v5, .int l1] (.int l1 :: st) (im) (rm) := ev_iload pm_m150 d150_56 rfl rfl
theorem d150_58 : decode prog_10_method_48_code 58 = .ok (.iload 4, 2) := by decide +kernel
theorem s150_58 {v0 v1 v2 v3 v5 v6 : Value} {l1 : Int32} {st : List Value} {im : IM} {rm : RM}  : ev 150 58 [v0, v1, v2, v3, .int l1, v5, v6] st im rm = ev 150 60 [v0, v1, v2, v3, .int l1, v5, v6] (.int l1 :: st) (im) (rm) := ev_iload pm_m150 d150_58 rfl rfl
theorem d150_60 : decode prog_10_method_48_code 60 = .ok (.if_icmp .le 8, 3) := by decide +kernel
theorem s150_60 {v0 v1 v2 v3 v4 v5 v6 : Value} {x : Int32} {y : Int32} {st : List Value} {im : IM} {rm : RM} : ev 150 60 [v0, v1, v2, v3, v4, v5, v6] (.int y :: .int x :: st) im rm = if x ≤ y then ev 150 68 [v0, v1, v2, v3, v4, v5, pm_u] st im rm else ev 150 63 [v0, v1, v2, v3, v4, v5, v6] st im rm := ev_icmp_le pm_m150 d150_60 rfl rfl rfl
theorem d150_63 : decode prog_10_method_48_code 63 = .ok (.iload 6, 2) := by decide +kernel
theorem s150_63 {v0 v1 v2 v3 v4 v5 : Value} {l1 : Int32} {st : List Value} {im : IM} {rm : RM}  : ev 150 63 [v0, v1, v2, v3, v4, v5, .int l1] st im rm = ev 150 65 [v0, v1, v2, v3, v4, v5, .int l1] (.int l1 :: st) (im) (rm) := ev_iload pm_m150 d150_63 rfl rfl
theorem d150_65 : decode prog_10_method_48_code 65 = .ok (.goto 5, 3) := by decide +kernel
theorem s150_65 {v0 v1 v2 v3 v4 v5 v6 : Value}  {st : List Value} {im : IM} {rm : RM}  : ev 150 65 [v0, v1, v2, v3, v4, v5, v6] st im rm = ev 150 70 [v0, v1, v2, v3, pm_u, v5, pm_u] st (im) (rm) := ev_goto pm_m150 d150_65 rfl rfl
theorem d150_68 : decode prog_10_method_48_code 68 = .ok (.iload 4, 2) := by decide +kernel
theorem s150_68 {v0 v1 v2 v3 v5 v6 : Value} {l1 : Int32} {st : List Value} {im : IM} {rm : RM}  : ev 150 68 [v0, v1, v2, v3, .int l1, v5, v6] st im rm = ev 150 70 [v0, v1, v2, v3, pm_u, v5, pm_u] (.int l1 :: st) (im) (rm) := ev_iload pm_m150 d150_68 rfl rfl
theorem d150_70 : decode prog_10_method_48_code 70 = .ok (.istore 4, 2) := by decide +kernel
theorem s150_70 {v0 v1 v2 v4 v5 v6 : Value} {l1 : Int32} {x2 : Int32} {st : List Value} {im : IM} {rm : RM}  : ev 150 70 [v0, v1, v2, .int l1, v4, v5, v6] (.int x2 :: st) im rm = ev 150 72 [v0, v1, v2, .int l1, .int x2, v5, v6] st (im) (rm) := ev_istore pm_m150 d150_70 (Nat.le_of_ble_eq_true rfl) rfl rfl
theorem d150_72 : decode prog_10_method_48_code 72 = .ok (.iinc 5 1, 3) := by decide +kernel
theorem s150_72 {v0 v1 v2 v3 v6 : Value} {l1 : Int32} {l2 : Int32} {st : List Value} {im : IM} {rm : RM}  : ev 150 72 [v0, v1, v2, v3, .int l1, .int l2, v6] st im rm = ev 150 75 [v0, v1, v2, v3, .int l1, .int (l2 + nI 1), v6] st (im) (rm) := ev_iinc pm_m150 d150_72 rfl rfl rfl rfl
theorem d150_75 : decode prog_10_method_48_code 75 = .ok (.goto (-49), 3) := by decide +kernel
theorem s150_75 {v0 v1 v2 v3 v4 v5 v6 : Value}  {st : List Value} {im : IM} {rm : RM}  : ev 150 75 [v0, v1, v2, v3, v4, v5, v6] st im rm = ev 150 26 [v0, v1, v2, v3, v4, v5, pm_u] st (im) (rm) := ev_goto pm_m150 d150_75 rfl rfl
theorem d150_78 : decode prog_10_method_48_code 78 = .ok (.iload_n 1, 1) := by decide +kernel
theorem s150_78 {v0 v2 v3 v4 v5 v6 : Value} {l1 : Int32} {st : List Value} {im : IM} {rm : RM}  : ev 150 78 [v0, .int l1, v2, v3, v4, v5, v6] st im rm = ev 150 79 [v0, .int l1, v2, v3, v4, v5, v6] (.int l1 :: st) (im) (rm) := ev_iload_n pm_m150 d150_78 rfl rfl
theorem d150_79 : decode prog_10_method_48_code 79 = .ok (.iconst 1, 1) := by decide +kernel
theorem s150_79 {v0 v1 v2 v3 v4 v5 v6 : Value}  {st : List Value} {im : IM} {rm : RM}  : ev 150 79 [v0, v1, v2, v3, v4, v5, v6] st im rm = ev 150 80 [v0, v1, v2, v3, v4, v5, v6] (.int (nI 1) :: st) (im) (rm) := ev_iconst pm_m150 d150_79 rfl rfl
theorem d150_80 : decode prog_10_method_48_code 80 = .ok (.if_icmp .ne 8, 3) := by decide +kernel
theorem s150_80 {v0 v1 v2 v3 v4 v5 v6 : Value} {x : Int32} {y : Int32} {st : List Value} {im : IM} {rm : RM} : ev 150 80 [v0, v1, v2, v3, v4, v5, v6] (.int y :: .int x :: st) im rm = if x = y then ev 150 83 [v0, v1, v2, v3, v4, v5, v6] st im rm else ev 150 88 [pm_u, pm_u, v2, v3, pm_u, pm_u, pm_u] st im rm := ev_icmp_ne pm_m150 d150_80 rfl rfl rfl
theorem d150_83 : decode prog_10_method_48_code 83 = .ok (.iload 4, 2) := by decide +kernel
theorem s150_83 {v0 v1 v2 v3 v5 v6 : Value} {l1 : Int32} {st : List Value} {im : IM} {rm : RM}  : ev 150 83 [v0, v1, v2, v3, .int l1, v5, v6] st im rm = ev 150 85 [v0, v1, v2, v3, .int l1, v5, v6] (.int l1 :: st) (im) (rm) := ev_iload pm_m150 d150_83 rfl rfl
theorem d150_85 : decode prog_10_method_48_code 85 = .ok (.goto 12, 3) := by decide +kernel
theorem s150_85 {v0 v1 v2 v3 v4 v5 v6 : Value}  {st : List Value} {im : IM} {rm : RM}  : ev 150 85 [v0, v1, v2, v3, v4, v5, v6] st im rm = ev 150 97 [pm_u, pm_u, pm_u, pm_u, pm_u, pm_u, pm_u] st (im) (rm) := ev_goto pm_m150 d150_85 rfl rfl
theorem d150_88 : decode prog_10_method_48_code 88 = .ok (.iload_n 2, 1) := by decide +kernel
theorem s150_88 {v0 v1 v3 v4 v5 v6 : Value} {l1 : Int32} {st : List Value} {im : IM} {rm : RM}  : ev 150 88 [v0, v1, .int l1, v3, v4, v5, v6] st im rm = ev 150 89 [v0, v1, .int l1, v3, v4, v5, v6] (.int l1 :: st) (im) (rm) := ev_iload_n pm_m150 d150_88 rfl rfl
theorem d150_89 : decode prog_10_method_48_code 89 = .ok (.ifCond .ne 7, 3) := by decide +kernel
theorem s150_89 {v0 v1 v2 v3 v4 v5 v6 : Value} {x : Int32} {st : List Value} {im : IM} {rm : RM} : ev 150 89 [v0, v1, v2, v3, v4, v5, v6] (.int x :: st) im rm = if x = nI 0 then ev 150 92 [v0, v1, v2, v3, v4, v5, v6] st im rm else ev 150 96 [pm_u, pm_u, pm_u, v3, pm_u, pm_u, pm_u] st im rm := ev_if_ne (y := 0) pm_m150 d150_89 rfl rfl rfl
theorem d150_92 : decode prog_10_method_48_code 92 = .ok (.iconst (-1), 1) := by decide +kernel
theorem s150_92 {v0 v1 v2 v3 v4 v5 v6 : Value}  {st : List Value} {im : IM} {rm : RM}  : ev 150 92 [v0, v1, v2, v3, v4, v5, v6] st im rm = ev 150 93 [v0, v1, v2, v3, v4, v5, v6] (.int ((-1 : Int32)) :: st) (im) (rm) := ev_iconst pm_m150 d150_92 rfl rfl
theorem d150_93 : decode prog_10_method_48_code 93 = .ok (.goto 4, 3) := by decide +kernel
theorem s150_93 {v0 v1 v2 v3 v4 v5 v6 : Value}  {st : List Value} {im : IM} {rm : RM}  : ev 150 93 [v0, v1, v2, v3, v4, v5, v6] st im rm = ev 150 97 [pm_u, pm_u, pm_u, pm_u, pm_u, pm_u, pm_u] st (im) (rm) := ev_goto pm_m150 d150_93 rfl rfl
theorem d150_96 : decode prog_10_method_48_code 96 = .ok (.iload_n 3, 1) := by decide +kernel
theorem s150_96 {v0 v1 v2 v4 v5 v6 : Value} {l1 : Int32} {st : List Value} {im : IM} {rm : RM}  : ev 150 96 [v0, v1, v2, .int l1, v4, v5, v6] st im rm = ev 150 97 [pm_u, pm_u, pm_u, pm_u, pm_u, pm_u, pm_u] (.int l1 :: st) (im) (rm) := ev_iload_n pm_m150 d150_96 rfl rfl
theorem d150_97 : decode prog_10_method_48_code 97 = .ok (.ireturn, 1) := by decide +kernel
theorem s150_97 {v0 v1 v2 v3 v4 v5 v6 : Value} {x : Int32} {im : IM} {rm : RM} : ev 150 97 [v0, v1, v2, v3, v4, v5, v6] [.int x] im rm = some (some (.int x), im, rm) := ev_ireturn pm_m150 d150_97 rfl
theorem d151_0 : decode prog_10_method_49_code 0 = .ok (.iconst 0, 1) := by decide +kernel
theorem s151_0 {v0 v1 v2 v3 v4 v5 : Value}  {st : List Value} {im : IM} {rm : RM}  : ev 151 0 [v0, v1, v2, v3, v4, v5] st im rm = ev 151 1 [v0, v1, v2, v3, v4, v5] (.int (nI 0) :: st) (im) (rm) := ev_iconst pm_m151 d151_0 rfl rfl
theorem d151_1 : decode prog_10_method_49_code 1 = .ok (.istore_n 3, 1) := by decide +kernel
theorem s151_1 {v0 v1 v3 v4 v5 : Value} {l1 : Int32} {x2 : Int32} {st : List Value} {im : IM} {rm : RM}  : ev 151 1 [v0, v1, .int l1, v3, v4, v5] (.int x2 :: st) im rm = ev 151 2 [v0, v1, .int l1, .int x2, v4, v5] st (im) (rm) := ev_istore_n pm_m151 d151_1 (Nat.le_of_ble_eq_true rfl) rfl rfl
theorem d151_2 : decode prog_10_method_49_code 2 = .ok (.bipush 6, 2) := by decide +kernel
theorem s151_2 {v0 v1 v2 v3 v4 v5 : Value}  {st : List Value} {im : IM} {rm : RM}  : ev 151 2 [v0, v1, v2, v3, v4, v5] st im rm = ev 151 4 [v0, v1, v2, v3, v4, v5] (.int (nI 6) :: st) (im) (rm) := ev_bipush pm_m151 d151_2 rfl rfl
theorem d151_4 : decode prog_10_method_49_code 4 = .ok (.iload_n 1, 1) := by decide +kernel
theorem s151_4 {v0 v2 v3 v4 v5 : Value} {l1 : Int32} {st : List Value} {im : IM} {rm : RM}  : ev 151 4 [v0, .int l1, v2, v3, v4, v5] st im rm = ev 151 5 [v0, .int l1, v2, v3, v4, v5] (.int l1 :: st) (im) (rm) := ev_iload_n pm_m151 d151_4 rfl rfl
theorem d151_5 : decode prog_10_method_49_code 5 = .ok (.imul, 1) := by decide +kernel
theorem s151_5 {v0 v1 v2 v3 v4 v5 : Value} {x : Int32} {y : Int32} {st : List Value} {im : IM} {rm : RM}  : ev 151 5 [v0, v1, v2, v3, v4, v5] (.int y :: .int x :: st) im rm = ev 151 6 [v0, v1, v2, v3, v4, v5] (.int (x * y) :: st) (im) (rm) := ev_imul pm_m151 d151_5 rfl
theorem d151_6 : decode prog_10_method_49_code 6 = .ok (.istore 4, 2) := by decide +kernel
theorem s151_6 {v0 v1 v2 v4 v5 : Value} {l1 : Int32} {x2 : Int32} {st : List Value} {im : IM} {rm : RM}  : ev 151 6 [v0, v1, v2, .int l1, v4, v5] (.int x2 :: st) im rm = ev 151 8 [v0, v1, v2, .int l1, .int x2, pm_u] st (im) (rm) := ev_istore pm_m151 d151_6 (Nat.le_of_ble_eq_true rfl) rfl rfl
theorem d151_8 : decode prog_10_method_49_code 8 = .ok (.iload 4, 2) := by decide +kernel
theorem s151_8 {v0 v1 v2 v3 v5 : Value} {l1 : Int32} {st : List Value} {im : IM} {rm : RM}  : ev 151 8 [v0, v1, v2, v3, .int l1, v5] st im rm = ev 151 10 [v0, v1, v2, v3, .int l1, v5] (.int l1 :: st) (im) (rm) := ev_iload pm_m151 d151_8 rfl rfl
theorem d151_10 : decode prog_10_method_49_code 10 = .ok (.bipush 6, 2) := by decide +kernel
theorem s151_10 {v0 v1 v2 v3 v4 v5 : Value}  {st : List Value} {im : IM} {rm : RM}  : ev 151 10 [v0, v1, v2, v3, v4, v5] st im rm = ev 151 12 [v0, v1, v2, v3, v4, v5] (.int (nI 6) :: st) (im) (rm) := ev_bipush pm_m151 d151_10 rfl rfl
theorem d151_12 : decode prog_10_method_49_code 12 = .ok (.iload_n 1, 1) := by decide +kernel
theorem s151_12 {v0 v2 v3 v4 v5 : Value} {l1 : Int32} {st : List Value} {im : IM} {rm : RM}  : ev 151 12 [v0, .int l1, v2, v3, v4, v5] st im rm = ev 151 13 [v0, .int l1, v2, v3, v4, v5] (.int l1 :: st) (im) (rm) := ev_iload_n pm_m151 d151_12 rfl rfl
theorem d151_13 : decode prog_10_method_49_code 13 = .ok (.imul, 1) := by decide +kernel
theorem s151_13 {v0 v1 v2 v3 v4 v5 : Value} {x : Int32} {y : Int32} {st : List Value} {im : IM} {rm : RM}  : ev 151 13 [v0, v1, v2, v3, v4, v5] (.int y :: .int x :: st) im rm = ev 151 14 [v0, v1, v2, v3, v4, v5] (.int (x * y) :: st) (im) (rm) := ev_imul pm_m151 d151_13 rfl
theorem d151_14 : decode prog_10_method_49_code 14 = .ok (.aload_n 0, 1) := by decide +kernel
theorem s151_14 {v1 v2 v3 v4 v5 : Value} {l1 : Nat} {st : List Value} {im : IM} {rm : RM}  : ev 151 14 [.ref l1, v1, v2, v3, v4, v5] st im rm = ev 151 15 [.ref l1, v1, v2, v3, v4, v5] (.ref l1 :: st) (im) (rm) := ev_aload_n pm_m151 d151_14 rfl rfl
theorem d151_15 : decode prog_10_method_49_code 15 = .ok (.getfield 43, 3) := by decide +kernel
theorem s151_15 {v0 v1 v2 v3 v4 v5 : Value} {a : Nat} {st : List Value} {im : IM} {rm : RM} (hk : kd a = 18) : ev 151 15 [v0, v1, v2, v3, v4, v5] (.ref a :: st) im rm = ev 151 18 [v0, v1, v2, v3, v4, v5] (pm_ro (rm a 12) :: st) (im) (rm) := ev_getR pm_m151 d151_15 f8_43 rfl hk rfl
theorem d151_18 : decode prog_10_method_49_code 18 = .ok (.iload_n 1, 1) := by decide +kernel
theorem s151_18 {v0 v2 v3 v4 v5 : Value} {l1 : Int32} {st : List Value} {im : IM} {rm : RM}  : ev 151 18 [v0, .int l1, v2, v3, v4, v5] st im rm = ev 151 19 [v0, .int l1, v2, v3, v4, v5] (.int l1 :: st) (im) (rm) := ev_iload_n pm_m151 d151_18 rfl rfl
theorem d151_19 : decode prog_10_method_49_code 19 = .ok (.iaload, 1) := by decide +kernel
theorem s151_19 {v0 v1 v2 v3 v4 v5 : Value} {a : Nat} {i : Int32} {st : List Value} {im : IM} {rm : RM} (hk : kd a = 0) (hi : pm_in i (ln a) = true) : ev 151 19 [v0, v1, v2, v3, v4, v5] (.int i :: .ref a :: st) im rm = ev 151 20 [v0, v1, v2, v3, v4, v5] (.int (im a i.toNatClampNeg) :: st) (im) (rm) := ev_iald pm_m151 d151_19 hk hi rfl
theorem d151_20 : decode prog_10_method_49_code 20 = .ok (.iadd, 1) := by decide +kernel
theorem s151_20 {v0 v1 v2 v3 v4 v5 : Value} {x : Int32} {y : Int32} {st : List Value} {im : IM} {rm : RM}  : ev 151 20 [v0, v1, v2, v3, v4, v5] (.int y :: .int x :: st) im rm = ev 151 21 [v0, v1, v2, v3, v4, v5] (.int (x + y) :: st) (im) (rm) := ev_iadd pm_m151 d151_20 rfl
theorem d151_21 : decode prog_10_method_49_code 21 = .ok (.if_icmp .ge 59, 3) := by decide +kernel
theorem s151_21 {v0 v1 v2 v3 v4 v5 : Value} {x : Int32} {y : Int32} {st : List Value} {im : IM} {rm : RM} : ev 151 21 [v0, v1, v2, v3, v4, v5] (.int y :: .int x :: st) im rm = if y ≤ x then ev 151 80 [pm_u, pm_u, pm_u, v3, pm_u, pm_u] st im rm else ev 151 24 [v0, v1, v2, v3, v4, v5] st im rm := ev_icmp_ge pm_m151 d151_21 rfl rfl rfl
theorem d151_24 : decode prog_10_method_49_code 24 = .ok (.iconst 4, 1) := by decide +kernel
theorem s151_24 {v0 v1 v2 v3 v4 v5 : Value}  {st : List Value} {im : IM} {rm : RM}  : ev 151 24 [v0, v1, v2, v3, v4, v5] st im rm = ev 151 25 [v0, v1, v2, v3, v4, v5] (.int (nI 4) :: st) (im) (rm) := ev_iconst pm_m151 d151_24 rfl rfl
theorem d151_25 : decode prog_10_method_49_code 25 = .ok (.iload 4, 2) := by decide +kernel
theorem s151_25 {v0 v1 v2 v3 v5 : Value} {l1 : Int32} {st : List Value} {im : IM} {rm : RM}  : ev 151 25 [v0, v1, v2, v3, .int l1, v5] st im rm = ev 151 27 [v0, v1, v2, v3, .int l1, v5] (.int l1 :: st) (im) (rm) := ev_iload pm_m151 d151_25 rfl rfl
theorem d151_27 : decode prog_10_method_49_code 27 = .ok (.imul, 1) := by decide +kernel
theorem s151_27 {v0 v1 v2 v3 v4 v5 : Value} {x : Int32} {y : Int32} {st : List Value} {im : IM} {rm : RM}  : ev 151 27 [v0, v1, v2, v3, v4, v5] (.int y :: .int x :: st) im rm = ev 151 28 [v0, v1, v2, v3, v4, v5] (.int (x * y) :: st) (im) (rm) := ev_imul pm_m151 d151_27 rfl
theorem d151_28 : decode prog_10_method_49_code 28 = .ok (.istore 5, 2) := by decide +kernel
theorem s151_28 {v0 v1 v2 v3 v5 : Value} {l1 : Int32} {x2 : Int32} {st : List Value} {im : IM} {rm : RM}  : ev 151 28 [v0, v1, v2, v3, .int l1, v5] (.int x2 :: st) im rm = ev 151 30 [v0, v1, v2, v3, .int l1, .int x2] st (im) (rm) := ev_istore pm_m151 d151_28 (Nat.le_of_ble_eq_true rfl) rfl rfl
theorem d151_30 : decode prog_10_method_49_code 30 = .ok (.iload 5, 2) := by decide +kernel
theorem s151_30 {v0 v1 v2 v3 v4 : Value} {l1 : Int32} {st : List Value} {im : IM} {rm : RM}  : ev 151 30 [v0, v1, v2, v3, v4, .int l1] st im rm = ev 151 32 [v0, v1, v2, v3, v4, .int l1] (.int l1 :: st) (im) (rm) := ev_iload pm_m151 d151_30 rfl rfl
theorem d151_32 : decode prog_10_method_49_code 32 = .ok (.iconst 4, 1) := by decide +kernel
theorem s151_32 {v0 v1 v2 v3 v4 v5 : Value}  {st : List Value} {im : IM} {rm : RM}  : ev 151 32 [v0, v1, v2, v3, v4, v5] st im rm = ev 151 33 [v0, v1, v2, v3, v4, v5] (.int (nI 4) :: st) (im) (rm) := ev_iconst pm_m151 d151_32 rfl rfl
theorem d151_33 : decode prog_10_method_49_code 33 = .ok (.iload 4, 2) := by decide +kernel
theorem s151_33 {v0 v1 v2 v3 v5 : Value} {l1 : Int32} {st : List Value} {im : IM} {rm : RM}  : ev 151 33 [v0, v1, v2, v3, .int l1, v5] st im rm = ev 151 35 [v0, v1, v2, v3, .int l1, v5] (.int l1 :: st) (im) (rm) := ev_iload pm_m151 d151_33 rfl rfl
theorem d151_35 : decode prog_10_method_49_code 35 = .ok (.imul, 1) := by decide +kernel
theorem s151_35 {v0 v1 v2 v3 v4 v5 : Value} {x : Int32} {y : Int32} {st : List Value} {im : IM} {rm : RM}  : ev 151 35 [v0, v1, v2, v3, v4, v5] (.int y :: .int x :: st) im rm = ev 151 36 [v0, v1, v2, v3, v4, v5] (.int (x * y) :: st) (im) (rm) := ev_imul pm_m151 d151_35 rfl
theorem d151_36 : decode prog_10_method_49_code 36 = .ok (.aload_n 0, 1) := by decide +kernel
theorem s151_36 {v1 v2 v3 v4 v5 : Value} {l1 : Nat} {st : List Value} {im : IM} {rm : RM}  : ev 151 36 [.ref l1, v1, v2, v3, v4, v5] st im rm = ev 151 37 [.ref l1, v1, v2, v3, v4, v5] (.ref l1 :: st) (im) (rm) := ev_aload_n pm_m151 d151_36 rfl rfl
theorem d151_37 : decode prog_10_method_49_code 37 = .ok (.getfield 49, 3) := by decide +kernel
theorem s151_37 {v0 v1 v2 v3 v4 v5 : Value} {a : Nat} {st : List Value} {im : IM} {rm : RM} (hk : kd a = 18) : ev 151 37 [v0, v1, v2, v3, v4, v5] (.ref a :: st) im rm = ev 151 40 [v0, v1, v2, v3, v4, v5] (pm_ro (rm a 14) :: st) (im) (rm) := ev_getR pm_m151 d151_37 f8_49 rfl hk rfl
theorem d151_40 : decode prog_10_method_49_code 40 = .ok (.iload 4, 2) := by decide +kernel
theorem s151_40 {v0 v1 v2 v3 v5 : Value} {l1 : Int32} {st : List Value} {im : IM} {rm : RM}  : ev 151 40 [v0, v1, v2, v3, .int l1, v5] st im rm = ev 151 42 [v0, v1, v2, v3, .int l1, v5] (.int l1 :: st) (im) (rm) := ev_iload pm_m151 d151_40 rfl rfl
theorem d151_42 : decode prog_10_method_49_code 42 = .ok (.iaload, 1) := by decide +kernel
theorem s151_42 {v0 v1 v2 v3 v4 v5 : Value} {a : Nat} {i : Int32} {st : List Value} {im : IM} {rm : RM} (hk : kd a = 0) (hi : pm_in i (ln a) = true) : ev 151 42 [v0, v1, v2, v3, v4, v5] (.int i :: .ref a :: st) im rm = ev 151 43 [v0, v1, v2, v3, v4, v5] (.int (im a i.toNatClampNeg) :: st) (im) (rm) := ev_iald pm_m151 d151_42 hk hi rfl
theorem d151_43 : decode prog_10_method_49_code 43 = .ok (.iadd, 1) := by decide +kernel
theorem s151_43 {v0 v1 v2 v3 v4 v5 : Value} {x : Int32} {y : Int32} {st : List Value} {im : IM} {rm : RM}  : ev 151 43 [v0, v1, v2, v3, v4, v5] (.int y :: .int x :: st) im rm = ev 151 44 [v0, v1, v2, v3, v4, v5] (.int (x + y) :: st) (im) (rm) := ev_iadd pm_m151 d151_43 rfl
theorem d151_44 : decode prog_10_method_49_code 44 = .ok (.if_icmp .ge 30, 3) := by decide +kernel
theorem s151_44 {v0 v1 v2 v3 v4 v5 : Value} {x : Int32} {y : Int32} {st : List Value} {im : IM} {rm : RM} : ev 151 44 [v0, v1, v2, v3, v4, v5] (.int y :: .int x :: st) im rm = if y ≤ x then ev 151 74 [v0, v1, v2, v3, v4, pm_u] st im rm else ev 151 47 [v0, v1, v2, v3, v4, v5] st im rm := ev_icmp_ge pm_m151 d151_44 rfl rfl rfl
theorem d151_47 : decode prog_10_method_49_code 47 = .ok (.iload_n 3, 1) := by decide +kernel
theorem s151_47 {v0 v1 v2 v4 v5 : Value} {l1 : Int32} {st : List Value} {im : IM} {rm : RM}  : ev 151 47 [v0, v1, v2, .int l1, v4, v5] st im rm = ev 151 48 [v0, v1, v2, .int l1, v4, v5] (.int l1 :: st) (im) (rm) := ev_iload_n pm_m151 d151_47 rfl rfl
theorem d151_48 : decode prog_10_method_49_code 48 = .ok (.ifCond .ne 14, 3) := by decide +kernel
theorem s151_48 {v0 v1 v2 v3 v4 v5 : Value} {x : Int32} {st : List Value} {im : IM} {rm : RM} : ev 151 48 [v0, v1, v2, v3, v4, v5] (.int x :: st) im rm = if x = nI 0 then ev 151 51 [v0, v1, v2, v3, v4, v5] st im rm else ev 151 62 [v0, v1, v2, pm_u, v4, v5] st im rm := ev_if_ne (y := 0) pm_m151 d151_48 rfl rfl rfl
theorem d151_51 : decode prog_10_method_49_code 51 = .ok (.aload_n 0, 1) := by decide +kernel
theorem s151_51 {v1 v2 v3 v4 v5 : Value} {l1 : Nat} {st : List Value} {im : IM} {rm : RM}  : ev 151 51 [.ref l1, v1, v2, v3, v4, v5] st im rm = ev 151 52 [.ref l1, v1, v2, v3, v4, v5] (.ref l1 :: st) (im) (rm) := ev_aload_n pm_m151 d151_51 rfl rfl
theorem d151_52 : decode prog_10_method_49_code 52 = .ok (.getfield 52, 3) := by decide +kernel
theorem s151_52 {v0 v1 v2 v3 v4 v5 : Value} {a : Nat} {st : List Value} {im : IM} {rm : RM} (hk : kd a = 18) : ev 151 52 [v0, v1, v2, v3, v4, v5] (.ref a :: st) im rm = ev 151 55 [v0, v1, v2, v3, v4, v5] (pm_ro (rm a 15) :: st) (im) (rm) := ev_getR pm_m151 d151_52 f8_52 rfl hk rfl
theorem d151_55 : decode prog_10_method_49_code 55 = .ok (.iload 5, 2) := by decide +kernel
theorem s151_55 {v0 v1 v2 v3 v4 : Value} {l1 : Int32} {st : List Value} {im : IM} {rm : RM}  : ev 151 55 [v0, v1, v2, v3, v4, .int l1] st im rm = ev 151 57 [v0, v1, v2, v3, v4, .int l1] (.int l1 :: st) (im) (rm) := ev_iload pm_m151 d151_55 rfl rfl
theorem d151_57 : decode prog_10_method_49_code 57 = .ok (.iaload, 1) := by decide +kernel
theorem s151_57 {v0 v1 v2 v3 v4 v5 : Value} {a : Nat} {i : Int32} {st : List Value} {im : IM} {rm : RM} (hk : kd a = 0) (hi : pm_in i (ln a) = true) : ev 151 57 [v0, v1, v2, v3, v4, v5] (.int i :: .ref a :: st) im rm = ev 151 58 [v0, v1, v2, v3, v4, v5] (.int (im a i.toNatClampNeg) :: st) (im) (rm) := ev_iald pm_m151 d151_57 hk hi rfl
theorem d151_58 : decode prog_10_method_49_code 58 = .ok (.iload_n 2, 1) := by decide +kernel
theorem s151_58 {v0 v1 v3 v4 v5 : Value} {l1 : Int32} {st : List Value} {im : IM} {rm : RM}  : ev 151 58 [v0, v1, .int l1, v3, v4, v5] st im rm = ev 151 59 [v0, v1, .int l1, v3, v4, v5] (.int l1 :: st) (im) (rm) := ev_iload_n pm_m151 d151_58 rfl rfl
theorem d151_59 : decode prog_10_method_49_code 59 = .ok (.if_icmp .ne 7, 3) := by decide +kernel
theorem s151_59 {v0 v1 v2 v3 v4 v5 : Value} {x : Int32} {y : Int32} {st : List Value} {im : IM} {rm : RM} : ev 151 59 [v0, v1, v2, v3, v4, v5] (.int y :: .int x :: st) im rm = if x = y then ev 151 62 [v0, v1, v2, pm_u, v4, v5] st im rm else ev 151 66 [v0, v1, v2, pm_u, v4, v5] st im rm := ev_icmp_ne pm_m151 d151_59 rfl rfl rfl
theorem d151_62 : decode prog_10_method_49_code 62 = .ok (.iconst 1, 1) := by decide +kernel
theorem s151_62 {v0 v1 v2 v3 v4 v5 : Value}  {st : List Value} {im : IM} {rm : RM}  : ev 151 62 [v0, v1, v2, v3, v4, v5] st im rm = ev 151 63 [v0, v1, v2, v3, v4, v5] (.int (nI 1) :: st) (im) (rm) := ev_iconst pm_m151 d151_62 rfl rfl
theorem d151_63 : decode prog_10_method_49_code 63 = .ok (.goto 4, 3) := by decide +kernel
theorem s151_63 {v0 v1 v2 v3 v4 v5 : Value}  {st : List Value} {im : IM} {rm : RM}  : ev 151 63 [v0, v1, v2, v3, v4, v5] st im rm = ev 151 67 [v0, v1, v2, pm_u, v4, v5] st (im) (rm) := ev_goto pm_m151 d151_63 rfl rfl
theorem d151_66 : decode prog_10_method_49_code 66 = .ok (.iconst 0, 1) := by decide +kernel
theorem s151_66 {v0 v1 v2 v3 v4 v5 : Value}  {st : List Value} {im : IM} {rm : RM}  : ev 151 66 [v0, v1, v2, v3, v4, v5] st im rm = ev 151 67 [v0, v1, v2, pm_u, v4, v5] (.int (nI 0) :: st) (im) (rm) := ev_iconst pm_m151 d151_66 rfl rfl
theorem d151_67 : decode prog_10_method_49_code 67 = .ok (.istore_n 3, 1) := by decide +kernel
theorem s151_67 {v0 v1 v3 v4 v5 : Value} {l1 : Int32} {x2 : Int32} {st : List Value} {im : IM} {rm : RM}  : ev 151 67 [v0, v1, .int l1, v3, v4, v5] (.int x2 :: st) im rm = ev 151 68 [v0, v1, .int l1, .int x2, v4, v5] st (im) (rm) := ev_istore_n pm_m151 d151_67 (Nat.le_of_ble_eq_true rfl) rfl rfl
theorem d151_68 : decode prog_10_method_49_code 68 = .ok (.iinc 5 1, 3) := by decide +kernel
theorem s151_68 {v0 v1 v2 v3 : Value} {l1 : Int32} {l2 : Int32} {st : List Value} {im : IM} {rm : RM}  : ev 151 68 [v0, v1, v2, v3, .int l1, .int l2] st im rm = ev 151 71 [v0, v1, v2, v3, .int l1, .int (l2 + nI 1)] st (im) (rm) := ev_iinc pm_m151 d151_68 rfl rfl rfl rfl
theorem d151_71 : decode prog_10_method_49_code 71 = .ok (.goto (-41), 3) := by decide +kernel
theorem s151_71 {v0 v1 v2 v3 v4 v5 : Value}  {st : List Value} {im : IM} {rm : RM}  : ev 151 71 [v0, v1, v2, v3, v4, v5] st im rm = ev 151 30 [v0, v1, v2, v3, v4, v5] st (im) (rm) := ev_goto pm_m151 d151_71 rfl rfl
theorem d151_74 : decode prog_10_method_49_code 74 = .ok (.iinc 4 1, 3) := by decide +kernel
theorem s151_74 {v0 v1 v2 v5 : Value} {l1 : Int32} {l2 : Int32} {st : List Value} {im : IM} {rm : RM}  : ev 151 74 [v0, v1, v2, .int l1, .int l2, v5] st im rm = ev 151 77 [v0, v1, v2, .int l1, .int (l2 + nI 1), v5] st (im) (rm) := ev_iinc pm_m151 d151_74 rfl rfl rfl rfl
theorem d151_77 : decode prog_10_method_49_code 77 = .ok (.goto (-69), 3) := by decide +kernel
theorem s151_77 {v0 v1 v2 v3 v4 v5 : Value}  {st : List Value} {im : IM} {rm : RM}  : ev 151 77 [v0, v1, v2, v3, v4, v5] st im rm = ev 151 8 [v0, v1, v2, v3, v4, pm_u] st (im) (rm) := ev_goto pm_m151 d151_77 rfl rfl
theorem d151_80 : decode prog_10_method_49_code 80 = .ok (.iload_n 3, 1) := by decide +kernel
theorem s151_80 {v0 v1 v2 v4 v5 : Value} {l1 : Int32} {st : List Value} {im : IM} {rm : RM}  : ev 151 80 [v0, v1, v2, .int l1, v4, v5] st im rm = ev 151 81 [v0, v1, v2, .int l1, v4, v5] (.int l1 :: st) (im) (rm) := ev_iload_n pm_m151 d151_80 rfl rfl
theorem d151_81 : decode prog_10_method_49_code 81 = .ok (.ireturn, 1) := by decide +kernel
theorem s151_81 {v0 v1 v2 v3 v4 v5 : Value} {x : Int32} {im : IM} {rm : RM} (hx : x = 0 ∨ x = 1) : ev 151 81 [v0, v1, v2, v3, v4, v5] [.int x] im rm = some (some (.int x), im, rm) := ev_zreturn pm_m151 d151_81 rfl hx
theorem d152_0 : decode prog_10_method_50_code 0 = .ok (.iconst 0, 1) := by decide +kernel
theorem s152_0 {v0 v1 v2 v3 v4 v5 : Value}  {st : List Value} {im : IM} {rm : RM}  : ev 152 0 [v0, v1, v2, v3, v4, v5] st im rm = ev 152 1 [v0, v1, v2, v3, v4, v5] (.int (nI 0) :: st) (im) (rm) := ev_iconst pm_m152 d152_0 rfl rfl
theorem d152_1 : decode prog_10_method_50_code 1 = .ok (.istore 4, 2) := by decide +kernel
theorem s152_1 {v0 v1 v2 v4 v5 : Value} {l1 : Int32} {x2 : Int32} {st : List Value} {im : IM} {rm : RM}  : ev 152 1 [v0, v1, v2, .int l1, v4, v5] (.int x2 :: st) im rm = ev 152 3 [v0, v1, v2, .int l1, .int x2, v5] st (im) (rm) := ev_istore pm_m152 d152_1 (Nat.le_of_ble_eq_true rfl) rfl rfl
theorem d152_3 : decode prog_10_method_50_code 3 = .ok (.iconst 0, 1) := by decide +kernel
theorem s152_3 {v0 v1 v2 v3 v4 v5 : Value}  {st : List Value} {im : IM} {rm : RM}  : ev 152 3 [v0, v1, v2, v3, v4, v5] st im rm = ev 152 4 [v0, v1, v2, v3, v4, v5] (.int (nI 0) :: st) (im) (rm) := ev_iconst pm_m152 d152_3 rfl rfl
theorem d152_4 : decode prog_10_method_50_code 4 = .ok (.istore 5, 2) := by decide +kernel
theorem s152_4 {v0 v1 v2 v3 v5 : Value} {l1 : Int32} {x2 : Int32} {st : List Value} {im : IM} {rm : RM}  : ev 152 4 [v0, v1, v2, v3, .int l1, v5] (.int x2 :: st) im rm = ev 152 6 [v0, v1, v2, v3, .int l1, .int x2] st (im) (rm) := ev_istore pm_m152 d152_4 (Nat.le_of_ble_eq_true rfl) rfl rfl
theorem d152_6 : decode prog_10_method_50_code 6 = .ok (.iload 5, 2) := by decide +kernel
theorem s152_6 {v0 v1 v2 v3 v4 : Value} {l1 : Int32} {st : List Value} {im : IM} {rm : RM}  : ev 152 6 [v0, v1, v2, v3, v4, .int l1] st im rm = ev 152 8 [v0, v1, v2, v3, v4, .int l1] (.int l1 :: st) (im) (rm) := ev_iload pm_m152 d152_6 rfl rfl
theorem d152_8 : decode prog_10_method_50_code 8 = .ok (.aload_n 0, 1) := by decide +kernel
theorem s152_8 {v1 v2 v3 v4 v5 : Value} {l1 : Nat} {st : List Value} {im : IM} {rm : RM}  : ev 152 8 [.ref l1, v1, v2, v3, v4, v5] st im rm = ev 152 9 [.ref l1, v1, v2, v3, v4, v5] (.ref l1 :: st) (im) (rm) := ev_aload_n pm_m152 d152_8 rfl rfl
theorem d152_9 : decode prog_10_method_50_code 9 = .ok (.getfield 296, 3) := by decide +kernel
theorem s152_9 {v0 v1 v2 v3 v4 v5 : Value} {a : Nat} {st : List Value} {im : IM} {rm : RM} (hk : kd a = 18) : ev 152 9 [v0, v1, v2, v3, v4, v5] (.ref a :: st) im rm = ev 152 12 [v0, v1, v2, v3, v4, v5] (.int (im a 33) :: st) (im) (rm) := ev_getI pm_m152 d152_9 f8_296 rfl hk rfl
theorem d152_12 : decode prog_10_method_50_code 12 = .ok (.if_icmp .ge 65, 3) := by decide +kernel
theorem s152_12 {v0 v1 v2 v3 v4 v5 : Value} {x : Int32} {y : Int32} {st : List Value} {im : IM} {rm : RM} : ev 152 12 [v0, v1, v2, v3, v4, v5] (.int y :: .int x :: st) im rm = if y ≤ x then ev 152 77 [pm_u, pm_u, pm_u, pm_u, v4, pm_u] st im rm else ev 152 15 [v0, v1, v2, v3, v4, v5] st im rm := ev_icmp_ge pm_m152 d152_12 rfl rfl rfl
theorem d152_15 : decode prog_10_method_50_code 15 = .ok (.iload 4, 2) := by decide +kernel
theorem s152_15 {v0 v1 v2 v3 v5 : Value} {l1 : Int32} {st : List Value} {im : IM} {rm : RM}  : ev 152 15 [v0, v1, v2, v3, .int l1, v5] st im rm = ev 152 17 [v0, v1, v2, v3, .int l1, v5] (.int l1 :: st) (im) (rm) := ev_iload pm_m152 d152_15 rfl rfl
theorem d152_17 : decode prog_10_method_50_code 17 = .ok (.ifCond .ne 47, 3) := by decide +kernel
theorem s152_17 {v0 v1 v2 v3 v4 v5 : Value} {x : Int32} {st : List Value} {im : IM} {rm : RM} : ev 152 17 [v0, v1, v2, v3, v4, v5] (.int x :: st) im rm = if x = nI 0 then ev 152 20 [v0, v1, v2, v3, v4, v5] st im rm else ev 152 64 [v0, v1, v2, v3, pm_u, v5] st im rm := ev_if_ne (y := 0) pm_m152 d152_17 rfl rfl rfl
theorem d152_20 : decode prog_10_method_50_code 20 = .ok (.aload_n 0, 1) := by decide +kernel
theorem s152_20 {v1 v2 v3 v4 v5 : Value} {l1 : Nat} {st : List Value} {im : IM} {rm : RM}  : ev 152 20 [.ref l1, v1, v2, v3, v4, v5] st im rm = ev 152 21 [.ref l1, v1, v2, v3, v4, v5] (.ref l1 :: st) (im) (rm) := ev_aload_n pm_m152 d152_20 rfl rfl
theorem d152_21 : decode prog_10_method_50_code 21 = .ok (.getfield 88, 3) := by decide +kernel
theorem s152_21 {v0 v1 v2 v3 v4 v5 : Value} {a : Nat} {st : List Value} {im : IM} {rm : RM} (hk : kd a = 18) : ev 152 21 [v0, v1, v2, v3, v4, v5] (.ref a :: st) im rm = ev 152 24 [v0, v1, v2, v3, v4, v5] (pm_ro (rm a 29) :: st) (im) (rm) := ev_getR pm_m152 d152_21 f8_88 rfl hk rfl
theorem d152_24 : decode prog_10_method_50_code 24 = .ok (.iload 5, 2) := by decide +kernel
theorem s152_24 {v0 v1 v2 v3 v4 : Value} {l1 : Int32} {st : List Value} {im : IM} {rm : RM}  : ev 152 24 [v0, v1, v2, v3, v4, .int l1] st im rm = ev 152 26 [v0, v1, v2, v3, v4, .int l1] (.int l1 :: st) (im) (rm) := ev_iload pm_m152 d152_24 rfl rfl
theorem d152_26 : decode prog_10_method_50_code 26 = .ok (.iaload, 1) := by decide +kernel
theorem s152_26 {v0 v1 v2 v3 v4 v5 : Value} {a : Nat} {i : Int32} {st : List Value} {im : IM} {rm : RM} (hk : kd a = 0) (hi : pm_in i (ln a) = true) : ev 152 26 [v0, v1, v2, v3, v4, v5] (.int i :: .ref a :: st) im rm = ev 152 27 [v0, v1, v2, v3, v4, v5] (.int (im a i.toNatClampNeg) :: st) (im) (rm) := ev_iald pm_m152 d152_26 hk hi rfl
theorem d152_27 : decode prog_10_method_50_code 27 = .ok (.iload_n 1, 1) := by decide +kernel
theorem s152_27 {v0 v2 v3 v4 v5 : Value} {l1 : Int32} {st : List Value} {im : IM} {rm : RM}  : ev 152 27 [v0, .int l1, v2, v3, v4, v5] st im rm = ev 152 28 [v0, .int l1, v2, v3, v4, v5] (.int l1 :: st) (im) (rm) := ev_iload_n pm_m152 d152_27 rfl rfl
theorem d152_28 : decode prog_10_method_50_code 28 = .ok (.if_icmp .ne 40, 3) := by decide +kernel
theorem s152_28 {v0 v1 v2 v3 v4 v5 : Value} {x : Int32} {y : Int32} {st : List Value} {im : IM} {rm : RM} : ev 152 28 [v0, v1, v2, v3, v4, v5] (.int y :: .int x :: st) im rm = if x = y then ev 152 31 [v0, v1, v2, v3, v4, v5] st im rm else ev 152 68 [v0, v1, v2, v3, pm_u, v5] st im rm := ev_icmp_ne pm_m152 d152_28 rfl rfl rfl
theorem d152_31 : decode prog_10_method_50_code 31 = .ok (.aload_n 0, 1) := by decide +kernel
theorem s152_31 {v1 v2 v3 v4 v5 : Value} {l1 : Nat} {st : List Value} {im : IM} {rm : RM}  : ev 152 31 [.ref l1, v1, v2, v3, v4, v5] st im rm = ev 152 32 [.ref l1, v1, v2, v3, v4, v5] (.ref l1 :: st) (im) (rm) := ev_aload_n pm_m152 d152_31 rfl rfl
theorem d152_32 : decode prog_10_method_50_code 32 = .ok (.getfield 91, 3) := by decide +kernel
theorem s152_32 {v0 v1 v2 v3 v4 v5 : Value} {a : Nat} {st : List Value} {im : IM} {rm : RM} (hk : kd a = 18) : ev 152 32 [v0, v1, v2, v3, v4, v5] (.ref a :: st) im rm = ev 152 35 [v0, v1, v2, v3, v4, v5] (pm_ro (rm a 30) :: st) (im) (rm) := ev_getR pm_m152 d152_32 f8_91 rfl hk rfl
theorem d152_35 : decode prog_10_method_50_code 35 = .ok (.iload 5, 2) := by decide +kernel
theorem s152_35 {v0 v1 v2 v3 v4 : Value} {l1 : Int32} {st : List Value} {im : IM} {rm : RM}  : ev 152 35 [v0, v1, v2, v3, v4, .int l1] st im rm = ev 152 37 [v0, v1, v2, v3, v4, .int l1] (.int l1 :: st) (im) (rm) := ev_iload pm_m152 d152_35 rfl rfl
theorem d152_37 : decode prog_10_method_50_code 37 = .ok (.iaload, 1) := by decide +kernel
theorem s152_37 {v0 v1 v2 v3 v4 v5 : Value} {a : Nat} {i : Int32} {st : List Value} {im : IM} {rm : RM} (hk : kd a = 0) (hi : pm_in i (ln a) = true) : ev 152 37 [v0, v1, v2, v3, v4, v5] (.int i :: .ref a :: st) im rm = ev 152 38 [v0, v1, v2, v3, v4, v5] (.int (im a i.toNatClampNeg) :: st) (im) (rm) := ev_iald pm_m152 d152_37 hk hi rfl
theorem d152_38 : decode prog_10_method_50_code 38 = .ok (.iload_n 2, 1) := by decide +kernel
theorem s152_38 {v0 v1 v3 v4 v5 : Value} {l1 : Int32} {st : List Value} {im : IM} {rm : RM}  : ev 152 38 [v0, v1, .int l1, v3, v4, v5] st im rm = ev 152 39 [v0, v1, .int l1, v3, v4, v5] (.int l1 :: st) (im) (rm) := ev_iload_n pm_m152 d152_38 rfl rfl
theorem d152_39 : decode prog_10_method_50_code 39 = .ok (.if_icmp .ne 29, 3) := by decide +kernel
theorem s152_39 {v0 v1 v2 v3 v4 v5 : Value} {x : Int32} {y : Int32} {st : List Value} {im : IM} {rm : RM} : ev 152 39 [v0, v1, v2, v3, v4, v5] (.int y :: .int x :: st) im rm = if x = y then ev 152 42 [v0, v1, v2, v3, v4, v5] st im rm else ev 152 68 [v0, v1, v2, v3, pm_u, v5] st im rm := ev_icmp_ne pm_m152 d152_39 rfl rfl rfl
theorem d152_42 : decode prog_10_method_50_code 42 = .ok (.aload_n 0, 1) := by decide +kernel
theorem s152_42 {v1 v2 v3 v4 v5 : Value} {l1 : Nat} {st : List Value} {im : IM} {rm : RM}  : ev 152 42 [.ref l1, v1, v2, v3, v4, v5] st im rm = ev 152 43 [.ref l1, v1, v2, v3, v4, v5] (.ref l1 :: st) (im) (rm) := ev_aload_n pm_m152 d152_42 rfl rfl
theorem d152_43 : decode prog_10_method_50_code 43 = .ok (.getfield 94, 3) := by decide +kernel
theorem s152_43 {v0 v1 v2 v3 v4 v5 : Value} {a : Nat} {st : List Value} {im : IM} {rm : RM} (hk : kd a = 18) : ev 152 43 [v0, v1, v2, v3, v4, v5] (.ref a :: st) im rm = ev 152 46 [v0, v1, v2, v3, v4, v5] (pm_ro (rm a 31) :: st) (im) (rm) := ev_getR pm_m152 d152_43 f8_94 rfl hk rfl
theorem d152_46 : decode prog_10_method_50_code 46 = .ok (.iload 5, 2) := by decide +kernel
theorem s152_46 {v0 v1 v2 v3 v4 : Value} {l1 : Int32} {st : List Value} {im : IM} {rm : RM}  : ev 152 46 [v0, v1, v2, v3, v4, .int l1] st im rm = ev 152 48 [v0, v1, v2, v3, v4, .int l1] (.int l1 :: st) (im) (rm) := ev_iload pm_m152 d152_46 rfl rfl
theorem d152_48 : decode prog_10_method_50_code 48 = .ok (.iaload, 1) := by decide +kernel
theorem s152_48 {v0 v1 v2 v3 v4 v5 : Value} {a : Nat} {i : Int32} {st : List Value} {im : IM} {rm : RM} (hk : kd a = 0) (hi : pm_in i (ln a) = true) : ev 152 48 [v0, v1, v2, v3, v4, v5] (.int i :: .ref a :: st) im rm = ev 152 49 [v0, v1, v2, v3, v4, v5] (.int (im a i.toNatClampNeg) :: st) (im) (rm) := ev_iald pm_m152 d152_48 hk hi rfl
theorem d152_49 : decode prog_10_method_50_code 49 = .ok (.iload_n 3, 1) := by decide +kernel
theorem s152_49 {v0 v1 v2 v4 v5 : Value} {l1 : Int32} {st : List Value} {im : IM} {rm : RM}  : ev 152 49 [v0, v1, v2, .int l1, v4, v5] st im rm = ev 152 50 [v0, v1, v2, .int l1, v4, v5] (.int l1 :: st) (im) (rm) := ev_iload_n pm_m152 d152_49 rfl rfl
theorem d152_50 : decode prog_10_method_50_code 50 = .ok (.if_icmp .ne 18, 3) := by decide +kernel
theorem s152_50 {v0 v1 v2 v3 v4 v5 : Value} {x : Int32} {y : Int32} {st : List Value} {im : IM} {rm : RM} : ev 152 50 [v0, v1, v2, v3, v4, v5] (.int y :: .int x :: st) im rm = if x = y then ev 152 53 [v0, v1, v2, v3, v4, v5] st im rm else ev 152 68 [v0, v1, v2, v3, pm_u, v5] st im rm := ev_icmp_ne pm_m152 d152_50 rfl rfl rfl
theorem d152_53 : decode prog_10_method_50_code 53 = .ok (.aload_n 0, 1) := by decide +kernel
theorem s152_53 {v1 v2 v3 v4 v5 : Value} {l1 : Nat} {st : List Value} {im : IM} {rm : RM}  : ev 152 53 [.ref l1, v1, v2, v3, v4, v5] st im rm = ev 152 54 [.ref l1, v1, v2, v3, v4, v5] (.ref l1 :: st) (im) (rm) := ev_aload_n pm_m152 d152_53 rfl rfl
theorem d152_54 : decode prog_10_method_50_code 54 = .ok (.getfield 97, 3) := by decide +kernel
theorem s152_54 {v0 v1 v2 v3 v4 v5 : Value} {a : Nat} {st : List Value} {im : IM} {rm : RM} (hk : kd a = 18) : ev 152 54 [v0, v1, v2, v3, v4, v5] (.ref a :: st) im rm = ev 152 57 [v0, v1, v2, v3, v4, v5] (pm_ro (rm a 32) :: st) (im) (rm) := ev_getR pm_m152 d152_54 f8_97 rfl hk rfl
theorem d152_57 : decode prog_10_method_50_code 57 = .ok (.iload 5, 2) := by decide +kernel
theorem s152_57 {v0 v1 v2 v3 v4 : Value} {l1 : Int32} {st : List Value} {im : IM} {rm : RM}  : ev 152 57 [v0, v1, v2, v3, v4, .int l1] st im rm = ev 152 59 [v0, v1, v2, v3, v4, .int l1] (.int l1 :: st) (im) (rm) := ev_iload pm_m152 d152_57 rfl rfl
theorem d152_59 : decode prog_10_method_50_code 59 = .ok (.iaload, 1) := by decide +kernel
theorem s152_59 {v0 v1 v2 v3 v4 v5 : Value} {a : Nat} {i : Int32} {st : List Value} {im : IM} {rm : RM} (hk : kd a = 0) (hi : pm_in i (ln a) = true) : ev 152 59 [v0, v1, v2, v3, v4, v5] (.int i :: .ref a :: st) im rm = ev 152 60 [v0, v1, v2, v3, v4, v5] (.int (im a i.toNatClampNeg) :: st) (im) (rm) := ev_iald pm_m152 d152_59 hk hi rfl
theorem d152_60 : decode prog_10_method_50_code 60 = .ok (.iconst (-1), 1) := by decide +kernel
theorem s152_60 {v0 v1 v2 v3 v4 v5 : Value}  {st : List Value} {im : IM} {rm : RM}  : ev 152 60 [v0, v1, v2, v3, v4, v5] st im rm = ev 152 61 [v0, v1, v2, v3, v4, v5] (.int ((-1 : Int32)) :: st) (im) (rm) := ev_iconst pm_m152 d152_60 rfl rfl
theorem d152_61 : decode prog_10_method_50_code 61 = .ok (.if_icmp .eq 7, 3) := by decide +kernel
theorem s152_61 {v0 v1 v2 v3 v4 v5 : Value} {x : Int32} {y : Int32} {st : List Value} {im : IM} {rm : RM} : ev 152 61 [v0, v1, v2, v3, v4, v5] (.int y :: .int x :: st) im rm = if x = y then ev 152 68 [v0, v1, v2, v3, pm_u, v5] st im rm else ev 152 64 [v0, v1, v2, v3, pm_u, v5] st im rm := ev_icmp_eq pm_m152 d152_61 rfl rfl rfl
theorem d152_64 : decode prog_10_method_50_code 64 = .ok (.iconst 1, 1) := by decide +kernel
theorem s152_64 {v0 v1 v2 v3 v4 v5 : Value}  {st : List Value} {im : IM} {rm : RM}  : ev 152 64 [v0, v1, v2, v3, v4, v5] st im rm = ev 152 65 [v0, v1, v2, v3, v4, v5] (.int (nI 1) :: st) (im) (rm) := ev_iconst pm_m152 d152_64 rfl rfl
theorem d152_65 : decode prog_10_method_50_code 65 = .ok (.goto 4, 3) := by decide +kernel
theorem s152_65 {v0 v1 v2 v3 v4 v5 : Value}  {st : List Value} {im : IM} {rm : RM}  : ev 152 65 [v0, v1, v2, v3, v4, v5] st im rm = ev 152 69 [v0, v1, v2, v3, pm_u, v5] st (im) (rm) := ev_goto pm_m152 d152_65 rfl rfl
theorem d152_68 : decode prog_10_method_50_code 68 = .ok (.iconst 0, 1) := by decide +kernel
theorem s152_68 {v0 v1 v2 v3 v4 v5 : Value}  {st : List Value} {im : IM} {rm : RM}  : ev 152 68 [v0, v1, v2, v3, v4, v5] st im rm = ev 152 69 [v0, v1, v2, v3, pm_u, v5] (.int (nI 0) :: st) (im) (rm) := ev_iconst pm_m152 d152_68 rfl rfl
theorem d152_69 : decode prog_10_method_50_code 69 = .ok (.istore 4, 2) := by decide +kernel
theorem s152_69 {v0 v1 v2 v4 v5 : Value} {l1 : Int32} {x2 : Int32} {st : List Value} {im : IM} {rm : RM}  : ev 152 69 [v0, v1, v2, .int l1, v4, v5] (.int x2 :: st) im rm = ev 152 71 [v0, v1, v2, .int l1, .int x2, v5] st (im) (rm) := ev_istore pm_m152 d152_69 (Nat.le_of_ble_eq_true rfl) rfl rfl
theorem d152_71 : decode prog_10_method_50_code 71 = .ok (.iinc 5 1, 3) := by decide +kernel
theorem s152_71 {v0 v1 v2 v3 : Value} {l1 : Int32} {l2 : Int32} {st : List Value} {im : IM} {rm : RM}  : ev 152 71 [v0, v1, v2, v3, .int l1, .int l2] st im rm = ev 152 74 [v0, v1, v2, v3, .int l1, .int (l2 + nI 1)] st (im) (rm) := ev_iinc pm_m152 d152_71 rfl rfl rfl rfl
theorem d152_74 : decode prog_10_method_50_code 74 = .ok (.goto (-68), 3) := by decide +kernel
theorem s152_74 {v0 v1 v2 v3 v4 v5 : Value}  {st : List Value} {im : IM} {rm : RM}  : ev 152 74 [v0, v1, v2, v3, v4, v5] st im rm = ev 152 6 [v0, v1, v2, v3, v4, v5] st (im) (rm) := ev_goto pm_m152 d152_74 rfl rfl
theorem d152_77 : decode prog_10_method_50_code 77 = .ok (.iload 4, 2) := by decide +kernel
theorem s152_77 {v0 v1 v2 v3 v5 : Value} {l1 : Int32} {st : List Value} {im : IM} {rm : RM}  : ev 152 77 [v0, v1, v2, v3, .int l1, v5] st im rm = ev 152 79 [v0, v1, v2, v3, .int l1, v5] (.int l1 :: st) (im) (rm) := ev_iload pm_m152 d152_77 rfl rfl
theorem d152_79 : decode prog_10_method_50_code 79 = .ok (.ireturn, 1) := by decide +kernel
theorem s152_79 {v0 v1 v2 v3 v4 v5 : Value} {x : Int32} {im : IM} {rm : RM} (hx : x = 0 ∨ x = 1) : ev 152 79 [v0, v1, v2, v3, v4, v5] [.int x] im rm = some (some (.int x), im, rm) := ev_zreturn pm_m152 d152_79 rfl hx
theorem d153_0 : decode prog_10_method_51_code 0 = .ok (.iconst (-1), 1) := by decide +kernel
theorem s153_0 {v0 v1 v2 v3 : Value}  {st : List Value} {im : IM} {rm : RM}  : ev 153 0 [v0, v1, v2, v3] st im rm = ev 153 1 [v0, v1, v2, v3] (.int ((-1 : Int32)) :: st) (im) (rm) := ev_iconst pm_m153 d153_0 rfl rfl
theorem d153_1 : decode prog_10_method_51_code 1 = .ok (.istore_n 2, 1) := by decide +kernel
theorem s153_1 {v0 v2 v3 : Value} {l1 : Int32} {x2 : Int32} {st : List Value} {im : IM} {rm : RM}  : ev 153 1 [v0, .int l1, v2, v3] (.int x2 :: st) im rm = ev 153 2 [v0, .int l1, .int x2, v3] st (im) (rm) := ev_istore_n pm_m153 d153_1 (Nat.le_of_ble_eq_true rfl) rfl rfl
theorem d153_2 : decode prog_10_method_51_code 2 = .ok (.bipush 8, 2) := by decide +kernel
theorem s153_2 {v0 v1 v2 v3 : Value}  {st : List Value} {im : IM} {rm : RM}  : ev 153 2 [v0, v1, v2, v3] st im rm = ev 153 4 [v0, v1, v2, v3] (.int (nI 8) :: st) (im) (rm) := ev_bipush pm_m153 d153_2 rfl rfl
theorem d153_4 : decode prog_10_method_51_code 4 = .ok (.iload_n 1, 1) := by decide +kernel
theorem s153_4 {v0 v2 v3 : Value} {l1 : Int32} {st : List Value} {im : IM} {rm : RM}  : ev 153 4 [v0, .int l1, v2, v3] st im rm = ev 153 5 [v0, .int l1, v2, v3] (.int l1 :: st) (im) (rm) := ev_iload_n pm_m153 d153_4 rfl rfl
theorem d153_5 : decode prog_10_method_51_code 5 = .ok (.imul, 1) := by decide +kernel
theorem s153_5 {v0 v1 v2 v3 : Value} {x : Int32} {y : Int32} {st : List Value} {im : IM} {rm : RM}  : ev 153 5 [v0, v1, v2, v3] (.int y :: .int x :: st) im rm = ev 153 6 [v0, v1, v2, v3] (.int (x * y) :: st) (im) (rm) := ev_imul pm_m153 d153_5 rfl
theorem d153_6 : decode prog_10_method_51_code 6 = .ok (.istore_n 3, 1) := by decide +kernel
theorem s153_6 {v0 v1 v3 : Value} {l1 : Int32} {x2 : Int32} {st : List Value} {im : IM} {rm : RM}  : ev 153 6 [v0, v1, .int l1, v3] (.int x2 :: st) im rm = ev 153 7 [v0, v1, .int l1, .int x2] st (im) (rm) := ev_istore_n pm_m153 d153_6 (Nat.le_of_ble_eq_true rfl) rfl rfl
theorem d153_7 : decode prog_10_method_51_code 7 = .ok (.iload_n 3, 1) := by decide +kernel
theorem s153_7 {v0 v1 v2 : Value} {l1 : Int32} {st : List Value} {im : IM} {rm : RM}  : ev 153 7 [v0, v1, v2, .int l1] st im rm = ev 153 8 [v0, v1, v2, .int l1] (.int l1 :: st) (im) (rm) := ev_iload_n pm_m153 d153_7 rfl rfl
theorem d153_8 : decode prog_10_method_51_code 8 = .ok (.bipush 8, 2) := by decide +kernel
theorem s153_8 {v0 v1 v2 v3 : Value}  {st : List Value} {im : IM} {rm : RM}  : ev 153 8 [v0, v1, v2, v3] st im rm = ev 153 10 [v0, v1, v2, v3] (.int (nI 8) :: st) (im) (rm) := ev_bipush pm_m153 d153_8 rfl rfl
theorem d153_10 : decode prog_10_method_51_code 10 = .ok (.iload_n 1, 1) := by decide +kernel
theorem s153_10 {v0 v2 v3 : Value} {l1 : Int32} {st : List Value} {im : IM} {rm : RM}  : ev 153 10 [v0, .int l1, v2, v3] st im rm = ev 153 11 [v0, .int l1, v2, v3] (.int l1 :: st) (im) (rm) := ev_iload_n pm_m153 d153_10 rfl rfl
theorem d153_11 : decode prog_10_method_51_code 11 = .ok (.imul, 1) := by decide +kernel
theorem s153_11 {v0 v1 v2 v3 : Value} {x : Int32} {y : Int32} {st : List Value} {im : IM} {rm : RM}  : ev 153 11 [v0, v1, v2, v3] (.int y :: .int x :: st) im rm = ev 153 12 [v0, v1, v2, v3] (.int (x * y) :: st) (im) (rm) := ev_imul pm_m153 d153_11 rfl
theorem d153_12 : decode prog_10_method_51_code 12 = .ok (.aload_n 0, 1) := by decide +kernel
theorem s153_12 {v1 v2 v3 : Value} {l1 : Nat} {st : List Value} {im : IM} {rm : RM}  : ev 153 12 [.ref l1, v1, v2, v3] st im rm = ev 153 13 [.ref l1, v1, v2, v3] (.ref l1 :: st) (im) (rm) := ev_aload_n pm_m153 d153_12 rfl rfl
theorem d153_13 : decode prog_10_method_51_code 13 = .ok (.getfield 61, 3) := by decide +kernel
theorem s153_13 {v0 v1 v2 v3 : Value} {a : Nat} {st : List Value} {im : IM} {rm : RM} (hk : kd a = 18) : ev 153 13 [v0, v1, v2, v3] (.ref a :: st) im rm = ev 153 16 [v0, v1, v2, v3] (pm_ro (rm a 18) :: st) (im) (rm) := ev_getR pm_m153 d153_13 f8_61 rfl hk rfl
theorem d153_16 : decode prog_10_method_51_code 16 = .ok (.iload_n 1, 1) := by decide +kernel
theorem s153_16 {v0 v2 v3 : Value} {l1 : Int32} {st : List Value} {im : IM} {rm : RM}  : ev 153 16 [v0, .int l1, v2, v3] st im rm = ev 153 17 [v0, .int l1, v2, v3] (.int l1 :: st) (im) (rm) := ev_iload_n pm_m153 d153_16 rfl rfl
theorem d153_17 : decode prog_10_method_51_code 17 = .ok (.iaload, 1) := by decide +kernel
theorem s153_17 {v0 v1 v2 v3 : Value} {a : Nat} {i : Int32} {st : List Value} {im : IM} {rm : RM} (hk : kd a = 0) (hi : pm_in i (ln a) = true) : ev 153 17 [v0, v1, v2, v3] (.int i :: .ref a :: st) im rm = ev 153 18 [v0, v1, v2, v3] (.int (im a i.toNatClampNeg) :: st) (im) (rm) := ev_iald pm_m153 d153_17 hk hi rfl
theorem d153_18 : decode prog_10_method_51_code 18 = .ok (.iadd, 1) := by decide +kernel
theorem s153_18 {v0 v1 v2 v3 : Value} {x : Int32} {y : Int32} {st : List Value} {im : IM} {rm : RM}  : ev 153 18 [v0, v1, v2, v3] (.int y :: .int x :: st) im rm = ev 153 19 [v0, v1, v2, v3] (.int (x + y) :: st) (im) (rm) := ev_iadd pm_m153 d153_18 rfl
theorem d153_19 : decode prog_10_method_51_code 19 = .ok (.if_icmp .ge 44, 3) := by decide +kernel
theorem s153_19 {v0 v1 v2 v3 : Value} {x : Int32} {y : Int32} {st : List Value} {im : IM} {rm : RM} : ev 153 19 [v0, v1, v2, v3] (.int y :: .int x :: st) im rm = if y ≤ x then ev 153 63 [pm_u, pm_u, v2, pm_u] st im rm else ev 153 22 [v0, v1, v2, v3] st im rm := ev_icmp_ge pm_m153 d153_19 rfl rfl rfl
theorem d153_22 : decode prog_10_method_51_code 22 = .ok (.aload_n 0, 1) := by decide +kernel
theorem s153_22 {v1 v2 v3 : Value} {l1 : Nat} {st : List Value} {im : IM} {rm : RM}  : ev 153 22 [.ref l1, v1, v2, v3] st im rm = ev 153 23 [.ref l1, v1, v2, v3] (.ref l1 :: st) (im) (rm) := ev_aload_n pm_m153 d153_22 rfl rfl
theorem d153_23 : decode prog_10_method_51_code 23 = .ok (.getfield 64, 3) := by decide +kernel
theorem s153_23 {v0 v1 v2 v3 : Value} {a : Nat} {st : List Value} {im : IM} {rm : RM} (hk : kd a = 18) : ev 153 23 [v0, v1, v2, v3] (.ref a :: st) im rm = ev 153 26 [v0, v1, v2, v3] (pm_ro (rm a 19) :: st) (im) (rm) := ev_getR pm_m153 d153_23 f8_64 rfl hk rfl
theorem d153_26 : decode prog_10_method_51_code 26 = .ok (.iload_n 3, 1) := by decide +kernel
theorem s153_26 {v0 v1 v2 : Value} {l1 : Int32} {st : List Value} {im : IM} {rm : RM}  : ev 153 26 [v0, v1, v2, .int l1] st im rm = ev 153 27 [v0, v1, v2, .int l1] (.int l1 :: st) (im) (rm) := ev_iload_n pm_m153 d153_26 rfl rfl
theorem d153_27 : decode prog_10_method_51_code 27 = .ok (.iaload, 1) := by decide +kernel
theorem s153_27 {v0 v1 v2 v3 : Value} {a : Nat} {i : Int32} {st : List Value} {im : IM} {rm : RM} (hk : kd a = 0) (hi : pm_in i (ln a) = true) : ev 153 27 [v0, v1, v2, v3] (.int i :: .ref a :: st) im rm = ev 153 28 [v0, v1, v2, v3] (.int (im a i.toNatClampNeg) :: st) (im) (rm) := ev_iald pm_m153 d153_27 hk hi rfl
theorem d153_28 : decode prog_10_method_51_code 28 = .ok (.ifCond .ne 27, 3) := by decide +kernel
theorem s153_28 {v0 v1 v2 v3 : Value} {x : Int32} {st : List Value} {im : IM} {rm : RM} : ev 153 28 [v0, v1, v2, v3] (.int x :: st) im rm = if x = nI 0 then ev 153 31 [v0, v1, v2, v3] st im rm else ev 153 55 [v0, v1, v2, v3] st im rm := ev_if_ne (y := 0) pm_m153 d153_28 rfl rfl rfl
theorem d153_31 : decode prog_10_method_51_code 31 = .ok (.iload_n 2, 1) := by decide +kernel
theorem s153_31 {v0 v1 v3 : Value} {l1 : Int32} {st : List Value} {im : IM} {rm : RM}  : ev 153 31 [v0, v1, .int l1, v3] st im rm = ev 153 32 [v0, v1, .int l1, v3] (.int l1 :: st) (im) (rm) := ev_iload_n pm_m153 d153_31 rfl rfl
theorem d153_32 : decode prog_10_method_51_code 32 = .ok (.iconst (-1), 1) := by decide +kernel
theorem s153_32 {v0 v1 v2 v3 : Value}  {st : List Value} {im : IM} {rm : RM}  : ev 153 32 [v0, v1, v2, v3] st im rm = ev 153 33 [v0, v1, v2, v3] (.int ((-1 : Int32)) :: st) (im) (rm) := ev_iconst pm_m153 d153_32 rfl rfl
theorem d153_33 : decode prog_10_method_51_code 33 = .ok (.if_icmp .eq 13, 3) := by decide +kernel
theorem s153_33 {v0 v1 v2 v3 : Value} {x : Int32} {y : Int32} {st : List Value} {im : IM} {rm : RM} : ev 153 33 [v0, v1, v2, v3] (.int y :: .int x :: st) im rm = if x = y then ev 153 46 [v0, v1, pm_u, v3] st im rm else ev 153 36 [v0, v1, v2, v3] st im rm := ev_icmp_eq pm_m153 d153_33 rfl rfl rfl
theorem d153_36 : decode prog_10_method_51_code 36 = .ok (.aload_n 0, 1) := by decide +kernel
theorem s153_36 {v1 v2 v3 : Value} {l1 : Nat} {st : List Value} {im : IM} {rm : RM}  : ev 153 36 [.ref l1, v1, v2, v3] st im rm = ev 153 37 [.ref l1, v1, v2, v3] (.ref l1 :: st) (im) (rm) := ev_aload_n pm_m153 d153_36 rfl rfl
theorem d153_37 : decode prog_10_method_51_code 37 = .ok (.getfield 67, 3) := by decide +kernel
theorem s153_37 {v0 v1 v2 v3 : Value} {a : Nat} {st : List Value} {im : IM} {rm : RM} (hk : kd a = 18) : ev 153 37 [v0, v1, v2, v3] (.ref a :: st) im rm = ev 153 40 [v0, v1, v2, v3] (pm_ro (rm a 20) :: st) (im) (rm) := ev_getR pm_m153 d153_37 f8_67 rfl hk rfl
theorem d153_40 : decode prog_10_method_51_code 40 = .ok (.iload_n 3, 1) := by decide +kernel
theorem s153_40 {v0 v1 v2 : Value} {l1 : Int32} {st : List Value} {im : IM} {rm : RM}  : ev 153 40 [v0, v1, v2, .int l1] st im rm = ev 153 41 [v0, v1, v2, .int l1] (.int l1 :: st) (im) (rm) := ev_iload_n pm_m153 d153_40 rfl rfl
theorem d153_41 : decode prog_10_method_51_code 41 = .ok (.iaload, 1) := by decide +kernel
theorem s153_41 {v0 v1 v2 v3 : Value} {a : Nat} {i : Int32} {st : List Value} {im : IM} {rm : RM} (hk : kd a = 0) (hi : pm_in i (ln a) = true) : ev 153 41 [v0, v1, v2, v3] (.int i :: .ref a :: st) im rm = ev 153 42 [v0, v1, v2, v3] (.int (im a i.toNatClampNeg) :: st) (im) (rm) := ev_iald pm_m153 d153_41 hk hi rfl
theorem d153_42 : decode prog_10_method_51_code 42 = .ok (.iload_n 2, 1) := by decide +kernel
theorem s153_42 {v0 v1 v3 : Value} {l1 : Int32} {st : List Value} {im : IM} {rm : RM}  : ev 153 42 [v0, v1, .int l1, v3] st im rm = ev 153 43 [v0, v1, .int l1, v3] (.int l1 :: st) (im) (rm) := ev_iload_n pm_m153 d153_42 rfl rfl
theorem d153_43 : decode prog_10_method_51_code 43 = .ok (.if_icmp .ge 12, 3) := by decide +kernel
theorem s153_43 {v0 v1 v2 v3 : Value} {x : Int32} {y : Int32} {st : List Value} {im : IM} {rm : RM} : ev 153 43 [v0, v1, v2, v3] (.int y :: .int x :: st) im rm = if y ≤ x then ev 153 55 [v0, v1, v2, v3] st im rm else ev 153 46 [v0, v1, pm_u, v3] st im rm := ev_icmp_ge pm_m153 d153_43 rfl rfl rfl
theorem d153_46 : decode prog_10_method_51_code 46 = .ok (.aload_n 0, 1) := by decide +kernel
theorem s153_46 {v1 v2 v3 : Value} {l1 : Nat} {st : List Value} {im : IM} {rm : RM}  : ev 153 46 [.ref l1, v1, v2, v3] st im rm = ev 153 47 [.ref l1, v1, v2, v3] (.ref l1 :: st) (im) (rm) := ev_aload_n pm_m153 d153_46 rfl rfl
theorem d153_47 : decode prog_10_method_51_code 47 = .ok (.getfield 67, 3) := by decide +kernel
theorem s153_47 {v0 v1 v2 v3 : Value} {a : Nat} {st : List Value} {im : IM} {rm : RM} (hk : kd a = 18) : ev 153 47 [v0, v1, v2, v3] (.ref a :: st) im rm = ev 153 50 [v0, v1, v2, v3] (pm_ro (rm a 20) :: st) (im) (rm) := ev_getR pm_m153 d153_47 f8_67 rfl hk rfl
theorem d153_50 : decode prog_10_method_51_code 50 = .ok (.iload_n 3, 1) := by decide +kernel
theorem s153_50 {v0 v1 v2 : Value} {l1 : Int32} {st : List Value} {im : IM} {rm : RM}  : ev 153 50 [v0, v1, v2, .int l1] st im rm = ev 153 51 [v0, v1, v2, .int l1] (.int l1 :: st) (im) (rm) := ev_iload_n pm_m153 d153_50 rfl rfl
theorem d153_51 : decode prog_10_method_51_code 51 = .ok (.iaload, 1) := by decide +kernel
theorem s153_51 {v0 v1 v2 v3 : Value} {a : Nat} {i : Int32} {st : List Value} {im : IM} {rm : RM} (hk : kd a = 0) (hi : pm_in i (ln a) = true) : ev 153 51 [v0, v1, v2, v3] (.int i :: .ref a :: st) im rm = ev 153 52 [v0, v1, v2, v3] (.int (im a i.toNatClampNeg) :: st) (im) (rm) := ev_iald pm_m153 d153_51 hk hi rfl
theorem d153_52 : decode prog_10_method_51_code 52 = .ok (.goto 4, 3) := by decide +kernel
theorem s153_52 {v0 v1 v2 v3 : Value}  {st : List Value} {im : IM} {rm : RM}  : ev 153 52 [v0, v1, v2, v3] st im rm = ev 153 56 [v0, v1, pm_u, v3] st (im) (rm) := ev_goto pm_m153 d153_52 rfl rfl
theorem d153_55 : decode prog_10_method_51_code 55 = .ok (.iload_n 2, 1) := by decide +kernel
theorem s153_55 {v0 v1 v3 : Value} {l1 : Int32} {st : List Value} {im : IM} {rm : RM}  : ev 153 55 [v0, v1, .int l1, v3] st im rm = ev 153 56 [v0, v1, pm_u, v3] (.int l1 :: st) (im) (rm) := ev_iload_n pm_m153 d153_55 rfl rfl
theorem d153_56 : decode prog_10_method_51_code 56 = .ok (.istore_n 2, 1) := by decide +kernel
theorem s153_56 {v0 v2 v3 : Value} {l1 : Int32} {x2 : Int32} {st : List Value} {im : IM} {rm : RM}  : ev 153 56 [v0, .int l1, v2, v3] (.int x2 :: st) im rm = ev 153 57 [v0, .int l1, .int x2, v3] st (im) (rm) := ev_istore_n pm_m153 d153_56 (Nat.le_of_ble_eq_true rfl) rfl rfl
theorem d153_57 : decode prog_10_method_51_code 57 = .ok (.iinc 3 1, 3) := by decide +kernel
theorem s153_57 {v0 v1 : Value} {l1 : Int32} {l2 : Int32} {st : List Value} {im : IM} {rm : RM}  : ev 153 57 [v0, v1, .int l1, .int l2] st im rm = ev 153 60 [v0, v1, .int l1, .int (l2 + nI 1)] st (im) (rm) := ev_iinc pm_m153 d153_57 rfl rfl rfl rfl
theorem d153_60 : decode prog_10_method_51_code 60 = .ok (.goto (-53), 3) := by decide +kernel
theorem s153_60 {v0 v1 v2 v3 : Value}  {st : List Value} {im : IM} {rm : RM}  : ev 153 60 [v0, v1, v2, v3] st im rm = ev 153 7 [v0, v1, v2, v3] st (im) (rm) := ev_goto pm_m153 d153_60 rfl rfl
theorem d153_63 : decode prog_10_method_51_code 63 = .ok (.iload_n 2, 1) := by decide +kernel
theorem s153_63 {v0 v1 v3 : Value} {l1 : Int32} {st : List Value} {im : IM} {rm : RM}  : ev 153 63 [v0, v1, .int l1, v3] st im rm = ev 153 64 [v0, v1, .int l1, v3] (.int l1 :: st) (im) (rm) := ev_iload_n pm_m153 d153_63 rfl rfl
theorem d153_64 : decode prog_10_method_51_code 64 = .ok (.ireturn, 1) := by decide +kernel
theorem s153_64 {v0 v1 v2 v3 : Value} {x : Int32} {im : IM} {rm : RM} : ev 153 64 [v0, v1, v2, v3] [.int x] im rm = some (some (.int x), im, rm) := ev_ireturn pm_m153 d153_64 rfl
theorem d154_0 : decode prog_10_method_52_code 0 = .ok (.iconst 0, 1) := by decide +kernel
theorem s154_0 {v0 v1 v2 v3 v4 v5 v6 : Value}  {st : List Value} {im : IM} {rm : RM}  : ev 154 0 [v0, v1, v2, v3, v4, v5, v6] st im rm = ev 154 1 [v0, v1, v2, v3, v4, v5, v6] (.int (nI 0) :: st) (im) (rm) := ev_iconst pm_m154 d154_0 rfl rfl
theorem d154_1 : decode prog_10_method_52_code 1 = .ok (.istore 5, 2) := by decide +kernel
theorem s154_1 {v0 v1 v2 v3 v5 v6 : Value} {l1 : Int32} {x2 : Int32} {st : List Value} {im : IM} {rm : RM}  : ev 154 1 [v0, v1, v2, v3, .int l1, v5, v6] (.int x2 :: st) im rm = ev 154 3 [v0, v1, v2, v3, .int l1, .int x2, v6] st (im) (rm) := ev_istore pm_m154 d154_1 (Nat.le_of_ble_eq_true rfl) rfl rfl
theorem d154_3 : decode prog_10_method_52_code 3 = .ok (.iconst 0, 1) := by decide +kernel
theorem s154_3 {v0 v1 v2 v3 v4 v5 v6 : Value}  {st : List Value} {im : IM} {rm : RM}  : ev 154 3 [v0, v1, v2, v3, v4, v5, v6] st im rm = ev 154 4 [v0, v1, v2, v3, v4, v5, v6] (.int (nI 0) :: st) (im) (rm) := ev_iconst pm_m154 d154_3 rfl rfl
theorem d154_4 : decode prog_10_method_52_code 4 = .ok (.istore 6, 2) := by decide +kernel
theorem s154_4 {v0 v1 v2 v3 v4 v6 : Value} {l1 : Int32} {x2 : Int32} {st : List Value} {im : IM} {rm : RM}  : ev 154 4 [v0, v1, v2, v3, v4, .int l1, v6] (.int x2 :: st) im rm = ev 154 6 [v0, v1, v2, v3, v4, .int l1, .int x2] st (im) (rm) := ev_istore pm_m154 d154_4 (Nat.le_of_ble_eq_true rfl) rfl rfl
theorem d154_6 : decode prog_10_method_52_code 6 = .ok (.iload 6, 2) := by decide +kernel
theorem s154_6 {v0 v1 v2 v3 v4 v5 : Value} {l1 : Int32} {st : List Value} {im : IM} {rm : RM}  : ev 154 6 [v0, v1, v2, v3, v4, v5, .int l1] st im rm = ev 154 8 [v0, v1, v2, v3, v4, v5, .int l1] (.int l1 :: st) (im) (rm) := ev_iload pm_m154 d154_6 rfl rfl
theorem d154_8 : decode prog_10_method_52_code 8 = .ok (.bipush 6, 2) := by decide +kernel
theorem s154_8 {v0 v1 v2 v3 v4 v5 v6 : Value}  {st : List Value} {im : IM} {rm : RM}  : ev 154 8 [v0, v1, v2, v3, v4, v5, v6] st im rm = ev 154 10 [v0, v1, v2, v3, v4, v5, v6] (.int (nI 6) :: st) (im) (rm) := ev_bipush pm_m154 d154_8 rfl rfl
theorem d154_10 : decode prog_10_method_52_code 10 = .ok (.if_icmp .ge 73, 3) := by decide +kernel
theorem s154_10 {v0 v1 v2 v3 v4 v5 v6 : Value} {x : Int32} {y : Int32} {st : List Value} {im : IM} {rm : RM} : ev 154 10 [v0, v1, v2, v3, v4, v5, v6] (.int y :: .int x :: st) im rm = if y ≤ x then ev 154 83 [pm_u, pm_u, pm_u, pm_u, pm_u, v5, pm_u] st im rm else ev 154 13 [v0, v1, v2, v3, v4, v5, v6] st im rm := ev_icmp_ge pm_m154 d154_10 rfl rfl rfl
theorem d154_13 : decode prog_10_method_52_code 13 = .ok (.aload_n 0, 1) := by decide +kernel
theorem s154_13 {v1 v2 v3 v4 v5 v6 : Value} {l1 : Nat} {st : List Value} {im : IM} {rm : RM}  : ev 154 13 [.ref l1, v1, v2, v3, v4, v5, v6] st im rm = ev 154 14 [.ref l1, v1, v2, v3, v4, v5, v6] (.ref l1 :: st) (im) (rm) := ev_aload_n pm_m154 d154_13 rfl rfl
theorem d154_14 : decode prog_10_method_52_code 14 = .ok (.getfield 7, 3) := by decide +kernel
theorem s154_14 {v0 v1 v2 v3 v4 v5 v6 : Value} {a : Nat} {st : List Value} {im : IM} {rm : RM} (hk : kd a = 18) : ev 154 14 [v0, v1, v2, v3, v4, v5, v6] (.ref a :: st) im rm = ev 154 17 [v0, v1, v2, v3, v4, v5, v6] (pm_ro (rm a 0) :: st) (im) (rm) := ev_getR pm_m154 d154_14 f8_7 rfl hk rfl
theorem d154_17 : decode prog_10_method_52_code 17 = .ok (.iload 6, 2) := by decide +kernel
theorem s154_17 {v0 v1 v2 v3 v4 v5 : Value} {l1 : Int32} {st : List Value} {im : IM} {rm : RM}  : ev 154 17 [v0, v1, v2, v3, v4, v5, .int l1] st im rm = ev 154 19 [v0, v1, v2, v3, v4, v5, .int l1] (.int l1 :: st) (im) (rm) := ev_iload pm_m154 d154_17 rfl rfl
theorem d154_19 : decode prog_10_method_52_code 19 = .ok (.iaload, 1) := by decide +kernel
theorem s154_19 {v0 v1 v2 v3 v4 v5 v6 : Value} {a : Nat} {i : Int32} {st : List Value} {im : IM} {rm : RM} (hk : kd a = 0) (hi : pm_in i (ln a) = true) : ev 154 19 [v0, v1, v2, v3, v4, v5, v6] (.int i :: .ref a :: st) im rm = ev 154 20 [v0, v1, v2, v3, v4, v5, v6] (.int (im a i.toNatClampNeg) :: st) (im) (rm) := ev_iald pm_m154 d154_19 hk hi rfl
theorem d154_20 : decode prog_10_method_52_code 20 = .ok (.iload_n 2, 1) := by decide +kernel
theorem s154_20 {v0 v1 v3 v4 v5 v6 : Value} {l1 : Int32} {st : List Value} {im : IM} {rm : RM}  : ev 154 20 [v0, v1, .int l1, v3, v4, v5, v6] st im rm = ev 154 21 [v0, v1, .int l1, v3, v4, v5, v6] (.int l1 :: st) (im) (rm) := ev_iload_n pm_m154 d154_20 rfl rfl
theorem d154_21 : decode prog_10_method_52_code 21 = .ok (.if_icmp .ne 56, 3) := by decide +kernel
theorem s154_21 {v0 v1 v2 v3 v4 v5 v6 : Value} {x : Int32} {y : Int32} {st : List Value} {im : IM} {rm : RM} : ev 154 21 [v0, v1, v2, v3, v4, v5, v6] (.int y :: .int x :: st) im rm = if x = y then ev 154 24 [v0, v1, v2, v3, v4, v5, v6] st im rm else ev 154 77 [v0, v1, v2, v3, v4, v5, v6] st im rm := ev_icmp_ne pm_m154 d154_21 rfl rfl rfl
theorem d154_24 : decode prog_10_method_52_code 24 = .ok (.aload_n 0, 1) := by decide +kernel
theorem s154_24 {v1 v2 v3 v4 v5 v6 : Value} {l1 : Nat} {st : List Value} {im : IM} {rm : RM}  : ev 154 24 [.ref l1, v1, v2, v3, v4, v5, v6] st im rm = ev 154 25 [.ref l1, v1, v2, v3, v4, v5, v6] (.ref l1 :: st) (im) (rm) := ev_aload_n pm_m154 d154_24 rfl rfl
theorem d154_25 : decode prog_10_method_52_code 25 = .ok (.getfield 16, 3) := by decide +kernel
theorem s154_25 {v0 v1 v2 v3 v4 v5 v6 : Value} {a : Nat} {st : List Value} {im : IM} {rm : RM} (hk : kd a = 18) : ev 154 25 [v0, v1, v2, v3, v4, v5, v6] (.ref a :: st) im rm = ev 154 28 [v0, v1, v2, v3, v4, v5, v6] (pm_ro (rm a 2) :: st) (im) (rm) := ev_getR pm_m154 d154_25 f8_16 rfl hk rfl
theorem d154_28 : decode prog_10_method_52_code 28 = .ok (.iload 6, 2) := by decide +kernel
theorem s154_28 {v0 v1 v2 v3 v4 v5 : Value} {l1 : Int32} {st : List Value} {im : IM} {rm : RM}  : ev 154 28 [v0, v1, v2, v3, v4, v5, .int l1] st im rm = ev 154 30 [v0, v1, v2, v3, v4, v5, .int l1] (.int l1 :: st) (im) (rm) := ev_iload pm_m154 d154_28 rfl rfl
theorem d154_30 : decode prog_10_method_52_code 30 = .ok (.iaload, 1) := by decide +kernel
theorem s154_30 {v0 v1 v2 v3 v4 v5 v6 : Value} {a : Nat} {i : Int32} {st : List Value} {im : IM} {rm : RM} (hk : kd a = 0) (hi : pm_in i (ln a) = true) : ev 154 30 [v0, v1, v2, v3, v4, v5, v6] (.int i :: .ref a :: st) im rm = ev 154 31 [v0, v1, v2, v3, v4, v5, v6] (.int (im a i.toNatClampNeg) :: st) (im) (rm) := ev_iald pm_m154 d154_30 hk hi rfl
theorem d154_31 : decode prog_10_method_52_code 31 = .ok (.ifCond .le 46, 3) := by decide +kernel
theorem s154_31 {v0 v1 v2 v3 v4 v5 v6 : Value} {x : Int32} {st : List Value} {im : IM} {rm : RM} : ev 154 31 [v0, v1, v2, v3, v4, v5, v6] (.int x :: st) im rm = if x ≤ nI 0 then ev 154 77 [v0, v1, v2, v3, v4, v5, v6] st im rm else ev 154 34 [v0, v1, v2, v3, v4, v5, v6] st im rm := ev_if_le (y := 0) pm_m154 d154_31 rfl rfl rfl
theorem d154_34 : decode prog_10_method_52_code 34 = .ok (.aload_n 0, 1) := by decide +kernel
theorem s154_34 {v1 v2 v3 v4 v5 v6 : Value} {l1 : Nat} {st : List Value} {im : IM} {rm : RM}  : ev 154 34 [.ref l1, v1, v2, v3, v4, v5, v6] st im rm = ev 154 35 [.ref l1, v1, v2, v3, v4, v5, v6] (.ref l1 :: st) (im) (rm) := ev_aload_n pm_m154 d154_34 rfl rfl
theorem d154_35 : decode prog_10_method_52_code 35 = .ok (.iload_n 1, 1) := by decide +kernel
theorem s154_35 {v0 v2 v3 v4 v5 v6 : Value} {l1 : Int32} {st : List Value} {im : IM} {rm : RM}  : ev 154 35 [v0, .int l1, v2, v3, v4, v5, v6] st im rm = ev 154 36 [v0, .int l1, v2, v3, v4, v5, v6] (.int l1 :: st) (im) (rm) := ev_iload_n pm_m154 d154_35 rfl rfl
theorem d154_36 : decode prog_10_method_52_code 36 = .ok (.iload 6, 2) := by decide +kernel
theorem s154_36 {v0 v1 v2 v3 v4 v5 : Value} {l1 : Int32} {st : List Value} {im : IM} {rm : RM}  : ev 154 36 [v0, v1, v2, v3, v4, v5, .int l1] st im rm = ev 154 38 [v0, v1, v2, v3, v4, v5, .int l1] (.int l1 :: st) (im) (rm) := ev_iload pm_m154 d154_36 rfl rfl
theorem d154_38 : decode prog_10_method_52_code 38 = .ok (.invokevirtual 263, 3) := by decide +kernel
theorem s154_38 {v0 v1 v2 v3 v4 v5 v6 : Value} {a : Nat} {p1 : Int32} {p2 : Int32} {im : IM} {rm : RM} (hk : kd a = 18) : ev 154 38 [v0, v1, v2, v3, v4, v5, v6] [.int p2, .int p1, .ref a] im rm = (ev 135 0 [.ref a, .int p1, .int p2, pm_u, pm_u, pm_u, pm_u, pm_u, pm_u] [] im rm).bind (fun r => ev 154 41 [v0, v1, v2, v3, v4, v5, v6] (r.1.toList ++ []) r.2.1 r.2.2) := ev_callV pm_m154 d154_38 l8_263 rfl pm_m135 (by decide) hk rfl ⟨rfl, rfl⟩ rfl rfl
theorem d154_41 : decode prog_10_method_52_code 41 = .ok (.iload 5, 2) := by decide +kernel
theorem s154_41 {v0 v1 v2 v3 v4 v6 : Value} {l1 : Int32} {st : List Value} {im : IM} {rm : RM}  : ev 154 41 [v0, v1, v2, v3, v4, .int l1, v6] st im rm = ev 154 43 [v0, v1, v2, v3, v4, .int l1, v6] (.int l1 :: st) (im) (rm) := ev_iload pm_m154 d154_41 rfl rfl
theorem d154_43 : decode prog_10_method_52_code 43 = .ok (.ifCond .ne 27, 3) := by decide +kernel
theorem s154_43 {v0 v1 v2 v3 v4 v5 v6 : Value} {x : Int32} {st : List Value} {im : IM} {rm : RM} : ev 154 43 [v0, v1, v2, v3, v4, v5, v6] (.int x :: st) im rm = if x = nI 0 then ev 154 46 [v0, v1, v2, v3, v4, v5, v6] st im rm else ev 154 70 [v0, v1, v2, v3, v4, pm_u, v6] st im rm := ev_if_ne (y := 0) pm_m154 d154_43 rfl rfl rfl
theorem d154_46 : decode prog_10_method_52_code 46 = .ok (.iload_n 3, 1) := by decide +kernel
theorem s154_46 {v0 v1 v2 v4 v5 v6 : Value} {l1 : Int32} {st : List Value} {im : IM} {rm : RM}  : ev 154 46 [v0, v1, v2, .int l1, v4, v5, v6] st im rm = ev 154 47 [v0, v1, v2, .int l1, v4, v5, v6] (.int l1 :: st) (im) (rm) := ev_iload_n pm_m154 d154_46 rfl rfl
theorem d154_47 : decode prog_10_method_52_code 47 = .ok (.i2l, 1) := by decide +kernel
theorem s154_47 {v0 v1 v2 v3 v4 v5 v6 : Value} {x : Int32} {st : List Value} {im : IM} {rm : RM}  : ev 154 47 [v0, v1, v2, v3, v4, v5, v6] (.int x :: st) im rm = ev 154 48 [v0, v1, v2, v3, v4, v5, v6] (.long x.toInt64 :: st) (im) (rm) := ev_i2l pm_m154 d154_47 rfl
theorem d154_48 : decode prog_10_method_52_code 48 = .ok (.aload_n 0, 1) := by decide +kernel
theorem s154_48 {v1 v2 v3 v4 v5 v6 : Value} {l1 : Nat} {st : List Value} {im : IM} {rm : RM}  : ev 154 48 [.ref l1, v1, v2, v3, v4, v5, v6] st im rm = ev 154 49 [.ref l1, v1, v2, v3, v4, v5, v6] (.ref l1 :: st) (im) (rm) := ev_aload_n pm_m154 d154_48 rfl rfl
theorem d154_49 : decode prog_10_method_52_code 49 = .ok (.getfield 252, 3) := by decide +kernel
theorem s154_49 {v0 v1 v2 v3 v4 v5 v6 : Value} {a : Nat} {st : List Value} {im : IM} {rm : RM} (hk : kd a = 18) : ev 154 49 [v0, v1, v2, v3, v4, v5, v6] (.ref a :: st) im rm = ev 154 52 [v0, v1, v2, v3, v4, v5, v6] (.int (im a 43) :: st) (im) (rm) := ev_getI pm_m154 d154_49 f8_252 rfl hk rfl
theorem d154_52 : decode prog_10_method_52_code 52 = .ok (.i2l, 1) := by decide +kernel
theorem s154_52 {v0 v1 v2 v3 v4 v5 v6 : Value} {x : Int32} {st : List Value} {im : IM} {rm : RM}  : ev 154 52 [v0, v1, v2, v3, v4, v5, v6] (.int x :: st) im rm = ev 154 53 [v0, v1, v2, v3, v4, v5, v6] (.long x.toInt64 :: st) (im) (rm) := ev_i2l pm_m154 d154_52 rfl
theorem d154_53 : decode prog_10_method_52_code 53 = .ok (.lmul, 1) := by decide +kernel
theorem s154_53 {v0 v1 v2 v3 v4 v5 v6 : Value} {x : Int64} {y : Int64} {st : List Value} {im : IM} {rm : RM}  : ev 154 53 [v0, v1, v2, v3, v4, v5, v6] (.long y :: .long x :: st) im rm = ev 154 54 [v0, v1, v2, v3, v4, v5, v6] (.long (x * y) :: st) (im) (rm) := ev_lmul pm_m154 d154_53 rfl
theorem d154_54 : decode prog_10_method_52_code 54 = .ok (.iload 4, 2) := by decide +kernel
theorem s154_54 {v0 v1 v2 v3 v5 v6 : Value} {l1 : Int32} {st : List Value} {im : IM} {rm : RM}  : ev 154 54 [v0, v1, v2, v3, .int l1, v5, v6] st im rm = ev 154 56 [v0, v1, v2, v3, .int l1, v5, v6] (.int l1 :: st) (im) (rm) := ev_iload pm_m154 d154_54 rfl rfl
theorem d154_56 : decode prog_10_method_52_code 56 = .ok (.i2l, 1) := by decide +kernel
theorem s154_56 {v0 v1 v2 v3 v4 v5 v6 : Value} {x : Int32} {st : List Value} {im : IM} {rm : RM}  : ev 154 56 [v0, v1, v2, v3, v4, v5, v6] (.int x :: st) im rm = ev 154 57 [v0, v1, v2, v3, v4, v5, v6] (.long x.toInt64 :: st) (im) (rm) := ev_i2l pm_m154 d154_56 rfl
theorem d154_57 : decode prog_10_method_52_code 57 = .ok (.aload_n 0, 1) := by decide +kernel
theorem s154_57 {v1 v2 v3 v4 v5 v6 : Value} {l1 : Nat} {st : List Value} {im : IM} {rm : RM}  : ev 154 57 [.ref l1, v1, v2, v3, v4, v5, v6] st im rm = ev 154 58 [.ref l1, v1, v2, v3, v4, v5, v6] (.ref l1 :: st) (im) (rm) := ev_aload_n pm_m154 d154_57 rfl rfl
theorem d154_58 : decode prog_10_method_52_code 58 = .ok (.getfield 16, 3) := by decide +kernel
theorem s154_58 {v0 v1 v2 v3 v4 v5 v6 : Value} {a : Nat} {st : List Value} {im : IM} {rm : RM} (hk : kd a = 18) : ev 154 58 [v0, v1, v2, v3, v4, v5, v6] (.ref a :: st) im rm = ev 154 61 [v0, v1, v2, v3, v4, v5, v6] (pm_ro (rm a 2) :: st) (im) (rm) := ev_getR pm_m154 d154_58 f8_16 rfl hk rfl
theorem d154_61 : decode prog_10_method_52_code 61 = .ok (.iload 6, 2) := by decide +kernel
theorem s154_61 {v0 v1 v2 v3 v4 v5 : Value} {l1 : Int32} {st : List Value} {im : IM} {rm : RM}  : ev 154 61 [v0, v1, v2, v3, v4, v5, .int l1] st im rm = ev 154 63 [v0, v1, v2, v3, v4, v5, .int l1] (.int l1 :: st) (im) (rm) := ev_iload pm_m154 d154_61 rfl rfl
theorem d154_63 : decode prog_10_method_52_code 63 = .ok (.iaload, 1) := by decide +kernel
theorem s154_63 {v0 v1 v2 v3 v4 v5 v6 : Value} {a : Nat} {i : Int32} {st : List Value} {im : IM} {rm : RM} (hk : kd a = 0) (hi : pm_in i (ln a) = true) : ev 154 63 [v0, v1, v2, v3, v4, v5, v6] (.int i :: .ref a :: st) im rm = ev 154 64 [v0, v1, v2, v3, v4, v5, v6] (.int (im a i.toNatClampNeg) :: st) (im) (rm) := ev_iald pm_m154 d154_63 hk hi rfl
theorem d154_64 : decode prog_10_method_52_code 64 = .ok (.i2l, 1) := by decide +kernel
theorem s154_64 {v0 v1 v2 v3 v4 v5 v6 : Value} {x : Int32} {st : List Value} {im : IM} {rm : RM}  : ev 154 64 [v0, v1, v2, v3, v4, v5, v6] (.int x :: st) im rm = ev 154 65 [v0, v1, v2, v3, v4, v5, v6] (.long x.toInt64 :: st) (im) (rm) := ev_i2l pm_m154 d154_64 rfl
theorem d154_65 : decode prog_10_method_52_code 65 = .ok (.lmul, 1) := by decide +kernel
theorem s154_65 {v0 v1 v2 v3 v4 v5 v6 : Value} {x : Int64} {y : Int64} {st : List Value} {im : IM} {rm : RM}  : ev 154 65 [v0, v1, v2, v3, v4, v5, v6] (.long y :: .long x :: st) im rm = ev 154 66 [v0, v1, v2, v3, v4, v5, v6] (.long (x * y) :: st) (im) (rm) := ev_lmul pm_m154 d154_65 rfl
theorem d154_66 : decode prog_10_method_52_code 66 = .ok (.lcmp, 1) := by decide +kernel
theorem s154_66 {v0 v1 v2 v3 v4 v5 v6 : Value} {x : Int64} {y : Int64} {st : List Value} {im : IM} {rm : RM}  : ev 154 66 [v0, v1, v2, v3, v4, v5, v6] (.long y :: .long x :: st) im rm = ev 154 67 [v0, v1, v2, v3, v4, v5, v6] (.int (lg_cmp x y) :: st) (im) (rm) := ev_lcmp pm_m154 d154_66 rfl
theorem d154_67 : decode prog_10_method_52_code 67 = .ok (.ifCond .le 7, 3) := by decide +kernel
theorem s154_67 {v0 v1 v2 v3 v4 v5 v6 : Value} {x : Int32} {st : List Value} {im : IM} {rm : RM} : ev 154 67 [v0, v1, v2, v3, v4, v5, v6] (.int x :: st) im rm = if x ≤ nI 0 then ev 154 74 [v0, v1, v2, v3, v4, pm_u, v6] st im rm else ev 154 70 [v0, v1, v2, v3, v4, pm_u, v6] st im rm := ev_if_le (y := 0) pm_m154 d154_67 rfl rfl rfl
theorem d154_70 : decode prog_10_method_52_code 70 = .ok (.iconst 1, 1) := by decide +kernel
theorem s154_70 {v0 v1 v2 v3 v4 v5 v6 : Value}  {st : List Value} {im : IM} {rm : RM}  : ev 154 70 [v0, v1, v2, v3, v4, v5, v6] st im rm = ev 154 71 [v0, v1, v2, v3, v4, v5, v6] (.int (nI 1) :: st) (im) (rm) := ev_iconst pm_m154 d154_70 rfl rfl
theorem d154_71 : decode prog_10_method_52_code 71 = .ok (.goto 4, 3) := by decide +kernel
theorem s154_71 {v0 v1 v2 v3 v4 v5 v6 : Value}  {st : List Value} {im : IM} {rm : RM}  : ev 154 71 [v0, v1, v2, v3, v4, v5, v6] st im rm = ev 154 75 [v0, v1, v2, v3, v4, pm_u, v6] st (im) (rm) := ev_goto pm_m154 d154_71 rfl rfl
theorem d154_74 : decode prog_10_method_52_code 74 = .ok (.iconst 0, 1) := by decide +kernel
theorem s154_74 {v0 v1 v2 v3 v4 v5 v6 : Value}  {st : List Value} {im : IM} {rm : RM}  : ev 154 74 [v0, v1, v2, v3, v4, v5, v6] st im rm = ev 154 75 [v0, v1, v2, v3, v4, pm_u, v6] (.int (nI 0) :: st) (im) (rm) := ev_iconst pm_m154 d154_74 rfl rfl
theorem d154_75 : decode prog_10_method_52_code 75 = .ok (.istore 5, 2) := by decide +kernel
theorem s154_75 {v0 v1 v2 v3 v5 v6 : Value} {l1 : Int32} {x2 : Int32} {st : List Value} {im : IM} {rm : RM}  : ev 154 75 [v0, v1, v2, v3, .int l1, v5, v6] (.int x2 :: st) im rm = ev 154 77 [v0, v1, v2, v3, .int l1, .int x2, v6] st (im) (rm) := ev_istore pm_m154 d154_75 (Nat.le_of_ble_eq_true rfl) rfl rfl
theorem d154_77 : decode prog_10_method_52_code 77 = .ok (.iinc 6 1, 3) := by decide +kernel
theorem s154_77 {v0 v1 v2 v3 v4 : Value} {l1 : Int32} {l2 : Int32} {st : List Value} {im : IM} {rm : RM}  : ev 154 77 [v0, v1, v2, v3, v4, .int l1, .int l2] st im rm = ev 154 80 [v0, v1, v2, v3, v4, .int l1, .int (l2 + nI 1)] st (im) (rm) := ev_iinc pm_m154 d154_77 rfl rfl rfl rfl
theorem d154_80 : decode prog_10_method_52_code 80 = .ok (.goto (-74), 3) := by decide +kernel
theorem s154_80 {v0 v1 v2 v3 v4 v5 v6 : Value}  {st : List Value} {im : IM} {rm : RM}  : ev 154 80 [v0, v1, v2, v3, v4, v5, v6] st im rm = ev 154 6 [v0, v1, v2, v3, v4, v5, v6] st (im) (rm) := ev_goto pm_m154 d154_80 rfl rfl
theorem d154_83 : decode prog_10_method_52_code 83 = .ok (.iload 5, 2) := by decide +kernel
theorem s154_83 {v0 v1 v2 v3 v4 v6 : Value} {l1 : Int32} {st : List Value} {im : IM} {rm : RM}  : ev 154 83 [v0, v1, v2, v3, v4, .int l1, v6] st im rm = ev 154 85 [v0, v1, v2, v3, v4, .int l1, v6] (.int l1 :: st) (im) (rm) := ev_iload pm_m154 d154_83 rfl rfl
theorem d154_85 : decode prog_10_method_52_code 85 = .ok (.ireturn, 1) := by decide +kernel
theorem s154_85 {v0 v1 v2 v3 v4 v5 v6 : Value} {x : Int32} {im : IM} {rm : RM} (hx : x = 0 ∨ x = 1) : ev 154 85 [v0, v1, v2, v3, v4, v5, v6] [.int x] im rm = some (some (.int x), im, rm) := ev_zreturn pm_m154 d154_85 rfl hx
theorem d155_0 : decode prog_10_method_53_code 0 = .ok (.iconst 0, 1) := by decide +kernel
theorem s155_0 {v0 v1 v2 v3 v4 v5 v6 v7 v8 : Value}  {st : List Value} {im : IM} {rm : RM}  : ev 155 0 [v0, v1, v2, v3, v4, v5, v6, v7, v8] st im rm = ev 155 1 [v0, v1, v2, v3, v4, v5, v6, v7, v8] (.int (nI 0) :: st) (im) (rm) := ev_iconst pm_m155 d155_0 rfl rfl
theorem d155_1 : decode prog_10_method_53_code 1 = .ok (.istore_n 3, 1) := by decide +kernel
theorem s155_1 {v0 v1 v3 v4 v5 v6 v7 v8 : Value} {l1 : Int32} {x2 : Int32} {st : List Value} {im : IM} {rm : RM}  : ev 155 1 [v0, v1, .int l1, v3, v4, v5, v6, v7, v8] (.int x2 :: st) im rm = ev 155 2 [v0, v1, .int l1, .int x2, v4, v5, v6, v7, v8] st (im) (rm) := ev_istore_n pm_m155 d155_1 (Nat.le_of_ble_eq_true rfl) rfl rfl
theorem d155_2 : decode prog_10_method_53_code 2 = .ok (.aload_n 0, 1) := by decide +kernel
theorem s155_2 {v1 v2 v3 v4 v5 v6 v7 v8 : Value} {l1 : Nat} {st : List Value} {im : IM} {rm : RM}  : ev 155 2 [.ref l1, v1, v2, v3, v4, v5, v6, v7, v8] st im rm = ev 155 3 [.ref l1, v1, v2, v3, v4, v5, v6, v7, v8] (.ref l1 :: st) (im) (rm) := ev_aload_n pm_m155 d155_2 rfl rfl
theorem d155_3 : decode prog_10_method_53_code 3 = .ok (.iload_n 2, 1) := by decide +kernel
theorem s155_3 {v0 v1 v3 v4 v5 v6 v7 v8 : Value} {l1 : Int32} {st : List Value} {im : IM} {rm : RM}  : ev 155 3 [v0, v1, .int l1, v3, v4, v5, v6, v7, v8] st im rm = ev 155 4 [v0, v1, .int l1, v3, v4, v5, v6, v7, v8] (.int l1 :: st) (im) (rm) := ev_iload_n pm_m155 d155_3 rfl rfl
theorem d155_4 : decode prog_10_method_53_code 4 = .ok (.invokevirtual 299, 3) := by decide +kernel
theorem s155_4 {v0 v1 v2 v3 v4 v5 v6 v7 v8 : Value} {a : Nat} {p1 : Int32} {im : IM} {rm : RM} (hk : kd a = 18) : ev 155 4 [v0, v1, v2, v3, v4, v5, v6, v7, v8] [.int p1, .ref a] im rm = (ev 153 0 [.ref a, .int p1, pm_u, pm_u] [] im rm).bind (fun r => ev 155 7 [v0, v1, v2, v3, v4, v5, v6, v7, v8] (r.1.toList ++ []) r.2.1 r.2.2) := ev_callV pm_m155 d155_4 l8_299 rfl pm_m153 (by decide) hk rfl ⟨rfl, rfl⟩ rfl rfl
theorem d155_7 : decode prog_10_method_53_code 7 = .ok (.istore 4, 2) := by decide +kernel
theorem s155_7 {v0 v1 v2 v4 v5 v6 v7 v8 : Value} {l1 : Int32} {x2 : Int32} {st : List Value} {im : IM} {rm : RM}  : ev 155 7 [v0, v1, v2, .int l1, v4, v5, v6, v7, v8] (.int x2 :: st) im rm = ev 155 9 [v0, v1, v2, .int l1, .int x2, v5, v6, v7, v8] st (im) (rm) := ev_istore pm_m155 d155_7 (Nat.le_of_ble_eq_true rfl) rfl rfl
theorem d155_9 : decode prog_10_method_53_code 9 = .ok (.iconst 0, 1) := by decide +kernel
theorem s155_9 {v0 v1 v2 v3 v4 v5 v6 v7 v8 : Value}  {st : List Value} {im : IM} {rm : RM}  : ev 155 9 [v0, v1, v2, v3, v4, v5, v6, v7, v8] st im rm = ev 155 10 [v0, v1, v2, v3, v4, v5, v6, v7, v8] (.int (nI 0) :: st) (im) (rm) := ev_iconst pm_m155 d155_9 rfl rfl
theorem d155_10 : decode prog_10_method_53_code 10 = .ok (.istore 5, 2) := by decide +kernel
theorem s155_10 {v0 v1 v2 v3 v5 v6 v7 v8 : Value} {l1 : Int32} {x2 : Int32} {st : List Value} {im : IM} {rm : RM}  : ev 155 10 [v0, v1, v2, v3, .int l1, v5, v6, v7, v8] (.int x2 :: st) im rm = ev 155 12 [v0, v1, v2, v3, .int l1, .int x2, pm_u, pm_u, pm_u] st (im) (rm) := ev_istore pm_m155 d155_10 (Nat.le_of_ble_eq_true rfl) rfl rfl
theorem d155_12 : decode prog_10_method_53_code 12 = .ok (.iload 5, 2) := by decide +kernel
theorem s155_12 {v0 v1 v2 v3 v4 v6 v7 v8 : Value} {l1 : Int32} {st : List Value} {im : IM} {rm : RM}  : ev 155 12 [v0, v1, v2, v3, v4, .int l1, v6, v7, v8] st im rm = ev 155 14 [v0, v1, v2, v3, v4, .int l1, v6, v7, v8] (.int l1 :: st) (im) (rm) := ev_iload pm_m155 d155_12 rfl rfl
theorem d155_14 : decode prog_10_method_53_code 14 = .ok (.aload_n 0, 1) := by decide +kernel
theorem s155_14 {v1 v2 v3 v4 v5 v6 v7 v8 : Value} {l1 : Nat} {st : List Value} {im : IM} {rm : RM}  : ev 155 14 [.ref l1, v1, v2, v3, v4, v5, v6, v7, v8] st im rm = ev 155 15 [.ref l1, v1, v2, v3, v4, v5, v6, v7, v8] (.ref l1 :: st) (im) (rm) := ev_aload_n pm_m155 d155_14 rfl rfl
theorem d155_15 : decode prog_10_method_53_code 15 = .ok (.getfield 61, 3) := by decide +kernel
theorem s155_15 {v0 v1 v2 v3 v4 v5 v6 v7 v8 : Value} {a : Nat} {st : List Value} {im : IM} {rm : RM} (hk : kd a = 18) : ev 155 15 [v0, v1, v2, v3, v4, v5, v6, v7, v8] (.ref a :: st) im rm = ev 155 18 [v0, v1, v2, v3, v4, v5, v6, v7, v8] (pm_ro (rm a 18) :: st) (im) (rm) := ev_getR pm_m155 d155_15 f8_61 rfl hk rfl
theorem d155_18 : decode prog_10_method_53_code 18 = .ok (.iload_n 2, 1) := by decide +kernel
theorem s155_18 {v0 v1 v3 v4 v5 v6 v7 v8 : Value} {l1 : Int32} {st : List Value} {im : IM} {rm : RM}  : ev 155 18 [v0, v1, .int l1, v3, v4, v5, v6, v7, v8] st im rm = ev 155 19 [v0, v1, .int l1, v3, v4, v5, v6, v7, v8] (.int l1 :: st) (im) (rm) := ev_iload_n pm_m155 d155_18 rfl rfl
theorem d155_19 : decode prog_10_method_53_code 19 = .ok (.iaload, 1) := by decide +kernel
theorem s155_19 {v0 v1 v2 v3 v4 v5 v6 v7 v8 : Value} {a : Nat} {i : Int32} {st : List Value} {im : IM} {rm : RM} (hk : kd a = 0) (hi : pm_in i (ln a) = true) : ev 155 19 [v0, v1, v2, v3, v4, v5, v6, v7, v8] (.int i :: .ref a :: st) im rm = ev 155 20 [v0, v1, v2, v3, v4, v5, v6, v7, v8] (.int (im a i.toNatClampNeg) :: st) (im) (rm) := ev_iald pm_m155 d155_19 hk hi rfl
theorem d155_20 : decode prog_10_method_53_code 20 = .ok (.if_icmp .ge 142, 3) := by decide +kernel
theorem s155_20 {v0 v1 v2 v3 v4 v5 v6 v7 v8 : Value} {x : Int32} {y : Int32} {st : List Value} {im : IM} {rm : RM} : ev 155 20 [v0, v1, v2, v3, v4, v5, v6, v7, v8] (.int y :: .int x :: st) im rm = if y ≤ x then ev 155 162 [pm_u, pm_u, pm_u, v3, pm_u, pm_u, pm_u, pm_u, pm_u] st im rm else ev 155 23 [v0, v1, v2, v3, v4, v5, v6, v7, v8] st im rm := ev_icmp_ge pm_m155 d155_20 rfl rfl rfl
theorem d155_23 : decode prog_10_method_53_code 23 = .ok (.aload_n 0, 1) := by decide +kernel
theorem s155_23 {v1 v2 v3 v4 v5 v6 v7 v8 : Value} {l1 : Nat} {st : List Value} {im : IM} {rm : RM}  : ev 155 23 [.ref l1, v1, v2, v3, v4, v5, v6, v7, v8] st im rm = ev 155 24 [.ref l1, v1, v2, v3, v4, v5, v6, v7, v8] (.ref l1 :: st) (im) (rm) := ev_aload_n pm_m155 d155_23 rfl rfl
theorem d155_24 : decode prog_10_method_53_code 24 = .ok (.getfield 67, 3) := by decide +kernel
theorem s155_24 {v0 v1 v2 v3 v4 v5 v6 v7 v8 : Value} {a : Nat} {st : List Value} {im : IM} {rm : RM} (hk : kd a = 18) : ev 155 24 [v0, v1, v2, v3, v4, v5, v6, v7, v8] (.ref a :: st) im rm = ev 155 27 [v0, v1, v2, v3, v4, v5, v6, v7, v8] (pm_ro (rm a 20) :: st) (im) (rm) := ev_getR pm_m155 d155_24 f8_67 rfl hk rfl
theorem d155_27 : decode prog_10_method_53_code 27 = .ok (.bipush 8, 2) := by decide +kernel
theorem s155_27 {v0 v1 v2 v3 v4 v5 v6 v7 v8 : Value}  {st : List Value} {im : IM} {rm : RM}  : ev 155 27 [v0, v1, v2, v3, v4, v5, v6, v7, v8] st im rm = ev 155 29 [v0, v1, v2, v3, v4, v5, v6, v7, v8] (.int (nI 8) :: st) (im) (rm) := ev_bipush pm_m155 d155_27 rfl rfl
theorem d155_29 : decode prog_10_method_53_code 29 = .ok (.iload_n 2, 1) := by decide +kernel
theorem s155_29 {v0 v1 v3 v4 v5 v6 v7 v8 : Value} {l1 : Int32} {st : List Value} {im : IM} {rm : RM}  : ev 155 29 [v0, v1, .int l1, v3, v4, v5, v6, v7, v8] st im rm = ev 155 30 [v0, v1, .int l1, v3, v4, v5, v6, v7, v8] (.int l1 :: st) (im) (rm) := ev_iload_n pm_m155 d155_29 rfl rfl
theorem d155_30 : decode prog_10_method_53_code 30 = .ok (.imul, 1) := by decide +kernel
theorem s155_30 {v0 v1 v2 v3 v4 v5 v6 v7 v8 : Value} {x : Int32} {y : Int32} {st : List Value} {im : IM} {rm : RM}  : ev 155 30 [v0, v1, v2, v3, v4, v5, v6, v7, v8] (.int y :: .int x :: st) im rm = ev 155 31 [v0, v1, v2, v3, v4, v5, v6, v7, v8] (.int (x * y) :: st) (im) (rm) := ev_imul pm_m155 d155_30 rfl
theorem d155_31 : decode prog_10_method_53_code 31 = .ok (.iload 5, 2) := by decide +kernel
theorem s155_31 {v0 v1 v2 v3 v4 v6 v7 v8 : Value} {l1 : Int32} {st : List Value} {im : IM} {rm : RM}  : ev 155 31 [v0, v1, v2, v3, v4, .int l1, v6, v7, v8] st im rm = ev 155 33 [v0, v1, v2, v3, v4, .int l1, v6, v7, v8] (.int l1 :: st) (im) (rm) := ev_iload pm_m155 d155_31 rfl rfl
theorem d155_33 : decode prog_10_method_53_code 33 = .ok (.iadd, 1) := by decide +kernel
theorem s155_33 {v0 v1 v2 v3 v4 v5 v6 v7 v8 : Value} {x : Int32} {y : Int32} {st : List Value} {im : IM} {rm : RM}  : ev 155 33 [v0, v1, v2, v3, v4, v5, v6, v7, v8] (.int y :: .int x :: st) im rm = ev 155 34 [v0, v1, v2, v3, v4, v5, v6, v7, v8] (.int (x + y) :: st) (im) (rm) := ev_iadd pm_m155 d155_33 rfl
theorem d155_34 : decode prog_10_method_53_code 34 = .ok (.iaload, 1) := by decide +kernel
theorem s155_34 {v0 v1 v2 v3 v4 v5 v6 v7 v8 : Value} {a : Nat} {i : Int32} {st : List Value} {im : IM} {rm : RM} (hk : kd a = 0) (hi : pm_in i (ln a) = true) : ev 155 34 [v0, v1, v2, v3, v4, v5, v6, v7, v8] (.int i :: .ref a :: st) im rm = ev 155 35 [v0, v1, v2, v3, v4, v5, v6, v7, v8] (.int (im a i.toNatClampNeg) :: st) (im) (rm) := ev_iald pm_m155 d155_34 hk hi rfl
theorem d155_35 : decode prog_10_method_53_code 35 = .ok (.istore 6, 2) := by decide +kernel
theorem s155_35 {v0 v1 v2 v3 v4 v6 v7 v8 : Value} {l1 : Int32} {x2 : Int32} {st : List Value} {im : IM} {rm : RM}  : ev 155 35 [v0, v1, v2, v3, v4, .int l1, v6, v7, v8] (.int x2 :: st) im rm = ev 155 37 [v0, v1, v2, v3, v4, .int l1, .int x2, v7, v8] st (im) (rm) := ev_istore pm_m155 d155_35 (Nat.le_of_ble_eq_true rfl) rfl rfl
theorem d155_37 : decode prog_10_method_53_code 37 = .ok (.aload_n 0, 1) := by decide +kernel
theorem s155_37 {v1 v2 v3 v4 v5 v6 v7 v8 : Value} {l1 : Nat} {st : List Value} {im : IM} {rm : RM}  : ev 155 37 [.ref l1, v1, v2, v3, v4, v5, v6, v7, v8] st im rm = ev 155 38 [.ref l1, v1, v2, v3, v4, v5, v6, v7, v8] (.ref l1 :: st) (im) (rm) := ev_aload_n pm_m155 d155_37 rfl rfl
theorem d155_38 : decode prog_10_method_53_code 38 = .ok (.getfield 64, 3) := by decide +kernel
theorem s155_38 {v0 v1 v2 v3 v4 v5 v6 v7 v8 : Value} {a : Nat} {st : List Value} {im : IM} {rm : RM} (hk : kd a = 18) : ev 155 38 [v0, v1, v2, v3, v4, v5, v6, v7, v8] (.ref a :: st) im rm = ev 155 41 [v0, v1, v2, v3, v4, v5, v6, v7, v8] (pm_ro (rm a 19) :: st) (im) (rm) := ev_getR pm_m155 d155_38 f8_64 rfl hk rfl
theorem d155_41 : decode prog_10_method_53_code 41 = .ok (.bipush 8, 2) := by decide +kernel
theorem s155_41 {v0 v1 v2 v3 v4 v5 v6 v7 v8 : Value}  {st : List Value} {im : IM} {rm : RM}  : ev 155 41 [v0, v1, v2, v3, v4, v5, v6, v7, v8] st im rm = ev 155 43 [v0, v1, v2, v3, v4, v5, v6, v7, v8] (.int (nI 8) :: st) (im) (rm) := ev_bipush pm_m155 d155_41 rfl rfl
theorem d155_43 : decode prog_10_method_53_code 43 = .ok (.iload_n 2, 1) := by decide +kernel
theorem s155_43 {v0 v1 v3 v4 v5 v6 v7 v8 : Value} {l1 : Int32} {st : List Value} {im : IM} {rm : RM}  : ev 155 43 [v0, v1, .int l1, v3, v4, v5, v6, v7, v8] st im rm = ev 155 44 [v0, v1, .int l1, v3, v4, v5, v6, v7, v8] (.int l1 :: st) (im) (rm) := ev_iload_n pm_m155 d155_43 rfl rfl
theorem d155_44 : decode prog_10_method_53_code 44 = .ok (.imul, 1) := by decide +kernel
theorem s155_44 {v0 v1 v2 v3 v4 v5 v6 v7 v8 : Value} {x : Int32} {y : Int32} {st : List Value} {im : IM} {rm : RM}  : ev 155 44 [v0, v1, v2, v3, v4, v5, v6, v7, v8] (.int y :: .int x :: st) im rm = ev 155 45 [v0, v1, v2, v3, v4, v5, v6, v7, v8] (.int (x * y) :: st) (im) (rm) := ev_imul pm_m155 d155_44 rfl
theorem d155_45 : decode prog_10_method_53_code 45 = .ok (.iload 5, 2) := by decide +kernel
theorem s155_45 {v0 v1 v2 v3 v4 v6 v7 v8 : Value} {l1 : Int32} {st : List Value} {im : IM} {rm : RM}  : ev 155 45 [v0, v1, v2, v3, v4, .int l1, v6, v7, v8] st im rm = ev 155 47 [v0, v1, v2, v3, v4, .int l1, v6, v7, v8] (.int l1 :: st) (im) (rm) := ev_iload pm_m155 d155_45 rfl rfl
theorem d155_47 : decode prog_10_method_53_code 47 = .ok (.iadd, 1) := by decide +kernel
theorem s155_47 {v0 v1 v2 v3 v4 v5 v6 v7 v8 : Value} {x : Int32} {y : Int32} {st : List Value} {im : IM} {rm : RM}  : ev 155 47 [v0, v1, v2, v3, v4, v5, v6, v7, v8] (.int y :: .int x :: st) im rm = ev 155 48 [v0, v1, v2, v3, v4, v5, v6, v7, v8] (.int (x + y) :: st) (im) (rm) := ev_iadd pm_m155 d155_47 rfl
theorem d155_48 : decode prog_10_method_53_code 48 = .ok (.iaload, 1) := by decide +kernel
theorem s155_48 {v0 v1 v2 v3 v4 v5 v6 v7 v8 : Value} {a : Nat} {i : Int32} {st : List Value} {im : IM} {rm : RM} (hk : kd a = 0) (hi : pm_in i (ln a) = true) : ev 155 48 [v0, v1, v2, v3, v4, v5, v6, v7, v8] (.int i :: .ref a :: st) im rm = ev 155 49 [v0, v1, v2, v3, v4, v5, v6, v7, v8] (.int (im a i.toNatClampNeg) :: st) (im) (rm) := ev_iald pm_m155 d155_48 hk hi rfl
theorem d155_49 : decode prog_10_method_53_code 49 = .ok (.istore 7, 2) := by decide +kernel
theorem s155_49 {v0 v1 v2 v3 v4 v5 v7 v8 : Value} {l1 : Int32} {x2 : Int32} {st : List Value} {im : IM} {rm : RM}  : ev 155 49 [v0, v1, v2, v3, v4, v5, .int l1, v7, v8] (.int x2 :: st) im rm = ev 155 51 [v0, v1, v2, v3, v4, v5, .int l1, .int x2, v8] st (im) (rm) := ev_istore pm_m155 d155_49 (Nat.le_of_ble_eq_true rfl) rfl rfl
theorem d155_51 : decode prog_10_method_53_code 51 = .ok (.iload 7, 2) := by decide +kernel
theorem s155_51 {v0 v1 v2 v3 v4 v5 v6 v8 : Value} {l1 : Int32} {st : List Value} {im : IM} {rm : RM}  : ev 155 51 [v0, v1, v2, v3, v4, v5, v6, .int l1, v8] st im rm = ev 155 53 [v0, v1, v2, v3, v4, v5, v6, .int l1, v8] (.int l1 :: st) (im) (rm) := ev_iload pm_m155 d155_51 rfl rfl
theorem d155_53 : decode prog_10_method_53_code 53 = .ok (.ifCond .ne 16, 3) := by decide +kernel
theorem s155_53 {v0 v1 v2 v3 v4 v5 v6 v7 v8 : Value} {x : Int32} {st : List Value} {im : IM} {rm : RM} : ev 155 53 [v0, v1, v2, v3, v4, v5, v6, v7, v8] (.int x :: st) im rm = if x = nI 0 then ev 155 56 [v0, v1, v2, v3, v4, v5, v6, v7, v8] st im rm else ev 155 69 [v0, v1, v2, v3, v4, v5, v6, v7, pm_u] st im rm := ev_if_ne (y := 0) pm_m155 d155_53 rfl rfl rfl
theorem d155_56 : decode prog_10_method_53_code 56 = .ok (.aload_n 0, 1) := by decide +kernel
theorem s155_56 {v1 v2 v3 v4 v5 v6 v7 v8 : Value} {l1 : Nat} {st : List Value} {im : IM} {rm : RM}  : ev 155 56 [.ref l1, v1, v2, v3, v4, v5, v6, v7, v8] st im rm = ev 155 57 [.ref l1, v1, v2, v3, v4, v5, v6, v7, v8] (.ref l1 :: st) (im) (rm) := ev_aload_n pm_m155 d155_56 rfl rfl
theorem d155_57 : decode prog_10_method_53_code 57 = .ok (.iload_n 1, 1) := by decide +kernel
theorem s155_57 {v0 v2 v3 v4 v5 v6 v7 v8 : Value} {l1 : Int32} {st : List Value} {im : IM} {rm : RM}  : ev 155 57 [v0, .int l1, v2, v3, v4, v5, v6, v7, v8] st im rm = ev 155 58 [v0, .int l1, v2, v3, v4, v5, v6, v7, v8] (.int l1 :: st) (im) (rm) := ev_iload_n pm_m155 d155_57 rfl rfl
theorem d155_58 : decode prog_10_method_53_code 58 = .ok (.iconst 0, 1) := by decide +kernel
theorem s155_58 {v0 v1 v2 v3 v4 v5 v6 v7 v8 : Value}  {st : List Value} {im : IM} {rm : RM}  : ev 155 58 [v0, v1, v2, v3, v4, v5, v6, v7, v8] st im rm = ev 155 59 [v0, v1, v2, v3, v4, v5, v6, v7, v8] (.int (nI 0) :: st) (im) (rm) := ev_iconst pm_m155 d155_58 rfl rfl
theorem d155_59 : decode prog_10_method_53_code 59 = .ok (.bipush 100, 2) := by decide +kernel
theorem s155_59 {v0 v1 v2 v3 v4 v5 v6 v7 v8 : Value}  {st : List Value} {im : IM} {rm : RM}  : ev 155 59 [v0, v1, v2, v3, v4, v5, v6, v7, v8] st im rm = ev 155 61 [v0, v1, v2, v3, v4, v5, v6, v7, v8] (.int (nI 100) :: st) (im) (rm) := ev_bipush pm_m155 d155_59 rfl rfl
theorem d155_61 : decode prog_10_method_53_code 61 = .ok (.iload 6, 2) := by decide +kernel
theorem s155_61 {v0 v1 v2 v3 v4 v5 v7 v8 : Value} {l1 : Int32} {st : List Value} {im : IM} {rm : RM}  : ev 155 61 [v0, v1, v2, v3, v4, v5, .int l1, v7, v8] st im rm = ev 155 63 [v0, v1, v2, v3, v4, v5, .int l1, v7, v8] (.int l1 :: st) (im) (rm) := ev_iload pm_m155 d155_61 rfl rfl
theorem d155_63 : decode prog_10_method_53_code 63 = .ok (.invokevirtual 302, 3) := by decide +kernel
theorem s155_63 {v0 v1 v2 v3 v4 v5 v6 v7 v8 : Value} {a : Nat} {p1 : Int32} {p2 : Int32} {p3 : Int32} {p4 : Int32} {im : IM} {rm : RM} (hk : kd a = 18) : ev 155 63 [v0, v1, v2, v3, v4, v5, v6, v7, v8] [.int p4, .int p3, .int p2, .int p1, .ref a] im rm = (ev 154 0 [.ref a, .int p1, .int p2, .int p3, .int p4, pm_u, pm_u] [] im rm).bind (fun r => ev 155 66 [v0, v1, v2, v3, v4, v5, v6, v7, v8] (r.1.toList ++ []) r.2.1 r.2.2) := ev_callV pm_m155 d155_63 l8_302 rfl pm_m154 (by decide) hk rfl ⟨rfl, rfl⟩ rfl rfl
theorem d155_66 : decode prog_10_method_53_code 66 = .ok (.goto 72, 3) := by decide +kernel
theorem s155_66 {v0 v1 v2 v3 v4 v5 v6 v7 v8 : Value}  {st : List Value} {im : IM} {rm : RM}  : ev 155 66 [v0, v1, v2, v3, v4, v5, v6, v7, v8] st im rm = ev 155 138 [v0, v1, v2, v3, v4, v5, pm_u, pm_u, pm_u] st (im) (rm) := ev_goto pm_m155 d155_66 rfl rfl
theorem d155_69 : decode prog_10_method_53_code 69 = .ok (.iload 7, 2) := by decide +kernel
theorem s155_69 {v0 v1 v2 v3 v4 v5 v6 v8 : Value} {l1 : Int32} {st : List Value} {im : IM} {rm : RM}  : ev 155 69 [v0, v1, v2, v3, v4, v5, v6, .int l1, v8] st im rm = ev 155 71 [v0, v1, v2, v3, v4, v5, v6, .int l1, v8] (.int l1 :: st) (im) (rm) := ev_iload pm_m155 d155_69 rfl rfl
theorem d155_71 : decode prog_10_method_53_code 71 = .ok (.iconst 1, 1) := by decide +kernel
theorem s155_71 {v0 v1 v2 v3 v4 v5 v6 v7 v8 : Value}  {st : List Value} {im : IM} {rm : RM}  : ev 155 71 [v0, v1, v2, v3, v4, v5, v6, v7, v8] st im rm = ev 155 72 [v0, v1, v2, v3, v4, v5, v6, v7, v8] (.int (nI 1) :: st) (im) (rm) := ev_iconst pm_m155 d155_71 rfl rfl
theorem d155_72 : decode prog_10_method_53_code 72 = .ok (.if_icmp .ne 34, 3) := by decide +kernel
theorem s155_72 {v0 v1 v2 v3 v4 v5 v6 v7 v8 : Value} {x : Int32} {y : Int32} {st : List Value} {im : IM} {rm : RM} : ev 155 72 [v0, v1, v2, v3, v4, v5, v6, v7, v8] (.int y :: .int x :: st) im rm = if x = y then ev 155 75 [v0, v1, v2, v3, v4, v5, v6, v7, v8] st im rm else ev 155 106 [v0, v1, v2, v3, v4, v5, v6, v7, pm_u] st im rm := ev_icmp_ne pm_m155 d155_72 rfl rfl rfl
theorem d155_75 : decode prog_10_method_53_code 75 = .ok (.iload 4, 2) := by decide +kernel
theorem s155_75 {v0 v1 v2 v3 v5 v6 v7 v8 : Value} {l1 : Int32} {st : List Value} {im : IM} {rm : RM}  : ev 155 75 [v0, v1, v2, v3, .int l1, v5, v6, v7, v8] st im rm = ev 155 77 [v0, v1, v2, v3, .int l1, v5, v6, v7, v8] (.int l1 :: st) (im) (rm) := ev_iload pm_m155 d155_75 rfl rfl
theorem d155_77 : decode prog_10_method_53_code 77 = .ok (.iconst (-1), 1) := by decide +kernel
theorem s155_77 {v0 v1 v2 v3 v4 v5 v6 v7 v8 : Value}  {st : List Value} {im : IM} {rm : RM}  : ev 155 77 [v0, v1, v2, v3, v4, v5, v6, v7, v8] st im rm = ev 155 78 [v0, v1, v2, v3, v4, v5, v6, v7, v8] (.int ((-1 : Int32)) :: st) (im) (rm) := ev_iconst pm_m155 d155_77 rfl rfl
theorem d155_78 : decode prog_10_method_53_code 78 = .ok (.if_icmp .eq 24, 3) := by decide +kernel
theorem s155_78 {v0 v1 v2 v3 v4 v5 v6 v7 v8 : Value} {x : Int32} {y : Int32} {st : List Value} {im : IM} {rm : RM} : ev 155 78 [v0, v1, v2, v3, v4, v5, v6, v7, v8] (.int y :: .int x :: st) im rm = if x = y then ev 155 102 [v0, v1, v2, v3, v4, v5, pm_u, pm_u, pm_u] st im rm else ev 155 81 [v0, v1, v2, v3, v4, v5, v6, v7, v8] st im rm := ev_icmp_eq pm_m155 d155_78 rfl rfl rfl
theorem d155_81 : decode prog_10_method_53_code 81 = .ok (.aload_n 0, 1) := by decide +kernel
theorem s155_81 {v1 v2 v3 v4 v5 v6 v7 v8 : Value} {l1 : Nat} {st : List Value} {im : IM} {rm : RM}  : ev 155 81 [.ref l1, v1, v2, v3, v4, v5, v6, v7, v8] st im rm = ev 155 82 [.ref l1, v1, v2, v3, v4, v5, v6, v7, v8] (.ref l1 :: st) (im) (rm) := ev_aload_n pm_m155 d155_81 rfl rfl
theorem d155_82 : decode prog_10_method_53_code 82 = .ok (.iload_n 1, 1) := by decide +kernel
theorem s155_82 {v0 v2 v3 v4 v5 v6 v7 v8 : Value} {l1 : Int32} {st : List Value} {im : IM} {rm : RM}  : ev 155 82 [v0, .int l1, v2, v3, v4, v5, v6, v7, v8] st im rm = ev 155 83 [v0, .int l1, v2, v3, v4, v5, v6, v7, v8] (.int l1 :: st) (im) (rm) := ev_iload_n pm_m155 d155_82 rfl rfl
theorem d155_83 : decode prog_10_method_53_code 83 = .ok (.iconst 1, 1) := by decide +kernel
theorem s155_83 {v0 v1 v2 v3 v4 v5 v6 v7 v8 : Value}  {st : List Value} {im : IM} {rm : RM}  : ev 155 83 [v0, v1, v2, v3, v4, v5, v6, v7, v8] st im rm = ev 155 84 [v0, v1, v2, v3, v4, v5, v6, v7, v8] (.int (nI 1) :: st) (im) (rm) := ev_iconst pm_m155 d155_83 rfl rfl
theorem d155_84 : decode prog_10_method_53_code 84 = .ok (.sipush 10000, 3) := by decide +kernel
theorem s155_84 {v0 v1 v2 v3 v4 v5 v6 v7 v8 : Value}  {st : List Value} {im : IM} {rm : RM}  : ev 155 84 [v0, v1, v2, v3, v4, v5, v6, v7, v8] st im rm = ev 155 87 [v0, v1, v2, v3, v4, v5, v6, v7, v8] (.int (nI 10000) :: st) (im) (rm) := ev_sipush pm_m155 d155_84 rfl rfl
theorem d155_87 : decode prog_10_method_53_code 87 = .ok (.iload 4, 2) := by decide +kernel
theorem s155_87 {v0 v1 v2 v3 v5 v6 v7 v8 : Value} {l1 : Int32} {st : List Value} {im : IM} {rm : RM}  : ev 155 87 [v0, v1, v2, v3, .int l1, v5, v6, v7, v8] st im rm = ev 155 89 [v0, v1, v2, v3, .int l1, v5, v6, v7, v8] (.int l1 :: st) (im) (rm) := ev_iload pm_m155 d155_87 rfl rfl
theorem d155_89 : decode prog_10_method_53_code 89 = .ok (.iload 6, 2) := by decide +kernel
theorem s155_89 {v0 v1 v2 v3 v4 v5 v7 v8 : Value} {l1 : Int32} {st : List Value} {im : IM} {rm : RM}  : ev 155 89 [v0, v1, v2, v3, v4, v5, .int l1, v7, v8] st im rm = ev 155 91 [v0, v1, v2, v3, v4, v5, .int l1, v7, v8] (.int l1 :: st) (im) (rm) := ev_iload pm_m155 d155_89 rfl rfl
theorem d155_91 : decode prog_10_method_53_code 91 = .ok (.imul, 1) := by decide +kernel
theorem s155_91 {v0 v1 v2 v3 v4 v5 v6 v7 v8 : Value} {x : Int32} {y : Int32} {st : List Value} {im : IM} {rm : RM}  : ev 155 91 [v0, v1, v2, v3, v4, v5, v6, v7, v8] (.int y :: .int x :: st) im rm = ev 155 92 [v0, v1, v2, v3, v4, v5, v6, v7, v8] (.int (x * y) :: st) (im) (rm) := ev_imul pm_m155 d155_91 rfl
theorem d155_92 : decode prog_10_method_53_code 92 = .ok (.invokevirtual 302, 3) := by decide +kernel
theorem s155_92 {v0 v1 v2 v3 v4 v5 v6 v7 v8 : Value} {a : Nat} {p1 : Int32} {p2 : Int32} {p3 : Int32} {p4 : Int32} {im : IM} {rm : RM} (hk : kd a = 18) : ev 155 92 [v0, v1, v2, v3, v4, v5, v6, v7, v8] [.int p4, .int p3, .int p2, .int p1, .ref a] im rm = (ev 154 0 [.ref a, .int p1, .int p2, .int p3, .int p4, pm_u, pm_u] [] im rm).bind (fun r => ev 155 95 [v0, v1, v2, v3, v4, v5, v6, v7, v8] (r.1.toList ++ []) r.2.1 r.2.2) := ev_callV pm_m155 d155_92 l8_302 rfl pm_m154 (by decide) hk rfl ⟨rfl, rfl⟩ rfl rfl
theorem d155_95 : decode prog_10_method_53_code 95 = .ok (.ifCond .eq 7, 3) := by decide +kernel
theorem s155_95 {v0 v1 v2 v3 v4 v5 v6 v7 v8 : Value} {x : Int32} {st : List Value} {im : IM} {rm : RM} : ev 155 95 [v0, v1, v2, v3, v4, v5, v6, v7, v8] (.int x :: st) im rm = if x = nI 0 then ev 155 102 [v0, v1, v2, v3, v4, v5, pm_u, pm_u, pm_u] st im rm else ev 155 98 [v0, v1, v2, v3, v4, v5, v6, v7, v8] st im rm := ev_if_eq (y := 0) pm_m155 d155_95 rfl rfl rfl
theorem d155_98 : decode prog_10_method_53_code 98 = .ok (.iconst 1, 1) := by decide +kernel
theorem s155_98 {v0 v1 v2 v3 v4 v5 v6 v7 v8 : Value}  {st : List Value} {im : IM} {rm : RM}  : ev 155 98 [v0, v1, v2, v3, v4, v5, v6, v7, v8] st im rm = ev 155 99 [v0, v1, v2, v3, v4, v5, v6, v7, v8] (.int (nI 1) :: st) (im) (rm) := ev_iconst pm_m155 d155_98 rfl rfl
theorem d155_99 : decode prog_10_method_53_code 99 = .ok (.goto 39, 3) := by decide +kernel
theorem s155_99 {v0 v1 v2 v3 v4 v5 v6 v7 v8 : Value}  {st : List Value} {im : IM} {rm : RM}  : ev 155 99 [v0, v1, v2, v3, v4, v5, v6, v7, v8] st im rm = ev 155 138 [v0, v1, v2, v3, v4, v5, pm_u, pm_u, pm_u] st (im) (rm) := ev_goto pm_m155 d155_99 rfl rfl
theorem d155_102 : decode prog_10_method_53_code 102 = .ok (.iconst 0, 1) := by decide +kernel
theorem s155_102 {v0 v1 v2 v3 v4 v5 v6 v7 v8 : Value}  {st : List Value} {im : IM} {rm : RM}  : ev 155 102 [v0, v1, v2, v3, v4, v5, v6, v7, v8] st im rm = ev 155 103 [v0, v1, v2, v3, v4, v5, v6, v7, v8] (.int (nI 0) :: st) (im) (rm) := ev_iconst pm_m155 d155_102 rfl rfl
theorem d155_103 : decode prog_10_method_53_code 103 = .ok (.goto 35, 3) := by decide +kernel
theorem s155_103 {v0 v1 v2 v3 v4 v5 v6 v7 v8 : Value}  {st : List Value} {im : IM} {rm : RM}  : ev 155 103 [v0, v1, v2, v3, v4, v5, v6, v7, v8] st im rm = ev 155 138 [v0, v1, v2, v3, v4, v5, pm_u, pm_u, pm_u] st (im) (rm) := ev_goto pm_m155 d155_103 rfl rfl
theorem d155_106 : decode prog_10_method_53_code 106 = .ok (.aload_n 0, 1) := by decide +kernel
theorem s155_106 {v1 v2 v3 v4 v5 v6 v7 v8 : Value} {l1 : Nat} {st : List Value} {im : IM} {rm : RM}  : ev 155 106 [.ref l1, v1, v2, v3, v4, v5, v6, v7, v8] st im rm = ev 155 107 [.ref l1, v1, v2, v3, v4, v5, v6, v7, v8] (.ref l1 :: st) (im) (rm) := ev_aload_n pm_m155 d155_106 rfl rfl
theorem d155_107 : decode prog_10_method_53_code 107 = .ok (.iload_n 1, 1) := by decide +kernel
theorem s155_107 {v0 v2 v3 v4 v5 v6 v7 v8 : Value} {l1 : Int32} {st : List Value} {im : IM} {rm : RM}  : ev 155 107 [v0, .int l1, v2, v3, v4, v5, v6, v7, v8] st im rm = ev 155 108 [v0, .int l1, v2, v3, v4, v5, v6, v7, v8] (.int l1 :: st) (im) (rm) := ev_iload_n pm_m155 d155_107 rfl rfl
theorem d155_108 : decode prog_10_method_53_code 108 = .ok (.iload 6, 2) := by decide +kernel
theorem s155_108 {v0 v1 v2 v3 v4 v5 v7 v8 : Value} {l1 : Int32} {st : List Value} {im : IM} {rm : RM}  : ev 155 108 [v0, v1, v2, v3, v4, v5, .int l1, v7, v8] st im rm = ev 155 110 [v0, v1, v2, v3, v4, v5, .int l1, v7, v8] (.int l1 :: st) (im) (rm) := ev_iload pm_m155 d155_108 rfl rfl
theorem d155_110 : decode prog_10_method_53_code 110 = .ok (.invokevirtual 306, 3) := by decide +kernel
theorem s155_110 {v0 v1 v2 v3 v4 v5 v6 v7 v8 : Value} {a : Nat} {p1 : Int32} {p2 : Int32} {im : IM} {rm : RM} (hk : kd a = 18) : ev 155 110 [v0, v1, v2, v3, v4, v5, v6, v7, v8] [.int p2, .int p1, .ref a] im rm = (ev 151 0 [.ref a, .int p1, .int p2, pm_u, pm_u, pm_u] [] im rm).bind (fun r => ev 155 113 [v0, v1, v2, v3, v4, v5, v6, v7, v8] (r.1.toList ++ []) r.2.1 r.2.2) := ev_callV pm_m155 d155_110 l8_306 rfl pm_m151 (by decide) hk rfl ⟨rfl, rfl⟩ rfl rfl
theorem d155_113 : decode prog_10_method_53_code 113 = .ok (.ifCond .eq 24, 3) := by decide +kernel
theorem s155_113 {v0 v1 v2 v3 v4 v5 v6 v7 v8 : Value} {x : Int32} {st : List Value} {im : IM} {rm : RM} : ev 155 113 [v0, v1, v2, v3, v4, v5, v6, v7, v8] (.int x :: st) im rm = if x = nI 0 then ev 155 137 [v0, v1, v2, v3, v4, v5, pm_u, pm_u, pm_u] st im rm else ev 155 116 [v0, v1, v2, v3, v4, v5, v6, v7, v8] st im rm := ev_if_eq (y := 0) pm_m155 d155_113 rfl rfl rfl
theorem d155_116 : decode prog_10_method_53_code 116 = .ok (.iload 7, 2) := by decide +kernel
theorem s155_116 {v0 v1 v2 v3 v4 v5 v6 v8 : Value} {l1 : Int32} {st : List Value} {im : IM} {rm : RM}  : ev 155 116 [v0, v1, v2, v3, v4, v5, v6, .int l1, v8] st im rm = ev 155 118 [v0, v1, v2, v3, v4, v5, v6, .int l1, v8] (.int l1 :: st) (im) (rm) := ev_iload pm_m155 d155_116 rfl rfl
theorem d155_118 : decode prog_10_method_53_code 118 = .ok (.iconst 2, 1) := by decide +kernel
theorem s155_118 {v0 v1 v2 v3 v4 v5 v6 v7 v8 : Value}  {st : List Value} {im : IM} {rm : RM}  : ev 155 118 [v0, v1, v2, v3, v4, v5, v6, v7, v8] st im rm = ev 155 119 [v0, v1, v2, v3, v4, v5, v6, v7, v8] (.int (nI 2) :: st) (im) (rm) := ev_iconst pm_m155 d155_118 rfl rfl
theorem d155_119 : decode prog_10_method_53_code 119 = .ok (.if_icmp .eq 14, 3) := by decide +kernel
theorem s155_119 {v0 v1 v2 v3 v4 v5 v6 v7 v8 : Value} {x : Int32} {y : Int32} {st : List Value} {im : IM} {rm : RM} : ev 155 119 [v0, v1, v2, v3, v4, v5, v6, v7, v8] (.int y :: .int x :: st) im rm = if x = y then ev 155 133 [v0, v1, v2, v3, v4, v5, pm_u, pm_u, pm_u] st im rm else ev 155 122 [v0, v1, v2, v3, v4, v5, v6, v7, v8] st im rm := ev_icmp_eq pm_m155 d155_119 rfl rfl rfl
theorem d155_122 : decode prog_10_method_53_code 122 = .ok (.aload_n 0, 1) := by decide +kernel
theorem s155_122 {v1 v2 v3 v4 v5 v6 v7 v8 : Value} {l1 : Nat} {st : List Value} {im : IM} {rm : RM}  : ev 155 122 [.ref l1, v1, v2, v3, v4, v5, v6, v7, v8] st im rm = ev 155 123 [.ref l1, v1, v2, v3, v4, v5, v6, v7, v8] (.ref l1 :: st) (im) (rm) := ev_aload_n pm_m155 d155_122 rfl rfl
theorem d155_123 : decode prog_10_method_53_code 123 = .ok (.iload_n 2, 1) := by decide +kernel
theorem s155_123 {v0 v1 v3 v4 v5 v6 v7 v8 : Value} {l1 : Int32} {st : List Value} {im : IM} {rm : RM}  : ev 155 123 [v0, v1, .int l1, v3, v4, v5, v6, v7, v8] st im rm = ev 155 124 [v0, v1, .int l1, v3, v4, v5, v6, v7, v8] (.int l1 :: st) (im) (rm) := ev_iload_n pm_m155 d155_123 rfl rfl
theorem d155_124 : decode prog_10_method_53_code 124 = .ok (.iload_n 1, 1) := by decide +kernel
theorem s155_124 {v0 v2 v3 v4 v5 v6 v7 v8 : Value} {l1 : Int32} {st : List Value} {im : IM} {rm : RM}  : ev 155 124 [v0, .int l1, v2, v3, v4, v5, v6, v7, v8] st im rm = ev 155 125 [v0, .int l1, v2, v3, v4, v5, v6, v7, v8] (.int l1 :: st) (im) (rm) := ev_iload_n pm_m155 d155_124 rfl rfl
theorem d155_125 : decode prog_10_method_53_code 125 = .ok (.iload 6, 2) := by decide +kernel
theorem s155_125 {v0 v1 v2 v3 v4 v5 v7 v8 : Value} {l1 : Int32} {st : List Value} {im : IM} {rm : RM}  : ev 155 125 [v0, v1, v2, v3, v4, v5, .int l1, v7, v8] st im rm = ev 155 127 [v0, v1, v2, v3, v4, v5, .int l1, v7, v8] (.int l1 :: st) (im) (rm) := ev_iload pm_m155 d155_125 rfl rfl
theorem d155_127 : decode prog_10_method_53_code 127 = .ok (.invokevirtual 309, 3) := by decide +kernel
theorem s155_127 {v0 v1 v2 v3 v4 v5 v6 v7 v8 : Value} {a : Nat} {p1 : Int32} {p2 : Int32} {p3 : Int32} {im : IM} {rm : RM} (hk : kd a = 18) : ev 155 127 [v0, v1, v2, v3, v4, v5, v6, v7, v8] [.int p3, .int p2, .int p1, .ref a] im rm = (ev 152 0 [.ref a, .int p1, .int p2, .int p3, pm_u, pm_u] [] im rm).bind (fun r => ev 155 130 [v0, v1, v2, v3, v4, v5, v6, v7, v8] (r.1.toList ++ []) r.2.1 r.2.2) := ev_callV pm_m155 d155_127 l8_309 rfl pm_m152 (by decide) hk rfl ⟨rfl, rfl⟩ rfl rfl
theorem d155_130 : decode prog_10_method_53_code 130 = .ok (.ifCond .ne 7, 3) := by decide +kernel
theorem s155_130 {v0 v1 v2 v3 v4 v5 v6 v7 v8 : Value} {x : Int32} {st : List Value} {im : IM} {rm : RM} : ev 155 130 [v0, v1, v2, v3, v4, v5, v6, v7, v8] (.int x :: st) im rm = if x = nI 0 then ev 155 133 [v0, v1, v2, v3, v4, v5, pm_u, pm_u, pm_u] st im rm else ev 155 137 [v0, v1, v2, v3, v4, v5, pm_u, pm_u, pm_u] st im rm := ev_if_ne (y := 0) pm_m155 d155_130 rfl rfl rfl
theorem d155_133 : decode prog_10_method_53_code 133 = .ok (.iconst 1, 1) := by decide +kernel
theorem s155_133 {v0 v1 v2 v3 v4 v5 v6 v7 v8 : Value}  {st : List Value} {im : IM} {rm : RM}  : ev 155 133 [v0, v1, v2, v3, v4, v5, v6, v7, v8] st im rm = ev 155 134 [v0, v1, v2, v3, v4, v5, v6, v7, v8] (.int (nI 1) :: st) (im) (rm) := ev_iconst pm_m155 d155_133 rfl rfl
theorem d155_134 : decode prog_10_method_53_code 134 = .ok (.goto 4, 3) := by decide +kernel
theorem s155_134 {v0 v1 v2 v3 v4 v5 v6 v7 v8 : Value}  {st : List Value} {im : IM} {rm : RM}  : ev 155 134 [v0, v1, v2, v3, v4, v5, v6, v7, v8] st im rm = ev 155 138 [v0, v1, v2, v3, v4, v5, pm_u, pm_u, pm_u] st (im) (rm) := ev_goto pm_m155 d155_134 rfl rfl
theorem d155_137 : decode prog_10_method_53_code 137 = .ok (.iconst 0, 1) := by decide +kernel
theorem s155_137 {v0 v1 v2 v3 v4 v5 v6 v7 v8 : Value}  {st : List Value} {im : IM} {rm : RM}  : ev 155 137 [v0, v1, v2, v3, v4, v5, v6, v7, v8] st im rm = ev 155 138 [v0, v1, v2, v3, v4, v5, pm_u, pm_u, pm_u] (.int (nI 0) :: st) (im) (rm) := ev_iconst pm_m155 d155_137 rfl rfl
theorem d155_138 : decode prog_10_method_53_code 138 = .ok (.istore 8, 2) := by decide +kernel
theorem s155_138 {v0 v1 v2 v3 v4 v5 v6 v8 : Value} {x1 : Int32} {st : List Value} {im : IM} {rm : RM}  : ev 155 138 [v0, v1, v2, v3, v4, v5, v6, pm_u, v8] (.int x1 :: st) im rm = ev 155 140 [v0, v1, v2, v3, v4, v5, v6, pm_u, .int x1] st (im) (rm) := ev_istore pm_m155 d155_138 (Nat.le_of_ble_eq_true rfl) rfl rfl
theorem d155_140 : decode prog_10_method_53_code 140 = .ok (.iload_n 3, 1) := by decide +kernel
theorem s155_140 {v0 v1 v2 v4 v5 v6 v7 v8 : Value} {l1 : Int32} {st : List Value} {im : IM} {rm : RM}  : ev 155 140 [v0, v1, v2, .int l1, v4, v5, v6, v7, v8] st im rm = ev 155 141 [v0, v1, v2, .int l1, v4, v5, v6, v7, v8] (.int l1 :: st) (im) (rm) := ev_iload_n pm_m155 d155_140 rfl rfl
theorem d155_141 : decode prog_10_method_53_code 141 = .ok (.iload 8, 2) := by decide +kernel
theorem s155_141 {v0 v1 v2 v3 v4 v5 v6 v7 : Value} {l1 : Int32} {st : List Value} {im : IM} {rm : RM}  : ev 155 141 [v0, v1, v2, v3, v4, v5, v6, v7, .int l1] st im rm = ev 155 143 [v0, v1, v2, v3, v4, v5, v6, v7, .int l1] (.int l1 :: st) (im) (rm) := ev_iload pm_m155 d155_141 rfl rfl
theorem d155_143 : decode prog_10_method_53_code 143 = .ok (.ifCond .eq 10, 3) := by decide +kernel
theorem s155_143 {v0 v1 v2 v3 v4 v5 v6 v7 v8 : Value} {x : Int32} {st : List Value} {im : IM} {rm : RM} : ev 155 143 [v0, v1, v2, v3, v4, v5, v6, v7, v8] (.int x :: st) im rm = if x = nI 0 then ev 155 153 [v0, v1, v2, pm_u, v4, v5, pm_u, pm_u, pm_u] st im rm else ev 155 146 [v0, v1, v2, v3, v4, v5, v6, v7, v8] st im rm := ev_if_eq (y := 0) pm_m155 d155_143 rfl rfl rfl
theorem d155_146 : decode prog_10_method_53_code 146 = .ok (.iconst 1, 1) := by decide +kernel
theorem s155_146 {v0 v1 v2 v3 v4 v5 v6 v7 v8 : Value}  {st : List Value} {im : IM} {rm : RM}  : ev 155 146 [v0, v1, v2, v3, v4, v5, v6, v7, v8] st im rm = ev 155 147 [v0, v1, v2, v3, v4, v5, v6, v7, v8] (.int (nI 1) :: st) (im) (rm) := ev_iconst pm_m155 d155_146 rfl rfl
theorem d155_147 : decode prog_10_method_53_code 147 = .ok (.iload 5, 2) := by decide +kernel
theorem s155_147 {v0 v1 v2 v3 v4 v6 v7 v8 : Value} {l1 : Int32} {st : List Value} {im : IM} {rm : RM}  : ev 155 147 [v0, v1, v2, v3, v4, .int l1, v6, v7, v8] st im rm = ev 155 149 [v0, v1, v2, v3, v4, .int l1, v6, v7, v8] (.int l1 :: st) (im) (rm) := ev_iload pm_m155 d155_147 rfl rfl
theorem d155_149 : decode prog_10_method_53_code 149 = .ok (.ishl, 1) := by decide +kernel
theorem s155_149 {v0 v1 v2 v3 v4 v5 v6 v7 v8 : Value} {x : Int32} {y : Int32} {st : List Value} {im : IM} {rm : RM}  : ev 155 149 [v0, v1, v2, v3, v4, v5, v6, v7, v8] (.int y :: .int x :: st) im rm = ev 155 150 [v0, v1, v2, v3, v4, v5, v6, v7, v8] (.int (x <<< (y &&& 31)) :: st) (im) (rm) := ev_ishl pm_m155 d155_149 rfl
theorem d155_150 : decode prog_10_method_53_code 150 = .ok (.goto 4, 3) := by decide +kernel
theorem s155_150 {v0 v1 v2 v3 v4 v5 v6 v7 v8 : Value}  {st : List Value} {im : IM} {rm : RM}  : ev 155 150 [v0, v1, v2, v3, v4, v5, v6, v7, v8] st im rm = ev 155 154 [v0, v1, v2, pm_u, v4, v5, pm_u, pm_u, pm_u] st (im) (rm) := ev_goto pm_m155 d155_150 rfl rfl
theorem d155_153 : decode prog_10_method_53_code 153 = .ok (.iconst 0, 1) := by decide +kernel
theorem s155_153 {v0 v1 v2 v3 v4 v5 v6 v7 v8 : Value}  {st : List Value} {im : IM} {rm : RM}  : ev 155 153 [v0, v1, v2, v3, v4, v5, v6, v7, v8] st im rm = ev 155 154 [v0, v1, v2, pm_u, v4, v5, pm_u, pm_u, pm_u] (.int (nI 0) :: st) (im) (rm) := ev_iconst pm_m155 d155_153 rfl rfl
theorem d155_154 : decode prog_10_method_53_code 154 = .ok (.ior, 1) := by decide +kernel
theorem s155_154 {v0 v1 v2 v3 v4 v5 v6 v7 v8 : Value} {x : Int32} {y : Int32} {st : List Value} {im : IM} {rm : RM}  : ev 155 154 [v0, v1, v2, v3, v4, v5, v6, v7, v8] (.int y :: .int x :: st) im rm = ev 155 155 [v0, v1, v2, v3, v4, v5, v6, v7, v8] (.int (x ||| y) :: st) (im) (rm) := ev_ior pm_m155 d155_154 rfl
theorem d155_155 : decode prog_10_method_53_code 155 = .ok (.istore_n 3, 1) := by decide +kernel
theorem s155_155 {v0 v1 v3 v4 v5 v6 v7 v8 : Value} {l1 : Int32} {x2 : Int32} {st : List Value} {im : IM} {rm : RM}  : ev 155 155 [v0, v1, .int l1, v3, v4, v5, v6, v7, v8] (.int x2 :: st) im rm = ev 155 156 [v0, v1, .int l1, .int x2, v4, v5, v6, v7, v8] st (im) (rm) := ev_istore_n pm_m155 d155_155 (Nat.le_of_ble_eq_true rfl) rfl rfl
theorem d155_156 : decode prog_10_method_53_code 156 = .ok (.iinc 5 1, 3) := by decide +kernel
theorem s155_156 {v0 v1 v2 v3 v6 v7 v8 : Value} {l1 : Int32} {l2 : Int32} {st : List Value} {im : IM} {rm : RM}  : ev 155 156 [v0, v1, v2, v3, .int l1, .int l2, v6, v7, v8] st im rm = ev 155 159 [v0, v1, v2, v3, .int l1, .int (l2 + nI 1), v6, v7, v8] st (im) (rm) := ev_iinc pm_m155 d155_156 rfl rfl rfl rfl
theorem d155_159 : decode prog_10_method_53_code 159 = .ok (.goto (-147), 3) := by decide +kernel
theorem s155_159 {v0 v1 v2 v3 v4 v5 v6 v7 v8 : Value}  {st : List Value} {im : IM} {rm : RM}  : ev 155 159 [v0, v1, v2, v3, v4, v5, v6, v7, v8] st im rm = ev 155 12 [v0, v1, v2, v3, v4, v5, pm_u, pm_u, pm_u] st (im) (rm) := ev_goto pm_m155 d155_159 rfl rfl
theorem d155_162 : decode prog_10_method_53_code 162 = .ok (.iload_n 3, 1) := by decide +kernel
theorem s155_162 {v0 v1 v2 v4 v5 v6 v7 v8 : Value} {l1 : Int32} {st : List Value} {im : IM} {rm : RM}  : ev 155 162 [v0, v1, v2, .int l1, v4, v5, v6, v7, v8] st im rm = ev 155 163 [v0, v1, v2, .int l1, v4, v5, v6, v7, v8] (.int l1 :: st) (im) (rm) := ev_iload_n pm_m155 d155_162 rfl rfl
theorem d155_163 : decode prog_10_method_53_code 163 = .ok (.ireturn, 1) := by decide +kernel
theorem s155_163 {v0 v1 v2 v3 v4 v5 v6 v7 v8 : Value} {x : Int32} {im : IM} {rm : RM} : ev 155 163 [v0, v1, v2, v3, v4, v5, v6, v7, v8] [.int x] im rm = some (some (.int x), im, rm) := ev_ireturn pm_m155 d155_163 rfl
theorem d156_0 : decode prog_10_method_54_code 0 = .ok (.iload_n 1, 1) := by decide +kernel
theorem s156_0 {v0 v2 : Value} {l1 : Int32} {st : List Value} {im : IM} {rm : RM}  : ev 156 0 [v0, .int l1, v2] st im rm = ev 156 1 [v0, .int l1, v2] (.int l1 :: st) (im) (rm) := ev_iload_n pm_m156 d156_0 rfl rfl
theorem d156_1 : decode prog_10_method_54_code 1 = .ok (.invokestatic 130, 3) := by decide +kernel
theorem s156_1 {v0 v1 v2 : Value} {p1 : Int32} {im : IM} {rm : RM}  : ev 156 1 [v0, v1, v2] [.int p1] im rm = (ev 106 0 [.int p1] [] im rm).bind (fun r => ev 156 4 [v0, v1, v2] (r.1.toList ++ []) r.2.1 r.2.2) := ev_callS pm_m156 d156_1 (by decide) l8_130 rfl pm_m106 rfl ⟨rfl, rfl⟩ rfl rfl
theorem d156_4 : decode prog_10_method_54_code 4 = .ok (.ifCond .eq 19, 3) := by decide +kernel
theorem s156_4 {v0 v1 v2 : Value} {x : Int32} {st : List Value} {im : IM} {rm : RM} : ev 156 4 [v0, v1, v2] (.int x :: st) im rm = if x = nI 0 then ev 156 23 [pm_u, pm_u, pm_u] st im rm else ev 156 7 [v0, v1, v2] st im rm := ev_if_eq (y := 0) pm_m156 d156_4 rfl rfl rfl
theorem d156_7 : decode prog_10_method_54_code 7 = .ok (.iload_n 2, 1) := by decide +kernel
theorem s156_7 {v0 v1 : Value} {l1 : Int32} {st : List Value} {im : IM} {rm : RM}  : ev 156 7 [v0, v1, .int l1] st im rm = ev 156 8 [v0, v1, .int l1] (.int l1 :: st) (im) (rm) := ev_iload_n pm_m156 d156_7 rfl rfl
theorem d156_8 : decode prog_10_method_54_code 8 = .ok (.invokestatic 240, 3) := by decide +kernel
theorem s156_8 {v0 v1 v2 : Value} {p1 : Int32} {im : IM} {rm : RM}  : ev 156 8 [v0, v1, v2] [.int p1] im rm = (ev 107 0 [.int p1] [] im rm).bind (fun r => ev 156 11 [v0, v1, v2] (r.1.toList ++ []) r.2.1 r.2.2) := ev_callS pm_m156 d156_8 (by decide) l8_240 rfl pm_m107 rfl ⟨rfl, rfl⟩ rfl rfl
theorem d156_11 : decode prog_10_method_54_code 11 = .ok (.ifCond .eq 12, 3) := by decide +kernel
theorem s156_11 {v0 v1 v2 : Value} {x : Int32} {st : List Value} {im : IM} {rm : RM} : ev 156 11 [v0, v1, v2] (.int x :: st) im rm = if x = nI 0 then ev 156 23 [pm_u, pm_u, pm_u] st im rm else ev 156 14 [v0, v1, v2] st im rm := ev_if_eq (y := 0) pm_m156 d156_11 rfl rfl rfl
theorem d156_14 : decode prog_10_method_54_code 14 = .ok (.aload_n 0, 1) := by decide +kernel
theorem s156_14 {v1 v2 : Value} {l1 : Nat} {st : List Value} {im : IM} {rm : RM}  : ev 156 14 [.ref l1, v1, v2] st im rm = ev 156 15 [.ref l1, v1, v2] (.ref l1 :: st) (im) (rm) := ev_aload_n pm_m156 d156_14 rfl rfl
theorem d156_15 : decode prog_10_method_54_code 15 = .ok (.iload_n 1, 1) := by decide +kernel
theorem s156_15 {v0 v2 : Value} {l1 : Int32} {st : List Value} {im : IM} {rm : RM}  : ev 156 15 [v0, .int l1, v2] st im rm = ev 156 16 [v0, .int l1, v2] (.int l1 :: st) (im) (rm) := ev_iload_n pm_m156 d156_15 rfl rfl
theorem d156_16 : decode prog_10_method_54_code 16 = .ok (.iload_n 2, 1) := by decide +kernel
theorem s156_16 {v0 v1 : Value} {l1 : Int32} {st : List Value} {im : IM} {rm : RM}  : ev 156 16 [v0, v1, .int l1] st im rm = ev 156 17 [v0, v1, .int l1] (.int l1 :: st) (im) (rm) := ev_iload_n pm_m156 d156_16 rfl rfl
theorem d156_17 : decode prog_10_method_54_code 17 = .ok (.invokevirtual 313, 3) := by decide +kernel
theorem s156_17 {v0 v1 v2 : Value} {a : Nat} {p1 : Int32} {p2 : Int32} {im : IM} {rm : RM} (hk : kd a = 18) : ev 156 17 [v0, v1, v2] [.int p2, .int p1, .ref a] im rm = (ev 155 0 [.ref a, .int p1, .int p2, pm_u, pm_u, pm_u, pm_u, pm_u, pm_u] [] im rm).bind (fun r => ev 156 20 [v0, v1, v2] (r.1.toList ++ []) r.2.1 r.2.2) := ev_callV pm_m156 d156_17 l8_313 rfl pm_m155 (by decide) hk rfl ⟨rfl, rfl⟩ rfl rfl
theorem d156_20 : decode prog_10_method_54_code 20 = .ok (.goto 5, 3) := by decide +kernel
theorem s156_20 {v0 v1 v2 : Value}  {st : List Value} {im : IM} {rm : RM}  : ev 156 20 [v0, v1, v2] st im rm = ev 156 25 [pm_u, pm_u, pm_u] st (im) (rm) := ev_goto pm_m156 d156_20 rfl rfl
theorem d156_23 : decode prog_10_method_54_code 23 = .ok (.bipush (-2), 2) := by decide +kernel
theorem s156_23 {v0 v1 v2 : Value}  {st : List Value} {im : IM} {rm : RM}  : ev 156 23 [v0, v1, v2] st im rm = ev 156 25 [pm_u, pm_u, pm_u] (.int ((-2 : Int32)) :: st) (im) (rm) := ev_bipush pm_m156 d156_23 rfl rfl
theorem d156_25 : decode prog_10_method_54_code 25 = .ok (.ireturn, 1) := by decide +kernel
theorem s156_25 {v0 v1 v2 : Value} {x : Int32} {im : IM} {rm : RM} : ev 156 25 [v0, v1, v2] [.int x] im rm = some (some (.int x), im, rm) := ev_ireturn pm_m156 d156_25 rfl
theorem d157_0 : decode prog_10_method_55_code 0 = .ok (.iload_n 1, 1) := by decide +kernel
theorem s157_0 {v0 v2 v3 v4 v5 v6 v7 v8 v9 : Value} {l1 : Int32} {st : List Value} {im : IM} {rm : RM}  : ev 157 0 [v0, .int l1, v2, v3, v4, v5, v6, v7, v8, v9] st im rm = ev 157 1 [v0, .int l1, v2, v3, v4, v5, v6, v7, v8, v9] (.int l1 :: st) (im) (rm) := ev_iload_n pm_m157 d157_0 rfl rfl
theorem d157_1 : decode prog_10_method_55_code 1 = .ok (.invokestatic 130, 3) := by decide +kernel
theorem s157_1 {v0 v1 v2 v3 v4 v5 v6 v7 v8 v9 : Value} {p1 : Int32} {im : IM} {rm : RM}  : ev 157 1 [v0, v1, v2, v3, v4, v5, v6, v7, v8, v9] [.int p1] im rm = (ev 106 0 [.int p1] [] im rm).bind (fun r => ev 157 4 [v0, v1, v2, v3, v4, v5, v6, v7, v8, v9] (r.1.toList ++ []) r.2.1 r.2.2) := ev_callS pm_m157 d157_1 (by decide) l8_130 rfl pm_m106 rfl ⟨rfl, rfl⟩ rfl rfl
theorem d157_4 : decode prog_10_method_55_code 4 = .ok (.ifCond .eq 10, 3) := by decide +kernel
theorem s157_4 {v0 v1 v2 v3 v4 v5 v6 v7 v8 v9 : Value} {x : Int32} {st : List Value} {im : IM} {rm : RM} : ev 157 4 [v0, v1, v2, v3, v4, v5, v6, v7, v8, v9] (.int x :: st) im rm = if x = nI 0 then ev 157 14 [pm_u, pm_u, pm_u, pm_u, pm_u, pm_u, pm_u, pm_u, pm_u, pm_u] st im rm else ev 157 7 [v0, v1, v2, v3, v4, v5, v6, v7, v8, v9] st im rm := ev_if_eq (y := 0) pm_m157 d157_4 rfl rfl rfl
theorem d157_7 : decode prog_10_method_55_code 7 = .ok (.iload_n 2, 1) := by decide +kernel
theorem s157_7 {v0 v1 v3 v4 v5 v6 v7 v8 v9 : Value} {l1 : Int32} {st : List Value} {im : IM} {rm : RM}  : ev 157 7 [v0, v1, .int l1, v3, v4, v5, v6, v7, v8, v9] st im rm = ev 157 8 [v0, v1, .int l1, v3, v4, v5, v6, v7, v8, v9] (.int l1 :: st) (im) (rm) := ev_iload_n pm_m157 d157_7 rfl rfl
theorem d157_8 : decode prog_10_method_55_code 8 = .ok (.invokestatic 130, 3) := by decide +kernel
theorem s157_8 {v0 v1 v2 v3 v4 v5 v6 v7 v8 v9 : Value} {p1 : Int32} {im : IM} {rm : RM}  : ev 157 8 [v0, v1, v2, v3, v4, v5, v6, v7, v8, v9] [.int p1] im rm = (ev 106 0 [.int p1] [] im rm).bind (fun r => ev 157 11 [v0, v1, v2, v3, v4, v5, v6, v7, v8, v9] (r.1.toList ++ []) r.2.1 r.2.2) := ev_callS pm_m157 d157_8 (by decide) l8_130 rfl pm_m106 rfl ⟨rfl, rfl⟩ rfl rfl
theorem d157_11 : decode prog_10_method_55_code 11 = .ok (.ifCond .ne 6, 3) := by decide +kernel
theorem s157_11 {v0 v1 v2 v3 v4 v5 v6 v7 v8 v9 : Value} {x : Int32} {st : List Value} {im : IM} {rm : RM} : ev 157 11 [v0, v1, v2, v3, v4, v5, v6, v7, v8, v9] (.int x :: st) im rm = if x = nI 0 then ev 157 14 [pm_u, pm_u, pm_u, pm_u, pm_u, pm_u, pm_u, pm_u, pm_u, pm_u] st im rm else ev 157 17 [v0, v1, v2, v3, v4, pm_u, pm_u, pm_u, pm_u, pm_u] st im rm := ev_if_ne (y := 0) pm_m157 d157_11 rfl rfl rfl
theorem d157_14 : decode prog_10_method_55_code 14 = .ok (.bipush (-2), 2) := by decide +kernel
theorem s157_14 {v0 v1 v2 v3 v4 v5 v6 v7 v8 v9 : Value}  {st : List Value} {im : IM} {rm : RM}  : ev 157 14 [v0, v1, v2, v3, v4, v5, v6, v7, v8, v9] st im rm = ev 157 16 [v0, v1, v2, v3, v4, v5, v6, v7, v8, v9] (.int ((-2 : Int32)) :: st) (im) (rm) := ev_bipush pm_m157 d157_14 rfl rfl
theorem d157_16 : decode prog_10_method_55_code 16 = .ok (.ireturn, 1) := by decide +kernel
theorem s157_16 {v0 v1 v2 v3 v4 v5 v6 v7 v8 v9 : Value} {x : Int32} {im : IM} {rm : RM} : ev 157 16 [v0, v1, v2, v3, v4, v5, v6, v7, v8, v9] [.int x] im rm = some (some (.int x), im, rm) := ev_ireturn pm_m157 d157_16 rfl
theorem d157_17 : decode prog_10_method_55_code 17 = .ok (.iload_n 3, 1) := by decide +kernel
theorem s157_17 {v0 v1 v2 v4 v5 v6 v7 v8 v9 : Value} {l1 : Int32} {st : List Value} {im : IM} {rm : RM}  : ev 157 17 [v0, v1, v2, .int l1, v4, v5, v6, v7, v8, v9] st im rm = ev 157 18 [v0, v1, v2, .int l1, v4, v5, v6, v7, v8, v9] (.int l1 :: st) (im) (rm) := ev_iload_n pm_m157 d157_17 rfl rfl
theorem d157_18 : decode prog_10_method_55_code 18 = .ok (.i2l, 1) := by decide +kernel
theorem s157_18 {v0 v1 v2 v3 v4 v5 v6 v7 v8 v9 : Value} {x : Int32} {st : List Value} {im : IM} {rm : RM}  : ev 157 18 [v0, v1, v2, v3, v4, v5, v6, v7, v8, v9] (.int x :: st) im rm = ev 157 19 [v0, v1, v2, v3, v4, v5, v6, v7, v8, v9] (.long x.toInt64 :: st) (im) (rm) := ev_i2l pm_m157 d157_18 rfl
theorem d157_19 : decode prog_10_method_55_code 19 = .ok (.lconst 0, 1) := by decide +kernel
theorem s157_19 {v0 v1 v2 v3 v4 v5 v6 v7 v8 v9 : Value}  {st : List Value} {im : IM} {rm : RM}  : ev 157 19 [v0, v1, v2, v3, v4, v5, v6, v7, v8, v9] st im rm = ev 157 20 [v0, v1, v2, v3, v4, v5, v6, v7, v8, v9] (.long (lN 0) :: st) (im) (rm) := ev_lconst pm_m157 d157_19 rfl rfl
theorem d157_20 : decode prog_10_method_55_code 20 = .ok (.ldc2_w 316, 3) := by decide +kernel
theorem s157_20 {v0 v1 v2 v3 v4 v5 v6 v7 v8 v9 : Value}  {st : List Value} {im : IM} {rm : RM}  : ev 157 20 [v0, v1, v2, v3, v4, v5, v6, v7, v8, v9] st im rm = ev 157 23 [v0, v1, v2, v3, v4, v5, v6, v7, v8, v9] (.long (lN 61) :: st) (im) (rm) := ev_ldc2 pm_m157 d157_20 (by decide +kernel) rfl
theorem d157_23 : decode prog_10_method_55_code 23 = .ok (.invokestatic 120, 3) := by decide +kernel
theorem s157_23 {v0 v1 v2 v3 v4 v5 v6 v7 v8 v9 : Value} {p1 : Int64} {p2 : Int64} {p3 : Int64} {im : IM} {rm : RM}  : ev 157 23 [v0, v1, v2, v3, v4, v5, v6, v7, v8, v9] [.long p3, .long p2, .long p1] im rm = (ev 104 0 [.long p1, pm_u, .long p2, pm_u, .long p3, pm_u] [] im rm).bind (fun r => ev 157 26 [v0, v1, v2, v3, v4, v5, v6, v7, v8, v9] (r.1.toList ++ []) r.2.1 r.2.2) := ev_callS pm_m157 d157_23 (by decide) l8_120 rfl pm_m104 rfl ⟨rfl, rfl⟩ rfl rfl
theorem d157_26 : decode prog_10_method_55_code 26 = .ok (.ifCond .eq 14, 3) := by decide +kernel
theorem s157_26 {v0 v1 v2 v3 v4 v5 v6 v7 v8 v9 : Value} {x : Int32} {st : List Value} {im : IM} {rm : RM} : ev 157 26 [v0, v1, v2, v3, v4, v5, v6, v7, v8, v9] (.int x :: st) im rm = if x = nI 0 then ev 157 40 [pm_u, pm_u, pm_u, pm_u, pm_u, pm_u, pm_u, pm_u, pm_u, pm_u] st im rm else ev 157 29 [v0, v1, v2, v3, v4, v5, v6, v7, v8, v9] st im rm := ev_if_eq (y := 0) pm_m157 d157_26 rfl rfl rfl
theorem d157_29 : decode prog_10_method_55_code 29 = .ok (.iload 4, 2) := by decide +kernel
theorem s157_29 {v0 v1 v2 v3 v5 v6 v7 v8 v9 : Value} {l1 : Int32} {st : List Value} {im : IM} {rm : RM}  : ev 157 29 [v0, v1, v2, v3, .int l1, v5, v6, v7, v8, v9] st im rm = ev 157 31 [v0, v1, v2, v3, .int l1, v5, v6, v7, v8, v9] (.int l1 :: st) (im) (rm) := ev_iload pm_m157 d157_29 rfl rfl
theorem d157_31 : decode prog_10_method_55_code 31 = .ok (.i2l, 1) := by decide +kernel
theorem s157_31 {v0 v1 v2 v3 v4 v5 v6 v7 v8 v9 : Value} {x : Int32} {st : List Value} {im : IM} {rm : RM}  : ev 157 31 [v0, v1, v2, v3, v4, v5, v6, v7, v8, v9] (.int x :: st) im rm = ev 157 32 [v0, v1, v2, v3, v4, v5, v6, v7, v8, v9] (.long x.toInt64 :: st) (im) (rm) := ev_i2l pm_m157 d157_31 rfl
theorem d157_32 : decode prog_10_method_55_code 32 = .ok (.lconst 0, 1) := by decide +kernel
theorem s157_32 {v0 v1 v2 v3 v4 v5 v6 v7 v8 v9 : Value}  {st : List Value} {im : IM} {rm : RM}  : ev 157 32 [v0, v1, v2, v3, v4, v5, v6, v7, v8, v9] st im rm = ev 157 33 [v0, v1, v2, v3, v4, v5, v6, v7, v8, v9] (.long (lN 0) :: st) (im) (rm) := ev_lconst pm_m157 d157_32 rfl rfl
theorem d157_33 : decode prog_10_method_55_code 33 = .ok (.lconst 1, 1) := by decide +kernel
theorem s157_33 {v0 v1 v2 v3 v4 v5 v6 v7 v8 v9 : Value}  {st : List Value} {im : IM} {rm : RM}  : ev 157 33 [v0, v1, v2, v3, v4, v5, v6, v7, v8, v9] st im rm = ev 157 34 [v0, v1, v2, v3, v4, v5, v6, v7, v8, v9] (.long (lN 1) :: st) (im) (rm) := ev_lconst pm_m157 d157_33 rfl rfl
theorem d157_34 : decode prog_10_method_55_code 34 = .ok (.invokestatic 120, 3) := by decide +kernel
theorem s157_34 {v0 v1 v2 v3 v4 v5 v6 v7 v8 v9 : Value} {p1 : Int64} {p2 : Int64} {p3 : Int64} {im : IM} {rm : RM}  : ev 157 34 [v0, v1, v2, v3, v4, v5, v6, v7, v8, v9] [.long p3, .long p2, .long p1] im rm = (ev 104 0 [.long p1, pm_u, .long p2, pm_u, .long p3, pm_u] [] im rm).bind (fun r => ev 157 37 [v0, v1, v2, v3, v4, v5, v6, v7, v8, v9] (r.1.toList ++ []) r.2.1 r.2.2) := ev_callS pm_m157 d157_34 (by decide) l8_120 rfl pm_m104 rfl ⟨rfl, rfl⟩ rfl rfl
theorem d157_37 : decode prog_10_method_55_code 37 = .ok (.ifCond .ne 6, 3) := by decide +kernel
theorem s157_37 {v0 v1 v2 v3 v4 v5 v6 v7 v8 v9 : Value} {x : Int32} {st : List Value} {im : IM} {rm : RM} : ev 157 37 [v0, v1, v2, v3, v4, v5, v6, v7, v8, v9] (.int x :: st) im rm = if x = nI 0 then ev 157 40 [pm_u, pm_u, pm_u, pm_u, pm_u, pm_u, pm_u, pm_u, pm_u, pm_u] st im rm else ev 157 43 [v0, v1, v2, v3, v4, pm_u, pm_u, pm_u, pm_u, pm_u] st im rm := ev_if_ne (y := 0) pm_m157 d157_37 rfl rfl rfl
theorem d157_40 : decode prog_10_method_55_code 40 = .ok (.bipush (-3), 2) := by decide +kernel
theorem s157_40 {v0 v1 v2 v3 v4 v5 v6 v7 v8 v9 : Value}  {st : List Value} {im : IM} {rm : RM}  : ev 157 40 [v0, v1, v2, v3, v4, v5, v6, v7, v8, v9] st im rm = ev 157 42 [v0, v1, v2, v3, v4, v5, v6, v7, v8, v9] (.int ((-3 : Int32)) :: st) (im) (rm) := ev_bipush pm_m157 d157_40 rfl rfl
theorem d157_42 : decode prog_10_method_55_code 42 = .ok (.ireturn, 1) := by decide +kernel
theorem s157_42 {v0 v1 v2 v3 v4 v5 v6 v7 v8 v9 : Value} {x : Int32} {im : IM} {rm : RM} : ev 157 42 [v0, v1, v2, v3, v4, v5, v6, v7, v8, v9] [.int x] im rm = some (some (.int x), im, rm) := ev_ireturn pm_m157 d157_42 rfl
theorem d157_43 : decode prog_10_method_55_code 43 = .ok (.iconst 0, 1) := by decide +kernel
theorem s157_43 {v0 v1 v2 v3 v4 v5 v6 v7 v8 v9 : Value}  {st : List Value} {im : IM} {rm : RM}  : ev 157 43 [v0, v1, v2, v3, v4, v5, v6, v7, v8, v9] st im rm = ev 157 44 [v0, v1, v2, v3, v4, v5, v6, v7, v8, v9] (.int (nI 0) :: st) (im) (rm) := ev_iconst pm_m157 d157_43 rfl rfl
theorem d157_44 : decode prog_10_method_55_code 44 = .ok (.istore 5, 2) := by decide +kernel
theorem s157_44 {v0 v1 v2 v3 v5 v6 v7 v8 v9 : Value} {l1 : Int32} {x2 : Int32} {st : List Value} {im : IM} {rm : RM}  : ev 157 44 [v0, v1, v2, v3, .int l1, v5, v6, v7, v8, v9] (.int x2 :: st) im rm = ev 157 46 [v0, v1, v2, v3, .int l1, .int x2, v6, v7, v8, v9] st (im) (rm) := ev_istore pm_m157 d157_44 (Nat.le_of_ble_eq_true rfl) rfl rfl
theorem d157_46 : decode prog_10_method_55_code 46 = .ok (.iconst 0, 1) := by decide +kernel
theorem s157_46 {v0 v1 v2 v3 v4 v5 v6 v7 v8 v9 : Value}  {st : List Value} {im : IM} {rm : RM}  : ev 157 46 [v0, v1, v2, v3, v4, v5, v6, v7, v8, v9] st im rm = ev 157 47 [v0, v1, v2, v3, v4, v5, v6, v7, v8, v9] (.int (nI 0) :: st) (im) (rm) := ev_iconst pm_m157 d157_46 rfl rfl
theorem d157_47 : decode prog_10_method_55_code 47 = .ok (.istore 6, 2) := by decide +kernel
theorem s157_47 {v0 v1 v2 v3 v4 v6 v7 v8 v9 : Value} {l1 : Int32} {x2 : Int32} {st : List Value} {im : IM} {rm : RM}  : ev 157 47 [v0, v1, v2, v3, v4, .int l1, v6, v7, v8, v9] (.int x2 :: st) im rm = ev 157 49 [v0, v1, v2, v3, v4, .int l1, .int x2, v7, v8, v9] st (im) (rm) := ev_istore pm_m157 d157_47 (Nat.le_of_ble_eq_true rfl) rfl rfl
theorem d157_49 : decode prog_10_method_55_code 49 = .ok (.iconst 0, 1) := by decide +kernel
theorem s157_49 {v0 v1 v2 v3 v4 v5 v6 v7 v8 v9 : Value}  {st : List Value} {im : IM} {rm : RM}  : ev 157 49 [v0, v1, v2, v3, v4, v5, v6, v7, v8, v9] st im rm = ev 157 50 [v0, v1, v2, v3, v4, v5, v6, v7, v8, v9] (.int (nI 0) :: st) (im) (rm) := ev_iconst pm_m157 d157_49 rfl rfl
theorem d157_50 : decode prog_10_method_55_code 50 = .ok (.istore 7, 2) := by decide +kernel
theorem s157_50 {v0 v1 v2 v3 v4 v5 v7 v8 v9 : Value} {l1 : Int32} {x2 : Int32} {st : List Value} {im : IM} {rm : RM}  : ev 157 50 [v0, v1, v2, v3, v4, v5, .int l1, v7, v8, v9] (.int x2 :: st) im rm = ev 157 52 [v0, v1, v2, v3, v4, v5, .int l1, .int x2, pm_u, pm_u] st (im) (rm) := ev_istore pm_m157 d157_50 (Nat.le_of_ble_eq_true rfl) rfl rfl
theorem d157_52 : decode prog_10_method_55_code 52 = .ok (.iload 7, 2) := by decide +kernel
theorem s157_52 {v0 v1 v2 v3 v4 v5 v6 v8 v9 : Value} {l1 : Int32} {st : List Value} {im : IM} {rm : RM}  : ev 157 52 [v0, v1, v2, v3, v4, v5, v6, .int l1, v8, v9] st im rm = ev 157 54 [v0, v1, v2, v3, v4, v5, v6, .int l1, v8, v9] (.int l1 :: st) (im) (rm) := ev_iload pm_m157 d157_52 rfl rfl
theorem d157_54 : decode prog_10_method_55_code 54 = .ok (.bipush 6, 2) := by decide +kernel
theorem s157_54 {v0 v1 v2 v3 v4 v5 v6 v7 v8 v9 : Value}  {st : List Value} {im : IM} {rm : RM}  : ev 157 54 [v0, v1, v2, v3, v4, v5, v6, v7, v8, v9] st im rm = ev 157 56 [v0, v1, v2, v3, v4, v5, v6, v7, v8, v9] (.int (nI 6) :: st) (im) (rm) := ev_bipush pm_m157 d157_54 rfl rfl
theorem d157_56 : decode prog_10_method_55_code 56 = .ok (.if_icmp .ge 108, 3) := by decide +kernel
theorem s157_56 {v0 v1 v2 v3 v4 v5 v6 v7 v8 v9 : Value} {x : Int32} {y : Int32} {st : List Value} {im : IM} {rm : RM} : ev 157 56 [v0, v1, v2, v3, v4, v5, v6, v7, v8, v9] (.int y :: .int x :: st) im rm = if y ≤ x then ev 157 164 [pm_u, pm_u, pm_u, pm_u, v4, v5, v6, pm_u, pm_u, pm_u] st im rm else ev 157 59 [v0, v1, v2, v3, v4, v5, v6, v7, v8, v9] st im rm := ev_icmp_ge pm_m157 d157_56 rfl rfl rfl
theorem d157_59 : decode prog_10_method_55_code 59 = .ok (.iconst 0, 1) := by decide +kernel
theorem s157_59 {v0 v1 v2 v3 v4 v5 v6 v7 v8 v9 : Value}  {st : List Value} {im : IM} {rm : RM}  : ev 157 59 [v0, v1, v2, v3, v4, v5, v6, v7, v8, v9] st im rm = ev 157 60 [v0, v1, v2, v3, v4, v5, v6, v7, v8, v9] (.int (nI 0) :: st) (im) (rm) := ev_iconst pm_m157 d157_59 rfl rfl
theorem d157_60 : decode prog_10_method_55_code 60 = .ok (.istore 8, 2) := by decide +kernel
theorem s157_60 {v0 v1 v2 v3 v4 v5 v6 v8 v9 : Value} {l1 : Int32} {x2 : Int32} {st : List Value} {im : IM} {rm : RM}  : ev 157 60 [v0, v1, v2, v3, v4, v5, v6, .int l1, v8, v9] (.int x2 :: st) im rm = ev 157 62 [v0, v1, v2, v3, v4, v5, v6, .int l1, .int x2, pm_u] st (im) (rm) := ev_istore pm_m157 d157_60 (Nat.le_of_ble_eq_true rfl) rfl rfl
theorem d157_62 : decode prog_10_method_55_code 62 = .ok (.iload 8, 2) := by decide +kernel
theorem s157_62 {v0 v1 v2 v3 v4 v5 v6 v7 v9 : Value} {l1 : Int32} {st : List Value} {im : IM} {rm : RM}  : ev 157 62 [v0, v1, v2, v3, v4, v5, v6, v7, .int l1, v9] st im rm = ev 157 64 [v0, v1, v2, v3, v4, v5, v6, v7, .int l1, v9] (.int l1 :: st) (im) (rm) := ev_iload pm_m157 d157_62 rfl rfl
theorem d157_64 : decode prog_10_method_55_code 64 = .ok (.aload_n 0, 1) := by decide +kernel
theorem s157_64 {v1 v2 v3 v4 v5 v6 v7 v8 v9 : Value} {l1 : Nat} {st : List Value} {im : IM} {rm : RM}  : ev 157 64 [.ref l1, v1, v2, v3, v4, v5, v6, v7, v8, v9] st im rm = ev 157 65 [.ref l1, v1, v2, v3, v4, v5, v6, v7, v8, v9] (.ref l1 :: st) (im) (rm) := ev_aload_n pm_m157 d157_64 rfl rfl
theorem d157_65 : decode prog_10_method_55_code 65 = .ok (.getfield 16, 3) := by decide +kernel
theorem s157_65 {v0 v1 v2 v3 v4 v5 v6 v7 v8 v9 : Value} {a : Nat} {st : List Value} {im : IM} {rm : RM} (hk : kd a = 18) : ev 157 65 [v0, v1, v2, v3, v4, v5, v6, v7, v8, v9] (.ref a :: st) im rm = ev 157 68 [v0, v1, v2, v3, v4, v5, v6, v7, v8, v9] (pm_ro (rm a 2) :: st) (im) (rm) := ev_getR pm_m157 d157_65 f8_16 rfl hk rfl
theorem d157_68 : decode prog_10_method_55_code 68 = .ok (.iload 7, 2) := by decide +kernel
theorem s157_68 {v0 v1 v2 v3 v4 v5 v6 v8 v9 : Value} {l1 : Int32} {st : List Value} {im : IM} {rm : RM}  : ev 157 68 [v0, v1, v2, v3, v4, v5, v6, .int l1, v8, v9] st im rm = ev 157 70 [v0, v1, v2, v3, v4, v5, v6, .int l1, v8, v9] (.int l1 :: st) (im) (rm) := ev_iload pm_m157 d157_68 rfl rfl
theorem d157_70 : decode prog_10_method_55_code 70 = .ok (.iaload, 1) := by decide +kernel
theorem s157_70 {v0 v1 v2 v3 v4 v5 v6 v7 v8 v9 : Value} {a : Nat} {i : Int32} {st : List Value} {im : IM} {rm : RM} (hk : kd a = 0) (hi : pm_in i (ln a) = true) : ev 157 70 [v0, v1, v2, v3, v4, v5, v6, v7, v8, v9] (.int i :: .ref a :: st) im rm = ev 157 71 [v0, v1, v2, v3, v4, v5, v6, v7, v8, v9] (.int (im a i.toNatClampNeg) :: st) (im) (rm) := ev_iald pm_m157 d157_70 hk hi rfl
theorem d157_71 : decode prog_10_method_55_code 71 = .ok (.if_icmp .ge 87, 3) := by decide +kernel
theorem s157_71 {v0 v1 v2 v3 v4 v5 v6 v7 v8 v9 : Value} {x : Int32} {y : Int32} {st : List Value} {im : IM} {rm : RM} : ev 157 71 [v0, v1, v2, v3, v4, v5, v6, v7, v8, v9] (.int y :: .int x :: st) im rm = if y ≤ x then ev 157 158 [v0, v1, v2, v3, v4, v5, v6, v7, pm_u, pm_u] st im rm else ev 157 74 [v0, v1, v2, v3, v4, v5, v6, v7, v8, v9] st im rm := ev_icmp_ge pm_m157 d157_71 rfl rfl rfl
theorem d157_74 : decode prog_10_method_55_code 74 = .ok (.aload_n 0, 1) := by decide +kernel
theorem s157_74 {v1 v2 v3 v4 v5 v6 v7 v8 v9 : Value} {l1 : Nat} {st : List Value} {im : IM} {rm : RM}  : ev 157 74 [.ref l1, v1, v2, v3, v4, v5, v6, v7, v8, v9] st im rm = ev 157 75 [.ref l1, v1, v2, v3, v4, v5, v6, v7, v8, v9] (.ref l1 :: st) (im) (rm) := ev_aload_n pm_m157 d157_74 rfl rfl
theorem d157_75 : decode prog_10_method_55_code 75 = .ok (.getfield 7, 3) := by decide +kernel
theorem s157_75 {v0 v1 v2 v3 v4 v5 v6 v7 v8 v9 : Value} {a : Nat} {st : List Value} {im : IM} {rm : RM} (hk : kd a = 18) : ev 157 75 [v0, v1, v2, v3, v4, v5, v6, v7, v8, v9] (.ref a :: st) im rm = ev 157 78 [v0, v1, v2, v3, v4, v5, v6, v7, v8, v9] (pm_ro (rm a 0) :: st) (im) (rm) := ev_getR pm_m157 d157_75 f8_7 rfl hk rfl
theorem d157_78 : decode prog_10_method_55_code 78 = .ok (.iload 7, 2) := by decide +kernel
theorem s157_78 {v0 v1 v2 v3 v4 v5 v6 v8 v9 : Value} {l1 : Int32} {st : List Value} {im : IM} {rm : RM}  : ev 157 78 [v0, v1, v2, v3, v4, v5, v6, .int l1, v8, v9] st im rm = ev 157 80 [v0, v1, v2, v3, v4, v5, v6, .int l1, v8, v9] (.int l1 :: st) (im) (rm) := ev_iload pm_m157 d157_78 rfl rfl
theorem d157_80 : decode prog_10_method_55_code 80 = .ok (.iaload, 1) := by decide +kernel
theorem s157_80 {v0 v1 v2 v3 v4 v5 v6 v7 v8 v9 : Value} {a : Nat} {i : Int32} {st : List Value} {im : IM} {rm : RM} (hk : kd a = 0) (hi : pm_in i (ln a) = true) : ev 157 80 [v0, v1, v2, v3, v4, v5, v6, v7, v8, v9] (.int i :: .ref a :: st) im rm = ev 157 81 [v0, v1, v2, v3, v4, v5, v6, v7, v8, v9] (.int (im a i.toNatClampNeg) :: st) (im) (rm) := ev_iald pm_m157 d157_80 hk hi rfl
theorem d157_81 : decode prog_10_method_55_code 81 = .ok (.iconst 1, 1) := by decide +kernel
theorem s157_81 {v0 v1 v2 v3 v4 v5 v6 v7 v8 v9 : Value}  {st : List Value} {im : IM} {rm : RM}  : ev 157 81 [v0, v1, v2, v3, v4, v5, v6, v7, v8, v9] st im rm = ev 157 82 [v0, v1, v2, v3, v4, v5, v6, v7, v8, v9] (.int (nI 1) :: st) (im) (rm) := ev_iconst pm_m157 d157_81 rfl rfl
theorem d157_82 : decode prog_10_method_55_code 82 = .ok (.if_icmp .ne 76, 3) := by decide +kernel
theorem s157_82 {v0 v1 v2 v3 v4 v5 v6 v7 v8 v9 : Value} {x : Int32} {y : Int32} {st : List Value} {im : IM} {rm : RM} : ev 157 82 [v0, v1, v2, v3, v4, v5, v6, v7, v8, v9] (.int y :: .int x :: st) im rm = if x = y then ev 157 85 [v0, v1, v2, v3, v4, v5, v6, v7, v8, v9] st im rm else ev 157 158 [v0, v1, v2, v3, v4, v5, v6, v7, pm_u, pm_u] st im rm := ev_icmp_ne pm_m157 d157_82 rfl rfl rfl
theorem d157_85 : decode prog_10_method_55_code 85 = .ok (.aload_n 0, 1) := by decide +kernel
theorem s157_85 {v1 v2 v3 v4 v5 v6 v7 v8 v9 : Value} {l1 : Nat} {st : List Value} {im : IM} {rm : RM}  : ev 157 85 [.ref l1, v1, v2, v3, v4, v5, v6, v7, v8, v9] st im rm = ev 157 86 [.ref l1, v1, v2, v3, v4, v5, v6, v7, v8, v9] (.ref l1 :: st) (im) (rm) := ev_aload_n pm_m157 d157_85 rfl rfl
theorem d157_86 : decode prog_10_method_55_code 86 = .ok (.iload_n 1, 1) := by decide +kernel
theorem s157_86 {v0 v2 v3 v4 v5 v6 v7 v8 v9 : Value} {l1 : Int32} {st : List Value} {im : IM} {rm : RM}  : ev 157 86 [v0, .int l1, v2, v3, v4, v5, v6, v7, v8, v9] st im rm = ev 157 87 [v0, .int l1, v2, v3, v4, v5, v6, v7, v8, v9] (.int l1 :: st) (im) (rm) := ev_iload_n pm_m157 d157_86 rfl rfl
theorem d157_87 : decode prog_10_method_55_code 87 = .ok (.iload 7, 2) := by decide +kernel
theorem s157_87 {v0 v1 v2 v3 v4 v5 v6 v8 v9 : Value} {l1 : Int32} {st : List Value} {im : IM} {rm : RM}  : ev 157 87 [v0, v1, v2, v3, v4, v5, v6, .int l1, v8, v9] st im rm = ev 157 89 [v0, v1, v2, v3, v4, v5, v6, .int l1, v8, v9] (.int l1 :: st) (im) (rm) := ev_iload pm_m157 d157_87 rfl rfl
theorem d157_89 : decode prog_10_method_55_code 89 = .ok (.iload 8, 2) := by decide +kernel
theorem s157_89 {v0 v1 v2 v3 v4 v5 v6 v7 v9 : Value} {l1 : Int32} {st : List Value} {im : IM} {rm : RM}  : ev 157 89 [v0, v1, v2, v3, v4, v5, v6, v7, .int l1, v9] st im rm = ev 157 91 [v0, v1, v2, v3, v4, v5, v6, v7, .int l1, v9] (.int l1 :: st) (im) (rm) := ev_iload pm_m157 d157_89 rfl rfl
theorem d157_91 : decode prog_10_method_55_code 91 = .ok (.invokevirtual 258, 3) := by decide +kernel
theorem s157_91 {v0 v1 v2 v3 v4 v5 v6 v7 v8 v9 : Value} {a : Nat} {p1 : Int32} {p2 : Int32} {p3 : Int32} {im : IM} {rm : RM} (hk : kd a = 18) : ev 157 91 [v0, v1, v2, v3, v4, v5, v6, v7, v8, v9] [.int p3, .int p2, .int p1, .ref a] im rm = (ev 134 0 [.ref a, .int p1, .int p2, .int p3, pm_u] [] im rm).bind (fun r => ev 157 94 [v0, v1, v2, v3, v4, v5, v6, v7, v8, v9] (r.1.toList ++ []) r.2.1 r.2.2) := ev_callV pm_m157 d157_91 l8_258 rfl pm_m134 (by decide) hk rfl ⟨rfl, rfl⟩ rfl rfl
theorem d157_94 : decode prog_10_method_55_code 94 = .ok (.iload_n 2, 1) := by decide +kernel
theorem s157_94 {v0 v1 v3 v4 v5 v6 v7 v8 v9 : Value} {l1 : Int32} {st : List Value} {im : IM} {rm : RM}  : ev 157 94 [v0, v1, .int l1, v3, v4, v5, v6, v7, v8, v9] st im rm = ev 157 95 [v0, v1, .int l1, v3, v4, v5, v6, v7, v8, v9] (.int l1 :: st) (im) (rm) := ev_iload_n pm_m157 d157_94 rfl rfl
theorem d157_95 : decode prog_10_method_55_code 95 = .ok (.if_icmp .eq 7, 3) := by decide +kernel
theorem s157_95 {v0 v1 v2 v3 v4 v5 v6 v7 v8 v9 : Value} {x : Int32} {y : Int32} {st : List Value} {im : IM} {rm : RM} : ev 157 95 [v0, v1, v2, v3, v4, v5, v6, v7, v8, v9] (.int y :: .int x :: st) im rm = if x = y then ev 157 102 [v0, v1, v2, v3, v4, v5, v6, v7, v8, pm_u] st im rm else ev 157 98 [v0, v1, v2, v3, v4, v5, v6, v7, v8, v9] st im rm := ev_icmp_eq pm_m157 d157_95 rfl rfl rfl
theorem d157_98 : decode prog_10_method_55_code 98 = .ok (.iconst 1, 1) := by decide +kernel
theorem s157_98 {v0 v1 v2 v3 v4 v5 v6 v7 v8 v9 : Value}  {st : List Value} {im : IM} {rm : RM}  : ev 157 98 [v0, v1, v2, v3, v4, v5, v6, v7, v8, v9] st im rm = ev 157 99 [v0, v1, v2, v3, v4, v5, v6, v7, v8, v9] (.int (nI 1) :: st) (im) (rm) := ev_iconst pm_m157 d157_98 rfl rfl
theorem d157_99 : decode prog_10_method_55_code 99 = .ok (.goto 4, 3) := by decide +kernel
theorem s157_99 {v0 v1 v2 v3 v4 v5 v6 v7 v8 v9 : Value}  {st : List Value} {im : IM} {rm : RM}  : ev 157 99 [v0, v1, v2, v3, v4, v5, v6, v7, v8, v9] st im rm = ev 157 103 [v0, v1, v2, v3, v4, v5, v6, v7, v8, pm_u] st (im) (rm) := ev_goto pm_m157 d157_99 rfl rfl
theorem d157_102 : decode prog_10_method_55_code 102 = .ok (.iconst 0, 1) := by decide +kernel
theorem s157_102 {v0 v1 v2 v3 v4 v5 v6 v7 v8 v9 : Value}  {st : List Value} {im : IM} {rm : RM}  : ev 157 102 [v0, v1, v2, v3, v4, v5, v6, v7, v8, v9] st im rm = ev 157 103 [v0, v1, v2, v3, v4, v5, v6, v7, v8, pm_u] (.int (nI 0) :: st) (im) (rm) := ev_iconst pm_m157 d157_102 rfl rfl
theorem d157_103 : decode prog_10_method_55_code 103 = .ok (.istore 9, 2) := by decide +kernel
theorem s157_103 {v0 v1 v2 v3 v4 v5 v6 v7 v9 : Value} {l1 : Int32} {x2 : Int32} {st : List Value} {im : IM} {rm : RM}  : ev 157 103 [v0, v1, v2, v3, v4, v5, v6, v7, .int l1, v9] (.int x2 :: st) im rm = ev 157 105 [v0, v1, v2, v3, v4, v5, v6, v7, .int l1, .int x2] st (im) (rm) := ev_istore pm_m157 d157_103 (Nat.le_of_ble_eq_true rfl) rfl rfl
theorem d157_105 : decode prog_10_method_55_code 105 = .ok (.iload 6, 2) := by decide +kernel
theorem s157_105 {v0 v1 v2 v3 v4 v5 v7 v8 v9 : Value} {l1 : Int32} {st : List Value} {im : IM} {rm : RM}  : ev 157 105 [v0, v1, v2, v3, v4, v5, .int l1, v7, v8, v9] st im rm = ev 157 107 [v0, v1, v2, v3, v4, v5, .int l1, v7, v8, v9] (.int l1 :: st) (im) (rm) := ev_iload pm_m157 d157_105 rfl rfl
theorem d157_107 : decode prog_10_method_55_code 107 = .ok (.iload 9, 2) := by decide +kernel
theorem s157_107 {v0 v1 v2 v3 v4 v5 v6 v7 v8 : Value} {l1 : Int32} {st : List Value} {im : IM} {rm : RM}  : ev 157 107 [v0, v1, v2, v3, v4, v5, v6, v7, v8, .int l1] st im rm = ev 157 109 [v0, v1, v2, v3, v4, v5, v6, v7, v8, .int l1] (.int l1 :: st) (im) (rm) := ev_iload pm_m157 d157_107 rfl rfl
theorem d157_109 : decode prog_10_method_55_code 109 = .ok (.ifCond .eq 7, 3) := by decide +kernel
theorem s157_109 {v0 v1 v2 v3 v4 v5 v6 v7 v8 v9 : Value} {x : Int32} {st : List Value} {im : IM} {rm : RM} : ev 157 109 [v0, v1, v2, v3, v4, v5, v6, v7, v8, v9] (.int x :: st) im rm = if x = nI 0 then ev 157 116 [v0, v1, v2, v3, v4, v5, pm_u, v7, v8, v9] st im rm else ev 157 112 [v0, v1, v2, v3, v4, v5, v6, v7, v8, v9] st im rm := ev_if_eq (y := 0) pm_m157 d157_109 rfl rfl rfl
theorem d157_112 : decode prog_10_method_55_code 112 = .ok (.iconst 1, 1) := by decide +kernel
theorem s157_112 {v0 v1 v2 v3 v4 v5 v6 v7 v8 v9 : Value}  {st : List Value} {im : IM} {rm : RM}  : ev 157 112 [v0, v1, v2, v3, v4, v5, v6, v7, v8, v9] st im rm = ev 157 113 [v0, v1, v2, v3, v4, v5, v6, v7, v8, v9] (.int (nI 1) :: st) (im) (rm) := ev_iconst pm_m157 d157_112 rfl rfl
theorem d157_113 : decode prog_10_method_55_code 113 = .ok (.goto 4, 3) := by decide +kernel
theorem s157_113 {v0 v1 v2 v3 v4 v5 v6 v7 v8 v9 : Value}  {st : List Value} {im : IM} {rm : RM}  : ev 157 113 [v0, v1, v2, v3, v4, v5, v6, v7, v8, v9] st im rm = ev 157 117 [v0, v1, v2, v3, v4, v5, pm_u, v7, v8, v9] st (im) (rm) := ev_goto pm_m157 d157_113 rfl rfl
theorem d157_116 : decode prog_10_method_55_code 116 = .ok (.iconst 0, 1) := by decide +kernel
theorem s157_116 {v0 v1 v2 v3 v4 v5 v6 v7 v8 v9 : Value}  {st : List Value} {im : IM} {rm : RM}  : ev 157 116 [v0, v1, v2, v3, v4, v5, v6, v7, v8, v9] st im rm = ev 157 117 [v0, v1, v2, v3, v4, v5, pm_u, v7, v8, v9] (.int (nI 0) :: st) (im) (rm) := ev_iconst pm_m157 d157_116 rfl rfl
theorem d157_117 : decode prog_10_method_55_code 117 = .ok (.iadd, 1) := by decide +kernel
theorem s157_117 {v0 v1 v2 v3 v4 v5 v6 v7 v8 v9 : Value} {x : Int32} {y : Int32} {st : List Value} {im : IM} {rm : RM}  : ev 157 117 [v0, v1, v2, v3, v4, v5, v6, v7, v8, v9] (.int y :: .int x :: st) im rm = ev 157 118 [v0, v1, v2, v3, v4, v5, v6, v7, v8, v9] (.int (x + y) :: st) (im) (rm) := ev_iadd pm_m157 d157_117 rfl
theorem d157_118 : decode prog_10_method_55_code 118 = .ok (.istore 6, 2) := by decide +kernel
theorem s157_118 {v0 v1 v2 v3 v4 v6 v7 v8 v9 : Value} {l1 : Int32} {x2 : Int32} {st : List Value} {im : IM} {rm : RM}  : ev 157 118 [v0, v1, v2, v3, v4, .int l1, v6, v7, v8, v9] (.int x2 :: st) im rm = ev 157 120 [v0, v1, v2, v3, v4, .int l1, .int x2, v7, v8, v9] st (im) (rm) := ev_istore pm_m157 d157_118 (Nat.le_of_ble_eq_true rfl) rfl rfl
theorem d157_120 : decode prog_10_method_55_code 120 = .ok (.iload 5, 2) := by decide +kernel
theorem s157_120 {v0 v1 v2 v3 v4 v6 v7 v8 v9 : Value} {l1 : Int32} {st : List Value} {im : IM} {rm : RM}  : ev 157 120 [v0, v1, v2, v3, v4, .int l1, v6, v7, v8, v9] st im rm = ev 157 122 [v0, v1, v2, v3, v4, .int l1, v6, v7, v8, v9] (.int l1 :: st) (im) (rm) := ev_iload pm_m157 d157_120 rfl rfl
theorem d157_122 : decode prog_10_method_55_code 122 = .ok (.iload 9, 2) := by decide +kernel
theorem s157_122 {v0 v1 v2 v3 v4 v5 v6 v7 v8 : Value} {l1 : Int32} {st : List Value} {im : IM} {rm : RM}  : ev 157 122 [v0, v1, v2, v3, v4, v5, v6, v7, v8, .int l1] st im rm = ev 157 124 [v0, v1, v2, v3, v4, v5, v6, v7, v8, .int l1] (.int l1 :: st) (im) (rm) := ev_iload pm_m157 d157_122 rfl rfl
theorem d157_124 : decode prog_10_method_55_code 124 = .ok (.ifCond .eq 24, 3) := by decide +kernel
theorem s157_124 {v0 v1 v2 v3 v4 v5 v6 v7 v8 v9 : Value} {x : Int32} {st : List Value} {im : IM} {rm : RM} : ev 157 124 [v0, v1, v2, v3, v4, v5, v6, v7, v8, v9] (.int x :: st) im rm = if x = nI 0 then ev 157 148 [v0, v1, v2, v3, v4, pm_u, v6, v7, v8, pm_u] st im rm else ev 157 127 [v0, v1, v2, v3, v4, v5, v6, v7, v8, v9] st im rm := ev_if_eq (y := 0) pm_m157 d157_124 rfl rfl rfl
theorem d157_127 : decode prog_10_method_55_code 127 = .ok (.aload_n 0, 1) := by decide +kernel
theorem s157_127 {v1 v2 v3 v4 v5 v6 v7 v8 v9 : Value} {l1 : Nat} {st : List Value} {im : IM} {rm : RM}  : ev 157 127 [.ref l1, v1, v2, v3, v4, v5, v6, v7, v8, v9] st im rm = ev 157 128 [.ref l1, v1, v2, v3, v4, v5, v6, v7, v8, v9] (.ref l1 :: st) (im) (rm) := ev_aload_n pm_m157 d157_127 rfl rfl
theorem d157_128 : decode prog_10_method_55_code 128 = .ok (.getfield 31, 3) := by decide +kernel
theorem s157_128 {v0 v1 v2 v3 v4 v5 v6 v7 v8 v9 : Value} {a : Nat} {st : List Value} {im : IM} {rm : RM} (hk : kd a = 18) : ev 157 128 [v0, v1, v2, v3, v4, v5, v6, v7, v8, v9] (.ref a :: st) im rm = ev 157 131 [v0, v1, v2, v3, v4, v5, v6, v7, v8, v9] (pm_ro (rm a 7) :: st) (im) (rm) := ev_getR pm_m157 d157_128 f8_31 rfl hk rfl
theorem d157_131 : decode prog_10_method_55_code 131 = .ok (.bipush 40, 2) := by decide +kernel
theorem s157_131 {v0 v1 v2 v3 v4 v5 v6 v7 v8 v9 : Value}  {st : List Value} {im : IM} {rm : RM}  : ev 157 131 [v0, v1, v2, v3, v4, v5, v6, v7, v8, v9] st im rm = ev 157 133 [v0, v1, v2, v3, v4, v5, v6, v7, v8, v9] (.int (nI 40) :: st) (im) (rm) := ev_bipush pm_m157 d157_131 rfl rfl
theorem d157_133 : decode prog_10_method_55_code 133 = .ok (.iload 7, 2) := by decide +kernel
theorem s157_133 {v0 v1 v2 v3 v4 v5 v6 v8 v9 : Value} {l1 : Int32} {st : List Value} {im : IM} {rm : RM}  : ev 157 133 [v0, v1, v2, v3, v4, v5, v6, .int l1, v8, v9] st im rm = ev 157 135 [v0, v1, v2, v3, v4, v5, v6, .int l1, v8, v9] (.int l1 :: st) (im) (rm) := ev_iload pm_m157 d157_133 rfl rfl
theorem d157_135 : decode prog_10_method_55_code 135 = .ok (.imul, 1) := by decide +kernel
theorem s157_135 {v0 v1 v2 v3 v4 v5 v6 v7 v8 v9 : Value} {x : Int32} {y : Int32} {st : List Value} {im : IM} {rm : RM}  : ev 157 135 [v0, v1, v2, v3, v4, v5, v6, v7, v8, v9] (.int y :: .int x :: st) im rm = ev 157 136 [v0, v1, v2, v3, v4, v5, v6, v7, v8, v9] (.int (x * y) :: st) (im) (rm) := ev_imul pm_m157 d157_135 rfl
theorem d157_136 : decode prog_10_method_55_code 136 = .ok (.iload 8, 2) := by decide +kernel
theorem s157_136 {v0 v1 v2 v3 v4 v5 v6 v7 v9 : Value} {l1 : Int32} {st : List Value} {im : IM} {rm : RM}  : ev 157 136 [v0, v1, v2, v3, v4, v5, v6, v7, .int l1, v9] st im rm = ev 157 138 [v0, v1, v2, v3, v4, v5, v6, v7, .int l1, v9] (.int l1 :: st) (im) (rm) := ev_iload pm_m157 d157_136 rfl rfl
theorem d157_138 : decode prog_10_method_55_code 138 = .ok (.iadd, 1) := by decide +kernel
theorem s157_138 {v0 v1 v2 v3 v4 v5 v6 v7 v8 v9 : Value} {x : Int32} {y : Int32} {st : List Value} {im : IM} {rm : RM}  : ev 157 138 [v0, v1, v2, v3, v4, v5, v6, v7, v8, v9] (.int y :: .int x :: st) im rm = ev 157 139 [v0, v1, v2, v3, v4, v5, v6, v7, v8, v9] (.int (x + y) :: st) (im) (rm) := ev_iadd pm_m157 d157_138 rfl
theorem d157_139 : decode prog_10_method_55_code 139 = .ok (.iaload, 1) := by decide +kernel
theorem s157_139 {v0 v1 v2 v3 v4 v5 v6 v7 v8 v9 : Value} {a : Nat} {i : Int32} {st : List Value} {im : IM} {rm : RM} (hk : kd a = 0) (hi : pm_in i (ln a) = true) : ev 157 139 [v0, v1, v2, v3, v4, v5, v6, v7, v8, v9] (.int i :: .ref a :: st) im rm = ev 157 140 [v0, v1, v2, v3, v4, v5, v6, v7, v8, v9] (.int (im a i.toNatClampNeg) :: st) (im) (rm) := ev_iald pm_m157 d157_139 hk hi rfl
theorem d157_140 : decode prog_10_method_55_code 140 = .ok (.iload_n 3, 1) := by decide +kernel
theorem s157_140 {v0 v1 v2 v4 v5 v6 v7 v8 v9 : Value} {l1 : Int32} {st : List Value} {im : IM} {rm : RM}  : ev 157 140 [v0, v1, v2, .int l1, v4, v5, v6, v7, v8, v9] st im rm = ev 157 141 [v0, v1, v2, .int l1, v4, v5, v6, v7, v8, v9] (.int l1 :: st) (im) (rm) := ev_iload_n pm_m157 d157_140 rfl rfl
theorem d157_141 : decode prog_10_method_55_code 141 = .ok (.if_icmp .ge 7, 3) := by decide +kernel
theorem s157_141 {v0 v1 v2 v3 v4 v5 v6 v7 v8 v9 : Value} {x : Int32} {y : Int32} {st : List Value} {im : IM} {rm : RM} : ev 157 141 [v0, v1, v2, v3, v4, v5, v6, v7, v8, v9] (.int y :: .int x :: st) im rm = if y ≤ x then ev 157 148 [v0, v1, v2, v3, v4, pm_u, v6, v7, v8, pm_u] st im rm else ev 157 144 [v0, v1, v2, v3, v4, v5, v6, v7, v8, v9] st im rm := ev_icmp_ge pm_m157 d157_141 rfl rfl rfl
theorem d157_144 : decode prog_10_method_55_code 144 = .ok (.iconst 1, 1) := by decide +kernel
theorem s157_144 {v0 v1 v2 v3 v4 v5 v6 v7 v8 v9 : Value}  {st : List Value} {im : IM} {rm : RM}  : ev 157 144 [v0, v1, v2, v3, v4, v5, v6, v7, v8, v9] st im rm = ev 157 145 [v0, v1, v2, v3, v4, v5, v6, v7, v8, v9] (.int (nI 1) :: st) (im) (rm) := ev_iconst pm_m157 d157_144 rfl rfl
theorem d157_145 : decode prog_10_method_55_code 145 = .ok (.goto 4, 3) := by decide +kernel
theorem s157_145 {v0 v1 v2 v3 v4 v5 v6 v7 v8 v9 : Value}  {st : List Value} {im : IM} {rm : RM}  : ev 157 145 [v0, v1, v2, v3, v4, v5, v6, v7, v8, v9] st im rm = ev 157 149 [v0, v1, v2, v3, v4, pm_u, v6, v7, v8, pm_u] st (im) (rm) := ev_goto pm_m157 d157_145 rfl rfl
theorem d157_148 : decode prog_10_method_55_code 148 = .ok (.iconst 0, 1) := by decide +kernel
theorem s157_148 {v0 v1 v2 v3 v4 v5 v6 v7 v8 v9 : Value}  {st : List Value} {im : IM} {rm : RM}  : ev 157 148 [v0, v1, v2, v3, v4, v5, v6, v7, v8, v9] st im rm = ev 157 149 [v0, v1, v2, v3, v4, pm_u, v6, v7, v8, pm_u] (.int (nI 0) :: st) (im) (rm) := ev_iconst pm_m157 d157_148 rfl rfl
theorem d157_149 : decode prog_10_method_55_code 149 = .ok (.iadd, 1) := by decide +kernel
theorem s157_149 {v0 v1 v2 v3 v4 v5 v6 v7 v8 v9 : Value} {x : Int32} {y : Int32} {st : List Value} {im : IM} {rm : RM}  : ev 157 149 [v0, v1, v2, v3, v4, v5, v6, v7, v8, v9] (.int y :: .int x :: st) im rm = ev 157 150 [v0, v1, v2, v3, v4, v5, v6, v7, v8, v9] (.int (x + y) :: st) (im) (rm) := ev_iadd pm_m157 d157_149 rfl
theorem d157_150 : decode prog_10_method_55_code 150 = .ok (.istore 5, 2) := by decide +kernel
theorem s157_150 {v0 v1 v2 v3 v5 v6 v7 v8 v9 : Value} {l1 : Int32} {x2 : Int32} {st : List Value} {im : IM} {rm : RM}  : ev 157 150 [v0, v1, v2, v3, .int l1, v5, v6, v7, v8, v9] (.int x2 :: st) im rm = ev 157 152 [v0, v1, v2, v3, .int l1, .int x2, v6, v7, v8, v9] st (im) (rm) := ev_istore pm_m157 d157_150 (Nat.le_of_ble_eq_true rfl) rfl rfl
theorem d157_152 : decode prog_10_method_55_code 152 = .ok (.iinc 8 1, 3) := by decide +kernel
theorem s157_152 {v0 v1 v2 v3 v4 v5 v6 v9 : Value} {l1 : Int32} {l2 : Int32} {st : List Value} {im : IM} {rm : RM}  : ev 157 152 [v0, v1, v2, v3, v4, v5, v6, .int l1, .int l2, v9] st im rm = ev 157 155 [v0, v1, v2, v3, v4, v5, v6, .int l1, .int (l2 + nI 1), v9] st (im) (rm) := ev_iinc pm_m157 d157_152 rfl rfl rfl rfl
theorem d157_155 : decode prog_10_method_55_code 155 = .ok (.goto (-93), 3) := by decide +kernel
theorem s157_155 {v0 v1 v2 v3 v4 v5 v6 v7 v8 v9 : Value}  {st : List Value} {im : IM} {rm : RM}  : ev 157 155 [v0, v1, v2, v3, v4, v5, v6, v7, v8, v9] st im rm = ev 157 62 [v0, v1, v2, v3, v4, v5, v6, v7, v8, pm_u] st (im) (rm) := ev_goto pm_m157 d157_155 rfl rfl
theorem d157_158 : decode prog_10_method_55_code 158 = .ok (.iinc 7 1, 3) := by decide +kernel
theorem s157_158 {v0 v1 v2 v3 v4 v5 v8 v9 : Value} {l1 : Int32} {l2 : Int32} {st : List Value} {im : IM} {rm : RM}  : ev 157 158 [v0, v1, v2, v3, v4, v5, .int l1, .int l2, v8, v9] st im rm = ev 157 161 [v0, v1, v2, v3, v4, v5, .int l1, .int (l2 + nI 1), v8, v9] st (im) (rm) := ev_iinc pm_m157 d157_158 rfl rfl rfl rfl
theorem d157_161 : decode prog_10_method_55_code 161 = .ok (.goto (-109), 3) := by decide +kernel
theorem s157_161 {v0 v1 v2 v3 v4 v5 v6 v7 v8 v9 : Value}  {st : List Value} {im : IM} {rm : RM}  : ev 157 161 [v0, v1, v2, v3, v4, v5, v6, v7, v8, v9] st im rm = ev 157 52 [v0, v1, v2, v3, v4, v5, v6, v7, pm_u, pm_u] st (im) (rm) := ev_goto pm_m157 d157_161 rfl rfl
theorem d157_164 : decode prog_10_method_55_code 164 = .ok (.iload 4, 2) := by decide +kernel
theorem s157_164 {v0 v1 v2 v3 v5 v6 v7 v8 v9 : Value} {l1 : Int32} {st : List Value} {im : IM} {rm : RM}  : ev 157 164 [v0, v1, v2, v3, .int l1, v5, v6, v7, v8, v9] st im rm = ev 157 166 [v0, v1, v2, v3, .int l1, v5, v6, v7, v8, v9] (.int l1 :: st) (im) (rm) := ev_iload pm_m157 d157_164 rfl rfl
theorem d157_166 : decode prog_10_method_55_code 166 = .ok (.ifCond .ne 8, 3) := by decide +kernel
theorem s157_166 {v0 v1 v2 v3 v4 v5 v6 v7 v8 v9 : Value} {x : Int32} {st : List Value} {im : IM} {rm : RM} : ev 157 166 [v0, v1, v2, v3, v4, v5, v6, v7, v8, v9] (.int x :: st) im rm = if x = nI 0 then ev 157 169 [v0, v1, v2, v3, v4, v5, v6, v7, v8, v9] st im rm else ev 157 174 [pm_u, pm_u, pm_u, pm_u, pm_u, pm_u, v6, pm_u, pm_u, pm_u] st im rm := ev_if_ne (y := 0) pm_m157 d157_166 rfl rfl rfl
theorem d157_169 : decode prog_10_method_55_code 169 = .ok (.iload 5, 2) := by decide +kernel
theorem s157_169 {v0 v1 v2 v3 v4 v6 v7 v8 v9 : Value} {l1 : Int32} {st : List Value} {im : IM} {rm : RM}  : ev 157 169 [v0, v1, v2, v3, v4, .int l1, v6, v7, v8, v9] st im rm = ev 157 171 [v0, v1, v2, v3, v4, .int l1, v6, v7, v8, v9] (.int l1 :: st) (im) (rm) := ev_iload pm_m157 d157_169 rfl rfl
theorem d157_171 : decode prog_10_method_55_code 171 = .ok (.goto 5, 3) := by decide +kernel
theorem s157_171 {v0 v1 v2 v3 v4 v5 v6 v7 v8 v9 : Value}  {st : List Value} {im : IM} {rm : RM}  : ev 157 171 [v0, v1, v2, v3, v4, v5, v6, v7, v8, v9] st im rm = ev 157 176 [pm_u, pm_u, pm_u, pm_u, pm_u, pm_u, pm_u, pm_u, pm_u, pm_u] st (im) (rm) := ev_goto pm_m157 d157_171 rfl rfl
theorem d157_174 : decode prog_10_method_55_code 174 = .ok (.iload 6, 2) := by decide +kernel
theorem s157_174 {v0 v1 v2 v3 v4 v5 v7 v8 v9 : Value} {l1 : Int32} {st : List Value} {im : IM} {rm : RM}  : ev 157 174 [v0, v1, v2, v3, v4, v5, .int l1, v7, v8, v9] st im rm = ev 157 176 [pm_u, pm_u, pm_u, pm_u, pm_u, pm_u, pm_u, pm_u, pm_u, pm_u] (.int l1 :: st) (im) (rm) := ev_iload pm_m157 d157_174 rfl rfl
theorem d157_176 : decode prog_10_method_55_code 176 = .ok (.ireturn, 1) := by decide +kernel
theorem s157_176 {v0 v1 v2 v3 v4 v5 v6 v7 v8 v9 : Value} {x : Int32} {im : IM} {rm : RM} : ev 157 176 [v0, v1, v2, v3, v4, v5, v6, v7, v8, v9] [.int x] im rm = some (some (.int x), im, rm) := ev_ireturn pm_m157 d157_176 rfl
theorem d158_0 : decode prog_10_method_56_code 0 = .ok (.iload_n 1, 1) := by decide +kernel
theorem s158_0 {v0 v2 v3 : Value} {l1 : Int32} {st : List Value} {im : IM} {rm : RM}  : ev 158 0 [v0, .int l1, v2, v3] st im rm = ev 158 1 [v0, .int l1, v2, v3] (.int l1 :: st) (im) (rm) := ev_iload_n pm_m158 d158_0 rfl rfl
theorem d158_1 : decode prog_10_method_56_code 1 = .ok (.invokestatic 130, 3) := by decide +kernel
theorem s158_1 {v0 v1 v2 v3 : Value} {p1 : Int32} {im : IM} {rm : RM}  : ev 158 1 [v0, v1, v2, v3] [.int p1] im rm = (ev 106 0 [.int p1] [] im rm).bind (fun r => ev 158 4 [v0, v1, v2, v3] (r.1.toList ++ []) r.2.1 r.2.2) := ev_callS pm_m158 d158_1 (by decide) l8_130 rfl pm_m106 rfl ⟨rfl, rfl⟩ rfl rfl
theorem d158_4 : decode prog_10_method_56_code 4 = .ok (.ifCond .eq 10, 3) := by decide +kernel
theorem s158_4 {v0 v1 v2 v3 : Value} {x : Int32} {st : List Value} {im : IM} {rm : RM} : ev 158 4 [v0, v1, v2, v3] (.int x :: st) im rm = if x = nI 0 then ev 158 14 [pm_u, pm_u, pm_u, pm_u] st im rm else ev 158 7 [v0, v1, v2, v3] st im rm := ev_if_eq (y := 0) pm_m158 d158_4 rfl rfl rfl
theorem d158_7 : decode prog_10_method_56_code 7 = .ok (.iload_n 2, 1) := by decide +kernel
theorem s158_7 {v0 v1 v3 : Value} {l1 : Int32} {st : List Value} {im : IM} {rm : RM}  : ev 158 7 [v0, v1, .int l1, v3] st im rm = ev 158 8 [v0, v1, .int l1, v3] (.int l1 :: st) (im) (rm) := ev_iload_n pm_m158 d158_7 rfl rfl
theorem d158_8 : decode prog_10_method_56_code 8 = .ok (.invokestatic 126, 3) := by decide +kernel
theorem s158_8 {v0 v1 v2 v3 : Value} {p1 : Int32} {im : IM} {rm : RM}  : ev 158 8 [v0, v1, v2, v3] [.int p1] im rm = (ev 105 0 [.int p1] [] im rm).bind (fun r => ev 158 11 [v0, v1, v2, v3] (r.1.toList ++ []) r.2.1 r.2.2) := ev_callS pm_m158 d158_8 (by decide) l8_126 rfl pm_m105 rfl ⟨rfl, rfl⟩ rfl rfl
theorem d158_11 : decode prog_10_method_56_code 11 = .ok (.ifCond .ne 6, 3) := by decide +kernel
theorem s158_11 {v0 v1 v2 v3 : Value} {x : Int32} {st : List Value} {im : IM} {rm : RM} : ev 158 11 [v0, v1, v2, v3] (.int x :: st) im rm = if x = nI 0 then ev 158 14 [pm_u, pm_u, pm_u, pm_u] st im rm else ev 158 17 [v0, v1, v2, pm_u] st im rm := ev_if_ne (y := 0) pm_m158 d158_11 rfl rfl rfl
theorem d158_14 : decode prog_10_method_56_code 14 = .ok (.bipush (-2), 2) := by decide +kernel
theorem s158_14 {v0 v1 v2 v3 : Value}  {st : List Value} {im : IM} {rm : RM}  : ev 158 14 [v0, v1, v2, v3] st im rm = ev 158 16 [v0, v1, v2, v3] (.int ((-2 : Int32)) :: st) (im) (rm) := ev_bipush pm_m158 d158_14 rfl rfl
theorem d158_16 : decode prog_10_method_56_code 16 = .ok (.ireturn, 1) := by decide +kernel
theorem s158_16 {v0 v1 v2 v3 : Value} {x : Int32} {im : IM} {rm : RM} : ev 158 16 [v0, v1, v2, v3] [.int x] im rm = some (some (.int x), im, rm) := ev_ireturn pm_m158 d158_16 rfl
theorem d158_17 : decode prog_10_method_56_code 17 = .ok (.aload_n 0, 1) := by decide +kernel
theorem s158_17 {v1 v2 v3 : Value} {l1 : Nat} {st : List Value} {im : IM} {rm : RM}  : ev 158 17 [.ref l1, v1, v2, v3] st im rm = ev 158 18 [.ref l1, v1, v2, v3] (.ref l1 :: st) (im) (rm) := ev_aload_n pm_m158 d158_17 rfl rfl
theorem d158_18 : decode prog_10_method_56_code 18 = .ok (.getfield 16, 3) := by decide +kernel
theorem s158_18 {v0 v1 v2 v3 : Value} {a : Nat} {st : List Value} {im : IM} {rm : RM} (hk : kd a = 18) : ev 158 18 [v0, v1, v2, v3] (.ref a :: st) im rm = ev 158 21 [v0, v1, v2, v3] (pm_ro (rm a 2) :: st) (im) (rm) := ev_getR pm_m158 d158_18 f8_16 rfl hk rfl
theorem d158_21 : decode prog_10_method_56_code 21 = .ok (.iload_n 2, 1) := by decide +kernel
theorem s158_21 {v0 v1 v3 : Value} {l1 : Int32} {st : List Value} {im : IM} {rm : RM}  : ev 158 21 [v0, v1, .int l1, v3] st im rm = ev 158 22 [v0, v1, .int l1, v3] (.int l1 :: st) (im) (rm) := ev_iload_n pm_m158 d158_21 rfl rfl
theorem d158_22 : decode prog_10_method_56_code 22 = .ok (.iaload, 1) := by decide +kernel
theorem s158_22 {v0 v1 v2 v3 : Value} {a : Nat} {i : Int32} {st : List Value} {im : IM} {rm : RM} (hk : kd a = 0) (hi : pm_in i (ln a) = true) : ev 158 22 [v0, v1, v2, v3] (.int i :: .ref a :: st) im rm = ev 158 23 [v0, v1, v2, v3] (.int (im a i.toNatClampNeg) :: st) (im) (rm) := ev_iald pm_m158 d158_22 hk hi rfl
theorem d158_23 : decode prog_10_method_56_code 23 = .ok (.ifCond .ne 6, 3) := by decide +kernel
theorem s158_23 {v0 v1 v2 v3 : Value} {x : Int32} {st : List Value} {im : IM} {rm : RM} : ev 158 23 [v0, v1, v2, v3] (.int x :: st) im rm = if x = nI 0 then ev 158 26 [v0, v1, v2, v3] st im rm else ev 158 29 [v0, v1, v2, pm_u] st im rm := ev_if_ne (y := 0) pm_m158 d158_23 rfl rfl rfl
theorem d158_26 : decode prog_10_method_56_code 26 = .ok (.bipush (-4), 2) := by decide +kernel
theorem s158_26 {v0 v1 v2 v3 : Value}  {st : List Value} {im : IM} {rm : RM}  : ev 158 26 [v0, v1, v2, v3] st im rm = ev 158 28 [v0, v1, v2, v3] (.int ((-4 : Int32)) :: st) (im) (rm) := ev_bipush pm_m158 d158_26 rfl rfl
theorem d158_28 : decode prog_10_method_56_code 28 = .ok (.ireturn, 1) := by decide +kernel
theorem s158_28 {v0 v1 v2 v3 : Value} {x : Int32} {im : IM} {rm : RM} : ev 158 28 [v0, v1, v2, v3] [.int x] im rm = some (some (.int x), im, rm) := ev_ireturn pm_m158 d158_28 rfl
theorem d158_29 : decode prog_10_method_56_code 29 = .ok (.aload_n 0, 1) := by decide +kernel
theorem s158_29 {v1 v2 v3 : Value} {l1 : Nat} {st : List Value} {im : IM} {rm : RM}  : ev 158 29 [.ref l1, v1, v2, v3] st im rm = ev 158 30 [.ref l1, v1, v2, v3] (.ref l1 :: st) (im) (rm) := ev_aload_n pm_m158 d158_29 rfl rfl
theorem d158_30 : decode prog_10_method_56_code 30 = .ok (.iload_n 1, 1) := by decide +kernel
theorem s158_30 {v0 v2 v3 : Value} {l1 : Int32} {st : List Value} {im : IM} {rm : RM}  : ev 158 30 [v0, .int l1, v2, v3] st im rm = ev 158 31 [v0, .int l1, v2, v3] (.int l1 :: st) (im) (rm) := ev_iload_n pm_m158 d158_30 rfl rfl
theorem d158_31 : decode prog_10_method_56_code 31 = .ok (.iload_n 2, 1) := by decide +kernel
theorem s158_31 {v0 v1 v3 : Value} {l1 : Int32} {st : List Value} {im : IM} {rm : RM}  : ev 158 31 [v0, v1, .int l1, v3] st im rm = ev 158 32 [v0, v1, .int l1, v3] (.int l1 :: st) (im) (rm) := ev_iload_n pm_m158 d158_31 rfl rfl
theorem d158_32 : decode prog_10_method_56_code 32 = .ok (.invokevirtual 263, 3) := by decide +kernel
theorem s158_32 {v0 v1 v2 v3 : Value} {a : Nat} {p1 : Int32} {p2 : Int32} {im : IM} {rm : RM} (hk : kd a = 18) : ev 158 32 [v0, v1, v2, v3] [.int p2, .int p1, .ref a] im rm = (ev 135 0 [.ref a, .int p1, .int p2, pm_u, pm_u, pm_u, pm_u, pm_u, pm_u] [] im rm).bind (fun r => ev 158 35 [v0, v1, v2, v3] (r.1.toList ++ []) r.2.1 r.2.2) := ev_callV pm_m158 d158_32 l8_263 rfl pm_m135 (by decide) hk rfl ⟨rfl, rfl⟩ rfl rfl
theorem d158_35 : decode prog_10_method_56_code 35 = .ok (.aload_n 0, 1) := by decide +kernel
theorem s158_35 {v1 v2 v3 : Value} {l1 : Nat} {st : List Value} {im : IM} {rm : RM}  : ev 158 35 [.ref l1, v1, v2, v3] st im rm = ev 158 36 [.ref l1, v1, v2, v3] (.ref l1 :: st) (im) (rm) := ev_aload_n pm_m158 d158_35 rfl rfl
theorem d158_36 : decode prog_10_method_56_code 36 = .ok (.getfield 246, 3) := by decide +kernel
theorem s158_36 {v0 v1 v2 v3 : Value} {a : Nat} {st : List Value} {im : IM} {rm : RM} (hk : kd a = 18) : ev 158 36 [v0, v1, v2, v3] (.ref a :: st) im rm = ev 158 39 [v0, v1, v2, v3] (.int (im a 41) :: st) (im) (rm) := ev_getI pm_m158 d158_36 f8_246 rfl hk rfl
theorem d158_39 : decode prog_10_method_56_code 39 = .ok (.ifCond .ne 9, 3) := by decide +kernel
theorem s158_39 {v0 v1 v2 v3 : Value} {x : Int32} {st : List Value} {im : IM} {rm : RM} : ev 158 39 [v0, v1, v2, v3] (.int x :: st) im rm = if x = nI 0 then ev 158 42 [v0, v1, v2, v3] st im rm else ev 158 48 [v0, pm_u, pm_u, pm_u] st im rm := ev_if_ne (y := 0) pm_m158 d158_39 rfl rfl rfl
theorem d158_42 : decode prog_10_method_56_code 42 = .ok (.sipush 9999, 3) := by decide +kernel
theorem s158_42 {v0 v1 v2 v3 : Value}  {st : List Value} {im : IM} {rm : RM}  : ev 158 42 [v0, v1, v2, v3] st im rm = ev 158 45 [v0, v1, v2, v3] (.int (nI 9999) :: st) (im) (rm) := ev_sipush pm_m158 d158_42 rfl rfl
theorem d158_45 : decode prog_10_method_56_code 45 = .ok (.goto 14, 3) := by decide +kernel
theorem s158_45 {v0 v1 v2 v3 : Value}  {st : List Value} {im : IM} {rm : RM}  : ev 158 45 [v0, v1, v2, v3] st im rm = ev 158 59 [pm_u, pm_u, pm_u, pm_u] st (im) (rm) := ev_goto pm_m158 d158_45 rfl rfl
theorem d158_48 : decode prog_10_method_56_code 48 = .ok (.aload_n 0, 1) := by decide +kernel
theorem s158_48 {v1 v2 v3 : Value} {l1 : Nat} {st : List Value} {im : IM} {rm : RM}  : ev 158 48 [.ref l1, v1, v2, v3] st im rm = ev 158 49 [.ref l1, v1, v2, v3] (.ref l1 :: st) (im) (rm) := ev_aload_n pm_m158 d158_48 rfl rfl
theorem d158_49 : decode prog_10_method_56_code 49 = .ok (.getfield 37, 3) := by decide +kernel
theorem s158_49 {v0 v1 v2 v3 : Value} {a : Nat} {st : List Value} {im : IM} {rm : RM} (hk : kd a = 18) : ev 158 49 [v0, v1, v2, v3] (.ref a :: st) im rm = ev 158 52 [v0, v1, v2, v3] (pm_ro (rm a 9) :: st) (im) (rm) := ev_getR pm_m158 d158_49 f8_37 rfl hk rfl
theorem d158_52 : decode prog_10_method_56_code 52 = .ok (.iconst 0, 1) := by decide +kernel
theorem s158_52 {v0 v1 v2 v3 : Value}  {st : List Value} {im : IM} {rm : RM}  : ev 158 52 [v0, v1, v2, v3] st im rm = ev 158 53 [v0, v1, v2, v3] (.int (nI 0) :: st) (im) (rm) := ev_iconst pm_m158 d158_52 rfl rfl
theorem d158_53 : decode prog_10_method_56_code 53 = .ok (.iaload, 1) := by decide +kernel
theorem s158_53 {v0 v1 v2 v3 : Value} {a : Nat} {i : Int32} {st : List Value} {im : IM} {rm : RM} (hk : kd a = 0) (hi : pm_in i (ln a) = true) : ev 158 53 [v0, v1, v2, v3] (.int i :: .ref a :: st) im rm = ev 158 54 [v0, v1, v2, v3] (.int (im a i.toNatClampNeg) :: st) (im) (rm) := ev_iald pm_m158 d158_53 hk hi rfl
theorem d158_54 : decode prog_10_method_56_code 54 = .ok (.aload_n 0, 1) := by decide +kernel
theorem s158_54 {v1 v2 v3 : Value} {l1 : Nat} {st : List Value} {im : IM} {rm : RM}  : ev 158 54 [.ref l1, v1, v2, v3] st im rm = ev 158 55 [.ref l1, v1, v2, v3] (.ref l1 :: st) (im) (rm) := ev_aload_n pm_m158 d158_54 rfl rfl
theorem d158_55 : decode prog_10_method_56_code 55 = .ok (.getfield 246, 3) := by decide +kernel
theorem s158_55 {v0 v1 v2 v3 : Value} {a : Nat} {st : List Value} {im : IM} {rm : RM} (hk : kd a = 18) : ev 158 55 [v0, v1, v2, v3] (.ref a :: st) im rm = ev 158 58 [v0, v1, v2, v3] (.int (im a 41) :: st) (im) (rm) := ev_getI pm_m158 d158_55 f8_246 rfl hk rfl
theorem d158_58 : decode prog_10_method_56_code 58 = .ok (.idiv, 1) := by decide +kernel
theorem s158_58 {v0 v1 v2 v3 : Value} {x : Int32} {y : Int32} {st : List Value} {im : IM} {rm : RM} (h0 : ¬ y = 0) : ev 158 58 [v0, v1, v2, v3] (.int y :: .int x :: st) im rm = ev 158 59 [pm_u, pm_u, pm_u, pm_u] (.int (x / y) :: st) (im) (rm) := ev_idiv pm_m158 d158_58 h0 rfl
theorem d158_59 : decode prog_10_method_56_code 59 = .ok (.istore_n 3, 1) := by decide +kernel
theorem s158_59 {v0 v1 v3 : Value} {x1 : Int32} {st : List Value} {im : IM} {rm : RM}  : ev 158 59 [v0, v1, pm_u, v3] (.int x1 :: st) im rm = ev 158 60 [v0, v1, pm_u, .int x1] st (im) (rm) := ev_istore_n pm_m158 d158_59 (Nat.le_of_ble_eq_true rfl) rfl rfl
theorem d158_60 : decode prog_10_method_56_code 60 = .ok (.iload_n 3, 1) := by decide +kernel
theorem s158_60 {v0 v1 v2 : Value} {l1 : Int32} {st : List Value} {im : IM} {rm : RM}  : ev 158 60 [v0, v1, v2, .int l1] st im rm = ev 158 61 [v0, v1, v2, .int l1] (.int l1 :: st) (im) (rm) := ev_iload_n pm_m158 d158_60 rfl rfl
theorem d158_61 : decode prog_10_method_56_code 61 = .ok (.sipush 9999, 3) := by decide +kernel
theorem s158_61 {v0 v1 v2 v3 : Value}  {st : List Value} {im : IM} {rm : RM}  : ev 158 61 [v0, v1, v2, v3] st im rm = ev 158 64 [v0, v1, v2, v3] (.int (nI 9999) :: st) (im) (rm) := ev_sipush pm_m158 d158_61 rfl rfl
theorem d158_64 : decode prog_10_method_56_code 64 = .ok (.if_icmp .le 9, 3) := by decide +kernel
theorem s158_64 {v0 v1 v2 v3 : Value} {x : Int32} {y : Int32} {st : List Value} {im : IM} {rm : RM} : ev 158 64 [v0, v1, v2, v3] (.int y :: .int x :: st) im rm = if x ≤ y then ev 158 73 [pm_u, pm_u, pm_u, v3] st im rm else ev 158 67 [v0, v1, v2, v3] st im rm := ev_icmp_le pm_m158 d158_64 rfl rfl rfl
theorem d158_67 : decode prog_10_method_56_code 67 = .ok (.sipush 9999, 3) := by decide +kernel
theorem s158_67 {v0 v1 v2 v3 : Value}  {st : List Value} {im : IM} {rm : RM}  : ev 158 67 [v0, v1, v2, v3] st im rm = ev 158 70 [v0, v1, v2, v3] (.int (nI 9999) :: st) (im) (rm) := ev_sipush pm_m158 d158_67 rfl rfl
theorem d158_70 : decode prog_10_method_56_code 70 = .ok (.goto 4, 3) := by decide +kernel
theorem s158_70 {v0 v1 v2 v3 : Value}  {st : List Value} {im : IM} {rm : RM}  : ev 158 70 [v0, v1, v2, v3] st im rm = ev 158 74 [pm_u, pm_u, pm_u, pm_u] st (im) (rm) := ev_goto pm_m158 d158_70 rfl rfl
theorem d158_73 : decode prog_10_method_56_code 73 = .ok (.iload_n 3, 1) := by decide +kernel
theorem s158_73 {v0 v1 v2 : Value} {l1 : Int32} {st : List Value} {im : IM} {rm : RM}  : ev 158 73 [v0, v1, v2, .int l1] st im rm = ev 158 74 [pm_u, pm_u, pm_u, pm_u] (.int l1 :: st) (im) (rm) := ev_iload_n pm_m158 d158_73 rfl rfl
theorem d158_74 : decode prog_10_method_56_code 74 = .ok (.ireturn, 1) := by decide +kernel
theorem s158_74 {v0 v1 v2 v3 : Value} {x : Int32} {im : IM} {rm : RM} : ev 158 74 [v0, v1, v2, v3] [.int x] im rm = some (some (.int x), im, rm) := ev_ireturn pm_m158 d158_74 rfl
theorem d159_0 : decode prog_10_method_57_code 0 = .ok (.iconst 0, 1) := by decide +kernel
theorem s159_0 {v0 v1 v2 v3 : Value}  {st : List Value} {im : IM} {rm : RM}  : ev 159 0 [v0, v1, v2, v3] st im rm = ev 159 1 [v0, v1, v2, v3] (.int (nI 0) :: st) (im) (rm) := ev_iconst pm_m159 d159_0 rfl rfl
theorem d159_1 : decode prog_10_method_57_code 1 = .ok (.istore_n 2, 1) := by decide +kernel
theorem s159_1 {v0 v2 v3 : Value} {l1 : Int32} {x2 : Int32} {st : List Value} {im : IM} {rm : RM}  : ev 159 1 [v0, .int l1, v2, v3] (.int x2 :: st) im rm = ev 159 2 [v0, .int l1, .int x2, v3] st (im) (rm) := ev_istore_n pm_m159 d159_1 (Nat.le_of_ble_eq_true rfl) rfl rfl
theorem d159_2 : decode prog_10_method_57_code 2 = .ok (.iconst 0, 1) := by decide +kernel
theorem s159_2 {v0 v1 v2 v3 : Value}  {st : List Value} {im : IM} {rm : RM}  : ev 159 2 [v0, v1, v2, v3] st im rm = ev 159 3 [v0, v1, v2, v3] (.int (nI 0) :: st) (im) (rm) := ev_iconst pm_m159 d159_2 rfl rfl
theorem d159_3 : decode prog_10_method_57_code 3 = .ok (.istore_n 3, 1) := by decide +kernel
theorem s159_3 {v0 v1 v3 : Value} {l1 : Int32} {x2 : Int32} {st : List Value} {im : IM} {rm : RM}  : ev 159 3 [v0, v1, .int l1, v3] (.int x2 :: st) im rm = ev 159 4 [v0, v1, .int l1, .int x2] st (im) (rm) := ev_istore_n pm_m159 d159_3 (Nat.le_of_ble_eq_true rfl) rfl rfl
theorem d159_4 : decode prog_10_method_57_code 4 = .ok (.iload_n 3, 1) := by decide +kernel
theorem s159_4 {v0 v1 v2 : Value} {l1 : Int32} {st : List Value} {im : IM} {rm : RM}  : ev 159 4 [v0, v1, v2, .int l1] st im rm = ev 159 5 [v0, v1, v2, .int l1] (.int l1 :: st) (im) (rm) := ev_iload_n pm_m159 d159_4 rfl rfl
theorem d159_5 : decode prog_10_method_57_code 5 = .ok (.bipush 6, 2) := by decide +kernel
theorem s159_5 {v0 v1 v2 v3 : Value}  {st : List Value} {im : IM} {rm : RM}  : ev 159 5 [v0, v1, v2, v3] st im rm = ev 159 7 [v0, v1, v2, v3] (.int (nI 6) :: st) (im) (rm) := ev_bipush pm_m159 d159_5 rfl rfl
theorem d159_7 : decode prog_10_method_57_code 7 = .ok (.if_icmp .ge 32, 3) := by decide +kernel
theorem s159_7 {v0 v1 v2 v3 : Value} {x : Int32} {y : Int32} {st : List Value} {im : IM} {rm : RM} : ev 159 7 [v0, v1, v2, v3] (.int y :: .int x :: st) im rm = if y ≤ x then ev 159 39 [pm_u, pm_u, v2, pm_u] st im rm else ev 159 10 [v0, v1, v2, v3] st im rm := ev_icmp_ge pm_m159 d159_7 rfl rfl rfl
theorem d159_10 : decode prog_10_method_57_code 10 = .ok (.aload_n 0, 1) := by decide +kernel
theorem s159_10 {v1 v2 v3 : Value} {l1 : Nat} {st : List Value} {im : IM} {rm : RM}  : ev 159 10 [.ref l1, v1, v2, v3] st im rm = ev 159 11 [.ref l1, v1, v2, v3] (.ref l1 :: st) (im) (rm) := ev_aload_n pm_m159 d159_10 rfl rfl
theorem d159_11 : decode prog_10_method_57_code 11 = .ok (.getfield 7, 3) := by decide +kernel
theorem s159_11 {v0 v1 v2 v3 : Value} {a : Nat} {st : List Value} {im : IM} {rm : RM} (hk : kd a = 18) : ev 159 11 [v0, v1, v2, v3] (.ref a :: st) im rm = ev 159 14 [v0, v1, v2, v3] (pm_ro (rm a 0) :: st) (im) (rm) := ev_getR pm_m159 d159_11 f8_7 rfl hk rfl
theorem d159_14 : decode prog_10_method_57_code 14 = .ok (.iload_n 3, 1) := by decide +kernel
theorem s159_14 {v0 v1 v2 : Value} {l1 : Int32} {st : List Value} {im : IM} {rm : RM}  : ev 159 14 [v0, v1, v2, .int l1] st im rm = ev 159 15 [v0, v1, v2, .int l1] (.int l1 :: st) (im) (rm) := ev_iload_n pm_m159 d159_14 rfl rfl
theorem d159_15 : decode prog_10_method_57_code 15 = .ok (.iaload, 1) := by decide +kernel
theorem s159_15 {v0 v1 v2 v3 : Value} {a : Nat} {i : Int32} {st : List Value} {im : IM} {rm : RM} (hk : kd a = 0) (hi : pm_in i (ln a) = true) : ev 159 15 [v0, v1, v2, v3] (.int i :: .ref a :: st) im rm = ev 159 16 [v0, v1, v2, v3] (.int (im a i.toNatClampNeg) :: st) (im) (rm) := ev_iald pm_m159 d159_15 hk hi rfl
theorem d159_16 : decode prog_10_method_57_code 16 = .ok (.iconst 1, 1) := by decide +kernel
theorem s159_16 {v0 v1 v2 v3 : Value}  {st : List Value} {im : IM} {rm : RM}  : ev 159 16 [v0, v1, v2, v3] st im rm = ev 159 17 [v0, v1, v2, v3] (.int (nI 1) :: st) (im) (rm) := ev_iconst pm_m159 d159_16 rfl rfl
theorem d159_17 : decode prog_10_method_57_code 17 = .ok (.if_icmp .ne 16, 3) := by decide +kernel
theorem s159_17 {v0 v1 v2 v3 : Value} {x : Int32} {y : Int32} {st : List Value} {im : IM} {rm : RM} : ev 159 17 [v0, v1, v2, v3] (.int y :: .int x :: st) im rm = if x = y then ev 159 20 [v0, v1, v2, v3] st im rm else ev 159 33 [v0, v1, v2, v3] st im rm := ev_icmp_ne pm_m159 d159_17 rfl rfl rfl
theorem d159_20 : decode prog_10_method_57_code 20 = .ok (.aload_n 0, 1) := by decide +kernel
theorem s159_20 {v1 v2 v3 : Value} {l1 : Nat} {st : List Value} {im : IM} {rm : RM}  : ev 159 20 [.ref l1, v1, v2, v3] st im rm = ev 159 21 [.ref l1, v1, v2, v3] (.ref l1 :: st) (im) (rm) := ev_aload_n pm_m159 d159_20 rfl rfl
theorem d159_21 : decode prog_10_method_57_code 21 = .ok (.iload_n 1, 1) := by decide +kernel
theorem s159_21 {v0 v2 v3 : Value} {l1 : Int32} {st : List Value} {im : IM} {rm : RM}  : ev 159 21 [v0, .int l1, v2, v3] st im rm = ev 159 22 [v0, .int l1, v2, v3] (.int l1 :: st) (im) (rm) := ev_iload_n pm_m159 d159_21 rfl rfl
theorem d159_22 : decode prog_10_method_57_code 22 = .ok (.iload_n 3, 1) := by decide +kernel
theorem s159_22 {v0 v1 v2 : Value} {l1 : Int32} {st : List Value} {im : IM} {rm : RM}  : ev 159 22 [v0, v1, v2, .int l1] st im rm = ev 159 23 [v0, v1, v2, .int l1] (.int l1 :: st) (im) (rm) := ev_iload_n pm_m159 d159_22 rfl rfl
theorem d159_23 : decode prog_10_method_57_code 23 = .ok (.invokevirtual 263, 3) := by decide +kernel
theorem s159_23 {v0 v1 v2 v3 : Value} {a : Nat} {p1 : Int32} {p2 : Int32} {im : IM} {rm : RM} (hk : kd a = 18) : ev 159 23 [v0, v1, v2, v3] [.int p2, .int p1, .ref a] im rm = (ev 135 0 [.ref a, .int p1, .int p2, pm_u, pm_u, pm_u, pm_u, pm_u, pm_u] [] im rm).bind (fun r => ev 159 26 [v0, v1, v2, v3] (r.1.toList ++ []) r.2.1 r.2.2) := ev_callV pm_m159 d159_23 l8_263 rfl pm_m135 (by decide) hk rfl ⟨rfl, rfl⟩ rfl rfl
theorem d159_26 : decode prog_10_method_57_code 26 = .ok (.iload_n 2, 1) := by decide +kernel
theorem s159_26 {v0 v1 v3 : Value} {l1 : Int32} {st : List Value} {im : IM} {rm : RM}  : ev 159 26 [v0, v1, .int l1, v3] st im rm = ev 159 27 [v0, v1, .int l1, v3] (.int l1 :: st) (im) (rm) := ev_iload_n pm_m159 d159_26 rfl rfl
theorem d159_27 : decode prog_10_method_57_code 27 = .ok (.aload_n 0, 1) := by decide +kernel
theorem s159_27 {v1 v2 v3 : Value} {l1 : Nat} {st : List Value} {im : IM} {rm : RM}  : ev 159 27 [.ref l1, v1, v2, v3] st im rm = ev 159 28 [.ref l1, v1, v2, v3] (.ref l1 :: st) (im) (rm) := ev_aload_n pm_m159 d159_27 rfl rfl
theorem d159_28 : decode prog_10_method_57_code 28 = .ok (.getfield 246, 3) := by decide +kernel
theorem s159_28 {v0 v1 v2 v3 : Value} {a : Nat} {st : List Value} {im : IM} {rm : RM} (hk : kd a = 18) : ev 159 28 [v0, v1, v2, v3] (.ref a :: st) im rm = ev 159 31 [v0, v1, v2, v3] (.int (im a 41) :: st) (im) (rm) := ev_getI pm_m159 d159_28 f8_246 rfl hk rfl
theorem d159_31 : decode prog_10_method_57_code 31 = .ok (.iadd, 1) := by decide +kernel
theorem s159_31 {v0 v1 v2 v3 : Value} {x : Int32} {y : Int32} {st : List Value} {im : IM} {rm : RM}  : ev 159 31 [v0, v1, v2, v3] (.int y :: .int x :: st) im rm = ev 159 32 [v0, v1, v2, v3] (.int (x + y) :: st) (im) (rm) := ev_iadd pm_m159 d159_31 rfl
theorem d159_32 : decode prog_10_method_57_code 32 = .ok (.istore_n 2, 1) := by decide +kernel
theorem s159_32 {v0 v2 v3 : Value} {l1 : Int32} {x2 : Int32} {st : List Value} {im : IM} {rm : RM}  : ev 159 32 [v0, .int l1, v2, v3] (.int x2 :: st) im rm = ev 159 33 [v0, .int l1, .int x2, v3] st (im) (rm) := ev_istore_n pm_m159 d159_32 (Nat.le_of_ble_eq_true rfl) rfl rfl
theorem d159_33 : decode prog_10_method_57_code 33 = .ok (.iinc 3 1, 3) := by decide +kernel
theorem s159_33 {v0 v1 : Value} {l1 : Int32} {l2 : Int32} {st : List Value} {im : IM} {rm : RM}  : ev 159 33 [v0, v1, .int l1, .int l2] st im rm = ev 159 36 [v0, v1, .int l1, .int (l2 + nI 1)] st (im) (rm) := ev_iinc pm_m159 d159_33 rfl rfl rfl rfl
theorem d159_36 : decode prog_10_method_57_code 36 = .ok (.goto (-32), 3) := by decide +kernel
theorem s159_36 {v0 v1 v2 v3 : Value}  {st : List Value} {im : IM} {rm : RM}  : ev 159 36 [v0, v1, v2, v3] st im rm = ev 159 4 [v0, v1, v2, v3] st (im) (rm) := ev_goto pm_m159 d159_36 rfl rfl
theorem d159_39 : decode prog_10_method_57_code 39 = .ok (.iload_n 2, 1) := by decide +kernel
theorem s159_39 {v0 v1 v3 : Value} {l1 : Int32} {st : List Value} {im : IM} {rm : RM}  : ev 159 39 [v0, v1, .int l1, v3] st im rm = ev 159 40 [v0, v1, .int l1, v3] (.int l1 :: st) (im) (rm) := ev_iload_n pm_m159 d159_39 rfl rfl
theorem d159_40 : decode prog_10_method_57_code 40 = .ok (.ireturn, 1) := by decide +kernel
theorem s159_40 {v0 v1 v2 v3 : Value} {x : Int32} {im : IM} {rm : RM} : ev 159 40 [v0, v1, v2, v3] [.int x] im rm = some (some (.int x), im, rm) := ev_ireturn pm_m159 d159_40 rfl
theorem d160_0 : decode prog_10_method_58_code 0 = .ok (.iload_n 1, 1) := by decide +kernel
theorem s160_0 {v0 v2 : Value} {l1 : Int32} {st : List Value} {im : IM} {rm : RM}  : ev 160 0 [v0, .int l1, v2] st im rm = ev 160 1 [v0, .int l1, v2] (.int l1 :: st) (im) (rm) := ev_iload_n pm_m160 d160_0 rfl rfl
theorem d160_1 : decode prog_10_method_58_code 1 = .ok (.invokestatic 130, 3) := by decide +kernel
theorem s160_1 {v0 v1 v2 : Value} {p1 : Int32} {im : IM} {rm : RM}  : ev 160 1 [v0, v1, v2] [.int p1] im rm = (ev 106 0 [.int p1] [] im rm).bind (fun r => ev 160 4 [v0, v1, v2] (r.1.toList ++ []) r.2.1 r.2.2) := ev_callS pm_m160 d160_1 (by decide) l8_130 rfl pm_m106 rfl ⟨rfl, rfl⟩ rfl rfl
theorem d160_4 : decode prog_10_method_58_code 4 = .ok (.ifCond .eq 24, 3) := by decide +kernel
theorem s160_4 {v0 v1 v2 : Value} {x : Int32} {st : List Value} {im : IM} {rm : RM} : ev 160 4 [v0, v1, v2] (.int x :: st) im rm = if x = nI 0 then ev 160 28 [pm_u, pm_u, pm_u] st im rm else ev 160 7 [v0, v1, v2] st im rm := ev_if_eq (y := 0) pm_m160 d160_4 rfl rfl rfl
theorem d160_7 : decode prog_10_method_58_code 7 = .ok (.iload_n 2, 1) := by decide +kernel
theorem s160_7 {v0 v1 : Value} {l1 : Int32} {st : List Value} {im : IM} {rm : RM}  : ev 160 7 [v0, v1, .int l1] st im rm = ev 160 8 [v0, v1, .int l1] (.int l1 :: st) (im) (rm) := ev_iload_n pm_m160 d160_7 rfl rfl
theorem d160_8 : decode prog_10_method_58_code 8 = .ok (.invokestatic 130, 3) := by decide +kernel
theorem s160_8 {v0 v1 v2 : Value} {p1 : Int32} {im : IM} {rm : RM}  : ev 160 8 [v0, v1, v2] [.int p1] im rm = (ev 106 0 [.int p1] [] im rm).bind (fun r => ev 160 11 [v0, v1, v2] (r.1.toList ++ []) r.2.1 r.2.2) := ev_callS pm_m160 d160_8 (by decide) l8_130 rfl pm_m106 rfl ⟨rfl, rfl⟩ rfl rfl
theorem d160_11 : decode prog_10_method_58_code 11 = .ok (.ifCond .eq 17, 3) := by decide +kernel
theorem s160_11 {v0 v1 v2 : Value} {x : Int32} {st : List Value} {im : IM} {rm : RM} : ev 160 11 [v0, v1, v2] (.int x :: st) im rm = if x = nI 0 then ev 160 28 [pm_u, pm_u, pm_u] st im rm else ev 160 14 [v0, v1, v2] st im rm := ev_if_eq (y := 0) pm_m160 d160_11 rfl rfl rfl
theorem d160_14 : decode prog_10_method_58_code 14 = .ok (.aload_n 0, 1) := by decide +kernel
theorem s160_14 {v1 v2 : Value} {l1 : Nat} {st : List Value} {im : IM} {rm : RM}  : ev 160 14 [.ref l1, v1, v2] st im rm = ev 160 15 [.ref l1, v1, v2] (.ref l1 :: st) (im) (rm) := ev_aload_n pm_m160 d160_14 rfl rfl
theorem d160_15 : decode prog_10_method_58_code 15 = .ok (.iload_n 2, 1) := by decide +kernel
theorem s160_15 {v0 v1 : Value} {l1 : Int32} {st : List Value} {im : IM} {rm : RM}  : ev 160 15 [v0, v1, .int l1] st im rm = ev 160 16 [v0, v1, .int l1] (.int l1 :: st) (im) (rm) := ev_iload_n pm_m160 d160_15 rfl rfl
theorem d160_16 : decode prog_10_method_58_code 16 = .ok (.invokevirtual 318, 3) := by decide +kernel
theorem s160_16 {v0 v1 v2 : Value} {a : Nat} {p1 : Int32} {im : IM} {rm : RM} (hk : kd a = 18) : ev 160 16 [v0, v1, v2] [.int p1, .ref a] im rm = (ev 159 0 [.ref a, .int p1, pm_u, pm_u] [] im rm).bind (fun r => ev 160 19 [v0, v1, v2] (r.1.toList ++ []) r.2.1 r.2.2) := ev_callV pm_m160 d160_16 l8_318 rfl pm_m159 (by decide) hk rfl ⟨rfl, rfl⟩ rfl rfl
theorem d160_19 : decode prog_10_method_58_code 19 = .ok (.aload_n 0, 1) := by decide +kernel
theorem s160_19 {v1 v2 : Value} {l1 : Nat} {st : List Value} {im : IM} {rm : RM}  : ev 160 19 [.ref l1, v1, v2] st im rm = ev 160 20 [.ref l1, v1, v2] (.ref l1 :: st) (im) (rm) := ev_aload_n pm_m160 d160_19 rfl rfl
theorem d160_20 : decode prog_10_method_58_code 20 = .ok (.iload_n 1, 1) := by decide +kernel
theorem s160_20 {v0 v2 : Value} {l1 : Int32} {st : List Value} {im : IM} {rm : RM}  : ev 160 20 [v0, .int l1, v2] st im rm = ev 160 21 [v0, .int l1, v2] (.int l1 :: st) (im) (rm) := ev_iload_n pm_m160 d160_20 rfl rfl
theorem d160_21 : decode prog_10_method_58_code 21 = .ok (.invokevirtual 318, 3) := by decide +kernel
theorem s160_21 {v0 v1 v2 : Value} {a : Nat} {p1 : Int32} {r2 : Int32} {im : IM} {rm : RM} (hk : kd a = 18) : ev 160 21 [v0, v1, v2] [.int p1, .ref a, .int r2] im rm = (ev 159 0 [.ref a, .int p1, pm_u, pm_u] [] im rm).bind (fun r => ev 160 24 [v0, v1, v2] (r.1.toList ++ [.int r2]) r.2.1 r.2.2) := ev_callV pm_m160 d160_21 l8_318 rfl pm_m159 (by decide) hk rfl ⟨rfl, rfl⟩ rfl rfl
theorem d160_24 : decode prog_10_method_58_code 24 = .ok (.isub, 1) := by decide +kernel
theorem s160_24 {v0 v1 v2 : Value} {x : Int32} {y : Int32} {st : List Value} {im : IM} {rm : RM}  : ev 160 24 [v0, v1, v2] (.int y :: .int x :: st) im rm = ev 160 25 [v0, v1, v2] (.int (x - y) :: st) (im) (rm) := ev_isub pm_m160 d160_24 rfl
theorem d160_25 : decode prog_10_method_58_code 25 = .ok (.goto 6, 3) := by decide +kernel
theorem s160_25 {v0 v1 v2 : Value}  {st : List Value} {im : IM} {rm : RM}  : ev 160 25 [v0, v1, v2] st im rm = ev 160 31 [pm_u, pm_u, pm_u] st (im) (rm) := ev_goto pm_m160 d160_25 rfl rfl
theorem d160_28 : decode prog_10_method_58_code 28 = .ok (.ldc_w 321, 3) := by decide +kernel
theorem s160_28 {v0 v1 v2 : Value}  {st : List Value} {im : IM} {rm : RM}  : ev 160 28 [v0, v1, v2] st im rm = ev 160 31 [pm_u, pm_u, pm_u] (.int ((-2147483648 : Int32)) :: st) (im) (rm) := ev_ldcw pm_m160 d160_28 (by decide +kernel) rfl
theorem d160_31 : decode prog_10_method_58_code 31 = .ok (.ireturn, 1) := by decide +kernel
theorem s160_31 {v0 v1 v2 : Value} {x : Int32} {im : IM} {rm : RM} : ev 160 31 [v0, v1, v2] [.int x] im rm = some (some (.int x), im, rm) := ev_ireturn pm_m160 d160_31 rfl
theorem d161_0 : decode prog_10_method_59_code 0 = .ok (.iload_n 1, 1) := by decide +kernel
theorem s161_0 {v0 v2 v3 v4 : Value} {l1 : Int32} {st : List Value} {im : IM} {rm : RM}  : ev 161 0 [v0, .int l1, v2, v3, v4] st im rm = ev 161 1 [v0, .int l1, v2, v3, v4] (.int l1 :: st) (im) (rm) := ev_iload_n pm_m161 d161_0 rfl rfl
theorem d161_1 : decode prog_10_method_59_code 1 = .ok (.invokestatic 130, 3) := by decide +kernel
theorem s161_1 {v0 v1 v2 v3 v4 : Value} {p1 : Int32} {im : IM} {rm : RM}  : ev 161 1 [v0, v1, v2, v3, v4] [.int p1] im rm = (ev 106 0 [.int p1] [] im rm).bind (fun r => ev 161 4 [v0, v1, v2, v3, v4] (r.1.toList ++ []) r.2.1 r.2.2) := ev_callS pm_m161 d161_1 (by decide) l8_130 rfl pm_m106 rfl ⟨rfl, rfl⟩ rfl rfl
theorem d161_4 : decode prog_10_method_59_code 4 = .ok (.ifCond .ne 6, 3) := by decide +kernel
theorem s161_4 {v0 v1 v2 v3 v4 : Value} {x : Int32} {st : List Value} {im : IM} {rm : RM} : ev 161 4 [v0, v1, v2, v3, v4] (.int x :: st) im rm = if x = nI 0 then ev 161 7 [v0, v1, v2, v3, v4] st im rm else ev 161 10 [v0, v1, v2, v3, pm_u] st im rm := ev_if_ne (y := 0) pm_m161 d161_4 rfl rfl rfl
theorem d161_7 : decode prog_10_method_59_code 7 = .ok (.bipush (-2), 2) := by decide +kernel
theorem s161_7 {v0 v1 v2 v3 v4 : Value}  {st : List Value} {im : IM} {rm : RM}  : ev 161 7 [v0, v1, v2, v3, v4] st im rm = ev 161 9 [v0, v1, v2, v3, v4] (.int ((-2 : Int32)) :: st) (im) (rm) := ev_bipush pm_m161 d161_7 rfl rfl
theorem d161_9 : decode prog_10_method_59_code 9 = .ok (.ireturn, 1) := by decide +kernel
theorem s161_9 {v0 v1 v2 v3 v4 : Value} {x : Int32} {im : IM} {rm : RM} : ev 161 9 [v0, v1, v2, v3, v4] [.int x] im rm = some (some (.int x), im, rm) := ev_ireturn pm_m161 d161_9 rfl
theorem d161_10 : decode prog_10_method_59_code 10 = .ok (.iload_n 2, 1) := by decide +kernel
theorem s161_10 {v0 v1 v3 v4 : Value} {l1 : Int32} {st : List Value} {im : IM} {rm : RM}  : ev 161 10 [v0, v1, .int l1, v3, v4] st im rm = ev 161 11 [v0, v1, .int l1, v3, v4] (.int l1 :: st) (im) (rm) := ev_iload_n pm_m161 d161_10 rfl rfl
theorem d161_11 : decode prog_10_method_59_code 11 = .ok (.i2l, 1) := by decide +kernel
theorem s161_11 {v0 v1 v2 v3 v4 : Value} {x : Int32} {st : List Value} {im : IM} {rm : RM}  : ev 161 11 [v0, v1, v2, v3, v4] (.int x :: st) im rm = ev 161 12 [v0, v1, v2, v3, v4] (.long x.toInt64 :: st) (im) (rm) := ev_i2l pm_m161 d161_11 rfl
theorem d161_12 : decode prog_10_method_59_code 12 = .ok (.lconst 0, 1) := by decide +kernel
theorem s161_12 {v0 v1 v2 v3 v4 : Value}  {st : List Value} {im : IM} {rm : RM}  : ev 161 12 [v0, v1, v2, v3, v4] st im rm = ev 161 13 [v0, v1, v2, v3, v4] (.long (lN 0) :: st) (im) (rm) := ev_lconst pm_m161 d161_12 rfl rfl
theorem d161_13 : decode prog_10_method_59_code 13 = .ok (.lconst 1, 1) := by decide +kernel
theorem s161_13 {v0 v1 v2 v3 v4 : Value}  {st : List Value} {im : IM} {rm : RM}  : ev 161 13 [v0, v1, v2, v3, v4] st im rm = ev 161 14 [v0, v1, v2, v3, v4] (.long (lN 1) :: st) (im) (rm) := ev_lconst pm_m161 d161_13 rfl rfl
theorem d161_14 : decode prog_10_method_59_code 14 = .ok (.invokestatic 120, 3) := by decide +kernel
theorem s161_14 {v0 v1 v2 v3 v4 : Value} {p1 : Int64} {p2 : Int64} {p3 : Int64} {im : IM} {rm : RM}  : ev 161 14 [v0, v1, v2, v3, v4] [.long p3, .long p2, .long p1] im rm = (ev 104 0 [.long p1, pm_u, .long p2, pm_u, .long p3, pm_u] [] im rm).bind (fun r => ev 161 17 [v0, v1, v2, v3, v4] (r.1.toList ++ []) r.2.1 r.2.2) := ev_callS pm_m161 d161_14 (by decide) l8_120 rfl pm_m104 rfl ⟨rfl, rfl⟩ rfl rfl
theorem d161_17 : decode prog_10_method_59_code 17 = .ok (.ifCond .eq 25, 3) := by decide +kernel
theorem s161_17 {v0 v1 v2 v3 v4 : Value} {x : Int32} {st : List Value} {im : IM} {rm : RM} : ev 161 17 [v0, v1, v2, v3, v4] (.int x :: st) im rm = if x = nI 0 then ev 161 42 [pm_u, pm_u, pm_u, pm_u, pm_u] st im rm else ev 161 20 [v0, v1, v2, v3, v4] st im rm := ev_if_eq (y := 0) pm_m161 d161_17 rfl rfl rfl
theorem d161_20 : decode prog_10_method_59_code 20 = .ok (.iload_n 3, 1) := by decide +kernel
theorem s161_20 {v0 v1 v2 v4 : Value} {l1 : Int32} {st : List Value} {im : IM} {rm : RM}  : ev 161 20 [v0, v1, v2, .int l1, v4] st im rm = ev 161 21 [v0, v1, v2, .int l1, v4] (.int l1 :: st) (im) (rm) := ev_iload_n pm_m161 d161_20 rfl rfl
theorem d161_21 : decode prog_10_method_59_code 21 = .ok (.i2l, 1) := by decide +kernel
theorem s161_21 {v0 v1 v2 v3 v4 : Value} {x : Int32} {st : List Value} {im : IM} {rm : RM}  : ev 161 21 [v0, v1, v2, v3, v4] (.int x :: st) im rm = ev 161 22 [v0, v1, v2, v3, v4] (.long x.toInt64 :: st) (im) (rm) := ev_i2l pm_m161 d161_21 rfl
theorem d161_22 : decode prog_10_method_59_code 22 = .ok (.lconst 0, 1) := by decide +kernel
theorem s161_22 {v0 v1 v2 v3 v4 : Value}  {st : List Value} {im : IM} {rm : RM}  : ev 161 22 [v0, v1, v2, v3, v4] st im rm = ev 161 23 [v0, v1, v2, v3, v4] (.long (lN 0) :: st) (im) (rm) := ev_lconst pm_m161 d161_22 rfl rfl
theorem d161_23 : decode prog_10_method_59_code 23 = .ok (.iload_n 2, 1) := by decide +kernel
theorem s161_23 {v0 v1 v3 v4 : Value} {l1 : Int32} {st : List Value} {im : IM} {rm : RM}  : ev 161 23 [v0, v1, .int l1, v3, v4] st im rm = ev 161 24 [v0, v1, .int l1, v3, v4] (.int l1 :: st) (im) (rm) := ev_iload_n pm_m161 d161_23 rfl rfl
theorem d161_24 : decode prog_10_method_59_code 24 = .ok (.ifCond .ne 9, 3) := by decide +kernel
theorem s161_24 {v0 v1 v2 v3 v4 : Value} {x : Int32} {st : List Value} {im : IM} {rm : RM} : ev 161 24 [v0, v1, v2, v3, v4] (.int x :: st) im rm = if x = nI 0 then ev 161 27 [v0, v1, v2, v3, v4] st im rm else ev 161 33 [v0, v1, v2, v3, pm_u] st im rm := ev_if_ne (y := 0) pm_m161 d161_24 rfl rfl rfl
theorem d161_27 : decode prog_10_method_59_code 27 = .ok (.ldc2_w 147, 3) := by decide +kernel
theorem s161_27 {v0 v1 v2 v3 v4 : Value}  {st : List Value} {im : IM} {rm : RM}  : ev 161 27 [v0, v1, v2, v3, v4] st im rm = ev 161 30 [v0, v1, v2, v3, v4] (.long (lN 9999) :: st) (im) (rm) := ev_ldc2 pm_m161 d161_27 (by decide +kernel) rfl
theorem d161_30 : decode prog_10_method_59_code 30 = .ok (.goto 6, 3) := by decide +kernel
theorem s161_30 {v0 v1 v2 v3 v4 : Value}  {st : List Value} {im : IM} {rm : RM}  : ev 161 30 [v0, v1, v2, v3, v4] st im rm = ev 161 36 [v0, v1, v2, v3, pm_u] st (im) (rm) := ev_goto pm_m161 d161_30 rfl rfl
theorem d161_33 : decode prog_10_method_59_code 33 = .ok (.ldc2_w 149, 3) := by decide +kernel
theorem s161_33 {v0 v1 v2 v3 v4 : Value}  {st : List Value} {im : IM} {rm : RM}  : ev 161 33 [v0, v1, v2, v3, v4] st im rm = ev 161 36 [v0, v1, v2, v3, pm_u] (.long (lN 999) :: st) (im) (rm) := ev_ldc2 pm_m161 d161_33 (by decide +kernel) rfl
theorem d161_36 : decode prog_10_method_59_code 36 = .ok (.invokestatic 120, 3) := by decide +kernel
theorem s161_36 {v0 v1 v2 v3 v4 : Value} {p1 : Int64} {p2 : Int64} {p3 : Int64} {im : IM} {rm : RM}  : ev 161 36 [v0, v1, v2, v3, v4] [.long p3, .long p2, .long p1] im rm = (ev 104 0 [.long p1, pm_u, .long p2, pm_u, .long p3, pm_u] [] im rm).bind (fun r => ev 161 39 [v0, v1, v2, v3, v4] (r.1.toList ++ []) r.2.1 r.2.2) := ev_callS pm_m161 d161_36 (by decide) l8_120 rfl pm_m104 rfl ⟨rfl, rfl⟩ rfl rfl
theorem d161_39 : decode prog_10_method_59_code 39 = .ok (.ifCond .ne 6, 3) := by decide +kernel
theorem s161_39 {v0 v1 v2 v3 v4 : Value} {x : Int32} {st : List Value} {im : IM} {rm : RM} : ev 161 39 [v0, v1, v2, v3, v4] (.int x :: st) im rm = if x = nI 0 then ev 161 42 [pm_u, pm_u, pm_u, pm_u, pm_u] st im rm else ev 161 45 [v0, v1, v2, v3, pm_u] st im rm := ev_if_ne (y := 0) pm_m161 d161_39 rfl rfl rfl
theorem d161_42 : decode prog_10_method_59_code 42 = .ok (.bipush (-3), 2) := by decide +kernel
theorem s161_42 {v0 v1 v2 v3 v4 : Value}  {st : List Value} {im : IM} {rm : RM}  : ev 161 42 [v0, v1, v2, v3, v4] st im rm = ev 161 44 [v0, v1, v2, v3, v4] (.int ((-3 : Int32)) :: st) (im) (rm) := ev_bipush pm_m161 d161_42 rfl rfl
theorem d161_44 : decode prog_10_method_59_code 44 = .ok (.ireturn, 1) := by decide +kernel
theorem s161_44 {v0 v1 v2 v3 v4 : Value} {x : Int32} {im : IM} {rm : RM} : ev 161 44 [v0, v1, v2, v3, v4] [.int x] im rm = some (some (.int x), im, rm) := ev_ireturn pm_m161 d161_44 rfl
theorem d161_45 : decode prog_10_method_59_code 45 = .ok (.iload_n 2, 1) := by decide +kernel
theorem s161_45 {v0 v1 v3 v4 : Value} {l1 : Int32} {st : List Value} {im : IM} {rm : RM}  : ev 161 45 [v0, v1, .int l1, v3, v4] st im rm = ev 161 46 [v0, v1, .int l1, v3, v4] (.int l1 :: st) (im) (rm) := ev_iload_n pm_m161 d161_45 rfl rfl
theorem d161_46 : decode prog_10_method_59_code 46 = .ok (.ifCond .ne 12, 3) := by decide +kernel
theorem s161_46 {v0 v1 v2 v3 v4 : Value} {x : Int32} {st : List Value} {im : IM} {rm : RM} : ev 161 46 [v0, v1, v2, v3, v4] (.int x :: st) im rm = if x = nI 0 then ev 161 49 [v0, v1, v2, v3, v4] st im rm else ev 161 58 [v0, v1, v2, v3, pm_u] st im rm := ev_if_ne (y := 0) pm_m161 d161_46 rfl rfl rfl
theorem d161_49 : decode prog_10_method_59_code 49 = .ok (.aload_n 0, 1) := by decide +kernel
theorem s161_49 {v1 v2 v3 v4 : Value} {l1 : Nat} {st : List Value} {im : IM} {rm : RM}  : ev 161 49 [.ref l1, v1, v2, v3, v4] st im rm = ev 161 50 [.ref l1, v1, v2, v3, v4] (.ref l1 :: st) (im) (rm) := ev_aload_n pm_m161 d161_49 rfl rfl
theorem d161_50 : decode prog_10_method_59_code 50 = .ok (.getfield 79, 3) := by decide +kernel
theorem s161_50 {v0 v1 v2 v3 v4 : Value} {a : Nat} {st : List Value} {im : IM} {rm : RM} (hk : kd a = 18) : ev 161 50 [v0, v1, v2, v3, v4] (.ref a :: st) im rm = ev 161 53 [v0, v1, v2, v3, v4] (pm_ro (rm a 25) :: st) (im) (rm) := ev_getR pm_m161 d161_50 f8_79 rfl hk rfl
theorem d161_53 : decode prog_10_method_59_code 53 = .ok (.iload_n 1, 1) := by decide +kernel
theorem s161_53 {v0 v2 v3 v4 : Value} {l1 : Int32} {st : List Value} {im : IM} {rm : RM}  : ev 161 53 [v0, .int l1, v2, v3, v4] st im rm = ev 161 54 [v0, .int l1, v2, v3, v4] (.int l1 :: st) (im) (rm) := ev_iload_n pm_m161 d161_53 rfl rfl
theorem d161_54 : decode prog_10_method_59_code 54 = .ok (.iaload, 1) := by decide +kernel
theorem s161_54 {v0 v1 v2 v3 v4 : Value} {a : Nat} {i : Int32} {st : List Value} {im : IM} {rm : RM} (hk : kd a = 0) (hi : pm_in i (ln a) = true) : ev 161 54 [v0, v1, v2, v3, v4] (.int i :: .ref a :: st) im rm = ev 161 55 [v0, v1, v2, v3, v4] (.int (im a i.toNatClampNeg) :: st) (im) (rm) := ev_iald pm_m161 d161_54 hk hi rfl
theorem d161_55 : decode prog_10_method_59_code 55 = .ok (.goto 9, 3) := by decide +kernel
theorem s161_55 {v0 v1 v2 v3 v4 : Value}  {st : List Value} {im : IM} {rm : RM}  : ev 161 55 [v0, v1, v2, v3, v4] st im rm = ev 161 64 [v0, v1, v2, v3, pm_u] st (im) (rm) := ev_goto pm_m161 d161_55 rfl rfl
theorem d161_58 : decode prog_10_method_59_code 58 = .ok (.aload_n 0, 1) := by decide +kernel
theorem s161_58 {v1 v2 v3 v4 : Value} {l1 : Nat} {st : List Value} {im : IM} {rm : RM}  : ev 161 58 [.ref l1, v1, v2, v3, v4] st im rm = ev 161 59 [.ref l1, v1, v2, v3, v4] (.ref l1 :: st) (im) (rm) := ev_aload_n pm_m161 d161_58 rfl rfl
theorem d161_59 : decode prog_10_method_59_code 59 = .ok (.getfield 82, 3) := by decide +kernel
theorem s161_59 {v0 v1 v2 v3 v4 : Value} {a : Nat} {st : List Value} {im : IM} {rm : RM} (hk : kd a = 18) : ev 161 59 [v0, v1, v2, v3, v4] (.ref a :: st) im rm = ev 161 62 [v0, v1, v2, v3, v4] (pm_ro (rm a 26) :: st) (im) (rm) := ev_getR pm_m161 d161_59 f8_82 rfl hk rfl
theorem d161_62 : decode prog_10_method_59_code 62 = .ok (.iload_n 1, 1) := by decide +kernel
theorem s161_62 {v0 v2 v3 v4 : Value} {l1 : Int32} {st : List Value} {im : IM} {rm : RM}  : ev 161 62 [v0, .int l1, v2, v3, v4] st im rm = ev 161 63 [v0, .int l1, v2, v3, v4] (.int l1 :: st) (im) (rm) := ev_iload_n pm_m161 d161_62 rfl rfl
theorem d161_63 : decode prog_10_method_59_code 63 = .ok (.iaload, 1) := by decide +kernel
theorem s161_63 {v0 v1 v2 v3 v4 : Value} {a : Nat} {i : Int32} {st : List Value} {im : IM} {rm : RM} (hk : kd a = 0) (hi : pm_in i (ln a) = true) : ev 161 63 [v0, v1, v2, v3, v4] (.int i :: .ref a :: st) im rm = ev 161 64 [v0, v1, v2, v3, pm_u] (.int (im a i.toNatClampNeg) :: st) (im) (rm) := ev_iald pm_m161 d161_63 hk hi rfl
theorem d161_64 : decode prog_10_method_59_code 64 = .ok (.istore 4, 2) := by decide +kernel
theorem s161_64 {v0 v1 v2 v4 : Value} {l1 : Int32} {x2 : Int32} {st : List Value} {im : IM} {rm : RM}  : ev 161 64 [v0, v1, v2, .int l1, v4] (.int x2 :: st) im rm = ev 161 66 [v0, v1, v2, .int l1, .int x2] st (im) (rm) := ev_istore pm_m161 d161_64 (Nat.le_of_ble_eq_true rfl) rfl rfl
theorem d161_66 : decode prog_10_method_59_code 66 = .ok (.aload_n 0, 1) := by decide +kernel
theorem s161_66 {v1 v2 v3 v4 : Value} {l1 : Nat} {st : List Value} {im : IM} {rm : RM}  : ev 161 66 [.ref l1, v1, v2, v3, v4] st im rm = ev 161 67 [.ref l1, v1, v2, v3, v4] (.ref l1 :: st) (im) (rm) := ev_aload_n pm_m161 d161_66 rfl rfl
theorem d161_67 : decode prog_10_method_59_code 67 = .ok (.getfield 79, 3) := by decide +kernel
theorem s161_67 {v0 v1 v2 v3 v4 : Value} {a : Nat} {st : List Value} {im : IM} {rm : RM} (hk : kd a = 18) : ev 161 67 [v0, v1, v2, v3, v4] (.ref a :: st) im rm = ev 161 70 [v0, v1, v2, v3, v4] (pm_ro (rm a 25) :: st) (im) (rm) := ev_getR pm_m161 d161_67 f8_79 rfl hk rfl
theorem d161_70 : decode prog_10_method_59_code 70 = .ok (.iload_n 1, 1) := by decide +kernel
theorem s161_70 {v0 v2 v3 v4 : Value} {l1 : Int32} {st : List Value} {im : IM} {rm : RM}  : ev 161 70 [v0, .int l1, v2, v3, v4] st im rm = ev 161 71 [v0, .int l1, v2, v3, v4] (.int l1 :: st) (im) (rm) := ev_iload_n pm_m161 d161_70 rfl rfl
theorem d161_71 : decode prog_10_method_59_code 71 = .ok (.iload_n 2, 1) := by decide +kernel
theorem s161_71 {v0 v1 v3 v4 : Value} {l1 : Int32} {st : List Value} {im : IM} {rm : RM}  : ev 161 71 [v0, v1, .int l1, v3, v4] st im rm = ev 161 72 [v0, v1, .int l1, v3, v4] (.int l1 :: st) (im) (rm) := ev_iload_n pm_m161 d161_71 rfl rfl
theorem d161_72 : decode prog_10_method_59_code 72 = .ok (.ifCond .ne 7, 3) := by decide +kernel
theorem s161_72 {v0 v1 v2 v3 v4 : Value} {x : Int32} {st : List Value} {im : IM} {rm : RM} : ev 161 72 [v0, v1, v2, v3, v4] (.int x :: st) im rm = if x = nI 0 then ev 161 75 [v0, v1, v2, v3, v4] st im rm else ev 161 79 [v0, v1, v2, v3, v4] st im rm := ev_if_ne (y := 0) pm_m161 d161_72 rfl rfl rfl
theorem d161_75 : decode prog_10_method_59_code 75 = .ok (.iload_n 3, 1) := by decide +kernel
theorem s161_75 {v0 v1 v2 v4 : Value} {l1 : Int32} {st : List Value} {im : IM} {rm : RM}  : ev 161 75 [v0, v1, v2, .int l1, v4] st im rm = ev 161 76 [v0, v1, v2, .int l1, v4] (.int l1 :: st) (im) (rm) := ev_iload_n pm_m161 d161_75 rfl rfl
theorem d161_76 : decode prog_10_method_59_code 76 = .ok (.goto 9, 3) := by decide +kernel
theorem s161_76 {v0 v1 v2 v3 v4 : Value}  {st : List Value} {im : IM} {rm : RM}  : ev 161 76 [v0, v1, v2, v3, v4] st im rm = ev 161 85 [v0, v1, v2, v3, v4] st (im) (rm) := ev_goto pm_m161 d161_76 rfl rfl
theorem d161_79 : decode prog_10_method_59_code 79 = .ok (.aload_n 0, 1) := by decide +kernel
theorem s161_79 {v1 v2 v3 v4 : Value} {l1 : Nat} {st : List Value} {im : IM} {rm : RM}  : ev 161 79 [.ref l1, v1, v2, v3, v4] st im rm = ev 161 80 [.ref l1, v1, v2, v3, v4] (.ref l1 :: st) (im) (rm) := ev_aload_n pm_m161 d161_79 rfl rfl
theorem d161_80 : decode prog_10_method_59_code 80 = .ok (.getfield 79, 3) := by decide +kernel
theorem s161_80 {v0 v1 v2 v3 v4 : Value} {a : Nat} {st : List Value} {im : IM} {rm : RM} (hk : kd a = 18) : ev 161 80 [v0, v1, v2, v3, v4] (.ref a :: st) im rm = ev 161 83 [v0, v1, v2, v3, v4] (pm_ro (rm a 25) :: st) (im) (rm) := ev_getR pm_m161 d161_80 f8_79 rfl hk rfl
theorem d161_83 : decode prog_10_method_59_code 83 = .ok (.iload_n 1, 1) := by decide +kernel
theorem s161_83 {v0 v2 v3 v4 : Value} {l1 : Int32} {st : List Value} {im : IM} {rm : RM}  : ev 161 83 [v0, .int l1, v2, v3, v4] st im rm = ev 161 84 [v0, .int l1, v2, v3, v4] (.int l1 :: st) (im) (rm) := ev_iload_n pm_m161 d161_83 rfl rfl
theorem d161_84 : decode prog_10_method_59_code 84 = .ok (.iaload, 1) := by decide +kernel
theorem s161_84 {v0 v1 v2 v3 v4 : Value} {a : Nat} {i : Int32} {st : List Value} {im : IM} {rm : RM} (hk : kd a = 0) (hi : pm_in i (ln a) = true) : ev 161 84 [v0, v1, v2, v3, v4] (.int i :: .ref a :: st) im rm = ev 161 85 [v0, v1, v2, v3, v4] (.int (im a i.toNatClampNeg) :: st) (im) (rm) := ev_iald pm_m161 d161_84 hk hi rfl
theorem d161_85 : decode prog_10_method_59_code 85 = .ok (.iastore, 1) := by decide +kernel
theorem s161_85 {v0 v1 v2 v3 v4 : Value} {a : Nat} {i : Int32} {v : Int32} {st : List Value} {im : IM} {rm : RM} (hk : kd a = 0) (hi : pm_in i (ln a) = true) : ev 161 85 [v0, v1, v2, v3, v4] (.int v :: .int i :: .ref a :: st) im rm = ev 161 86 [v0, v1, v2, v3, v4] st (pm_w2 im a i.toNatClampNeg v) (rm) := ev_iast pm_m161 d161_85 hk hi rfl
theorem d161_86 : decode prog_10_method_59_code 86 = .ok (.aload_n 0, 1) := by decide +kernel
theorem s161_86 {v1 v2 v3 v4 : Value} {l1 : Nat} {st : List Value} {im : IM} {rm : RM}  : ev 161 86 [.ref l1, v1, v2, v3, v4] st im rm = ev 161 87 [.ref l1, v1, v2, v3, v4] (.ref l1 :: st) (im) (rm) := ev_aload_n pm_m161 d161_86 rfl rfl
theorem d161_87 : decode prog_10_method_59_code 87 = .ok (.getfield 82, 3) := by decide +kernel
theorem s161_87 {v0 v1 v2 v3 v4 : Value} {a : Nat} {st : List Value} {im : IM} {rm : RM} (hk : kd a = 18) : ev 161 87 [v0, v1, v2, v3, v4] (.ref a :: st) im rm = ev 161 90 [v0, v1, v2, v3, v4] (pm_ro (rm a 26) :: st) (im) (rm) := ev_getR pm_m161 d161_87 f8_82 rfl hk rfl
theorem d161_90 : decode prog_10_method_59_code 90 = .ok (.iload_n 1, 1) := by decide +kernel
theorem s161_90 {v0 v2 v3 v4 : Value} {l1 : Int32} {st : List Value} {im : IM} {rm : RM}  : ev 161 90 [v0, .int l1, v2, v3, v4] st im rm = ev 161 91 [v0, .int l1, v2, v3, v4] (.int l1 :: st) (im) (rm) := ev_iload_n pm_m161 d161_90 rfl rfl
theorem d161_91 : decode prog_10_method_59_code 91 = .ok (.iload_n 2, 1) := by decide +kernel
theorem s161_91 {v0 v1 v3 v4 : Value} {l1 : Int32} {st : List Value} {im : IM} {rm : RM}  : ev 161 91 [v0, v1, .int l1, v3, v4] st im rm = ev 161 92 [v0, v1, .int l1, v3, v4] (.int l1 :: st) (im) (rm) := ev_iload_n pm_m161 d161_91 rfl rfl
theorem d161_92 : decode prog_10_method_59_code 92 = .ok (.iconst 1, 1) := by decide +kernel
theorem s161_92 {v0 v1 v2 v3 v4 : Value}  {st : List Value} {im : IM} {rm : RM}  : ev 161 92 [v0, v1, v2, v3, v4] st im rm = ev 161 93 [v0, v1, v2, v3, v4] (.int (nI 1) :: st) (im) (rm) := ev_iconst pm_m161 d161_92 rfl rfl
theorem d161_93 : decode prog_10_method_59_code 93 = .ok (.if_icmp .ne 7, 3) := by decide +kernel
theorem s161_93 {v0 v1 v2 v3 v4 : Value} {x : Int32} {y : Int32} {st : List Value} {im : IM} {rm : RM} : ev 161 93 [v0, v1, v2, v3, v4] (.int y :: .int x :: st) im rm = if x = y then ev 161 96 [v0, v1, v2, v3, v4] st im rm else ev 161 100 [v0, v1, pm_u, pm_u, v4] st im rm := ev_icmp_ne pm_m161 d161_93 rfl rfl rfl
theorem d161_96 : decode prog_10_method_59_code 96 = .ok (.iload_n 3, 1) := by decide +kernel
theorem s161_96 {v0 v1 v2 v4 : Value} {l1 : Int32} {st : List Value} {im : IM} {rm : RM}  : ev 161 96 [v0, v1, v2, .int l1, v4] st im rm = ev 161 97 [v0, v1, v2, .int l1, v4] (.int l1 :: st) (im) (rm) := ev_iload_n pm_m161 d161_96 rfl rfl
theorem d161_97 : decode prog_10_method_59_code 97 = .ok (.goto 9, 3) := by decide +kernel
theorem s161_97 {v0 v1 v2 v3 v4 : Value}  {st : List Value} {im : IM} {rm : RM}  : ev 161 97 [v0, v1, v2, v3, v4] st im rm = ev 161 106 [pm_u, pm_u, pm_u, pm_u, v4] st (im) (rm) := ev_goto pm_m161 d161_97 rfl rfl
theorem d161_100 : decode prog_10_method_59_code 100 = .ok (.aload_n 0, 1) := by decide +kernel
theorem s161_100 {v1 v2 v3 v4 : Value} {l1 : Nat} {st : List Value} {im : IM} {rm : RM}  : ev 161 100 [.ref l1, v1, v2, v3, v4] st im rm = ev 161 101 [.ref l1, v1, v2, v3, v4] (.ref l1 :: st) (im) (rm) := ev_aload_n pm_m161 d161_100 rfl rfl
theorem d161_101 : decode prog_10_method_59_code 101 = .ok (.getfield 82, 3) := by decide +kernel
theorem s161_101 {v0 v1 v2 v3 v4 : Value} {a : Nat} {st : List Value} {im : IM} {rm : RM} (hk : kd a = 18) : ev 161 101 [v0, v1, v2, v3, v4] (.ref a :: st) im rm = ev 161 104 [v0, v1, v2, v3, v4] (pm_ro (rm a 26) :: st) (im) (rm) := ev_getR pm_m161 d161_101 f8_82 rfl hk rfl
theorem d161_104 : decode prog_10_method_59_code 104 = .ok (.iload_n 1, 1) := by decide +kernel
theorem s161_104 {v0 v2 v3 v4 : Value} {l1 : Int32} {st : List Value} {im : IM} {rm : RM}  : ev 161 104 [v0, .int l1, v2, v3, v4] st im rm = ev 161 105 [v0, .int l1, v2, v3, v4] (.int l1 :: st) (im) (rm) := ev_iload_n pm_m161 d161_104 rfl rfl
theorem d161_105 : decode prog_10_method_59_code 105 = .ok (.iaload, 1) := by decide +kernel
theorem s161_105 {v0 v1 v2 v3 v4 : Value} {a : Nat} {i : Int32} {st : List Value} {im : IM} {rm : RM} (hk : kd a = 0) (hi : pm_in i (ln a) = true) : ev 161 105 [v0, v1, v2, v3, v4] (.int i :: .ref a :: st) im rm = ev 161 106 [pm_u, pm_u, pm_u, pm_u, v4] (.int (im a i.toNatClampNeg) :: st) (im) (rm) := ev_iald pm_m161 d161_105 hk hi rfl
theorem d161_106 : decode prog_10_method_59_code 106 = .ok (.iastore, 1) := by decide +kernel
theorem s161_106 {v0 v1 v2 v3 v4 : Value} {a : Nat} {i : Int32} {v : Int32} {st : List Value} {im : IM} {rm : RM} (hk : kd a = 0) (hi : pm_in i (ln a) = true) : ev 161 106 [v0, v1, v2, v3, v4] (.int v :: .int i :: .ref a :: st) im rm = ev 161 107 [v0, v1, v2, v3, v4] st (pm_w2 im a i.toNatClampNeg v) (rm) := ev_iast pm_m161 d161_106 hk hi rfl
theorem d161_107 : decode prog_10_method_59_code 107 = .ok (.iload 4, 2) := by decide +kernel
theorem s161_107 {v0 v1 v2 v3 : Value} {l1 : Int32} {st : List Value} {im : IM} {rm : RM}  : ev 161 107 [v0, v1, v2, v3, .int l1] st im rm = ev 161 109 [v0, v1, v2, v3, .int l1] (.int l1 :: st) (im) (rm) := ev_iload pm_m161 d161_107 rfl rfl
theorem d161_109 : decode prog_10_method_59_code 109 = .ok (.ireturn, 1) := by decide +kernel
theorem s161_109 {v0 v1 v2 v3 v4 : Value} {x : Int32} {im : IM} {rm : RM} : ev 161 109 [v0, v1, v2, v3, v4] [.int x] im rm = some (some (.int x), im, rm) := ev_ireturn pm_m161 d161_109 rfl
theorem d162_0 : decode prog_10_method_60_code 0 = .ok (.iconst 4, 1) := by decide +kernel
theorem s162_0 {v0 v1 v2 v3 v4 v5 v6 v7 : Value}  {st : List Value} {im : IM} {rm : RM}  : ev 162 0 [v0, v1, v2, v3, v4, v5, v6, v7] st im rm = ev 162 1 [v0, v1, v2, v3, v4, v5, v6, v7] (.int (nI 4) :: st) (im) (rm) := ev_iconst pm_m162 d162_0 rfl rfl
theorem d162_1 : decode prog_10_method_60_code 1 = .ok (.istore_n 3, 1) := by decide +kernel
theorem s162_1 {v0 v1 v3 v4 v5 v6 v7 : Value} {l1 : Int32} {x2 : Int32} {st : List Value} {im : IM} {rm : RM}  : ev 162 1 [v0, v1, .int l1, v3, v4, v5, v6, v7] (.int x2 :: st) im rm = ev 162 2 [v0, v1, .int l1, .int x2, v4, v5, v6, v7] st (im) (rm) := ev_istore_n pm_m162 d162_1 (Nat.le_of_ble_eq_true rfl) rfl rfl
theorem d162_2 : decode prog_10_method_60_code 2 = .ok (.aload_n 0, 1) := by decide +kernel
theorem s162_2 {v1 v2 v3 v4 v5 v6 v7 : Value} {l1 : Nat} {st : List Value} {im : IM} {rm : RM}  : ev 162 2 [.ref l1, v1, v2, v3, v4, v5, v6, v7] st im rm = ev 162 3 [.ref l1, v1, v2, v3, v4, v5, v6, v7] (.ref l1 :: st) (im) (rm) := ev_aload_n pm_m162 d162_2 rfl rfl
theorem d162_3 : decode prog_10_method_60_code 3 = .ok (.ldc_w 269, 3) := by decide +kernel
theorem s162_3 {v0 v1 v2 v3 v4 v5 v6 v7 : Value}  {st : List Value} {im : IM} {rm : RM}  : ev 162 3 [v0, v1, v2, v3, v4, v5, v6, v7] st im rm = ev 162 6 [v0, v1, v2, v3, v4, v5, v6, v7] (.int (nI 268435456) :: st) (im) (rm) := ev_ldcw pm_m162 d162_3 (by decide +kernel) rfl
theorem d162_6 : decode prog_10_method_60_code 6 = .ok (.putfield 322, 3) := by decide +kernel
theorem s162_6 {v0 v1 v2 v3 v4 v5 v6 v7 : Value} {a : Nat} {v : Int32} {st : List Value} {im : IM} {rm : RM} (hk : kd a = 18) : ev 162 6 [v0, v1, v2, v3, v4, v5, v6, v7] (.int v :: .ref a :: st) im rm = ev 162 9 [v0, v1, v2, v3, v4, v5, v6, v7] st (pm_w2 im a 47 v) (rm) := ev_putI pm_m162 d162_6 f8_322 rfl rfl hk rfl
theorem d162_9 : decode prog_10_method_60_code 9 = .ok (.aload_n 0, 1) := by decide +kernel
theorem s162_9 {v1 v2 v3 v4 v5 v6 v7 : Value} {l1 : Nat} {st : List Value} {im : IM} {rm : RM}  : ev 162 9 [.ref l1, v1, v2, v3, v4, v5, v6, v7] st im rm = ev 162 10 [.ref l1, v1, v2, v3, v4, v5, v6, v7] (.ref l1 :: st) (im) (rm) := ev_aload_n pm_m162 d162_9 rfl rfl
theorem d162_10 : decode prog_10_method_60_code 10 = .ok (.iload_n 1, 1) := by decide +kernel
theorem s162_10 {v0 v2 v3 v4 v5 v6 v7 : Value} {l1 : Int32} {st : List Value} {im : IM} {rm : RM}  : ev 162 10 [v0, .int l1, v2, v3, v4, v5, v6, v7] st im rm = ev 162 11 [v0, .int l1, v2, v3, v4, v5, v6, v7] (.int l1 :: st) (im) (rm) := ev_iload_n pm_m162 d162_10 rfl rfl
theorem d162_11 : decode prog_10_method_60_code 11 = .ok (.invokevirtual 318, 3) := by decide +kernel
theorem s162_11 {v0 v1 v2 v3 v4 v5 v6 v7 : Value} {a : Nat} {p1 : Int32} {im : IM} {rm : RM} (hk : kd a = 18) : ev 162 11 [v0, v1, v2, v3, v4, v5, v6, v7] [.int p1, .ref a] im rm = (ev 159 0 [.ref a, .int p1, pm_u, pm_u] [] im rm).bind (fun r => ev 162 14 [v0, v1, v2, v3, v4, v5, v6, v7] (r.1.toList ++ []) r.2.1 r.2.2) := ev_callV pm_m162 d162_11 l8_318 rfl pm_m159 (by decide) hk rfl ⟨rfl, rfl⟩ rfl rfl
theorem d162_14 : decode prog_10_method_60_code 14 = .ok (.istore 4, 2) := by decide +kernel
theorem s162_14 {v0 v1 v2 v4 v5 v6 v7 : Value} {l1 : Int32} {x2 : Int32} {st : List Value} {im : IM} {rm : RM}  : ev 162 14 [v0, v1, v2, .int l1, v4, v5, v6, v7] (.int x2 :: st) im rm = ev 162 16 [v0, v1, v2, .int l1, .int x2, v5, v6, v7] st (im) (rm) := ev_istore pm_m162 d162_14 (Nat.le_of_ble_eq_true rfl) rfl rfl
theorem d162_16 : decode prog_10_method_60_code 16 = .ok (.iconst 0, 1) := by decide +kernel
theorem s162_16 {v0 v1 v2 v3 v4 v5 v6 v7 : Value}  {st : List Value} {im : IM} {rm : RM}  : ev 162 16 [v0, v1, v2, v3, v4, v5, v6, v7] st im rm = ev 162 17 [v0, v1, v2, v3, v4, v5, v6, v7] (.int (nI 0) :: st) (im) (rm) := ev_iconst pm_m162 d162_16 rfl rfl
theorem d162_17 : decode prog_10_method_60_code 17 = .ok (.istore 5, 2) := by decide +kernel
theorem s162_17 {v0 v1 v2 v3 v5 v6 v7 : Value} {l1 : Int32} {x2 : Int32} {st : List Value} {im : IM} {rm : RM}  : ev 162 17 [v0, v1, v2, v3, .int l1, v5, v6, v7] (.int x2 :: st) im rm = ev 162 19 [v0, v1, v2, v3, .int l1, .int x2, pm_u, pm_u] st (im) (rm) := ev_istore pm_m162 d162_17 (Nat.le_of_ble_eq_true rfl) rfl rfl
theorem d162_19 : decode prog_10_method_60_code 19 = .ok (.iload 5, 2) := by decide +kernel
theorem s162_19 {v0 v1 v2 v3 v4 v6 v7 : Value} {l1 : Int32} {st : List Value} {im : IM} {rm : RM}  : ev 162 19 [v0, v1, v2, v3, v4, .int l1, v6, v7] st im rm = ev 162 21 [v0, v1, v2, v3, v4, .int l1, v6, v7] (.int l1 :: st) (im) (rm) := ev_iload pm_m162 d162_19 rfl rfl
theorem d162_21 : decode prog_10_method_60_code 21 = .ok (.iconst 4, 1) := by decide +kernel
theorem s162_21 {v0 v1 v2 v3 v4 v5 v6 v7 : Value}  {st : List Value} {im : IM} {rm : RM}  : ev 162 21 [v0, v1, v2, v3, v4, v5, v6, v7] st im rm = ev 162 22 [v0, v1, v2, v3, v4, v5, v6, v7] (.int (nI 4) :: st) (im) (rm) := ev_iconst pm_m162 d162_21 rfl rfl
theorem d162_22 : decode prog_10_method_60_code 22 = .ok (.if_icmp .ge 79, 3) := by decide +kernel
theorem s162_22 {v0 v1 v2 v3 v4 v5 v6 v7 : Value} {x : Int32} {y : Int32} {st : List Value} {im : IM} {rm : RM} : ev 162 22 [v0, v1, v2, v3, v4, v5, v6, v7] (.int y :: .int x :: st) im rm = if y ≤ x then ev 162 101 [v0, pm_u, pm_u, v3, pm_u, pm_u, pm_u, pm_u] st im rm else ev 162 25 [v0, v1, v2, v3, v4, v5, v6, v7] st im rm := ev_icmp_ge pm_m162 d162_22 rfl rfl rfl
theorem d162_25 : decode prog_10_method_60_code 25 = .ok (.aload_n 0, 1) := by decide +kernel
theorem s162_25 {v1 v2 v3 v4 v5 v6 v7 : Value} {l1 : Nat} {st : List Value} {im : IM} {rm : RM}  : ev 162 25 [.ref l1, v1, v2, v3, v4, v5, v6, v7] st im rm = ev 162 26 [.ref l1, v1, v2, v3, v4, v5, v6, v7] (.ref l1 :: st) (im) (rm) := ev_aload_n pm_m162 d162_25 rfl rfl
theorem d162_26 : decode prog_10_method_60_code 26 = .ok (.iload 5, 2) := by decide +kernel
theorem s162_26 {v0 v1 v2 v3 v4 v6 v7 : Value} {l1 : Int32} {st : List Value} {im : IM} {rm : RM}  : ev 162 26 [v0, v1, v2, v3, v4, .int l1, v6, v7] st im rm = ev 162 28 [v0, v1, v2, v3, v4, .int l1, v6, v7] (.int l1 :: st) (im) (rm) := ev_iload pm_m162 d162_26 rfl rfl
theorem d162_28 : decode prog_10_method_60_code 28 = .ok (.invokevirtual 318, 3) := by decide +kernel
theorem s162_28 {v0 v1 v2 v3 v4 v5 v6 v7 : Value} {a : Nat} {p1 : Int32} {im : IM} {rm : RM} (hk : kd a = 18) : ev 162 28 [v0, v1, v2, v3, v4, v5, v6, v7] [.int p1, .ref a] im rm = (ev 159 0 [.ref a, .int p1, pm_u, pm_u] [] im rm).bind (fun r => ev 162 31 [v0, v1, v2, v3, v4, v5, v6, v7] (r.1.toList ++ []) r.2.1 r.2.2) := ev_callV pm_m162 d162_28 l8_318 rfl pm_m159 (by decide) hk rfl ⟨rfl, rfl⟩ rfl rfl
theorem d162_31 : decode prog_10_method_60_code 31 = .ok (.iload 4, 2) := by decide +kernel
theorem s162_31 {v0 v1 v2 v3 v5 v6 v7 : Value} {l1 : Int32} {st : List Value} {im : IM} {rm : RM}  : ev 162 31 [v0, v1, v2, v3, .int l1, v5, v6, v7] st im rm = ev 162 33 [v0, v1, v2, v3, .int l1, v5, v6, v7] (.int l1 :: st) (im) (rm) := ev_iload pm_m162 d162_31 rfl rfl
theorem d162_33 : decode prog_10_method_60_code 33 = .ok (.isub, 1) := by decide +kernel
theorem s162_33 {v0 v1 v2 v3 v4 v5 v6 v7 : Value} {x : Int32} {y : Int32} {st : List Value} {im : IM} {rm : RM}  : ev 162 33 [v0, v1, v2, v3, v4, v5, v6, v7] (.int y :: .int x :: st) im rm = ev 162 34 [v0, v1, v2, v3, v4, v5, v6, v7] (.int (x - y) :: st) (im) (rm) := ev_isub pm_m162 d162_33 rfl
theorem d162_34 : decode prog_10_method_60_code 34 = .ok (.istore 6, 2) := by decide +kernel
theorem s162_34 {v0 v1 v2 v3 v4 v6 v7 : Value} {l1 : Int32} {x2 : Int32} {st : List Value} {im : IM} {rm : RM}  : ev 162 34 [v0, v1, v2, v3, v4, .int l1, v6, v7] (.int x2 :: st) im rm = ev 162 36 [v0, v1, v2, v3, v4, .int l1, .int x2, v7] st (im) (rm) := ev_istore pm_m162 d162_34 (Nat.le_of_ble_eq_true rfl) rfl rfl
theorem d162_36 : decode prog_10_method_60_code 36 = .ok (.iload 5, 2) := by decide +kernel
theorem s162_36 {v0 v1 v2 v3 v4 v6 v7 : Value} {l1 : Int32} {st : List Value} {im : IM} {rm : RM}  : ev 162 36 [v0, v1, v2, v3, v4, .int l1, v6, v7] st im rm = ev 162 38 [v0, v1, v2, v3, v4, .int l1, v6, v7] (.int l1 :: st) (im) (rm) := ev_iload pm_m162 d162_36 rfl rfl
theorem d162_38 : decode prog_10_method_60_code 38 = .ok (.iload_n 1, 1) := by decide +kernel
theorem s162_38 {v0 v2 v3 v4 v5 v6 v7 : Value} {l1 : Int32} {st : List Value} {im : IM} {rm : RM}  : ev 162 38 [v0, .int l1, v2, v3, v4, v5, v6, v7] st im rm = ev 162 39 [v0, .int l1, v2, v3, v4, v5, v6, v7] (.int l1 :: st) (im) (rm) := ev_iload_n pm_m162 d162_38 rfl rfl
theorem d162_39 : decode prog_10_method_60_code 39 = .ok (.if_icmp .ne 7, 3) := by decide +kernel
theorem s162_39 {v0 v1 v2 v3 v4 v5 v6 v7 : Value} {x : Int32} {y : Int32} {st : List Value} {im : IM} {rm : RM} : ev 162 39 [v0, v1, v2, v3, v4, v5, v6, v7] (.int y :: .int x :: st) im rm = if x = y then ev 162 42 [v0, v1, v2, v3, v4, v5, v6, v7] st im rm else ev 162 46 [v0, v1, v2, v3, v4, v5, v6, pm_u] st im rm := ev_icmp_ne pm_m162 d162_39 rfl rfl rfl
theorem d162_42 : decode prog_10_method_60_code 42 = .ok (.iconst 0, 1) := by decide +kernel
theorem s162_42 {v0 v1 v2 v3 v4 v5 v6 v7 : Value}  {st : List Value} {im : IM} {rm : RM}  : ev 162 42 [v0, v1, v2, v3, v4, v5, v6, v7] st im rm = ev 162 43 [v0, v1, v2, v3, v4, v5, v6, v7] (.int (nI 0) :: st) (im) (rm) := ev_iconst pm_m162 d162_42 rfl rfl
theorem d162_43 : decode prog_10_method_60_code 43 = .ok (.goto 10, 3) := by decide +kernel
theorem s162_43 {v0 v1 v2 v3 v4 v5 v6 v7 : Value}  {st : List Value} {im : IM} {rm : RM}  : ev 162 43 [v0, v1, v2, v3, v4, v5, v6, v7] st im rm = ev 162 53 [v0, v1, v2, v3, v4, v5, v6, pm_u] st (im) (rm) := ev_goto pm_m162 d162_43 rfl rfl
theorem d162_46 : decode prog_10_method_60_code 46 = .ok (.aload_n 0, 1) := by decide +kernel
theorem s162_46 {v1 v2 v3 v4 v5 v6 v7 : Value} {l1 : Nat} {st : List Value} {im : IM} {rm : RM}  : ev 162 46 [.ref l1, v1, v2, v3, v4, v5, v6, v7] st im rm = ev 162 47 [.ref l1, v1, v2, v3, v4, v5, v6, v7] (.ref l1 :: st) (im) (rm) := ev_aload_n pm_m162 d162_46 rfl rfl
theorem d162_47 : decode prog_10_method_60_code 47 = .ok (.getfield 82, 3) := by decide +kernel
theorem s162_47 {v0 v1 v2 v3 v4 v5 v6 v7 : Value} {a : Nat} {st : List Value} {im : IM} {rm : RM} (hk : kd a = 18) : ev 162 47 [v0, v1, v2, v3, v4, v5, v6, v7] (.ref a :: st) im rm = ev 162 50 [v0, v1, v2, v3, v4, v5, v6, v7] (pm_ro (rm a 26) :: st) (im) (rm) := ev_getR pm_m162 d162_47 f8_82 rfl hk rfl
theorem d162_50 : decode prog_10_method_60_code 50 = .ok (.iload 5, 2) := by decide +kernel
theorem s162_50 {v0 v1 v2 v3 v4 v6 v7 : Value} {l1 : Int32} {st : List Value} {im : IM} {rm : RM}  : ev 162 50 [v0, v1, v2, v3, v4, .int l1, v6, v7] st im rm = ev 162 52 [v0, v1, v2, v3, v4, .int l1, v6, v7] (.int l1 :: st) (im) (rm) := ev_iload pm_m162 d162_50 rfl rfl
theorem d162_52 : decode prog_10_method_60_code 52 = .ok (.iaload, 1) := by decide +kernel
theorem s162_52 {v0 v1 v2 v3 v4 v5 v6 v7 : Value} {a : Nat} {i : Int32} {st : List Value} {im : IM} {rm : RM} (hk : kd a = 0) (hi : pm_in i (ln a) = true) : ev 162 52 [v0, v1, v2, v3, v4, v5, v6, v7] (.int i :: .ref a :: st) im rm = ev 162 53 [v0, v1, v2, v3, v4, v5, v6, pm_u] (.int (im a i.toNatClampNeg) :: st) (im) (rm) := ev_iald pm_m162 d162_52 hk hi rfl
theorem d162_53 : decode prog_10_method_60_code 53 = .ok (.iload 6, 2) := by decide +kernel
theorem s162_53 {v0 v1 v2 v3 v4 v5 v7 : Value} {l1 : Int32} {st : List Value} {im : IM} {rm : RM}  : ev 162 53 [v0, v1, v2, v3, v4, v5, .int l1, v7] st im rm = ev 162 55 [v0, v1, v2, v3, v4, v5, .int l1, v7] (.int l1 :: st) (im) (rm) := ev_iload pm_m162 d162_53 rfl rfl
theorem d162_55 : decode prog_10_method_60_code 55 = .ok (.ifCond .le 8, 3) := by decide +kernel
theorem s162_55 {v0 v1 v2 v3 v4 v5 v6 v7 : Value} {x : Int32} {st : List Value} {im : IM} {rm : RM} : ev 162 55 [v0, v1, v2, v3, v4, v5, v6, v7] (.int x :: st) im rm = if x ≤ nI 0 then ev 162 63 [v0, v1, v2, v3, v4, v5, pm_u, pm_u] st im rm else ev 162 58 [v0, v1, v2, v3, v4, v5, v6, v7] st im rm := ev_if_le (y := 0) pm_m162 d162_55 rfl rfl rfl
theorem d162_58 : decode prog_10_method_60_code 58 = .ok (.iload 6, 2) := by decide +kernel
theorem s162_58 {v0 v1 v2 v3 v4 v5 v7 : Value} {l1 : Int32} {st : List Value} {im : IM} {rm : RM}  : ev 162 58 [v0, v1, v2, v3, v4, v5, .int l1, v7] st im rm = ev 162 60 [v0, v1, v2, v3, v4, v5, .int l1, v7] (.int l1 :: st) (im) (rm) := ev_iload pm_m162 d162_58 rfl rfl
theorem d162_60 : decode prog_10_method_60_code 60 = .ok (.goto 4, 3) := by decide +kernel
theorem s162_60 {v0 v1 v2 v3 v4 v5 v6 v7 : Value}  {st : List Value} {im : IM} {rm : RM}  : ev 162 60 [v0, v1, v2, v3, v4, v5, v6, v7] st im rm = ev 162 64 [v0, v1, v2, v3, v4, v5, pm_u, pm_u] st (im) (rm) := ev_goto pm_m162 d162_60 rfl rfl
theorem d162_63 : decode prog_10_method_60_code 63 = .ok (.iconst 0, 1) := by decide +kernel
theorem s162_63 {v0 v1 v2 v3 v4 v5 v6 v7 : Value}  {st : List Value} {im : IM} {rm : RM}  : ev 162 63 [v0, v1, v2, v3, v4, v5, v6, v7] st im rm = ev 162 64 [v0, v1, v2, v3, v4, v5, pm_u, pm_u] (.int (nI 0) :: st) (im) (rm) := ev_iconst pm_m162 d162_63 rfl rfl
theorem d162_64 : decode prog_10_method_60_code 64 = .ok (.iadd, 1) := by decide +kernel
theorem s162_64 {v0 v1 v2 v3 v4 v5 v6 v7 : Value} {x : Int32} {y : Int32} {st : List Value} {im : IM} {rm : RM}  : ev 162 64 [v0, v1, v2, v3, v4, v5, v6, v7] (.int y :: .int x :: st) im rm = ev 162 65 [v0, v1, v2, v3, v4, v5, v6, v7] (.int (x + y) :: st) (im) (rm) := ev_iadd pm_m162 d162_64 rfl
theorem d162_65 : decode prog_10_method_60_code 65 = .ok (.istore 7, 2) := by decide +kernel
theorem s162_65 {v0 v1 v2 v3 v4 v5 v7 : Value} {x1 : Int32} {st : List Value} {im : IM} {rm : RM}  : ev 162 65 [v0, v1, v2, v3, v4, v5, pm_u, v7] (.int x1 :: st) im rm = ev 162 67 [v0, v1, v2, v3, v4, v5, pm_u, .int x1] st (im) (rm) := ev_istore pm_m162 d162_65 (Nat.le_of_ble_eq_true rfl) rfl rfl
theorem d162_67 : decode prog_10_method_60_code 67 = .ok (.aload_n 0, 1) := by decide +kernel
theorem s162_67 {v1 v2 v3 v4 v5 v6 v7 : Value} {l1 : Nat} {st : List Value} {im : IM} {rm : RM}  : ev 162 67 [.ref l1, v1, v2, v3, v4, v5, v6, v7] st im rm = ev 162 68 [.ref l1, v1, v2, v3, v4, v5, v6, v7] (.ref l1 :: st) (im) (rm) := ev_aload_n pm_m162 d162_67 rfl rfl
theorem d162_68 : decode prog_10_method_60_code 68 = .ok (.iload 5, 2) := by decide +kernel
theorem s162_68 {v0 v1 v2 v3 v4 v6 v7 : Value} {l1 : Int32} {st : List Value} {im : IM} {rm : RM}  : ev 162 68 [v0, v1, v2, v3, v4, .int l1, v6, v7] st im rm = ev 162 70 [v0, v1, v2, v3, v4, .int l1, v6, v7] (.int l1 :: st) (im) (rm) := ev_iload pm_m162 d162_68 rfl rfl
theorem d162_70 : decode prog_10_method_60_code 70 = .ok (.iload_n 2, 1) := by decide +kernel
theorem s162_70 {v0 v1 v3 v4 v5 v6 v7 : Value} {l1 : Int32} {st : List Value} {im : IM} {rm : RM}  : ev 162 70 [v0, v1, .int l1, v3, v4, v5, v6, v7] st im rm = ev 162 71 [v0, v1, .int l1, v3, v4, v5, v6, v7] (.int l1 :: st) (im) (rm) := ev_iload_n pm_m162 d162_70 rfl rfl
theorem d162_71 : decode prog_10_method_60_code 71 = .ok (.invokevirtual 313, 3) := by decide +kernel
theorem s162_71 {v0 v1 v2 v3 v4 v5 v6 v7 : Value} {a : Nat} {p1 : Int32} {p2 : Int32} {im : IM} {rm : RM} (hk : kd a = 18) : ev 162 71 [v0, v1, v2, v3, v4, v5, v6, v7] [.int p2, .int p1, .ref a] im rm = (ev 155 0 [.ref a, .int p1, .int p2, pm_u, pm_u, pm_u, pm_u, pm_u, pm_u] [] im rm).bind (fun r => ev 162 74 [v0, v1, v2, v3, v4, v5, v6, v7] (r.1.toList ++ []) r.2.1 r.2.2) := ev_callV pm_m162 d162_71 l8_313 rfl pm_m155 (by decide) hk rfl ⟨rfl, rfl⟩ rfl rfl
theorem d162_74 : decode prog_10_method_60_code 74 = .ok (.ifCond .ne 21, 3) := by decide +kernel
theorem s162_74 {v0 v1 v2 v3 v4 v5 v6 v7 : Value} {x : Int32} {st : List Value} {im : IM} {rm : RM} : ev 162 74 [v0, v1, v2, v3, v4, v5, v6, v7] (.int x :: st) im rm = if x = nI 0 then ev 162 77 [v0, v1, v2, v3, v4, v5, v6, v7] st im rm else ev 162 95 [v0, v1, v2, v3, v4, v5, pm_u, pm_u] st im rm := ev_if_ne (y := 0) pm_m162 d162_74 rfl rfl rfl
theorem d162_77 : decode prog_10_method_60_code 77 = .ok (.iload 7, 2) := by decide +kernel
theorem s162_77 {v0 v1 v2 v3 v4 v5 v6 : Value} {l1 : Int32} {st : List Value} {im : IM} {rm : RM}  : ev 162 77 [v0, v1, v2, v3, v4, v5, v6, .int l1] st im rm = ev 162 79 [v0, v1, v2, v3, v4, v5, v6, .int l1] (.int l1 :: st) (im) (rm) := ev_iload pm_m162 d162_77 rfl rfl
theorem d162_79 : decode prog_10_method_60_code 79 = .ok (.aload_n 0, 1) := by decide +kernel
theorem s162_79 {v1 v2 v3 v4 v5 v6 v7 : Value} {l1 : Nat} {st : List Value} {im : IM} {rm : RM}  : ev 162 79 [.ref l1, v1, v2, v3, v4, v5, v6, v7] st im rm = ev 162 80 [.ref l1, v1, v2, v3, v4, v5, v6, v7] (.ref l1 :: st) (im) (rm) := ev_aload_n pm_m162 d162_79 rfl rfl
theorem d162_80 : decode prog_10_method_60_code 80 = .ok (.getfield 322, 3) := by decide +kernel
theorem s162_80 {v0 v1 v2 v3 v4 v5 v6 v7 : Value} {a : Nat} {st : List Value} {im : IM} {rm : RM} (hk : kd a = 18) : ev 162 80 [v0, v1, v2, v3, v4, v5, v6, v7] (.ref a :: st) im rm = ev 162 83 [v0, v1, v2, v3, v4, v5, v6, v7] (.int (im a 47) :: st) (im) (rm) := ev_getI pm_m162 d162_80 f8_322 rfl hk rfl
theorem d162_83 : decode prog_10_method_60_code 83 = .ok (.if_icmp .ge 12, 3) := by decide +kernel
theorem s162_83 {v0 v1 v2 v3 v4 v5 v6 v7 : Value} {x : Int32} {y : Int32} {st : List Value} {im : IM} {rm : RM} : ev 162 83 [v0, v1, v2, v3, v4, v5, v6, v7] (.int y :: .int x :: st) im rm = if y ≤ x then ev 162 95 [v0, v1, v2, v3, v4, v5, pm_u, pm_u] st im rm else ev 162 86 [v0, v1, v2, v3, v4, v5, v6, v7] st im rm := ev_icmp_ge pm_m162 d162_83 rfl rfl rfl
theorem d162_86 : decode prog_10_method_60_code 86 = .ok (.iload 5, 2) := by decide +kernel
theorem s162_86 {v0 v1 v2 v3 v4 v6 v7 : Value} {l1 : Int32} {st : List Value} {im : IM} {rm : RM}  : ev 162 86 [v0, v1, v2, v3, v4, .int l1, v6, v7] st im rm = ev 162 88 [v0, v1, v2, v3, v4, .int l1, v6, v7] (.int l1 :: st) (im) (rm) := ev_iload pm_m162 d162_86 rfl rfl
theorem d162_88 : decode prog_10_method_60_code 88 = .ok (.istore_n 3, 1) := by decide +kernel
theorem s162_88 {v0 v1 v3 v4 v5 v6 v7 : Value} {l1 : Int32} {x2 : Int32} {st : List Value} {im : IM} {rm : RM}  : ev 162 88 [v0, v1, .int l1, v3, v4, v5, v6, v7] (.int x2 :: st) im rm = ev 162 89 [v0, v1, .int l1, .int x2, v4, v5, v6, v7] st (im) (rm) := ev_istore_n pm_m162 d162_88 (Nat.le_of_ble_eq_true rfl) rfl rfl
theorem d162_89 : decode prog_10_method_60_code 89 = .ok (.aload_n 0, 1) := by decide +kernel
theorem s162_89 {v1 v2 v3 v4 v5 v6 v7 : Value} {l1 : Nat} {st : List Value} {im : IM} {rm : RM}  : ev 162 89 [.ref l1, v1, v2, v3, v4, v5, v6, v7] st im rm = ev 162 90 [.ref l1, v1, v2, v3, v4, v5, v6, v7] (.ref l1 :: st) (im) (rm) := ev_aload_n pm_m162 d162_89 rfl rfl
theorem d162_90 : decode prog_10_method_60_code 90 = .ok (.iload 7, 2) := by decide +kernel
theorem s162_90 {v0 v1 v2 v3 v4 v5 v6 : Value} {l1 : Int32} {st : List Value} {im : IM} {rm : RM}  : ev 162 90 [v0, v1, v2, v3, v4, v5, v6, .int l1] st im rm = ev 162 92 [v0, v1, v2, v3, v4, v5, v6, .int l1] (.int l1 :: st) (im) (rm) := ev_iload pm_m162 d162_90 rfl rfl
theorem d162_92 : decode prog_10_method_60_code 92 = .ok (.putfield 322, 3) := by decide +kernel
theorem s162_92 {v0 v1 v2 v3 v4 v5 v6 v7 : Value} {a : Nat} {v : Int32} {st : List Value} {im : IM} {rm : RM} (hk : kd a = 18) : ev 162 92 [v0, v1, v2, v3, v4, v5, v6, v7] (.int v :: .ref a :: st) im rm = ev 162 95 [v0, v1, v2, v3, v4, v5, pm_u, pm_u] st (pm_w2 im a 47 v) (rm) := ev_putI pm_m162 d162_92 f8_322 rfl rfl hk rfl
theorem d162_95 : decode prog_10_method_60_code 95 = .ok (.iinc 5 1, 3) := by decide +kernel
theorem s162_95 {v0 v1 v2 v3 v6 v7 : Value} {l1 : Int32} {l2 : Int32} {st : List Value} {im : IM} {rm : RM}  : ev 162 95 [v0, v1, v2, v3, .int l1, .int l2, v6, v7] st im rm = ev 162 98 [v0, v1, v2, v3, .int l1, .int (l2 + nI 1), v6, v7] st (im) (rm) := ev_iinc pm_m162 d162_95 rfl rfl rfl rfl
theorem d162_98 : decode prog_10_method_60_code 98 = .ok (.goto (-79), 3) := by decide +kernel
theorem s162_98 {v0 v1 v2 v3 v4 v5 v6 v7 : Value}  {st : List Value} {im : IM} {rm : RM}  : ev 162 98 [v0, v1, v2, v3, v4, v5, v6, v7] st im rm = ev 162 19 [v0, v1, v2, v3, v4, v5, pm_u, pm_u] st (im) (rm) := ev_goto pm_m162 d162_98 rfl rfl
theorem d162_101 : decode prog_10_method_60_code 101 = .ok (.aload_n 0, 1) := by decide +kernel
theorem s162_101 {v1 v2 v3 v4 v5 v6 v7 : Value} {l1 : Nat} {st : List Value} {im : IM} {rm : RM}  : ev 162 101 [.ref l1, v1, v2, v3, v4, v5, v6, v7] st im rm = ev 162 102 [.ref l1, v1, v2, v3, v4, v5, v6, v7] (.ref l1 :: st) (im) (rm) := ev_aload_n pm_m162 d162_101 rfl rfl
theorem d162_102 : decode prog_10_method_60_code 102 = .ok (.getfield 37, 3) := by decide +kernel
theorem s162_102 {v0 v1 v2 v3 v4 v5 v6 v7 : Value} {a : Nat} {st : List Value} {im : IM} {rm : RM} (hk : kd a = 18) : ev 162 102 [v0, v1, v2, v3, v4, v5, v6, v7] (.ref a :: st) im rm = ev 162 105 [v0, v1, v2, v3, v4, v5, v6, v7] (pm_ro (rm a 9) :: st) (im) (rm) := ev_getR pm_m162 d162_102 f8_37 rfl hk rfl
theorem d162_105 : decode prog_10_method_60_code 105 = .ok (.iconst 2, 1) := by decide +kernel
theorem s162_105 {v0 v1 v2 v3 v4 v5 v6 v7 : Value}  {st : List Value} {im : IM} {rm : RM}  : ev 162 105 [v0, v1, v2, v3, v4, v5, v6, v7] st im rm = ev 162 106 [v0, v1, v2, v3, v4, v5, v6, v7] (.int (nI 2) :: st) (im) (rm) := ev_iconst pm_m162 d162_105 rfl rfl
theorem d162_106 : decode prog_10_method_60_code 106 = .ok (.iaload, 1) := by decide +kernel
theorem s162_106 {v0 v1 v2 v3 v4 v5 v6 v7 : Value} {a : Nat} {i : Int32} {st : List Value} {im : IM} {rm : RM} (hk : kd a = 0) (hi : pm_in i (ln a) = true) : ev 162 106 [v0, v1, v2, v3, v4, v5, v6, v7] (.int i :: .ref a :: st) im rm = ev 162 107 [v0, v1, v2, v3, v4, v5, v6, v7] (.int (im a i.toNatClampNeg) :: st) (im) (rm) := ev_iald pm_m162 d162_106 hk hi rfl
theorem d162_107 : decode prog_10_method_60_code 107 = .ok (.aload_n 0, 1) := by decide +kernel
theorem s162_107 {v1 v2 v3 v4 v5 v6 v7 : Value} {l1 : Nat} {st : List Value} {im : IM} {rm : RM}  : ev 162 107 [.ref l1, v1, v2, v3, v4, v5, v6, v7] st im rm = ev 162 108 [.ref l1, v1, v2, v3, v4, v5, v6, v7] (.ref l1 :: st) (im) (rm) := ev_aload_n pm_m162 d162_107 rfl rfl
theorem d162_108 : decode prog_10_method_60_code 108 = .ok (.getfield 322, 3) := by decide +kernel
theorem s162_108 {v0 v1 v2 v3 v4 v5 v6 v7 : Value} {a : Nat} {st : List Value} {im : IM} {rm : RM} (hk : kd a = 18) : ev 162 108 [v0, v1, v2, v3, v4, v5, v6, v7] (.ref a :: st) im rm = ev 162 111 [v0, v1, v2, v3, v4, v5, v6, v7] (.int (im a 47) :: st) (im) (rm) := ev_getI pm_m162 d162_108 f8_322 rfl hk rfl
theorem d162_111 : decode prog_10_method_60_code 111 = .ok (.if_icmp .ge 15, 3) := by decide +kernel
theorem s162_111 {v0 v1 v2 v3 v4 v5 v6 v7 : Value} {x : Int32} {y : Int32} {st : List Value} {im : IM} {rm : RM} : ev 162 111 [v0, v1, v2, v3, v4, v5, v6, v7] (.int y :: .int x :: st) im rm = if y ≤ x then ev 162 126 [pm_u, pm_u, pm_u, v3, pm_u, pm_u, pm_u, pm_u] st im rm else ev 162 114 [v0, v1, v2, v3, v4, v5, v6, v7] st im rm := ev_icmp_ge pm_m162 d162_111 rfl rfl rfl
theorem d162_114 : decode prog_10_method_60_code 114 = .ok (.iconst 4, 1) := by decide +kernel
theorem s162_114 {v0 v1 v2 v3 v4 v5 v6 v7 : Value}  {st : List Value} {im : IM} {rm : RM}  : ev 162 114 [v0, v1, v2, v3, v4, v5, v6, v7] st im rm = ev 162 115 [v0, v1, v2, v3, v4, v5, v6, v7] (.int (nI 4) :: st) (im) (rm) := ev_iconst pm_m162 d162_114 rfl rfl
theorem d162_115 : decode prog_10_method_60_code 115 = .ok (.istore_n 3, 1) := by decide +kernel
theorem s162_115 {v0 v1 v3 v4 v5 v6 v7 : Value} {x1 : Int32} {st : List Value} {im : IM} {rm : RM}  : ev 162 115 [v0, v1, pm_u, v3, v4, v5, v6, v7] (.int x1 :: st) im rm = ev 162 116 [v0, v1, pm_u, .int x1, v4, v5, v6, v7] st (im) (rm) := ev_istore_n pm_m162 d162_115 (Nat.le_of_ble_eq_true rfl) rfl rfl
theorem d162_116 : decode prog_10_method_60_code 116 = .ok (.aload_n 0, 1) := by decide +kernel
theorem s162_116 {v1 v2 v3 v4 v5 v6 v7 : Value} {l1 : Nat} {st : List Value} {im : IM} {rm : RM}  : ev 162 116 [.ref l1, v1, v2, v3, v4, v5, v6, v7] st im rm = ev 162 117 [.ref l1, v1, v2, v3, v4, v5, v6, v7] (.ref l1 :: st) (im) (rm) := ev_aload_n pm_m162 d162_116 rfl rfl
theorem d162_117 : decode prog_10_method_60_code 117 = .ok (.aload_n 0, 1) := by decide +kernel
theorem s162_117 {v1 v2 v3 v4 v5 v6 v7 : Value} {l1 : Nat} {st : List Value} {im : IM} {rm : RM}  : ev 162 117 [.ref l1, v1, v2, v3, v4, v5, v6, v7] st im rm = ev 162 118 [.ref l1, v1, v2, v3, v4, v5, v6, v7] (.ref l1 :: st) (im) (rm) := ev_aload_n pm_m162 d162_117 rfl rfl
theorem d162_118 : decode prog_10_method_60_code 118 = .ok (.getfield 37, 3) := by decide +kernel
theorem s162_118 {v0 v1 v2 v3 v4 v5 v6 v7 : Value} {a : Nat} {st : List Value} {im : IM} {rm : RM} (hk : kd a = 18) : ev 162 118 [v0, v1, v2, v3, v4, v5, v6, v7] (.ref a :: st) im rm = ev 162 121 [v0, v1, v2, v3, v4, v5, v6, v7] (pm_ro (rm a 9) :: st) (im) (rm) := ev_getR pm_m162 d162_118 f8_37 rfl hk rfl
theorem d162_121 : decode prog_10_method_60_code 121 = .ok (.iconst 2, 1) := by decide +kernel
theorem s162_121 {v0 v1 v2 v3 v4 v5 v6 v7 : Value}  {st : List Value} {im : IM} {rm : RM}  : ev 162 121 [v0, v1, v2, v3, v4, v5, v6, v7] st im rm = ev 162 122 [v0, v1, v2, v3, v4, v5, v6, v7] (.int (nI 2) :: st) (im) (rm) := ev_iconst pm_m162 d162_121 rfl rfl
theorem d162_122 : decode prog_10_method_60_code 122 = .ok (.iaload, 1) := by decide +kernel
theorem s162_122 {v0 v1 v2 v3 v4 v5 v6 v7 : Value} {a : Nat} {i : Int32} {st : List Value} {im : IM} {rm : RM} (hk : kd a = 0) (hi : pm_in i (ln a) = true) : ev 162 122 [v0, v1, v2, v3, v4, v5, v6, v7] (.int i :: .ref a :: st) im rm = ev 162 123 [v0, v1, v2, v3, v4, v5, v6, v7] (.int (im a i.toNatClampNeg) :: st) (im) (rm) := ev_iald pm_m162 d162_122 hk hi rfl
theorem d162_123 : decode prog_10_method_60_code 123 = .ok (.putfield 322, 3) := by decide +kernel
theorem s162_123 {v0 v1 v2 v3 v4 v5 v6 v7 : Value} {a : Nat} {v : Int32} {st : List Value} {im : IM} {rm : RM} (hk : kd a = 18) : ev 162 123 [v0, v1, v2, v3, v4, v5, v6, v7] (.int v :: .ref a :: st) im rm = ev 162 126 [pm_u, pm_u, pm_u, v3, pm_u, pm_u, pm_u, pm_u] st (pm_w2 im a 47 v) (rm) := ev_putI pm_m162 d162_123 f8_322 rfl rfl hk rfl
theorem d162_126 : decode prog_10_method_60_code 126 = .ok (.iload_n 3, 1) := by decide +kernel
theorem s162_126 {v0 v1 v2 v4 v5 v6 v7 : Value} {l1 : Int32} {st : List Value} {im : IM} {rm : RM}  : ev 162 126 [v0, v1, v2, .int l1, v4, v5, v6, v7] st im rm = ev 162 127 [v0, v1, v2, .int l1, v4, v5, v6, v7] (.int l1 :: st) (im) (rm) := ev_iload_n pm_m162 d162_126 rfl rfl
theorem d162_127 : decode prog_10_method_60_code 127 = .ok (.ireturn, 1) := by decide +kernel
theorem s162_127 {v0 v1 v2 v3 v4 v5 v6 v7 : Value} {x : Int32} {im : IM} {rm : RM} : ev 162 127 [v0, v1, v2, v3, v4, v5, v6, v7] [.int x] im rm = some (some (.int x), im, rm) := ev_ireturn pm_m162 d162_127 rfl
theorem d163_0 : decode prog_10_method_61_code 0 = .ok (.iload_n 1, 1) := by decide +kernel
theorem s163_0 {v0 v2 v3 v4 : Value} {l1 : Int32} {st : List Value} {im : IM} {rm : RM}  : ev 163 0 [v0, .int l1, v2, v3, v4] st im rm = ev 163 1 [v0, .int l1, v2, v3, v4] (.int l1 :: st) (im) (rm) := ev_iload_n pm_m163 d163_0 rfl rfl
theorem d163_1 : decode prog_10_method_61_code 1 = .ok (.invokestatic 130, 3) := by decide +kernel
theorem s163_1 {v0 v1 v2 v3 v4 : Value} {p1 : Int32} {im : IM} {rm : RM}  : ev 163 1 [v0, v1, v2, v3, v4] [.int p1] im rm = (ev 106 0 [.int p1] [] im rm).bind (fun r => ev 163 4 [v0, v1, v2, v3, v4] (r.1.toList ++ []) r.2.1 r.2.2) := ev_callS pm_m163 d163_1 (by decide) l8_130 rfl pm_m106 rfl ⟨rfl, rfl⟩ rfl rfl
theorem d163_4 : decode prog_10_method_61_code 4 = .ok (.ifCond .eq 10, 3) := by decide +kernel
theorem s163_4 {v0 v1 v2 v3 v4 : Value} {x : Int32} {st : List Value} {im : IM} {rm : RM} : ev 163 4 [v0, v1, v2, v3, v4] (.int x :: st) im rm = if x = nI 0 then ev 163 14 [pm_u, pm_u, pm_u, pm_u, pm_u] st im rm else ev 163 7 [v0, v1, v2, v3, v4] st im rm := ev_if_eq (y := 0) pm_m163 d163_4 rfl rfl rfl
theorem d163_7 : decode prog_10_method_61_code 7 = .ok (.iload_n 2, 1) := by decide +kernel
theorem s163_7 {v0 v1 v3 v4 : Value} {l1 : Int32} {st : List Value} {im : IM} {rm : RM}  : ev 163 7 [v0, v1, .int l1, v3, v4] st im rm = ev 163 8 [v0, v1, .int l1, v3, v4] (.int l1 :: st) (im) (rm) := ev_iload_n pm_m163 d163_7 rfl rfl
theorem d163_8 : decode prog_10_method_61_code 8 = .ok (.invokestatic 240, 3) := by decide +kernel
theorem s163_8 {v0 v1 v2 v3 v4 : Value} {p1 : Int32} {im : IM} {rm : RM}  : ev 163 8 [v0, v1, v2, v3, v4] [.int p1] im rm = (ev 107 0 [.int p1] [] im rm).bind (fun r => ev 163 11 [v0, v1, v2, v3, v4] (r.1.toList ++ []) r.2.1 r.2.2) := ev_callS pm_m163 d163_8 (by decide) l8_240 rfl pm_m107 rfl ⟨rfl, rfl⟩ rfl rfl
theorem d163_11 : decode prog_10_method_61_code 11 = .ok (.ifCond .ne 6, 3) := by decide +kernel
theorem s163_11 {v0 v1 v2 v3 v4 : Value} {x : Int32} {st : List Value} {im : IM} {rm : RM} : ev 163 11 [v0, v1, v2, v3, v4] (.int x :: st) im rm = if x = nI 0 then ev 163 14 [pm_u, pm_u, pm_u, pm_u, pm_u] st im rm else ev 163 17 [v0, v1, v2, v3, pm_u] st im rm := ev_if_ne (y := 0) pm_m163 d163_11 rfl rfl rfl
theorem d163_14 : decode prog_10_method_61_code 14 = .ok (.bipush (-2), 2) := by decide +kernel
theorem s163_14 {v0 v1 v2 v3 v4 : Value}  {st : List Value} {im : IM} {rm : RM}  : ev 163 14 [v0, v1, v2, v3, v4] st im rm = ev 163 16 [v0, v1, v2, v3, v4] (.int ((-2 : Int32)) :: st) (im) (rm) := ev_bipush pm_m163 d163_14 rfl rfl
theorem d163_16 : decode prog_10_method_61_code 16 = .ok (.ireturn, 1) := by decide +kernel
theorem s163_16 {v0 v1 v2 v3 v4 : Value} {x : Int32} {im : IM} {rm : RM} : ev 163 16 [v0, v1, v2, v3, v4] [.int x] im rm = some (some (.int x), im, rm) := ev_ireturn pm_m163 d163_16 rfl
theorem d163_17 : decode prog_10_method_61_code 17 = .ok (.iload_n 3, 1) := by decide +kernel
theorem s163_17 {v0 v1 v2 v4 : Value} {l1 : Int32} {st : List Value} {im : IM} {rm : RM}  : ev 163 17 [v0, v1, v2, .int l1, v4] st im rm = ev 163 18 [v0, v1, v2, .int l1, v4] (.int l1 :: st) (im) (rm) := ev_iload_n pm_m163 d163_17 rfl rfl
theorem d163_18 : decode prog_10_method_61_code 18 = .ok (.i2l, 1) := by decide +kernel
theorem s163_18 {v0 v1 v2 v3 v4 : Value} {x : Int32} {st : List Value} {im : IM} {rm : RM}  : ev 163 18 [v0, v1, v2, v3, v4] (.int x :: st) im rm = ev 163 19 [v0, v1, v2, v3, v4] (.long x.toInt64 :: st) (im) (rm) := ev_i2l pm_m163 d163_18 rfl
theorem d163_19 : decode prog_10_method_61_code 19 = .ok (.lconst 0, 1) := by decide +kernel
theorem s163_19 {v0 v1 v2 v3 v4 : Value}  {st : List Value} {im : IM} {rm : RM}  : ev 163 19 [v0, v1, v2, v3, v4] st im rm = ev 163 20 [v0, v1, v2, v3, v4] (.long (lN 0) :: st) (im) (rm) := ev_lconst pm_m163 d163_19 rfl rfl
theorem d163_20 : decode prog_10_method_61_code 20 = .ok (.lconst 1, 1) := by decide +kernel
theorem s163_20 {v0 v1 v2 v3 v4 : Value}  {st : List Value} {im : IM} {rm : RM}  : ev 163 20 [v0, v1, v2, v3, v4] st im rm = ev 163 21 [v0, v1, v2, v3, v4] (.long (lN 1) :: st) (im) (rm) := ev_lconst pm_m163 d163_20 rfl rfl
theorem d163_21 : decode prog_10_method_61_code 21 = .ok (.invokestatic 120, 3) := by decide +kernel
theorem s163_21 {v0 v1 v2 v3 v4 : Value} {p1 : Int64} {p2 : Int64} {p3 : Int64} {im : IM} {rm : RM}  : ev 163 21 [v0, v1, v2, v3, v4] [.long p3, .long p2, .long p1] im rm = (ev 104 0 [.long p1, pm_u, .long p2, pm_u, .long p3, pm_u] [] im rm).bind (fun r => ev 163 24 [v0, v1, v2, v3, v4] (r.1.toList ++ []) r.2.1 r.2.2) := ev_callS pm_m163 d163_21 (by decide) l8_120 rfl pm_m104 rfl ⟨rfl, rfl⟩ rfl rfl
theorem d163_24 : decode prog_10_method_61_code 24 = .ok (.ifCond .ne 6, 3) := by decide +kernel
theorem s163_24 {v0 v1 v2 v3 v4 : Value} {x : Int32} {st : List Value} {im : IM} {rm : RM} : ev 163 24 [v0, v1, v2, v3, v4] (.int x :: st) im rm = if x = nI 0 then ev 163 27 [v0, v1, v2, v3, v4] st im rm else ev 163 30 [v0, v1, v2, v3, pm_u] st im rm := ev_if_ne (y := 0) pm_m163 d163_24 rfl rfl rfl
theorem d163_27 : decode prog_10_method_61_code 27 = .ok (.bipush (-3), 2) := by decide +kernel
theorem s163_27 {v0 v1 v2 v3 v4 : Value}  {st : List Value} {im : IM} {rm : RM}  : ev 163 27 [v0, v1, v2, v3, v4] st im rm = ev 163 29 [v0, v1, v2, v3, v4] (.int ((-3 : Int32)) :: st) (im) (rm) := ev_bipush pm_m163 d163_27 rfl rfl
theorem d163_29 : decode prog_10_method_61_code 29 = .ok (.ireturn, 1) := by decide +kernel
theorem s163_29 {v0 v1 v2 v3 v4 : Value} {x : Int32} {im : IM} {rm : RM} : ev 163 29 [v0, v1, v2, v3, v4] [.int x] im rm = some (some (.int x), im, rm) := ev_ireturn pm_m163 d163_29 rfl
theorem d163_30 : decode prog_10_method_61_code 30 = .ok (.aload_n 0, 1) := by decide +kernel
theorem s163_30 {v1 v2 v3 v4 : Value} {l1 : Nat} {st : List Value} {im : IM} {rm : RM}  : ev 163 30 [.ref l1, v1, v2, v3, v4] st im rm = ev 163 31 [.ref l1, v1, v2, v3, v4] (.ref l1 :: st) (im) (rm) := ev_aload_n pm_m163 d163_30 rfl rfl
theorem d163_31 : decode prog_10_method_61_code 31 = .ok (.iload_n 1, 1) := by decide +kernel
theorem s163_31 {v0 v2 v3 v4 : Value} {l1 : Int32} {st : List Value} {im : IM} {rm : RM}  : ev 163 31 [v0, .int l1, v2, v3, v4] st im rm = ev 163 32 [v0, .int l1, v2, v3, v4] (.int l1 :: st) (im) (rm) := ev_iload_n pm_m163 d163_31 rfl rfl
theorem d163_32 : decode prog_10_method_61_code 32 = .ok (.iload_n 2, 1) := by decide +kernel
theorem s163_32 {v0 v1 v3 v4 : Value} {l1 : Int32} {st : List Value} {im : IM} {rm : RM}  : ev 163 32 [v0, v1, .int l1, v3, v4] st im rm = ev 163 33 [v0, v1, .int l1, v3, v4] (.int l1 :: st) (im) (rm) := ev_iload_n pm_m163 d163_32 rfl rfl
theorem d163_33 : decode prog_10_method_61_code 33 = .ok (.invokevirtual 325, 3) := by decide +kernel
theorem s163_33 {v0 v1 v2 v3 v4 : Value} {a : Nat} {p1 : Int32} {p2 : Int32} {im : IM} {rm : RM} (hk : kd a = 18) : ev 163 33 [v0, v1, v2, v3, v4] [.int p2, .int p1, .ref a] im rm = (ev 162 0 [.ref a, .int p1, .int p2, pm_u, pm_u, pm_u, pm_u, pm_u] [] im rm).bind (fun r => ev 163 36 [v0, v1, v2, v3, v4] (r.1.toList ++ []) r.2.1 r.2.2) := ev_callV pm_m163 d163_33 l8_325 rfl pm_m162 (by decide) hk rfl ⟨rfl, rfl⟩ rfl rfl
theorem d163_36 : decode prog_10_method_61_code 36 = .ok (.istore 4, 2) := by decide +kernel
theorem s163_36 {v0 v1 v2 v4 : Value} {l1 : Int32} {x2 : Int32} {st : List Value} {im : IM} {rm : RM}  : ev 163 36 [v0, v1, v2, .int l1, v4] (.int x2 :: st) im rm = ev 163 38 [v0, v1, v2, .int l1, .int x2] st (im) (rm) := ev_istore pm_m163 d163_36 (Nat.le_of_ble_eq_true rfl) rfl rfl
theorem d163_38 : decode prog_10_method_61_code 38 = .ok (.iload_n 3, 1) := by decide +kernel
theorem s163_38 {v0 v1 v2 v4 : Value} {l1 : Int32} {st : List Value} {im : IM} {rm : RM}  : ev 163 38 [v0, v1, v2, .int l1, v4] st im rm = ev 163 39 [v0, v1, v2, .int l1, v4] (.int l1 :: st) (im) (rm) := ev_iload_n pm_m163 d163_38 rfl rfl
theorem d163_39 : decode prog_10_method_61_code 39 = .ok (.ifCond .ne 8, 3) := by decide +kernel
theorem s163_39 {v0 v1 v2 v3 v4 : Value} {x : Int32} {st : List Value} {im : IM} {rm : RM} : ev 163 39 [v0, v1, v2, v3, v4] (.int x :: st) im rm = if x = nI 0 then ev 163 42 [v0, v1, v2, v3, v4] st im rm else ev 163 47 [v0, pm_u, pm_u, pm_u, pm_u] st im rm := ev_if_ne (y := 0) pm_m163 d163_39 rfl rfl rfl
theorem d163_42 : decode prog_10_method_61_code 42 = .ok (.iload 4, 2) := by decide +kernel
theorem s163_42 {v0 v1 v2 v3 : Value} {l1 : Int32} {st : List Value} {im : IM} {rm : RM}  : ev 163 42 [v0, v1, v2, v3, .int l1] st im rm = ev 163 44 [v0, v1, v2, v3, .int l1] (.int l1 :: st) (im) (rm) := ev_iload pm_m163 d163_42 rfl rfl
theorem d163_44 : decode prog_10_method_61_code 44 = .ok (.goto 7, 3) := by decide +kernel
theorem s163_44 {v0 v1 v2 v3 v4 : Value}  {st : List Value} {im : IM} {rm : RM}  : ev 163 44 [v0, v1, v2, v3, v4] st im rm = ev 163 51 [pm_u, pm_u, pm_u, pm_u, pm_u] st (im) (rm) := ev_goto pm_m163 d163_44 rfl rfl
theorem d163_47 : decode prog_10_method_61_code 47 = .ok (.aload_n 0, 1) := by decide +kernel
theorem s163_47 {v1 v2 v3 v4 : Value} {l1 : Nat} {st : List Value} {im : IM} {rm : RM}  : ev 163 47 [.ref l1, v1, v2, v3, v4] st im rm = ev 163 48 [.ref l1, v1, v2, v3, v4] (.ref l1 :: st) (im) (rm) := ev_aload_n pm_m163 d163_47 rfl rfl
theorem d163_48 : decode prog_10_method_61_code 48 = .ok (.getfield 322, 3) := by decide +kernel
theorem s163_48 {v0 v1 v2 v3 v4 : Value} {a : Nat} {st : List Value} {im : IM} {rm : RM} (hk : kd a = 18) : ev 163 48 [v0, v1, v2, v3, v4] (.ref a :: st) im rm = ev 163 51 [pm_u, pm_u, pm_u, pm_u, pm_u] (.int (im a 47) :: st) (im) (rm) := ev_getI pm_m163 d163_48 f8_322 rfl hk rfl
theorem d163_51 : decode prog_10_method_61_code 51 = .ok (.ireturn, 1) := by decide +kernel
theorem s163_51 {v0 v1 v2 v3 v4 : Value} {x : Int32} {im : IM} {rm : RM} : ev 163 51 [v0, v1, v2, v3, v4] [.int x] im rm = some (some (.int x), im, rm) := ev_ireturn pm_m163 d163_51 rfl
theorem d164_0 : decode prog_10_method_62_code 0 = .ok (.iload_n 1, 1) := by decide +kernel
theorem s164_0 {v0 v2 v3 v4 : Value} {l1 : Int32} {st : List Value} {im : IM} {rm : RM}  : ev 164 0 [v0, .int l1, v2, v3, v4] st im rm = ev 164 1 [v0, .int l1, v2, v3, v4] (.int l1 :: st) (im) (rm) := ev_iload_n pm_m164 d164_0 rfl rfl
theorem d164_1 : decode prog_10_method_62_code 1 = .ok (.invokestatic 240, 3) := by decide +kernel
theorem s164_1 {v0 v1 v2 v3 v4 : Value} {p1 : Int32} {im : IM} {rm : RM}  : ev 164 1 [v0, v1, v2, v3, v4] [.int p1] im rm = (ev 107 0 [.int p1] [] im rm).bind (fun r => ev 164 4 [v0, v1, v2, v3, v4] (r.1.toList ++ []) r.2.1 r.2.2) := ev_callS pm_m164 d164_1 (by decide) l8_240 rfl pm_m107 rfl ⟨rfl, rfl⟩ rfl rfl
theorem d164_4 : decode prog_10_method_62_code 4 = .ok (.ifCond .ne 6, 3) := by decide +kernel
theorem s164_4 {v0 v1 v2 v3 v4 : Value} {x : Int32} {st : List Value} {im : IM} {rm : RM} : ev 164 4 [v0, v1, v2, v3, v4] (.int x :: st) im rm = if x = nI 0 then ev 164 7 [v0, v1, v2, v3, v4] st im rm else ev 164 10 [v0, v1, pm_u, pm_u, pm_u] st im rm := ev_if_ne (y := 0) pm_m164 d164_4 rfl rfl rfl
theorem d164_7 : decode prog_10_method_62_code 7 = .ok (.bipush (-2), 2) := by decide +kernel
theorem s164_7 {v0 v1 v2 v3 v4 : Value}  {st : List Value} {im : IM} {rm : RM}  : ev 164 7 [v0, v1, v2, v3, v4] st im rm = ev 164 9 [v0, v1, v2, v3, v4] (.int ((-2 : Int32)) :: st) (im) (rm) := ev_bipush pm_m164 d164_7 rfl rfl
theorem d164_9 : decode prog_10_method_62_code 9 = .ok (.ireturn, 1) := by decide +kernel
theorem s164_9 {v0 v1 v2 v3 v4 : Value} {x : Int32} {im : IM} {rm : RM} : ev 164 9 [v0, v1, v2, v3, v4] [.int x] im rm = some (some (.int x), im, rm) := ev_ireturn pm_m164 d164_9 rfl
theorem d164_10 : decode prog_10_method_62_code 10 = .ok (.lconst 0, 1) := by decide +kernel
theorem s164_10 {v0 v1 v2 v3 v4 : Value}  {st : List Value} {im : IM} {rm : RM}  : ev 164 10 [v0, v1, v2, v3, v4] st im rm = ev 164 11 [v0, v1, v2, v3, v4] (.long (lN 0) :: st) (im) (rm) := ev_lconst pm_m164 d164_10 rfl rfl
theorem d164_11 : decode prog_10_method_62_code 11 = .ok (.lstore_n 2, 1) := by decide +kernel
theorem s164_11 {v0 v2 v3 v4 : Value} {l1 : Int32} {x2 : Int64} {st : List Value} {im : IM} {rm : RM}  : ev 164 11 [v0, .int l1, v2, v3, v4] (.long x2 :: st) im rm = ev 164 12 [v0, .int l1, .long x2, pm_u, v4] st (im) (rm) := ev_lstore_n pm_m164 d164_11 (Nat.le_of_ble_eq_true rfl) rfl rfl
theorem d164_12 : decode prog_10_method_62_code 12 = .ok (.iconst 0, 1) := by decide +kernel
theorem s164_12 {v0 v1 v2 v3 v4 : Value}  {st : List Value} {im : IM} {rm : RM}  : ev 164 12 [v0, v1, v2, v3, v4] st im rm = ev 164 13 [v0, v1, v2, v3, v4] (.int (nI 0) :: st) (im) (rm) := ev_iconst pm_m164 d164_12 rfl rfl
theorem d164_13 : decode prog_10_method_62_code 13 = .ok (.istore 4, 2) := by decide +kernel
theorem s164_13 {v0 v1 v2 v4 : Value} {x1 : Int32} {st : List Value} {im : IM} {rm : RM}  : ev 164 13 [v0, v1, v2, pm_u, v4] (.int x1 :: st) im rm = ev 164 15 [v0, v1, v2, pm_u, .int x1] st (im) (rm) := ev_istore pm_m164 d164_13 (Nat.le_of_ble_eq_true rfl) rfl rfl
theorem d164_15 : decode prog_10_method_62_code 15 = .ok (.iload 4, 2) := by decide +kernel
theorem s164_15 {v0 v1 v2 v3 : Value} {l1 : Int32} {st : List Value} {im : IM} {rm : RM}  : ev 164 15 [v0, v1, v2, v3, .int l1] st im rm = ev 164 17 [v0, v1, v2, v3, .int l1] (.int l1 :: st) (im) (rm) := ev_iload pm_m164 d164_15 rfl rfl
theorem d164_17 : decode prog_10_method_62_code 17 = .ok (.iconst 4, 1) := by decide +kernel
theorem s164_17 {v0 v1 v2 v3 v4 : Value}  {st : List Value} {im : IM} {rm : RM}  : ev 164 17 [v0, v1, v2, v3, v4] st im rm = ev 164 18 [v0, v1, v2, v3, v4] (.int (nI 4) :: st) (im) (rm) := ev_iconst pm_m164 d164_17 rfl rfl
theorem d164_18 : decode prog_10_method_62_code 18 = .ok (.if_icmp .ge 34, 3) := by decide +kernel
theorem s164_18 {v0 v1 v2 v3 v4 : Value} {x : Int32} {y : Int32} {st : List Value} {im : IM} {rm : RM} : ev 164 18 [v0, v1, v2, v3, v4] (.int y :: .int x :: st) im rm = if y ≤ x then ev 164 52 [pm_u, pm_u, v2, pm_u, pm_u] st im rm else ev 164 21 [v0, v1, v2, v3, v4] st im rm := ev_icmp_ge pm_m164 d164_18 rfl rfl rfl
theorem d164_21 : decode prog_10_method_62_code 21 = .ok (.aload_n 0, 1) := by decide +kernel
theorem s164_21 {v1 v2 v3 v4 : Value} {l1 : Nat} {st : List Value} {im : IM} {rm : RM}  : ev 164 21 [.ref l1, v1, v2, v3, v4] st im rm = ev 164 22 [.ref l1, v1, v2, v3, v4] (.ref l1 :: st) (im) (rm) := ev_aload_n pm_m164 d164_21 rfl rfl
theorem d164_22 : decode prog_10_method_62_code 22 = .ok (.iload 4, 2) := by decide +kernel
theorem s164_22 {v0 v1 v2 v3 : Value} {l1 : Int32} {st : List Value} {im : IM} {rm : RM}  : ev 164 22 [v0, v1, v2, v3, .int l1] st im rm = ev 164 24 [v0, v1, v2, v3, .int l1] (.int l1 :: st) (im) (rm) := ev_iload pm_m164 d164_22 rfl rfl
theorem d164_24 : decode prog_10_method_62_code 24 = .ok (.iload_n 1, 1) := by decide +kernel
theorem s164_24 {v0 v2 v3 v4 : Value} {l1 : Int32} {st : List Value} {im : IM} {rm : RM}  : ev 164 24 [v0, .int l1, v2, v3, v4] st im rm = ev 164 25 [v0, .int l1, v2, v3, v4] (.int l1 :: st) (im) (rm) := ev_iload_n pm_m164 d164_24 rfl rfl
theorem d164_25 : decode prog_10_method_62_code 25 = .ok (.invokevirtual 325, 3) := by decide +kernel
theorem s164_25 {v0 v1 v2 v3 v4 : Value} {a : Nat} {p1 : Int32} {p2 : Int32} {im : IM} {rm : RM} (hk : kd a = 18) : ev 164 25 [v0, v1, v2, v3, v4] [.int p2, .int p1, .ref a] im rm = (ev 162 0 [.ref a, .int p1, .int p2, pm_u, pm_u, pm_u, pm_u, pm_u] [] im rm).bind (fun r => ev 164 28 [v0, v1, v2, v3, v4] (r.1.toList ++ []) r.2.1 r.2.2) := ev_callV pm_m164 d164_25 l8_325 rfl pm_m162 (by decide) hk rfl ⟨rfl, rfl⟩ rfl rfl
theorem d164_28 : decode prog_10_method_62_code 28 = .ok (.pop, 1) := by decide +kernel
theorem s164_28 {v0 v1 v2 v3 v4 : Value} {x : Int32} {st : List Value} {im : IM} {rm : RM}  : ev 164 28 [v0, v1, v2, v3, v4] (.int x :: st) im rm = ev 164 29 [v0, v1, v2, v3, v4] st (im) (rm) := ev_pop pm_m164 d164_28 rfl
theorem d164_29 : decode prog_10_method_62_code 29 = .ok (.lload_n 2, 1) := by decide +kernel
theorem s164_29 {v0 v1 v3 v4 : Value} {l1 : Int64} {st : List Value} {im : IM} {rm : RM}  : ev 164 29 [v0, v1, .long l1, v3, v4] st im rm = ev 164 30 [v0, v1, .long l1, v3, v4] (.long l1 :: st) (im) (rm) := ev_lload_n pm_m164 d164_29 rfl rfl
theorem d164_30 : decode prog_10_method_62_code 30 = .ok (.aload_n 0, 1) := by decide +kernel
theorem s164_30 {v1 v2 v3 v4 : Value} {l1 : Nat} {st : List Value} {im : IM} {rm : RM}  : ev 164 30 [.ref l1, v1, v2, v3, v4] st im rm = ev 164 31 [.ref l1, v1, v2, v3, v4] (.ref l1 :: st) (im) (rm) := ev_aload_n pm_m164 d164_30 rfl rfl
theorem d164_31 : decode prog_10_method_62_code 31 = .ok (.getfield 79, 3) := by decide +kernel
theorem s164_31 {v0 v1 v2 v3 v4 : Value} {a : Nat} {st : List Value} {im : IM} {rm : RM} (hk : kd a = 18) : ev 164 31 [v0, v1, v2, v3, v4] (.ref a :: st) im rm = ev 164 34 [v0, v1, v2, v3, v4] (pm_ro (rm a 25) :: st) (im) (rm) := ev_getR pm_m164 d164_31 f8_79 rfl hk rfl
theorem d164_34 : decode prog_10_method_62_code 34 = .ok (.iload 4, 2) := by decide +kernel
theorem s164_34 {v0 v1 v2 v3 : Value} {l1 : Int32} {st : List Value} {im : IM} {rm : RM}  : ev 164 34 [v0, v1, v2, v3, .int l1] st im rm = ev 164 36 [v0, v1, v2, v3, .int l1] (.int l1 :: st) (im) (rm) := ev_iload pm_m164 d164_34 rfl rfl
theorem d164_36 : decode prog_10_method_62_code 36 = .ok (.iaload, 1) := by decide +kernel
theorem s164_36 {v0 v1 v2 v3 v4 : Value} {a : Nat} {i : Int32} {st : List Value} {im : IM} {rm : RM} (hk : kd a = 0) (hi : pm_in i (ln a) = true) : ev 164 36 [v0, v1, v2, v3, v4] (.int i :: .ref a :: st) im rm = ev 164 37 [v0, v1, v2, v3, v4] (.int (im a i.toNatClampNeg) :: st) (im) (rm) := ev_iald pm_m164 d164_36 hk hi rfl
theorem d164_37 : decode prog_10_method_62_code 37 = .ok (.i2l, 1) := by decide +kernel
theorem s164_37 {v0 v1 v2 v3 v4 : Value} {x : Int32} {st : List Value} {im : IM} {rm : RM}  : ev 164 37 [v0, v1, v2, v3, v4] (.int x :: st) im rm = ev 164 38 [v0, v1, v2, v3, v4] (.long x.toInt64 :: st) (im) (rm) := ev_i2l pm_m164 d164_37 rfl
theorem d164_38 : decode prog_10_method_62_code 38 = .ok (.aload_n 0, 1) := by decide +kernel
theorem s164_38 {v1 v2 v3 v4 : Value} {l1 : Nat} {st : List Value} {im : IM} {rm : RM}  : ev 164 38 [.ref l1, v1, v2, v3, v4] st im rm = ev 164 39 [.ref l1, v1, v2, v3, v4] (.ref l1 :: st) (im) (rm) := ev_aload_n pm_m164 d164_38 rfl rfl
theorem d164_39 : decode prog_10_method_62_code 39 = .ok (.getfield 322, 3) := by decide +kernel
theorem s164_39 {v0 v1 v2 v3 v4 : Value} {a : Nat} {st : List Value} {im : IM} {rm : RM} (hk : kd a = 18) : ev 164 39 [v0, v1, v2, v3, v4] (.ref a :: st) im rm = ev 164 42 [v0, v1, v2, v3, v4] (.int (im a 47) :: st) (im) (rm) := ev_getI pm_m164 d164_39 f8_322 rfl hk rfl
theorem d164_42 : decode prog_10_method_62_code 42 = .ok (.i2l, 1) := by decide +kernel
theorem s164_42 {v0 v1 v2 v3 v4 : Value} {x : Int32} {st : List Value} {im : IM} {rm : RM}  : ev 164 42 [v0, v1, v2, v3, v4] (.int x :: st) im rm = ev 164 43 [v0, v1, v2, v3, v4] (.long x.toInt64 :: st) (im) (rm) := ev_i2l pm_m164 d164_42 rfl
theorem d164_43 : decode prog_10_method_62_code 43 = .ok (.lmul, 1) := by decide +kernel
theorem s164_43 {v0 v1 v2 v3 v4 : Value} {x : Int64} {y : Int64} {st : List Value} {im : IM} {rm : RM}  : ev 164 43 [v0, v1, v2, v3, v4] (.long y :: .long x :: st) im rm = ev 164 44 [v0, v1, v2, v3, v4] (.long (x * y) :: st) (im) (rm) := ev_lmul pm_m164 d164_43 rfl
theorem d164_44 : decode prog_10_method_62_code 44 = .ok (.ladd, 1) := by decide +kernel
theorem s164_44 {v0 v1 v2 v3 v4 : Value} {x : Int64} {y : Int64} {st : List Value} {im : IM} {rm : RM}  : ev 164 44 [v0, v1, v2, v3, v4] (.long y :: .long x :: st) im rm = ev 164 45 [v0, v1, v2, v3, v4] (.long (x + y) :: st) (im) (rm) := ev_ladd pm_m164 d164_44 rfl
theorem d164_45 : decode prog_10_method_62_code 45 = .ok (.lstore_n 2, 1) := by decide +kernel
theorem s164_45 {v0 v2 v3 v4 : Value} {l1 : Int32} {x2 : Int64} {st : List Value} {im : IM} {rm : RM}  : ev 164 45 [v0, .int l1, v2, v3, v4] (.long x2 :: st) im rm = ev 164 46 [v0, .int l1, .long x2, pm_u, v4] st (im) (rm) := ev_lstore_n pm_m164 d164_45 (Nat.le_of_ble_eq_true rfl) rfl rfl
theorem d164_46 : decode prog_10_method_62_code 46 = .ok (.iinc 4 1, 3) := by decide +kernel
theorem s164_46 {v0 v1 v2 : Value} {l1 : Int32} {st : List Value} {im : IM} {rm : RM}  : ev 164 46 [v0, v1, v2, pm_u, .int l1] st im rm = ev 164 49 [v0, v1, v2, pm_u, .int (l1 + nI 1)] st (im) (rm) := ev_iinc pm_m164 d164_46 rfl rfl rfl rfl
theorem d164_49 : decode prog_10_method_62_code 49 = .ok (.goto (-34), 3) := by decide +kernel
theorem s164_49 {v0 v1 v2 v3 v4 : Value}  {st : List Value} {im : IM} {rm : RM}  : ev 164 49 [v0, v1, v2, v3, v4] st im rm = ev 164 15 [v0, v1, v2, pm_u, v4] st (im) (rm) := ev_goto pm_m164 d164_49 rfl rfl
theorem d164_52 : decode prog_10_method_62_code 52 = .ok (.lload_n 2, 1) := by decide +kernel
theorem s164_52 {v0 v1 v3 v4 : Value} {l1 : Int64} {st : List Value} {im : IM} {rm : RM}  : ev 164 52 [v0, v1, .long l1, v3, v4] st im rm = ev 164 53 [v0, v1, .long l1, v3, v4] (.long l1 :: st) (im) (rm) := ev_lload_n pm_m164 d164_52 rfl rfl
theorem d164_53 : decode prog_10_method_62_code 53 = .ok (.ldc2_w 328, 3) := by decide +kernel
theorem s164_53 {v0 v1 v2 v3 v4 : Value}  {st : List Value} {im : IM} {rm : RM}  : ev 164 53 [v0, v1, v2, v3, v4] st im rm = ev 164 56 [v0, v1, v2, v3, v4] (.long (lN 999999999) :: st) (im) (rm) := ev_ldc2 pm_m164 d164_53 (by decide +kernel) rfl
theorem d164_56 : decode prog_10_method_62_code 56 = .ok (.lcmp, 1) := by decide +kernel
theorem s164_56 {v0 v1 v2 v3 v4 : Value} {x : Int64} {y : Int64} {st : List Value} {im : IM} {rm : RM}  : ev 164 56 [v0, v1, v2, v3, v4] (.long y :: .long x :: st) im rm = ev 164 57 [v0, v1, v2, v3, v4] (.int (lg_cmp x y) :: st) (im) (rm) := ev_lcmp pm_m164 d164_56 rfl
theorem d164_57 : decode prog_10_method_62_code 57 = .ok (.ifCond .le 9, 3) := by decide +kernel
theorem s164_57 {v0 v1 v2 v3 v4 : Value} {x : Int32} {st : List Value} {im : IM} {rm : RM} : ev 164 57 [v0, v1, v2, v3, v4] (.int x :: st) im rm = if x ≤ nI 0 then ev 164 66 [pm_u, pm_u, v2, pm_u, pm_u] st im rm else ev 164 60 [v0, v1, v2, v3, v4] st im rm := ev_if_le (y := 0) pm_m164 d164_57 rfl rfl rfl
theorem d164_60 : decode prog_10_method_62_code 60 = .ok (.ldc2_w 328, 3) := by decide +kernel
theorem s164_60 {v0 v1 v2 v3 v4 : Value}  {st : List Value} {im : IM} {rm : RM}  : ev 164 60 [v0, v1, v2, v3, v4] st im rm = ev 164 63 [v0, v1, v2, v3, v4] (.long (lN 999999999) :: st) (im) (rm) := ev_ldc2 pm_m164 d164_60 (by decide +kernel) rfl
theorem d164_63 : decode prog_10_method_62_code 63 = .ok (.goto 4, 3) := by decide +kernel
theorem s164_63 {v0 v1 v2 v3 v4 : Value}  {st : List Value} {im : IM} {rm : RM}  : ev 164 63 [v0, v1, v2, v3, v4] st im rm = ev 164 67 [pm_u, pm_u, pm_u, pm_u, pm_u] st (im) (rm) := ev_goto pm_m164 d164_63 rfl rfl
theorem d164_66 : decode prog_10_method_62_code 66 = .ok (.lload_n 2, 1) := by decide +kernel
theorem s164_66 {v0 v1 v3 v4 : Value} {l1 : Int64} {st : List Value} {im : IM} {rm : RM}  : ev 164 66 [v0, v1, .long l1, v3, v4] st im rm = ev 164 67 [pm_u, pm_u, pm_u, pm_u, pm_u] (.long l1 :: st) (im) (rm) := ev_lload_n pm_m164 d164_66 rfl rfl
theorem d164_67 : decode prog_10_method_62_code 67 = .ok (.l2i, 1) := by decide +kernel
theorem s164_67 {v0 v1 v2 v3 v4 : Value} {x : Int64} {st : List Value} {im : IM} {rm : RM}  : ev 164 67 [v0, v1, v2, v3, v4] (.long x :: st) im rm = ev 164 68 [v0, v1, v2, v3, v4] (.int x.toInt32 :: st) (im) (rm) := ev_l2i pm_m164 d164_67 rfl
theorem d164_68 : decode prog_10_method_62_code 68 = .ok (.ireturn, 1) := by decide +kernel
theorem s164_68 {v0 v1 v2 v3 v4 : Value} {x : Int32} {im : IM} {rm : RM} : ev 164 68 [v0, v1, v2, v3, v4] [.int x] im rm = some (some (.int x), im, rm) := ev_ireturn pm_m164 d164_68 rfl
theorem d165_0 : decode prog_10_method_63_code 0 = .ok (.iload_n 1, 1) := by decide +kernel
theorem s165_0 {v0 v2 v3 : Value} {l1 : Int32} {st : List Value} {im : IM} {rm : RM}  : ev 165 0 [v0, .int l1, v2, v3] st im rm = ev 165 1 [v0, .int l1, v2, v3] (.int l1 :: st) (im) (rm) := ev_iload_n pm_m165 d165_0 rfl rfl
theorem d165_1 : decode prog_10_method_63_code 1 = .ok (.invokestatic 126, 3) := by decide +kernel
theorem s165_1 {v0 v1 v2 v3 : Value} {p1 : Int32} {im : IM} {rm : RM}  : ev 165 1 [v0, v1, v2, v3] [.int p1] im rm = (ev 105 0 [.int p1] [] im rm).bind (fun r => ev 165 4 [v0, v1, v2, v3] (r.1.toList ++ []) r.2.1 r.2.2) := ev_callS pm_m165 d165_1 (by decide) l8_126 rfl pm_m105 rfl ⟨rfl, rfl⟩ rfl rfl
theorem d165_4 : decode prog_10_method_63_code 4 = .ok (.ifCond .ne 6, 3) := by decide +kernel
theorem s165_4 {v0 v1 v2 v3 : Value} {x : Int32} {st : List Value} {im : IM} {rm : RM} : ev 165 4 [v0, v1, v2, v3] (.int x :: st) im rm = if x = nI 0 then ev 165 7 [v0, v1, v2, v3] st im rm else ev 165 10 [v0, v1, v2, pm_u] st im rm := ev_if_ne (y := 0) pm_m165 d165_4 rfl rfl rfl
theorem d165_7 : decode prog_10_method_63_code 7 = .ok (.bipush (-2), 2) := by decide +kernel
theorem s165_7 {v0 v1 v2 v3 : Value}  {st : List Value} {im : IM} {rm : RM}  : ev 165 7 [v0, v1, v2, v3] st im rm = ev 165 9 [v0, v1, v2, v3] (.int ((-2 : Int32)) :: st) (im) (rm) := ev_bipush pm_m165 d165_7 rfl rfl
theorem d165_9 : decode prog_10_method_63_code 9 = .ok (.ireturn, 1) := by decide +kernel
theorem s165_9 {v0 v1 v2 v3 : Value} {x : Int32} {im : IM} {rm : RM} : ev 165 9 [v0, v1, v2, v3] [.int x] im rm = some (some (.int x), im, rm) := ev_ireturn pm_m165 d165_9 rfl
theorem d165_10 : decode prog_10_method_63_code 10 = .ok (.iload_n 2, 1) := by decide +kernel
theorem s165_10 {v0 v1 v3 : Value} {l1 : Int32} {st : List Value} {im : IM} {rm : RM}  : ev 165 10 [v0, v1, .int l1, v3] st im rm = ev 165 11 [v0, v1, .int l1, v3] (.int l1 :: st) (im) (rm) := ev_iload_n pm_m165 d165_10 rfl rfl
theorem d165_11 : decode prog_10_method_63_code 11 = .ok (.i2l, 1) := by decide +kernel
theorem s165_11 {v0 v1 v2 v3 : Value} {x : Int32} {st : List Value} {im : IM} {rm : RM}  : ev 165 11 [v0, v1, v2, v3] (.int x :: st) im rm = ev 165 12 [v0, v1, v2, v3] (.long x.toInt64 :: st) (im) (rm) := ev_i2l pm_m165 d165_11 rfl
theorem d165_12 : decode prog_10_method_63_code 12 = .ok (.lconst 0, 1) := by decide +kernel
theorem s165_12 {v0 v1 v2 v3 : Value}  {st : List Value} {im : IM} {rm : RM}  : ev 165 12 [v0, v1, v2, v3] st im rm = ev 165 13 [v0, v1, v2, v3] (.long (lN 0) :: st) (im) (rm) := ev_lconst pm_m165 d165_12 rfl rfl
theorem d165_13 : decode prog_10_method_63_code 13 = .ok (.ldc2_w 135, 3) := by decide +kernel
theorem s165_13 {v0 v1 v2 v3 : Value}  {st : List Value} {im : IM} {rm : RM}  : ev 165 13 [v0, v1, v2, v3] st im rm = ev 165 16 [v0, v1, v2, v3] (.long (lN 99) :: st) (im) (rm) := ev_ldc2 pm_m165 d165_13 (by decide +kernel) rfl
theorem d165_16 : decode prog_10_method_63_code 16 = .ok (.invokestatic 120, 3) := by decide +kernel
theorem s165_16 {v0 v1 v2 v3 : Value} {p1 : Int64} {p2 : Int64} {p3 : Int64} {im : IM} {rm : RM}  : ev 165 16 [v0, v1, v2, v3] [.long p3, .long p2, .long p1] im rm = (ev 104 0 [.long p1, pm_u, .long p2, pm_u, .long p3, pm_u] [] im rm).bind (fun r => ev 165 19 [v0, v1, v2, v3] (r.1.toList ++ []) r.2.1 r.2.2) := ev_callS pm_m165 d165_16 (by decide) l8_120 rfl pm_m104 rfl ⟨rfl, rfl⟩ rfl rfl
theorem d165_19 : decode prog_10_method_63_code 19 = .ok (.ifCond .ne 6, 3) := by decide +kernel
theorem s165_19 {v0 v1 v2 v3 : Value} {x : Int32} {st : List Value} {im : IM} {rm : RM} : ev 165 19 [v0, v1, v2, v3] (.int x :: st) im rm = if x = nI 0 then ev 165 22 [v0, v1, v2, v3] st im rm else ev 165 25 [v0, v1, v2, pm_u] st im rm := ev_if_ne (y := 0) pm_m165 d165_19 rfl rfl rfl
theorem d165_22 : decode prog_10_method_63_code 22 = .ok (.bipush (-3), 2) := by decide +kernel
theorem s165_22 {v0 v1 v2 v3 : Value}  {st : List Value} {im : IM} {rm : RM}  : ev 165 22 [v0, v1, v2, v3] st im rm = ev 165 24 [v0, v1, v2, v3] (.int ((-3 : Int32)) :: st) (im) (rm) := ev_bipush pm_m165 d165_22 rfl rfl
theorem d165_24 : decode prog_10_method_63_code 24 = .ok (.ireturn, 1) := by decide +kernel
theorem s165_24 {v0 v1 v2 v3 : Value} {x : Int32} {im : IM} {rm : RM} : ev 165 24 [v0, v1, v2, v3] [.int x] im rm = some (some (.int x), im, rm) := ev_ireturn pm_m165 d165_24 rfl
theorem d165_25 : decode prog_10_method_63_code 25 = .ok (.aload_n 0, 1) := by decide +kernel
theorem s165_25 {v1 v2 v3 : Value} {l1 : Nat} {st : List Value} {im : IM} {rm : RM}  : ev 165 25 [.ref l1, v1, v2, v3] st im rm = ev 165 26 [.ref l1, v1, v2, v3] (.ref l1 :: st) (im) (rm) := ev_aload_n pm_m165 d165_25 rfl rfl
theorem d165_26 : decode prog_10_method_63_code 26 = .ok (.getfield 85, 3) := by decide +kernel
theorem s165_26 {v0 v1 v2 v3 : Value} {a : Nat} {st : List Value} {im : IM} {rm : RM} (hk : kd a = 18) : ev 165 26 [v0, v1, v2, v3] (.ref a :: st) im rm = ev 165 29 [v0, v1, v2, v3] (pm_ro (rm a 27) :: st) (im) (rm) := ev_getR pm_m165 d165_26 f8_85 rfl hk rfl
theorem d165_29 : decode prog_10_method_63_code 29 = .ok (.iload_n 1, 1) := by decide +kernel
theorem s165_29 {v0 v2 v3 : Value} {l1 : Int32} {st : List Value} {im : IM} {rm : RM}  : ev 165 29 [v0, .int l1, v2, v3] st im rm = ev 165 30 [v0, .int l1, v2, v3] (.int l1 :: st) (im) (rm) := ev_iload_n pm_m165 d165_29 rfl rfl
theorem d165_30 : decode prog_10_method_63_code 30 = .ok (.iaload, 1) := by decide +kernel
theorem s165_30 {v0 v1 v2 v3 : Value} {a : Nat} {i : Int32} {st : List Value} {im : IM} {rm : RM} (hk : kd a = 0) (hi : pm_in i (ln a) = true) : ev 165 30 [v0, v1, v2, v3] (.int i :: .ref a :: st) im rm = ev 165 31 [v0, v1, v2, v3] (.int (im a i.toNatClampNeg) :: st) (im) (rm) := ev_iald pm_m165 d165_30 hk hi rfl
theorem d165_31 : decode prog_10_method_63_code 31 = .ok (.istore_n 3, 1) := by decide +kernel
theorem s165_31 {v0 v1 v3 : Value} {l1 : Int32} {x2 : Int32} {st : List Value} {im : IM} {rm : RM}  : ev 165 31 [v0, v1, .int l1, v3] (.int x2 :: st) im rm = ev 165 32 [v0, v1, .int l1, .int x2] st (im) (rm) := ev_istore_n pm_m165 d165_31 (Nat.le_of_ble_eq_true rfl) rfl rfl
theorem d165_32 : decode prog_10_method_63_code 32 = .ok (.aload_n 0, 1) := by decide +kernel
theorem s165_32 {v1 v2 v3 : Value} {l1 : Nat} {st : List Value} {im : IM} {rm : RM}  : ev 165 32 [.ref l1, v1, v2, v3] st im rm = ev 165 33 [.ref l1, v1, v2, v3] (.ref l1 :: st) (im) (rm) := ev_aload_n pm_m165 d165_32 rfl rfl
theorem d165_33 : decode prog_10_method_63_code 33 = .ok (.getfield 85, 3) := by decide +kernel
theorem s165_33 {v0 v1 v2 v3 : Value} {a : Nat} {st : List Value} {im : IM} {rm : RM} (hk : kd a = 18) : ev 165 33 [v0, v1, v2, v3] (.ref a :: st) im rm = ev 165 36 [v0, v1, v2, v3] (pm_ro (rm a 27) :: st) (im) (rm) := ev_getR pm_m165 d165_33 f8_85 rfl hk rfl
theorem d165_36 : decode prog_10_method_63_code 36 = .ok (.iload_n 1, 1) := by decide +kernel
theorem s165_36 {v0 v2 v3 : Value} {l1 : Int32} {st : List Value} {im : IM} {rm : RM}  : ev 165 36 [v0, .int l1, v2, v3] st im rm = ev 165 37 [v0, .int l1, v2, v3] (.int l1 :: st) (im) (rm) := ev_iload_n pm_m165 d165_36 rfl rfl
theorem d165_37 : decode prog_10_method_63_code 37 = .ok (.iload_n 2, 1) := by decide +kernel
theorem s165_37 {v0 v1 v3 : Value} {l1 : Int32} {st : List Value} {im : IM} {rm : RM}  : ev 165 37 [v0, v1, .int l1, v3] st im rm = ev 165 38 [v0, v1, .int l1, v3] (.int l1 :: st) (im) (rm) := ev_iload_n pm_m165 d165_37 rfl rfl
theorem d165_38 : decode prog_10_method_63_code 38 = .ok (.iastore, 1) := by decide +kernel
theorem s165_38 {v0 v1 v2 v3 : Value} {a : Nat} {i : Int32} {v : Int32} {st : List Value} {im : IM} {rm : RM} (hk : kd a = 0) (hi : pm_in i (ln a) = true) : ev 165 38 [v0, v1, v2, v3] (.int v :: .int i :: .ref a :: st) im rm = ev 165 39 [v0, v1, v2, v3] st (pm_w2 im a i.toNatClampNeg v) (rm) := ev_iast pm_m165 d165_38 hk hi rfl
theorem d165_39 : decode prog_10_method_63_code 39 = .ok (.iload_n 3, 1) := by decide +kernel
theorem s165_39 {v0 v1 v2 : Value} {l1 : Int32} {st : List Value} {im : IM} {rm : RM}  : ev 165 39 [v0, v1, v2, .int l1] st im rm = ev 165 40 [v0, v1, v2, .int l1] (.int l1 :: st) (im) (rm) := ev_iload_n pm_m165 d165_39 rfl rfl
theorem d165_40 : decode prog_10_method_63_code 40 = .ok (.ireturn, 1) := by decide +kernel
theorem s165_40 {v0 v1 v2 v3 : Value} {x : Int32} {im : IM} {rm : RM} : ev 165 40 [v0, v1, v2, v3] [.int x] im rm = some (some (.int x), im, rm) := ev_ireturn pm_m165 d165_40 rfl
theorem d166_0 : decode prog_10_method_64_code 0 = .ok (.iload_n 1, 1) := by decide +kernel
theorem s166_0 {v0 v2 v3 v4 v5 v6 v7 v8 v9 : Value} {l1 : Int32} {st : List Value} {im : IM} {rm : RM}  : ev 166 0 [v0, .int l1, v2, v3, v4, v5, v6, v7, v8, v9] st im rm = ev 166 1 [v0, .int l1, v2, v3, v4, v5, v6, v7, v8, v9] (.int l1 :: st) (im) (rm) := ev_iload_n pm_m166 d166_0 rfl rfl
theorem d166_1 : decode prog_10_method_64_code 1 = .ok (.i2l, 1) := by decide +kernel
theorem s166_1 {v0 v1 v2 v3 v4 v5 v6 v7 v8 v9 : Value} {x : Int32} {st : List Value} {im : IM} {rm : RM}  : ev 166 1 [v0, v1, v2, v3, v4, v5, v6, v7, v8, v9] (.int x :: st) im rm = ev 166 2 [v0, v1, v2, v3, v4, v5, v6, v7, v8, v9] (.long x.toInt64 :: st) (im) (rm) := ev_i2l pm_m166 d166_1 rfl
theorem d166_2 : decode prog_10_method_64_code 2 = .ok (.lconst 0, 1) := by decide +kernel
theorem s166_2 {v0 v1 v2 v3 v4 v5 v6 v7 v8 v9 : Value}  {st : List Value} {im : IM} {rm : RM}  : ev 166 2 [v0, v1, v2, v3, v4, v5, v6, v7, v8, v9] st im rm = ev 166 3 [v0, v1, v2, v3, v4, v5, v6, v7, v8, v9] (.long (lN 0) :: st) (im) (rm) := ev_lconst pm_m166 d166_2 rfl rfl
theorem d166_3 : decode prog_10_method_64_code 3 = .ok (.ldc2_w 151, 3) := by decide +kernel
theorem s166_3 {v0 v1 v2 v3 v4 v5 v6 v7 v8 v9 : Value}  {st : List Value} {im : IM} {rm : RM}  : ev 166 3 [v0, v1, v2, v3, v4, v5, v6, v7, v8, v9] st im rm = ev 166 6 [v0, v1, v2, v3, v4, v5, v6, v7, v8, v9] (.long (lN 99999) :: st) (im) (rm) := ev_ldc2 pm_m166 d166_3 (by decide +kernel) rfl
theorem d166_6 : decode prog_10_method_64_code 6 = .ok (.invokestatic 120, 3) := by decide +kernel
theorem s166_6 {v0 v1 v2 v3 v4 v5 v6 v7 v8 v9 : Value} {p1 : Int64} {p2 : Int64} {p3 : Int64} {im : IM} {rm : RM}  : ev 166 6 [v0, v1, v2, v3, v4, v5, v6, v7, v8, v9] [.long p3, .long p2, .long p1] im rm = (ev 104 0 [.long p1, pm_u, .long p2, pm_u, .long p3, pm_u] [] im rm).bind (fun r => ev 166 9 [v0, v1, v2, v3, v4, v5, v6, v7, v8, v9] (r.1.toList ++ []) r.2.1 r.2.2) := ev_callS pm_m166 d166_6 (by decide) l8_120 rfl pm_m104 rfl ⟨rfl, rfl⟩ rfl rfl
theorem d166_9 : decode prog_10_method_64_code 9 = .ok (.ifCond .eq 15, 3) := by decide +kernel
theorem s166_9 {v0 v1 v2 v3 v4 v5 v6 v7 v8 v9 : Value} {x : Int32} {st : List Value} {im : IM} {rm : RM} : ev 166 9 [v0, v1, v2, v3, v4, v5, v6, v7, v8, v9] (.int x :: st) im rm = if x = nI 0 then ev 166 24 [pm_u, pm_u, pm_u, pm_u, pm_u, pm_u, pm_u, pm_u, pm_u, pm_u] st im rm else ev 166 12 [v0, v1, v2, v3, v4, v5, v6, v7, v8, v9] st im rm := ev_if_eq (y := 0) pm_m166 d166_9 rfl rfl rfl
theorem d166_12 : decode prog_10_method_64_code 12 = .ok (.iload_n 2, 1) := by decide +kernel
theorem s166_12 {v0 v1 v3 v4 v5 v6 v7 v8 v9 : Value} {l1 : Int32} {st : List Value} {im : IM} {rm : RM}  : ev 166 12 [v0, v1, .int l1, v3, v4, v5, v6, v7, v8, v9] st im rm = ev 166 13 [v0, v1, .int l1, v3, v4, v5, v6, v7, v8, v9] (.int l1 :: st) (im) (rm) := ev_iload_n pm_m166 d166_12 rfl rfl
theorem d166_13 : decode prog_10_method_64_code 13 = .ok (.i2l, 1) := by decide +kernel
theorem s166_13 {v0 v1 v2 v3 v4 v5 v6 v7 v8 v9 : Value} {x : Int32} {st : List Value} {im : IM} {rm : RM}  : ev 166 13 [v0, v1, v2, v3, v4, v5, v6, v7, v8, v9] (.int x :: st) im rm = ev 166 14 [v0, v1, v2, v3, v4, v5, v6, v7, v8, v9] (.long x.toInt64 :: st) (im) (rm) := ev_i2l pm_m166 d166_13 rfl
theorem d166_14 : decode prog_10_method_64_code 14 = .ok (.lconst 0, 1) := by decide +kernel
theorem s166_14 {v0 v1 v2 v3 v4 v5 v6 v7 v8 v9 : Value}  {st : List Value} {im : IM} {rm : RM}  : ev 166 14 [v0, v1, v2, v3, v4, v5, v6, v7, v8, v9] st im rm = ev 166 15 [v0, v1, v2, v3, v4, v5, v6, v7, v8, v9] (.long (lN 0) :: st) (im) (rm) := ev_lconst pm_m166 d166_14 rfl rfl
theorem d166_15 : decode prog_10_method_64_code 15 = .ok (.ldc2_w 267, 3) := by decide +kernel
theorem s166_15 {v0 v1 v2 v3 v4 v5 v6 v7 v8 v9 : Value}  {st : List Value} {im : IM} {rm : RM}  : ev 166 15 [v0, v1, v2, v3, v4, v5, v6, v7, v8, v9] st im rm = ev 166 18 [v0, v1, v2, v3, v4, v5, v6, v7, v8, v9] (.long (lN 2) :: st) (im) (rm) := ev_ldc2 pm_m166 d166_15 (by decide +kernel) rfl
theorem d166_18 : decode prog_10_method_64_code 18 = .ok (.invokestatic 120, 3) := by decide +kernel
theorem s166_18 {v0 v1 v2 v3 v4 v5 v6 v7 v8 v9 : Value} {p1 : Int64} {p2 : Int64} {p3 : Int64} {im : IM} {rm : RM}  : ev 166 18 [v0, v1, v2, v3, v4, v5, v6, v7, v8, v9] [.long p3, .long p2, .long p1] im rm = (ev 104 0 [.long p1, pm_u, .long p2, pm_u, .long p3, pm_u] [] im rm).bind (fun r => ev 166 21 [v0, v1, v2, v3, v4, v5, v6, v7, v8, v9] (r.1.toList ++ []) r.2.1 r.2.2) := ev_callS pm_m166 d166_18 (by decide) l8_120 rfl pm_m104 rfl ⟨rfl, rfl⟩ rfl rfl
theorem d166_21 : decode prog_10_method_64_code 21 = .ok (.ifCond .ne 6, 3) := by decide +kernel
theorem s166_21 {v0 v1 v2 v3 v4 v5 v6 v7 v8 v9 : Value} {x : Int32} {st : List Value} {im : IM} {rm : RM} : ev 166 21 [v0, v1, v2, v3, v4, v5, v6, v7, v8, v9] (.int x :: st) im rm = if x = nI 0 then ev 166 24 [pm_u, pm_u, pm_u, pm_u, pm_u, pm_u, pm_u, pm_u, pm_u, pm_u] st im rm else ev 166 27 [v0, v1, v2, pm_u, pm_u, pm_u, pm_u, pm_u, pm_u, pm_u] st im rm := ev_if_ne (y := 0) pm_m166 d166_21 rfl rfl rfl
theorem d166_24 : decode prog_10_method_64_code 24 = .ok (.bipush (-3), 2) := by decide +kernel
theorem s166_24 {v0 v1 v2 v3 v4 v5 v6 v7 v8 v9 : Value}  {st : List Value} {im : IM} {rm : RM}  : ev 166 24 [v0, v1, v2, v3, v4, v5, v6, v7, v8, v9] st im rm = ev 166 26 [v0, v1, v2, v3, v4, v5, v6, v7, v8, v9] (.int ((-3 : Int32)) :: st) (im) (rm) := ev_bipush pm_m166 d166_24 rfl rfl
theorem d166_26 : decode prog_10_method_64_code 26 = .ok (.ireturn, 1) := by decide +kernel
theorem s166_26 {v0 v1 v2 v3 v4 v5 v6 v7 v8 v9 : Value} {x : Int32} {im : IM} {rm : RM} : ev 166 26 [v0, v1, v2, v3, v4, v5, v6, v7, v8, v9] [.int x] im rm = some (some (.int x), im, rm) := ev_ireturn pm_m166 d166_26 rfl
theorem d166_27 : decode prog_10_method_64_code 27 = .ok (.iconst 0, 1) := by decide +kernel
theorem s166_27 {v0 v1 v2 v3 v4 v5 v6 v7 v8 v9 : Value}  {st : List Value} {im : IM} {rm : RM}  : ev 166 27 [v0, v1, v2, v3, v4, v5, v6, v7, v8, v9] st im rm = ev 166 28 [v0, v1, v2, v3, v4, v5, v6, v7, v8, v9] (.int (nI 0) :: st) (im) (rm) := ev_iconst pm_m166 d166_27 rfl rfl
theorem d166_28 : decode prog_10_method_64_code 28 = .ok (.istore_n 3, 1) := by decide +kernel
theorem s166_28 {v0 v1 v3 v4 v5 v6 v7 v8 v9 : Value} {l1 : Int32} {x2 : Int32} {st : List Value} {im : IM} {rm : RM}  : ev 166 28 [v0, v1, .int l1, v3, v4, v5, v6, v7, v8, v9] (.int x2 :: st) im rm = ev 166 29 [v0, v1, .int l1, .int x2, v4, v5, v6, v7, v8, v9] st (im) (rm) := ev_istore_n pm_m166 d166_28 (Nat.le_of_ble_eq_true rfl) rfl rfl
theorem d166_29 : decode prog_10_method_64_code 29 = .ok (.iconst 0, 1) := by decide +kernel
theorem s166_29 {v0 v1 v2 v3 v4 v5 v6 v7 v8 v9 : Value}  {st : List Value} {im : IM} {rm : RM}  : ev 166 29 [v0, v1, v2, v3, v4, v5, v6, v7, v8, v9] st im rm = ev 166 30 [v0, v1, v2, v3, v4, v5, v6, v7, v8, v9] (.int (nI 0) :: st) (im) (rm) := ev_iconst pm_m166 d166_29 rfl rfl
theorem d166_30 : decode prog_10_method_64_code 30 = .ok (.istore 4, 2) := by decide +kernel
theorem s166_30 {v0 v1 v2 v4 v5 v6 v7 v8 v9 : Value} {l1 : Int32} {x2 : Int32} {st : List Value} {im : IM} {rm : RM}  : ev 166 30 [v0, v1, v2, .int l1, v4, v5, v6, v7, v8, v9] (.int x2 :: st) im rm = ev 166 32 [v0, v1, v2, .int l1, .int x2, pm_u, pm_u, pm_u, pm_u, pm_u] st (im) (rm) := ev_istore pm_m166 d166_30 (Nat.le_of_ble_eq_true rfl) rfl rfl
theorem d166_32 : decode prog_10_method_64_code 32 = .ok (.iload 4, 2) := by decide +kernel
theorem s166_32 {v0 v1 v2 v3 v5 v6 v7 v8 v9 : Value} {l1 : Int32} {st : List Value} {im : IM} {rm : RM}  : ev 166 32 [v0, v1, v2, v3, .int l1, v5, v6, v7, v8, v9] st im rm = ev 166 34 [v0, v1, v2, v3, .int l1, v5, v6, v7, v8, v9] (.int l1 :: st) (im) (rm) := ev_iload pm_m166 d166_32 rfl rfl
theorem d166_34 : decode prog_10_method_64_code 34 = .ok (.bipush 6, 2) := by decide +kernel
theorem s166_34 {v0 v1 v2 v3 v4 v5 v6 v7 v8 v9 : Value}  {st : List Value} {im : IM} {rm : RM}  : ev 166 34 [v0, v1, v2, v3, v4, v5, v6, v7, v8, v9] st im rm = ev 166 36 [v0, v1, v2, v3, v4, v5, v6, v7, v8, v9] (.int (nI 6) :: st) (im) (rm) := ev_bipush pm_m166 d166_34 rfl rfl
theorem d166_36 : decode prog_10_method_64_code 36 = .ok (.if_icmp .ge 102, 3) := by decide +kernel
theorem s166_36 {v0 v1 v2 v3 v4 v5 v6 v7 v8 v9 : Value} {x : Int32} {y : Int32} {st : List Value} {im : IM} {rm : RM} : ev 166 36 [v0, v1, v2, v3, v4, v5, v6, v7, v8, v9] (.int y :: .int x :: st) im rm = if y ≤ x then ev 166 138 [v0, pm_u, v2, v3, pm_u, pm_u, pm_u, pm_u, pm_u, pm_u] st im rm else ev 166 39 [v0, v1, v2, v3, v4, v5, v6, v7, v8, v9] st im rm := ev_icmp_ge pm_m166 d166_36 rfl rfl rfl
theorem d166_39 : decode prog_10_method_64_code 39 = .ok (.aload_n 0, 1) := by decide +kernel
theorem s166_39 {v1 v2 v3 v4 v5 v6 v7 v8 v9 : Value} {l1 : Nat} {st : List Value} {im : IM} {rm : RM}  : ev 166 39 [.ref l1, v1, v2, v3, v4, v5, v6, v7, v8, v9] st im rm = ev 166 40 [.ref l1, v1, v2, v3, v4, v5, v6, v7, v8, v9] (.ref l1 :: st) (im) (rm) := ev_aload_n pm_m166 d166_39 rfl rfl
theorem d166_40 : decode prog_10_method_64_code 40 = .ok (.getfield 115, 3) := by decide +kernel
theorem s166_40 {v0 v1 v2 v3 v4 v5 v6 v7 v8 v9 : Value} {a : Nat} {st : List Value} {im : IM} {rm : RM} (hk : kd a = 18) : ev 166 40 [v0, v1, v2, v3, v4, v5, v6, v7, v8, v9] (.ref a :: st) im rm = ev 166 43 [v0, v1, v2, v3, v4, v5, v6, v7, v8, v9] (pm_ro (rm a 48) :: st) (im) (rm) := ev_getR pm_m166 d166_40 f8_115 rfl hk rfl
theorem d166_43 : decode prog_10_method_64_code 43 = .ok (.iload 4, 2) := by decide +kernel
theorem s166_43 {v0 v1 v2 v3 v5 v6 v7 v8 v9 : Value} {l1 : Int32} {st : List Value} {im : IM} {rm : RM}  : ev 166 43 [v0, v1, v2, v3, .int l1, v5, v6, v7, v8, v9] st im rm = ev 166 45 [v0, v1, v2, v3, .int l1, v5, v6, v7, v8, v9] (.int l1 :: st) (im) (rm) := ev_iload pm_m166 d166_43 rfl rfl
theorem d166_45 : decode prog_10_method_64_code 45 = .ok (.iconst 0, 1) := by decide +kernel
theorem s166_45 {v0 v1 v2 v3 v4 v5 v6 v7 v8 v9 : Value}  {st : List Value} {im : IM} {rm : RM}  : ev 166 45 [v0, v1, v2, v3, v4, v5, v6, v7, v8, v9] st im rm = ev 166 46 [v0, v1, v2, v3, v4, v5, v6, v7, v8, v9] (.int (nI 0) :: st) (im) (rm) := ev_iconst pm_m166 d166_45 rfl rfl
theorem d166_46 : decode prog_10_method_64_code 46 = .ok (.iastore, 1) := by decide +kernel
theorem s166_46 {v0 v1 v2 v3 v4 v5 v6 v7 v8 v9 : Value} {a : Nat} {i : Int32} {v : Int32} {st : List Value} {im : IM} {rm : RM} (hk : kd a = 0) (hi : pm_in i (ln a) = true) : ev 166 46 [v0, v1, v2, v3, v4, v5, v6, v7, v8, v9] (.int v :: .int i :: .ref a :: st) im rm = ev 166 47 [v0, v1, v2, v3, v4, v5, v6, v7, v8, v9] st (pm_w2 im a i.toNatClampNeg v) (rm) := ev_iast pm_m166 d166_46 hk hi rfl
theorem d166_47 : decode prog_10_method_64_code 47 = .ok (.iconst 0, 1) := by decide +kernel
theorem s166_47 {v0 v1 v2 v3 v4 v5 v6 v7 v8 v9 : Value}  {st : List Value} {im : IM} {rm : RM}  : ev 166 47 [v0, v1, v2, v3, v4, v5, v6, v7, v8, v9] st im rm = ev 166 48 [v0, v1, v2, v3, v4, v5, v6, v7, v8, v9] (.int (nI 0) :: st) (im) (rm) := ev_iconst pm_m166 d166_47 rfl rfl
theorem d166_48 : decode prog_10_method_64_code 48 = .ok (.istore 5, 2) := by decide +kernel
theorem s166_48 {v0 v1 v2 v3 v5 v6 v7 v8 v9 : Value} {l1 : Int32} {x2 : Int32} {st : List Value} {im : IM} {rm : RM}  : ev 166 48 [v0, v1, v2, v3, .int l1, v5, v6, v7, v8, v9] (.int x2 :: st) im rm = ev 166 50 [v0, v1, v2, v3, .int l1, .int x2, pm_u, pm_u, pm_u, pm_u] st (im) (rm) := ev_istore pm_m166 d166_48 (Nat.le_of_ble_eq_true rfl) rfl rfl
theorem d166_50 : decode prog_10_method_64_code 50 = .ok (.iload 5, 2) := by decide +kernel
theorem s166_50 {v0 v1 v2 v3 v4 v6 v7 v8 v9 : Value} {l1 : Int32} {st : List Value} {im : IM} {rm : RM}  : ev 166 50 [v0, v1, v2, v3, v4, .int l1, v6, v7, v8, v9] st im rm = ev 166 52 [v0, v1, v2, v3, v4, .int l1, v6, v7, v8, v9] (.int l1 :: st) (im) (rm) := ev_iload pm_m166 d166_50 rfl rfl
theorem d166_52 : decode prog_10_method_64_code 52 = .ok (.iconst 4, 1) := by decide +kernel
theorem s166_52 {v0 v1 v2 v3 v4 v5 v6 v7 v8 v9 : Value}  {st : List Value} {im : IM} {rm : RM}  : ev 166 52 [v0, v1, v2, v3, v4, v5, v6, v7, v8, v9] st im rm = ev 166 53 [v0, v1, v2, v3, v4, v5, v6, v7, v8, v9] (.int (nI 4) :: st) (im) (rm) := ev_iconst pm_m166 d166_52 rfl rfl
theorem d166_53 : decode prog_10_method_64_code 53 = .ok (.if_icmp .ge 69, 3) := by decide +kernel
theorem s166_53 {v0 v1 v2 v3 v4 v5 v6 v7 v8 v9 : Value} {x : Int32} {y : Int32} {st : List Value} {im : IM} {rm : RM} : ev 166 53 [v0, v1, v2, v3, v4, v5, v6, v7, v8, v9] (.int y :: .int x :: st) im rm = if y ≤ x then ev 166 122 [v0, v1, v2, v3, v4, pm_u, pm_u, pm_u, pm_u, pm_u] st im rm else ev 166 56 [v0, v1, v2, v3, v4, v5, v6, v7, v8, v9] st im rm := ev_icmp_ge pm_m166 d166_53 rfl rfl rfl
theorem d166_56 : decode prog_10_method_64_code 56 = .ok (.aload_n 0, 1) := by decide +kernel
theorem s166_56 {v1 v2 v3 v4 v5 v6 v7 v8 v9 : Value} {l1 : Nat} {st : List Value} {im : IM} {rm : RM}  : ev 166 56 [.ref l1, v1, v2, v3, v4, v5, v6, v7, v8, v9] st im rm = ev 166 57 [.ref l1, v1, v2, v3, v4, v5, v6, v7, v8, v9] (.ref l1 :: st) (im) (rm) := ev_aload_n pm_m166 d166_56 rfl rfl
theorem d166_57 : decode prog_10_method_64_code 57 = .ok (.getfield 16, 3) := by decide +kernel
theorem s166_57 {v0 v1 v2 v3 v4 v5 v6 v7 v8 v9 : Value} {a : Nat} {st : List Value} {im : IM} {rm : RM} (hk : kd a = 18) : ev 166 57 [v0, v1, v2, v3, v4, v5, v6, v7, v8, v9] (.ref a :: st) im rm = ev 166 60 [v0, v1, v2, v3, v4, v5, v6, v7, v8, v9] (pm_ro (rm a 2) :: st) (im) (rm) := ev_getR pm_m166 d166_57 f8_16 rfl hk rfl
theorem d166_60 : decode prog_10_method_64_code 60 = .ok (.iload 4, 2) := by decide +kernel
theorem s166_60 {v0 v1 v2 v3 v5 v6 v7 v8 v9 : Value} {l1 : Int32} {st : List Value} {im : IM} {rm : RM}  : ev 166 60 [v0, v1, v2, v3, .int l1, v5, v6, v7, v8, v9] st im rm = ev 166 62 [v0, v1, v2, v3, .int l1, v5, v6, v7, v8, v9] (.int l1 :: st) (im) (rm) := ev_iload pm_m166 d166_60 rfl rfl
theorem d166_62 : decode prog_10_method_64_code 62 = .ok (.iaload, 1) := by decide +kernel
theorem s166_62 {v0 v1 v2 v3 v4 v5 v6 v7 v8 v9 : Value} {a : Nat} {i : Int32} {st : List Value} {im : IM} {rm : RM} (hk : kd a = 0) (hi : pm_in i (ln a) = true) : ev 166 62 [v0, v1, v2, v3, v4, v5, v6, v7, v8, v9] (.int i :: .ref a :: st) im rm = ev 166 63 [v0, v1, v2, v3, v4, v5, v6, v7, v8, v9] (.int (im a i.toNatClampNeg) :: st) (im) (rm) := ev_iald pm_m166 d166_62 hk hi rfl
theorem d166_63 : decode prog_10_method_64_code 63 = .ok (.ifCond .le 59, 3) := by decide +kernel
theorem s166_63 {v0 v1 v2 v3 v4 v5 v6 v7 v8 v9 : Value} {x : Int32} {st : List Value} {im : IM} {rm : RM} : ev 166 63 [v0, v1, v2, v3, v4, v5, v6, v7, v8, v9] (.int x :: st) im rm = if x ≤ nI 0 then ev 166 122 [v0, v1, v2, v3, v4, pm_u, pm_u, pm_u, pm_u, pm_u] st im rm else ev 166 66 [v0, v1, v2, v3, v4, v5, v6, v7, v8, v9] st im rm := ev_if_le (y := 0) pm_m166 d166_63 rfl rfl rfl
theorem d166_66 : decode prog_10_method_64_code 66 = .ok (.aload_n 0, 1) := by decide +kernel
theorem s166_66 {v1 v2 v3 v4 v5 v6 v7 v8 v9 : Value} {l1 : Nat} {st : List Value} {im : IM} {rm : RM}  : ev 166 66 [.ref l1, v1, v2, v3, v4, v5, v6, v7, v8, v9] st im rm = ev 166 67 [.ref l1, v1, v2, v3, v4, v5, v6, v7, v8, v9] (.ref l1 :: st) (im) (rm) := ev_aload_n pm_m166 d166_66 rfl rfl
theorem d166_67 : decode prog_10_method_64_code 67 = .ok (.iload 5, 2) := by decide +kernel
theorem s166_67 {v0 v1 v2 v3 v4 v6 v7 v8 v9 : Value} {l1 : Int32} {st : List Value} {im : IM} {rm : RM}  : ev 166 67 [v0, v1, v2, v3, v4, .int l1, v6, v7, v8, v9] st im rm = ev 166 69 [v0, v1, v2, v3, v4, .int l1, v6, v7, v8, v9] (.int l1 :: st) (im) (rm) := ev_iload pm_m166 d166_67 rfl rfl
theorem d166_69 : decode prog_10_method_64_code 69 = .ok (.iload 4, 2) := by decide +kernel
theorem s166_69 {v0 v1 v2 v3 v5 v6 v7 v8 v9 : Value} {l1 : Int32} {st : List Value} {im : IM} {rm : RM}  : ev 166 69 [v0, v1, v2, v3, .int l1, v5, v6, v7, v8, v9] st im rm = ev 166 71 [v0, v1, v2, v3, .int l1, v5, v6, v7, v8, v9] (.int l1 :: st) (im) (rm) := ev_iload pm_m166 d166_69 rfl rfl
theorem d166_71 : decode prog_10_method_64_code 71 = .ok (.invokevirtual 263, 3) := by decide +kernel
theorem s166_71 {v0 v1 v2 v3 v4 v5 v6 v7 v8 v9 : Value} {a : Nat} {p1 : Int32} {p2 : Int32} {im : IM} {rm : RM} (hk : kd a = 18) : ev 166 71 [v0, v1, v2, v3, v4, v5, v6, v7, v8, v9] [.int p2, .int p1, .ref a] im rm = (ev 135 0 [.ref a, .int p1, .int p2, pm_u, pm_u, pm_u, pm_u, pm_u, pm_u] [] im rm).bind (fun r => ev 166 74 [v0, v1, v2, v3, v4, v5, v6, v7, v8, v9] (r.1.toList ++ []) r.2.1 r.2.2) := ev_callV pm_m166 d166_71 l8_263 rfl pm_m135 (by decide) hk rfl ⟨rfl, rfl⟩ rfl rfl
theorem d166_74 : decode prog_10_method_64_code 74 = .ok (.aload_n 0, 1) := by decide +kernel
theorem s166_74 {v1 v2 v3 v4 v5 v6 v7 v8 v9 : Value} {l1 : Nat} {st : List Value} {im : IM} {rm : RM}  : ev 166 74 [.ref l1, v1, v2, v3, v4, v5, v6, v7, v8, v9] st im rm = ev 166 75 [.ref l1, v1, v2, v3, v4, v5, v6, v7, v8, v9] (.ref l1 :: st) (im) (rm) := ev_aload_n pm_m166 d166_74 rfl rfl
theorem d166_75 : decode prog_10_method_64_code 75 = .ok (.getfield 115, 3) := by decide +kernel
theorem s166_75 {v0 v1 v2 v3 v4 v5 v6 v7 v8 v9 : Value} {a : Nat} {st : List Value} {im : IM} {rm : RM} (hk : kd a = 18) : ev 166 75 [v0, v1, v2, v3, v4, v5, v6, v7, v8, v9] (.ref a :: st) im rm = ev 166 78 [v0, v1, v2, v3, v4, v5, v6, v7, v8, v9] (pm_ro (rm a 48) :: st) (im) (rm) := ev_getR pm_m166 d166_75 f8_115 rfl hk rfl
theorem d166_78 : decode prog_10_method_64_code 78 = .ok (.iload 4, 2) := by decide +kernel
theorem s166_78 {v0 v1 v2 v3 v5 v6 v7 v8 v9 : Value} {l1 : Int32} {st : List Value} {im : IM} {rm : RM}  : ev 166 78 [v0, v1, v2, v3, .int l1, v5, v6, v7, v8, v9] st im rm = ev 166 80 [v0, v1, v2, v3, .int l1, v5, v6, v7, v8, v9] (.int l1 :: st) (im) (rm) := ev_iload pm_m166 d166_78 rfl rfl
theorem d166_80 : decode prog_10_method_64_code 80 = .ok (.dup2, 1) := by decide +kernel
theorem s166_80 {v0 v1 v2 v3 v4 v5 v6 v7 v8 v9 : Value} {y : Int32} {x : Nat} {st : List Value} {im : IM} {rm : RM}  : ev 166 80 [v0, v1, v2, v3, v4, v5, v6, v7, v8, v9] (.int y :: .ref x :: st) im rm = ev 166 81 [v0, v1, v2, v3, v4, v5, v6, v7, v8, v9] (.int y :: .ref x :: .int y :: .ref x :: st) (im) (rm) := ev_dup2 pm_m166 d166_80 rfl
theorem d166_81 : decode prog_10_method_64_code 81 = .ok (.iaload, 1) := by decide +kernel
theorem s166_81 {v0 v1 v2 v3 v4 v5 v6 v7 v8 v9 : Value} {a : Nat} {i : Int32} {st : List Value} {im : IM} {rm : RM} (hk : kd a = 0) (hi : pm_in i (ln a) = true) : ev 166 81 [v0, v1, v2, v3, v4, v5, v6, v7, v8, v9] (.int i :: .ref a :: st) im rm = ev 166 82 [v0, v1, v2, v3, v4, v5, v6, v7, v8, v9] (.int (im a i.toNatClampNeg) :: st) (im) (rm) := ev_iald pm_m166 d166_81 hk hi rfl
theorem d166_82 : decode prog_10_method_64_code 82 = .ok (.ldc2_w 153, 3) := by decide +kernel
theorem s166_82 {v0 v1 v2 v3 v4 v5 v6 v7 v8 v9 : Value}  {st : List Value} {im : IM} {rm : RM}  : ev 166 82 [v0, v1, v2, v3, v4, v5, v6, v7, v8, v9] st im rm = ev 166 85 [v0, v1, v2, v3, v4, v5, v6, v7, v8, v9] (.long (lN 100) :: st) (im) (rm) := ev_ldc2 pm_m166 d166_82 (by decide +kernel) rfl
theorem d166_85 : decode prog_10_method_64_code 85 = .ok (.aload_n 0, 1) := by decide +kernel
theorem s166_85 {v1 v2 v3 v4 v5 v6 v7 v8 v9 : Value} {l1 : Nat} {st : List Value} {im : IM} {rm : RM}  : ev 166 85 [.ref l1, v1, v2, v3, v4, v5, v6, v7, v8, v9] st im rm = ev 166 86 [.ref l1, v1, v2, v3, v4, v5, v6, v7, v8, v9] (.ref l1 :: st) (im) (rm) := ev_aload_n pm_m166 d166_85 rfl rfl
theorem d166_86 : decode prog_10_method_64_code 86 = .ok (.getfield 252, 3) := by decide +kernel
theorem s166_86 {v0 v1 v2 v3 v4 v5 v6 v7 v8 v9 : Value} {a : Nat} {st : List Value} {im : IM} {rm : RM} (hk : kd a = 18) : ev 166 86 [v0, v1, v2, v3, v4, v5, v6, v7, v8, v9] (.ref a :: st) im rm = ev 166 89 [v0, v1, v2, v3, v4, v5, v6, v7, v8, v9] (.int (im a 43) :: st) (im) (rm) := ev_getI pm_m166 d166_86 f8_252 rfl hk rfl
theorem d166_89 : decode prog_10_method_64_code 89 = .ok (.i2l, 1) := by decide +kernel
theorem s166_89 {v0 v1 v2 v3 v4 v5 v6 v7 v8 v9 : Value} {x : Int32} {st : List Value} {im : IM} {rm : RM}  : ev 166 89 [v0, v1, v2, v3, v4, v5, v6, v7, v8, v9] (.int x :: st) im rm = ev 166 90 [v0, v1, v2, v3, v4, v5, v6, v7, v8, v9] (.long x.toInt64 :: st) (im) (rm) := ev_i2l pm_m166 d166_89 rfl
theorem d166_90 : decode prog_10_method_64_code 90 = .ok (.lmul, 1) := by decide +kernel
theorem s166_90 {v0 v1 v2 v3 v4 v5 v6 v7 v8 v9 : Value} {x : Int64} {y : Int64} {st : List Value} {im : IM} {rm : RM}  : ev 166 90 [v0, v1, v2, v3, v4, v5, v6, v7, v8, v9] (.long y :: .long x :: st) im rm = ev 166 91 [v0, v1, v2, v3, v4, v5, v6, v7, v8, v9] (.long (x * y) :: st) (im) (rm) := ev_lmul pm_m166 d166_90 rfl
theorem d166_91 : decode prog_10_method_64_code 91 = .ok (.iload_n 1, 1) := by decide +kernel
theorem s166_91 {v0 v2 v3 v4 v5 v6 v7 v8 v9 : Value} {l1 : Int32} {st : List Value} {im : IM} {rm : RM}  : ev 166 91 [v0, .int l1, v2, v3, v4, v5, v6, v7, v8, v9] st im rm = ev 166 92 [v0, .int l1, v2, v3, v4, v5, v6, v7, v8, v9] (.int l1 :: st) (im) (rm) := ev_iload_n pm_m166 d166_91 rfl rfl
theorem d166_92 : decode prog_10_method_64_code 92 = .ok (.i2l, 1) := by decide +kernel
theorem s166_92 {v0 v1 v2 v3 v4 v5 v6 v7 v8 v9 : Value} {x : Int32} {st : List Value} {im : IM} {rm : RM}  : ev 166 92 [v0, v1, v2, v3, v4, v5, v6, v7, v8, v9] (.int x :: st) im rm = ev 166 93 [v0, v1, v2, v3, v4, v5, v6, v7, v8, v9] (.long x.toInt64 :: st) (im) (rm) := ev_i2l pm_m166 d166_92 rfl
theorem d166_93 : decode prog_10_method_64_code 93 = .ok (.aload_n 0, 1) := by decide +kernel
theorem s166_93 {v1 v2 v3 v4 v5 v6 v7 v8 v9 : Value} {l1 : Nat} {st : List Value} {im : IM} {rm : RM}  : ev 166 93 [.ref l1, v1, v2, v3, v4, v5, v6, v7, v8, v9] st im rm = ev 166 94 [.ref l1, v1, v2, v3, v4, v5, v6, v7, v8, v9] (.ref l1 :: st) (im) (rm) := ev_aload_n pm_m166 d166_93 rfl rfl
theorem d166_94 : decode prog_10_method_64_code 94 = .ok (.getfield 16, 3) := by decide +kernel
theorem s166_94 {v0 v1 v2 v3 v4 v5 v6 v7 v8 v9 : Value} {a : Nat} {st : List Value} {im : IM} {rm : RM} (hk : kd a = 18) : ev 166 94 [v0, v1, v2, v3, v4, v5, v6, v7, v8, v9] (.ref a :: st) im rm = ev 166 97 [v0, v1, v2, v3, v4, v5, v6, v7, v8, v9] (pm_ro (rm a 2) :: st) (im) (rm) := ev_getR pm_m166 d166_94 f8_16 rfl hk rfl
theorem d166_97 : decode prog_10_method_64_code 97 = .ok (.iload 4, 2) := by decide +kernel
theorem s166_97 {v0 v1 v2 v3 v5 v6 v7 v8 v9 : Value} {l1 : Int32} {st : List Value} {im : IM} {rm : RM}  : ev 166 97 [v0, v1, v2, v3, .int l1, v5, v6, v7, v8, v9] st im rm = ev 166 99 [v0, v1, v2, v3, .int l1, v5, v6, v7, v8, v9] (.int l1 :: st) (im) (rm) := ev_iload pm_m166 d166_97 rfl rfl
theorem d166_99 : decode prog_10_method_64_code 99 = .ok (.iaload, 1) := by decide +kernel
theorem s166_99 {v0 v1 v2 v3 v4 v5 v6 v7 v8 v9 : Value} {a : Nat} {i : Int32} {st : List Value} {im : IM} {rm : RM} (hk : kd a = 0) (hi : pm_in i (ln a) = true) : ev 166 99 [v0, v1, v2, v3, v4, v5, v6, v7, v8, v9] (.int i :: .ref a :: st) im rm = ev 166 100 [v0, v1, v2, v3, v4, v5, v6, v7, v8, v9] (.int (im a i.toNatClampNeg) :: st) (im) (rm) := ev_iald pm_m166 d166_99 hk hi rfl
theorem d166_100 : decode prog_10_method_64_code 100 = .ok (.i2l, 1) := by decide +kernel
theorem s166_100 {v0 v1 v2 v3 v4 v5 v6 v7 v8 v9 : Value} {x : Int32} {st : List Value} {im : IM} {rm : RM}  : ev 166 100 [v0, v1, v2, v3, v4, v5, v6, v7, v8, v9] (.int x :: st) im rm = ev 166 101 [v0, v1, v2, v3, v4, v5, v6, v7, v8, v9] (.long x.toInt64 :: st) (im) (rm) := ev_i2l pm_m166 d166_100 rfl
theorem d166_101 : decode prog_10_method_64_code 101 = .ok (.lmul, 1) := by decide +kernel
theorem s166_101 {v0 v1 v2 v3 v4 v5 v6 v7 v8 v9 : Value} {x : Int64} {y : Int64} {st : List Value} {im : IM} {rm : RM}  : ev 166 101 [v0, v1, v2, v3, v4, v5, v6, v7, v8, v9] (.long y :: .long x :: st) im rm = ev 166 102 [v0, v1, v2, v3, v4, v5, v6, v7, v8, v9] (.long (x * y) :: st) (im) (rm) := ev_lmul pm_m166 d166_101 rfl
theorem d166_102 : decode prog_10_method_64_code 102 = .ok (.lcmp, 1) := by decide +kernel
theorem s166_102 {v0 v1 v2 v3 v4 v5 v6 v7 v8 v9 : Value} {x : Int64} {y : Int64} {st : List Value} {im : IM} {rm : RM}  : ev 166 102 [v0, v1, v2, v3, v4, v5, v6, v7, v8, v9] (.long y :: .long x :: st) im rm = ev 166 103 [v0, v1, v2, v3, v4, v5, v6, v7, v8, v9] (.int (lg_cmp x y) :: st) (im) (rm) := ev_lcmp pm_m166 d166_102 rfl
theorem d166_103 : decode prog_10_method_64_code 103 = .ok (.ifCond .le 10, 3) := by decide +kernel
theorem s166_103 {v0 v1 v2 v3 v4 v5 v6 v7 v8 v9 : Value} {x : Int32} {st : List Value} {im : IM} {rm : RM} : ev 166 103 [v0, v1, v2, v3, v4, v5, v6, v7, v8, v9] (.int x :: st) im rm = if x ≤ nI 0 then ev 166 113 [v0, v1, v2, v3, v4, v5, pm_u, pm_u, pm_u, pm_u] st im rm else ev 166 106 [v0, v1, v2, v3, v4, v5, v6, v7, v8, v9] st im rm := ev_if_le (y := 0) pm_m166 d166_103 rfl rfl rfl
theorem d166_106 : decode prog_10_method_64_code 106 = .ok (.iconst 1, 1) := by decide +kernel
theorem s166_106 {v0 v1 v2 v3 v4 v5 v6 v7 v8 v9 : Value}  {st : List Value} {im : IM} {rm : RM}  : ev 166 106 [v0, v1, v2, v3, v4, v5, v6, v7, v8, v9] st im rm = ev 166 107 [v0, v1, v2, v3, v4, v5, v6, v7, v8, v9] (.int (nI 1) :: st) (im) (rm) := ev_iconst pm_m166 d166_106 rfl rfl
theorem d166_107 : decode prog_10_method_64_code 107 = .ok (.iload 5, 2) := by decide +kernel
theorem s166_107 {v0 v1 v2 v3 v4 v6 v7 v8 v9 : Value} {l1 : Int32} {st : List Value} {im : IM} {rm : RM}  : ev 166 107 [v0, v1, v2, v3, v4, .int l1, v6, v7, v8, v9] st im rm = ev 166 109 [v0, v1, v2, v3, v4, .int l1, v6, v7, v8, v9] (.int l1 :: st) (im) (rm) := ev_iload pm_m166 d166_107 rfl rfl
theorem d166_109 : decode prog_10_method_64_code 109 = .ok (.ishl, 1) := by decide +kernel
theorem s166_109 {v0 v1 v2 v3 v4 v5 v6 v7 v8 v9 : Value} {x : Int32} {y : Int32} {st : List Value} {im : IM} {rm : RM}  : ev 166 109 [v0, v1, v2, v3, v4, v5, v6, v7, v8, v9] (.int y :: .int x :: st) im rm = ev 166 110 [v0, v1, v2, v3, v4, v5, v6, v7, v8, v9] (.int (x <<< (y &&& 31)) :: st) (im) (rm) := ev_ishl pm_m166 d166_109 rfl
theorem d166_110 : decode prog_10_method_64_code 110 = .ok (.goto 4, 3) := by decide +kernel
theorem s166_110 {v0 v1 v2 v3 v4 v5 v6 v7 v8 v9 : Value}  {st : List Value} {im : IM} {rm : RM}  : ev 166 110 [v0, v1, v2, v3, v4, v5, v6, v7, v8, v9] st im rm = ev 166 114 [v0, v1, v2, v3, v4, v5, pm_u, pm_u, pm_u, pm_u] st (im) (rm) := ev_goto pm_m166 d166_110 rfl rfl
theorem d166_113 : decode prog_10_method_64_code 113 = .ok (.iconst 0, 1) := by decide +kernel
theorem s166_113 {v0 v1 v2 v3 v4 v5 v6 v7 v8 v9 : Value}  {st : List Value} {im : IM} {rm : RM}  : ev 166 113 [v0, v1, v2, v3, v4, v5, v6, v7, v8, v9] st im rm = ev 166 114 [v0, v1, v2, v3, v4, v5, pm_u, pm_u, pm_u, pm_u] (.int (nI 0) :: st) (im) (rm) := ev_iconst pm_m166 d166_113 rfl rfl
theorem d166_114 : decode prog_10_method_64_code 114 = .ok (.ior, 1) := by decide +kernel
theorem s166_114 {v0 v1 v2 v3 v4 v5 v6 v7 v8 v9 : Value} {x : Int32} {y : Int32} {st : List Value} {im : IM} {rm : RM}  : ev 166 114 [v0, v1, v2, v3, v4, v5, v6, v7, v8, v9] (.int y :: .int x :: st) im rm = ev 166 115 [v0, v1, v2, v3, v4, v5, v6, v7, v8, v9] (.int (x ||| y) :: st) (im) (rm) := ev_ior pm_m166 d166_114 rfl
theorem d166_115 : decode prog_10_method_64_code 115 = .ok (.iastore, 1) := by decide +kernel
theorem s166_115 {v0 v1 v2 v3 v4 v5 v6 v7 v8 v9 : Value} {a : Nat} {i : Int32} {v : Int32} {st : List Value} {im : IM} {rm : RM} (hk : kd a = 0) (hi : pm_in i (ln a) = true) : ev 166 115 [v0, v1, v2, v3, v4, v5, v6, v7, v8, v9] (.int v :: .int i :: .ref a :: st) im rm = ev 166 116 [v0, v1, v2, v3, v4, v5, v6, v7, v8, v9] st (pm_w2 im a i.toNatClampNeg v) (rm) := ev_iast pm_m166 d166_115 hk hi rfl
theorem d166_116 : decode prog_10_method_64_code 116 = .ok (.iinc 5 1, 3) := by decide +kernel
theorem s166_116 {v0 v1 v2 v3 v6 v7 v8 v9 : Value} {l1 : Int32} {l2 : Int32} {st : List Value} {im : IM} {rm : RM}  : ev 166 116 [v0, v1, v2, v3, .int l1, .int l2, v6, v7, v8, v9] st im rm = ev 166 119 [v0, v1, v2, v3, .int l1, .int (l2 + nI 1), v6, v7, v8, v9] st (im) (rm) := ev_iinc pm_m166 d166_116 rfl rfl rfl rfl
theorem d166_119 : decode prog_10_method_64_code 119 = .ok (.goto (-69), 3) := by decide +kernel
theorem s166_119 {v0 v1 v2 v3 v4 v5 v6 v7 v8 v9 : Value}  {st : List Value} {im : IM} {rm : RM}  : ev 166 119 [v0, v1, v2, v3, v4, v5, v6, v7, v8, v9] st im rm = ev 166 50 [v0, v1, v2, v3, v4, v5, pm_u, pm_u, pm_u, pm_u] st (im) (rm) := ev_goto pm_m166 d166_119 rfl rfl
theorem d166_122 : decode prog_10_method_64_code 122 = .ok (.iload_n 3, 1) := by decide +kernel
theorem s166_122 {v0 v1 v2 v4 v5 v6 v7 v8 v9 : Value} {l1 : Int32} {st : List Value} {im : IM} {rm : RM}  : ev 166 122 [v0, v1, v2, .int l1, v4, v5, v6, v7, v8, v9] st im rm = ev 166 123 [v0, v1, v2, .int l1, v4, v5, v6, v7, v8, v9] (.int l1 :: st) (im) (rm) := ev_iload_n pm_m166 d166_122 rfl rfl
theorem d166_123 : decode prog_10_method_64_code 123 = .ok (.aload_n 0, 1) := by decide +kernel
theorem s166_123 {v1 v2 v3 v4 v5 v6 v7 v8 v9 : Value} {l1 : Nat} {st : List Value} {im : IM} {rm : RM}  : ev 166 123 [.ref l1, v1, v2, v3, v4, v5, v6, v7, v8, v9] st im rm = ev 166 124 [.ref l1, v1, v2, v3, v4, v5, v6, v7, v8, v9] (.ref l1 :: st) (im) (rm) := ev_aload_n pm_m166 d166_123 rfl rfl
theorem d166_124 : decode prog_10_method_64_code 124 = .ok (.getfield 115, 3) := by decide +kernel
theorem s166_124 {v0 v1 v2 v3 v4 v5 v6 v7 v8 v9 : Value} {a : Nat} {st : List Value} {im : IM} {rm : RM} (hk : kd a = 18) : ev 166 124 [v0, v1, v2, v3, v4, v5, v6, v7, v8, v9] (.ref a :: st) im rm = ev 166 127 [v0, v1, v2, v3, v4, v5, v6, v7, v8, v9] (pm_ro (rm a 48) :: st) (im) (rm) := ev_getR pm_m166 d166_124 f8_115 rfl hk rfl
theorem d166_127 : decode prog_10_method_64_code 127 = .ok (.iload 4, 2) := by decide +kernel
theorem s166_127 {v0 v1 v2 v3 v5 v6 v7 v8 v9 : Value} {l1 : Int32} {st : List Value} {im : IM} {rm : RM}  : ev 166 127 [v0, v1, v2, v3, .int l1, v5, v6, v7, v8, v9] st im rm = ev 166 129 [v0, v1, v2, v3, .int l1, v5, v6, v7, v8, v9] (.int l1 :: st) (im) (rm) := ev_iload pm_m166 d166_127 rfl rfl
theorem d166_129 : decode prog_10_method_64_code 129 = .ok (.iaload, 1) := by decide +kernel
theorem s166_129 {v0 v1 v2 v3 v4 v5 v6 v7 v8 v9 : Value} {a : Nat} {i : Int32} {st : List Value} {im : IM} {rm : RM} (hk : kd a = 0) (hi : pm_in i (ln a) = true) : ev 166 129 [v0, v1, v2, v3, v4, v5, v6, v7, v8, v9] (.int i :: .ref a :: st) im rm = ev 166 130 [v0, v1, v2, v3, v4, v5, v6, v7, v8, v9] (.int (im a i.toNatClampNeg) :: st) (im) (rm) := ev_iald pm_m166 d166_129 hk hi rfl
theorem d166_130 : decode prog_10_method_64_code 130 = .ok (.ior, 1) := by decide +kernel
theorem s166_130 {v0 v1 v2 v3 v4 v5 v6 v7 v8 v9 : Value} {x : Int32} {y : Int32} {st : List Value} {im : IM} {rm : RM}  : ev 166 130 [v0, v1, v2, v3, v4, v5, v6, v7, v8, v9] (.int y :: .int x :: st) im rm = ev 166 131 [v0, v1, v2, v3, v4, v5, v6, v7, v8, v9] (.int (x ||| y) :: st) (im) (rm) := ev_ior pm_m166 d166_130 rfl
theorem d166_131 : decode prog_10_method_64_code 131 = .ok (.istore_n 3, 1) := by decide +kernel
theorem s166_131 {v0 v1 v3 v4 v5 v6 v7 v8 v9 : Value} {l1 : Int32} {x2 : Int32} {st : List Value} {im : IM} {rm : RM}  : ev 166 131 [v0, v1, .int l1, v3, v4, v5, v6, v7, v8, v9] (.int x2 :: st) im rm = ev 166 132 [v0, v1, .int l1, .int x2, v4, v5, v6, v7, v8, v9] st (im) (rm) := ev_istore_n pm_m166 d166_131 (Nat.le_of_ble_eq_true rfl) rfl rfl
theorem d166_132 : decode prog_10_method_64_code 132 = .ok (.iinc 4 1, 3) := by decide +kernel
theorem s166_132 {v0 v1 v2 v5 v6 v7 v8 v9 : Value} {l1 : Int32} {l2 : Int32} {st : List Value} {im : IM} {rm : RM}  : ev 166 132 [v0, v1, v2, .int l1, .int l2, v5, v6, v7, v8, v9] st im rm = ev 166 135 [v0, v1, v2, .int l1, .int (l2 + nI 1), v5, v6, v7, v8, v9] st (im) (rm) := ev_iinc pm_m166 d166_132 rfl rfl rfl rfl
theorem d166_135 : decode prog_10_method_64_code 135 = .ok (.goto (-103), 3) := by decide +kernel
theorem s166_135 {v0 v1 v2 v3 v4 v5 v6 v7 v8 v9 : Value}  {st : List Value} {im : IM} {rm : RM}  : ev 166 135 [v0, v1, v2, v3, v4, v5, v6, v7, v8, v9] st im rm = ev 166 32 [v0, v1, v2, v3, v4, pm_u, pm_u, pm_u, pm_u, pm_u] st (im) (rm) := ev_goto pm_m166 d166_135 rfl rfl
theorem d166_138 : decode prog_10_method_64_code 138 = .ok (.iconst 0, 1) := by decide +kernel
theorem s166_138 {v0 v1 v2 v3 v4 v5 v6 v7 v8 v9 : Value}  {st : List Value} {im : IM} {rm : RM}  : ev 166 138 [v0, v1, v2, v3, v4, v5, v6, v7, v8, v9] st im rm = ev 166 139 [v0, v1, v2, v3, v4, v5, v6, v7, v8, v9] (.int (nI 0) :: st) (im) (rm) := ev_iconst pm_m166 d166_138 rfl rfl
theorem d166_139 : decode prog_10_method_64_code 139 = .ok (.istore 4, 2) := by decide +kernel
theorem s166_139 {v0 v1 v2 v4 v5 v6 v7 v8 v9 : Value} {l1 : Int32} {x2 : Int32} {st : List Value} {im : IM} {rm : RM}  : ev 166 139 [v0, v1, v2, .int l1, v4, v5, v6, v7, v8, v9] (.int x2 :: st) im rm = ev 166 141 [v0, v1, v2, .int l1, .int x2, v5, v6, v7, v8, v9] st (im) (rm) := ev_istore pm_m166 d166_139 (Nat.le_of_ble_eq_true rfl) rfl rfl
theorem d166_141 : decode prog_10_method_64_code 141 = .ok (.ldc_w 269, 3) := by decide +kernel
theorem s166_141 {v0 v1 v2 v3 v4 v5 v6 v7 v8 v9 : Value}  {st : List Value} {im : IM} {rm : RM}  : ev 166 141 [v0, v1, v2, v3, v4, v5, v6, v7, v8, v9] st im rm = ev 166 144 [v0, v1, v2, v3, v4, v5, v6, v7, v8, v9] (.int (nI 268435456) :: st) (im) (rm) := ev_ldcw pm_m166 d166_141 (by decide +kernel) rfl
theorem d166_144 : decode prog_10_method_64_code 144 = .ok (.istore 5, 2) := by decide +kernel
theorem s166_144 {v0 v1 v2 v3 v5 v6 v7 v8 v9 : Value} {l1 : Int32} {x2 : Int32} {st : List Value} {im : IM} {rm : RM}  : ev 166 144 [v0, v1, v2, v3, .int l1, v5, v6, v7, v8, v9] (.int x2 :: st) im rm = ev 166 146 [v0, v1, v2, v3, .int l1, .int x2, v6, v7, v8, v9] st (im) (rm) := ev_istore pm_m166 d166_144 (Nat.le_of_ble_eq_true rfl) rfl rfl
theorem d166_146 : decode prog_10_method_64_code 146 = .ok (.iconst 0, 1) := by decide +kernel
theorem s166_146 {v0 v1 v2 v3 v4 v5 v6 v7 v8 v9 : Value}  {st : List Value} {im : IM} {rm : RM}  : ev 166 146 [v0, v1, v2, v3, v4, v5, v6, v7, v8, v9] st im rm = ev 166 147 [v0, v1, v2, v3, v4, v5, v6, v7, v8, v9] (.int (nI 0) :: st) (im) (rm) := ev_iconst pm_m166 d166_146 rfl rfl
theorem d166_147 : decode prog_10_method_64_code 147 = .ok (.istore 6, 2) := by decide +kernel
theorem s166_147 {v0 v1 v2 v3 v4 v6 v7 v8 v9 : Value} {l1 : Int32} {x2 : Int32} {st : List Value} {im : IM} {rm : RM}  : ev 166 147 [v0, v1, v2, v3, v4, .int l1, v6, v7, v8, v9] (.int x2 :: st) im rm = ev 166 149 [v0, pm_u, v2, v3, v4, .int l1, .int x2, pm_u, pm_u, pm_u] st (im) (rm) := ev_istore pm_m166 d166_147 (Nat.le_of_ble_eq_true rfl) rfl rfl
theorem d166_149 : decode prog_10_method_64_code 149 = .ok (.iload 6, 2) := by decide +kernel
theorem s166_149 {v0 v1 v2 v3 v4 v5 v7 v8 v9 : Value} {l1 : Int32} {st : List Value} {im : IM} {rm : RM}  : ev 166 149 [v0, v1, v2, v3, v4, v5, .int l1, v7, v8, v9] st im rm = ev 166 151 [v0, v1, v2, v3, v4, v5, .int l1, v7, v8, v9] (.int l1 :: st) (im) (rm) := ev_iload pm_m166 d166_149 rfl rfl
theorem d166_151 : decode prog_10_method_64_code 151 = .ok (.bipush 64, 2) := by decide +kernel
theorem s166_151 {v0 v1 v2 v3 v4 v5 v6 v7 v8 v9 : Value}  {st : List Value} {im : IM} {rm : RM}  : ev 166 151 [v0, v1, v2, v3, v4, v5, v6, v7, v8, v9] st im rm = ev 166 153 [v0, v1, v2, v3, v4, v5, v6, v7, v8, v9] (.int (nI 64) :: st) (im) (rm) := ev_bipush pm_m166 d166_151 rfl rfl
theorem d166_153 : decode prog_10_method_64_code 153 = .ok (.if_icmp .ge 106, 3) := by decide +kernel
theorem s166_153 {v0 v1 v2 v3 v4 v5 v6 v7 v8 v9 : Value} {x : Int32} {y : Int32} {st : List Value} {im : IM} {rm : RM} : ev 166 153 [v0, v1, v2, v3, v4, v5, v6, v7, v8, v9] (.int y :: .int x :: st) im rm = if y ≤ x then ev 166 259 [pm_u, pm_u, v2, v3, v4, v5, pm_u, pm_u, pm_u, pm_u] st im rm else ev 166 156 [v0, v1, v2, v3, v4, v5, v6, v7, v8, v9] st im rm := ev_icmp_ge pm_m166 d166_153 rfl rfl rfl
theorem d166_156 : decode prog_10_method_64_code 156 = .ok (.iconst 0, 1) := by decide +kernel
theorem s166_156 {v0 v1 v2 v3 v4 v5 v6 v7 v8 v9 : Value}  {st : List Value} {im : IM} {rm : RM}  : ev 166 156 [v0, v1, v2, v3, v4, v5, v6, v7, v8, v9] st im rm = ev 166 157 [v0, v1, v2, v3, v4, v5, v6, v7, v8, v9] (.int (nI 0) :: st) (im) (rm) := ev_iconst pm_m166 d166_156 rfl rfl
theorem d166_157 : decode prog_10_method_64_code 157 = .ok (.istore 7, 2) := by decide +kernel
theorem s166_157 {v0 v1 v2 v3 v4 v5 v7 v8 v9 : Value} {l1 : Int32} {x2 : Int32} {st : List Value} {im : IM} {rm : RM}  : ev 166 157 [v0, v1, v2, v3, v4, v5, .int l1, v7, v8, v9] (.int x2 :: st) im rm = ev 166 159 [v0, v1, v2, v3, v4, v5, .int l1, .int x2, v8, v9] st (im) (rm) := ev_istore pm_m166 d166_157 (Nat.le_of_ble_eq_true rfl) rfl rfl
theorem d166_159 : decode prog_10_method_64_code 159 = .ok (.iconst 0, 1) := by decide +kernel
theorem s166_159 {v0 v1 v2 v3 v4 v5 v6 v7 v8 v9 : Value}  {st : List Value} {im : IM} {rm : RM}  : ev 166 159 [v0, v1, v2, v3, v4, v5, v6, v7, v8, v9] st im rm = ev 166 160 [v0, v1, v2, v3, v4, v5, v6, v7, v8, v9] (.int (nI 0) :: st) (im) (rm) := ev_iconst pm_m166 d166_159 rfl rfl
theorem d166_160 : decode prog_10_method_64_code 160 = .ok (.istore 8, 2) := by decide +kernel
theorem s166_160 {v0 v1 v2 v3 v4 v5 v6 v8 v9 : Value} {l1 : Int32} {x2 : Int32} {st : List Value} {im : IM} {rm : RM}  : ev 166 160 [v0, v1, v2, v3, v4, v5, v6, .int l1, v8, v9] (.int x2 :: st) im rm = ev 166 162 [v0, v1, v2, v3, v4, v5, v6, .int l1, .int x2, v9] st (im) (rm) := ev_istore pm_m166 d166_160 (Nat.le_of_ble_eq_true rfl) rfl rfl
theorem d166_162 : decode prog_10_method_64_code 162 = .ok (.iconst 0, 1) := by decide +kernel
theorem s166_162 {v0 v1 v2 v3 v4 v5 v6 v7 v8 v9 : Value}  {st : List Value} {im : IM} {rm : RM}  : ev 166 162 [v0, v1, v2, v3, v4, v5, v6, v7, v8, v9] st im rm = ev 166 163 [v0, v1, v2, v3, v4, v5, v6, v7, v8, v9] (.int (nI 0) :: st) (im) (rm) := ev_iconst pm_m166 d166_162 rfl rfl
theorem d166_163 : decode prog_10_method_64_code 163 = .ok (.istore 9, 2) := by decide +kernel
theorem s166_163 {v0 v1 v2 v3 v4 v5 v6 v7 v9 : Value} {l1 : Int32} {x2 : Int32} {st : List Value} {im : IM} {rm : RM}  : ev 166 163 [v0, v1, v2, v3, v4, v5, v6, v7, .int l1, v9] (.int x2 :: st) im rm = ev 166 165 [v0, pm_u, v2, v3, v4, v5, v6, v7, .int l1, .int x2] st (im) (rm) := ev_istore pm_m166 d166_163 (Nat.le_of_ble_eq_true rfl) rfl rfl
theorem d166_165 : decode prog_10_method_64_code 165 = .ok (.iload 9, 2) := by decide +kernel
theorem s166_165 {v0 v1 v2 v3 v4 v5 v6 v7 v8 : Value} {l1 : Int32} {st : List Value} {im : IM} {rm : RM}  : ev 166 165 [v0, v1, v2, v3, v4, v5, v6, v7, v8, .int l1] st im rm = ev 166 167 [v0, v1, v2, v3, v4, v5, v6, v7, v8, .int l1] (.int l1 :: st) (im) (rm) := ev_iload pm_m166 d166_165 rfl rfl
theorem d166_167 : decode prog_10_method_64_code 167 = .ok (.bipush 6, 2) := by decide +kernel
theorem s166_167 {v0 v1 v2 v3 v4 v5 v6 v7 v8 v9 : Value}  {st : List Value} {im : IM} {rm : RM}  : ev 166 167 [v0, v1, v2, v3, v4, v5, v6, v7, v8, v9] st im rm = ev 166 169 [v0, v1, v2, v3, v4, v5, v6, v7, v8, v9] (.int (nI 6) :: st) (im) (rm) := ev_bipush pm_m166 d166_167 rfl rfl
theorem d166_169 : decode prog_10_method_64_code 169 = .ok (.if_icmp .ge 63, 3) := by decide +kernel
theorem s166_169 {v0 v1 v2 v3 v4 v5 v6 v7 v8 v9 : Value} {x : Int32} {y : Int32} {st : List Value} {im : IM} {rm : RM} : ev 166 169 [v0, v1, v2, v3, v4, v5, v6, v7, v8, v9] (.int y :: .int x :: st) im rm = if y ≤ x then ev 166 232 [v0, pm_u, v2, v3, v4, v5, v6, v7, v8, pm_u] st im rm else ev 166 172 [v0, v1, v2, v3, v4, v5, v6, v7, v8, v9] st im rm := ev_icmp_ge pm_m166 d166_169 rfl rfl rfl
theorem d166_172 : decode prog_10_method_64_code 172 = .ok (.iload 7, 2) := by decide +kernel
theorem s166_172 {v0 v1 v2 v3 v4 v5 v6 v8 v9 : Value} {l1 : Int32} {st : List Value} {im : IM} {rm : RM}  : ev 166 172 [v0, v1, v2, v3, v4, v5, v6, .int l1, v8, v9] st im rm = ev 166 174 [v0, v1, v2, v3, v4, v5, v6, .int l1, v8, v9] (.int l1 :: st) (im) (rm) := ev_iload pm_m166 d166_172 rfl rfl
theorem d166_174 : decode prog_10_method_64_code 174 = .ok (.iload 6, 2) := by decide +kernel
theorem s166_174 {v0 v1 v2 v3 v4 v5 v7 v8 v9 : Value} {l1 : Int32} {st : List Value} {im : IM} {rm : RM}  : ev 166 174 [v0, v1, v2, v3, v4, v5, .int l1, v7, v8, v9] st im rm = ev 166 176 [v0, v1, v2, v3, v4, v5, .int l1, v7, v8, v9] (.int l1 :: st) (im) (rm) := ev_iload pm_m166 d166_174 rfl rfl
theorem d166_176 : decode prog_10_method_64_code 176 = .ok (.iload 9, 2) := by decide +kernel
theorem s166_176 {v0 v1 v2 v3 v4 v5 v6 v7 v8 : Value} {l1 : Int32} {st : List Value} {im : IM} {rm : RM}  : ev 166 176 [v0, v1, v2, v3, v4, v5, v6, v7, v8, .int l1] st im rm = ev 166 178 [v0, v1, v2, v3, v4, v5, v6, v7, v8, .int l1] (.int l1 :: st) (im) (rm) := ev_iload pm_m166 d166_176 rfl rfl
theorem d166_178 : decode prog_10_method_64_code 178 = .ok (.ishr, 1) := by decide +kernel
theorem s166_178 {v0 v1 v2 v3 v4 v5 v6 v7 v8 v9 : Value} {x : Int32} {y : Int32} {st : List Value} {im : IM} {rm : RM}  : ev 166 178 [v0, v1, v2, v3, v4, v5, v6, v7, v8, v9] (.int y :: .int x :: st) im rm = ev 166 179 [v0, v1, v2, v3, v4, v5, v6, v7, v8, v9] (.int (x >>> (y &&& 31)) :: st) (im) (rm) := ev_ishr pm_m166 d166_178 rfl
theorem d166_179 : decode prog_10_method_64_code 179 = .ok (.iconst 1, 1) := by decide +kernel
theorem s166_179 {v0 v1 v2 v3 v4 v5 v6 v7 v8 v9 : Value}  {st : List Value} {im : IM} {rm : RM}  : ev 166 179 [v0, v1, v2, v3, v4, v5, v6, v7, v8, v9] st im rm = ev 166 180 [v0, v1, v2, v3, v4, v5, v6, v7, v8, v9] (.int (nI 1) :: st) (im) (rm) := ev_iconst pm_m166 d166_179 rfl rfl
theorem d166_180 : decode prog_10_method_64_code 180 = .ok (.iand, 1) := by decide +kernel
theorem s166_180 {v0 v1 v2 v3 v4 v5 v6 v7 v8 v9 : Value} {x : Int32} {y : Int32} {st : List Value} {im : IM} {rm : RM}  : ev 166 180 [v0, v1, v2, v3, v4, v5, v6, v7, v8, v9] (.int y :: .int x :: st) im rm = ev 166 181 [v0, v1, v2, v3, v4, v5, v6, v7, v8, v9] (.int (x &&& y) :: st) (im) (rm) := ev_iand pm_m166 d166_180 rfl
theorem d166_181 : decode prog_10_method_64_code 181 = .ok (.iconst 1, 1) := by decide +kernel
theorem s166_181 {v0 v1 v2 v3 v4 v5 v6 v7 v8 v9 : Value}  {st : List Value} {im : IM} {rm : RM}  : ev 166 181 [v0, v1, v2, v3, v4, v5, v6, v7, v8, v9] st im rm = ev 166 182 [v0, v1, v2, v3, v4, v5, v6, v7, v8, v9] (.int (nI 1) :: st) (im) (rm) := ev_iconst pm_m166 d166_181 rfl rfl
theorem d166_182 : decode prog_10_method_64_code 182 = .ok (.if_icmp .ne 13, 3) := by decide +kernel
theorem s166_182 {v0 v1 v2 v3 v4 v5 v6 v7 v8 v9 : Value} {x : Int32} {y : Int32} {st : List Value} {im : IM} {rm : RM} : ev 166 182 [v0, v1, v2, v3, v4, v5, v6, v7, v8, v9] (.int y :: .int x :: st) im rm = if x = y then ev 166 185 [v0, v1, v2, v3, v4, v5, v6, v7, v8, v9] st im rm else ev 166 195 [v0, pm_u, v2, v3, v4, v5, v6, pm_u, v8, v9] st im rm := ev_icmp_ne pm_m166 d166_182 rfl rfl rfl
theorem d166_185 : decode prog_10_method_64_code 185 = .ok (.aload_n 0, 1) := by decide +kernel
theorem s166_185 {v1 v2 v3 v4 v5 v6 v7 v8 v9 : Value} {l1 : Nat} {st : List Value} {im : IM} {rm : RM}  : ev 166 185 [.ref l1, v1, v2, v3, v4, v5, v6, v7, v8, v9] st im rm = ev 166 186 [.ref l1, v1, v2, v3, v4, v5, v6, v7, v8, v9] (.ref l1 :: st) (im) (rm) := ev_aload_n pm_m166 d166_185 rfl rfl
theorem d166_186 : decode prog_10_method_64_code 186 = .ok (.getfield 115, 3) := by decide +kernel
theorem s166_186 {v0 v1 v2 v3 v4 v5 v6 v7 v8 v9 : Value} {a : Nat} {st : List Value} {im : IM} {rm : RM} (hk : kd a = 18) : ev 166 186 [v0, v1, v2, v3, v4, v5, v6, v7, v8, v9] (.ref a :: st) im rm = ev 166 189 [v0, v1, v2, v3, v4, v5, v6, v7, v8, v9] (pm_ro (rm a 48) :: st) (im) (rm) := ev_getR pm_m166 d166_186 f8_115 rfl hk rfl
theorem d166_189 : decode prog_10_method_64_code 189 = .ok (.iload 9, 2) := by decide +kernel
theorem s166_189 {v0 v1 v2 v3 v4 v5 v6 v7 v8 : Value} {l1 : Int32} {st : List Value} {im : IM} {rm : RM}  : ev 166 189 [v0, v1, v2, v3, v4, v5, v6, v7, v8, .int l1] st im rm = ev 166 191 [v0, v1, v2, v3, v4, v5, v6, v7, v8, .int l1] (.int l1 :: st) (im) (rm) := ev_iload pm_m166 d166_189 rfl rfl
theorem d166_191 : decode prog_10_method_64_code 191 = .ok (.iaload, 1) := by decide +kernel
theorem s166_191 {v0 v1 v2 v3 v4 v5 v6 v7 v8 v9 : Value} {a : Nat} {i : Int32} {st : List Value} {im : IM} {rm : RM} (hk : kd a = 0) (hi : pm_in i (ln a) = true) : ev 166 191 [v0, v1, v2, v3, v4, v5, v6, v7, v8, v9] (.int i :: .ref a :: st) im rm = ev 166 192 [v0, v1, v2, v3, v4, v5, v6, v7, v8, v9] (.int (im a i.toNatClampNeg) :: st) (im) (rm) := ev_iald pm_m166 d166_191 hk hi rfl
theorem d166_192 : decode prog_10_method_64_code 192 = .ok (.goto 4, 3) := by decide +kernel
theorem s166_192 {v0 v1 v2 v3 v4 v5 v6 v7 v8 v9 : Value}  {st : List Value} {im : IM} {rm : RM}  : ev 166 192 [v0, v1, v2, v3, v4, v5, v6, v7, v8, v9] st im rm = ev 166 196 [v0, pm_u, v2, v3, v4, v5, v6, pm_u, v8, v9] st (im) (rm) := ev_goto pm_m166 d166_192 rfl rfl
theorem d166_195 : decode prog_10_method_64_code 195 = .ok (.iconst 0, 1) := by decide +kernel
theorem s166_195 {v0 v1 v2 v3 v4 v5 v6 v7 v8 v9 : Value}  {st : List Value} {im : IM} {rm : RM}  : ev 166 195 [v0, v1, v2, v3, v4, v5, v6, v7, v8, v9] st im rm = ev 166 196 [v0, pm_u, v2, v3, v4, v5, v6, pm_u, v8, v9] (.int (nI 0) :: st) (im) (rm) := ev_iconst pm_m166 d166_195 rfl rfl
theorem d166_196 : decode prog_10_method_64_code 196 = .ok (.ior, 1) := by decide +kernel
theorem s166_196 {v0 v1 v2 v3 v4 v5 v6 v7 v8 v9 : Value} {x : Int32} {y : Int32} {st : List Value} {im : IM} {rm : RM}  : ev 166 196 [v0, v1, v2, v3, v4, v5, v6, v7, v8, v9] (.int y :: .int x :: st) im rm = ev 166 197 [v0, v1, v2, v3, v4, v5, v6, v7, v8, v9] (.int (x ||| y) :: st) (im) (rm) := ev_ior pm_m166 d166_196 rfl
theorem d166_197 : decode prog_10_method_64_code 197 = .ok (.istore 7, 2) := by decide +kernel
theorem s166_197 {v0 v1 v2 v3 v4 v5 v7 v8 v9 : Value} {l1 : Int32} {x2 : Int32} {st : List Value} {im : IM} {rm : RM}  : ev 166 197 [v0, v1, v2, v3, v4, v5, .int l1, v7, v8, v9] (.int x2 :: st) im rm = ev 166 199 [v0, v1, v2, v3, v4, v5, .int l1, .int x2, v8, v9] st (im) (rm) := ev_istore pm_m166 d166_197 (Nat.le_of_ble_eq_true rfl) rfl rfl
theorem d166_199 : decode prog_10_method_64_code 199 = .ok (.iload 8, 2) := by decide +kernel
theorem s166_199 {v0 v1 v2 v3 v4 v5 v6 v7 v9 : Value} {l1 : Int32} {st : List Value} {im : IM} {rm : RM}  : ev 166 199 [v0, v1, v2, v3, v4, v5, v6, v7, .int l1, v9] st im rm = ev 166 201 [v0, v1, v2, v3, v4, v5, v6, v7, .int l1, v9] (.int l1 :: st) (im) (rm) := ev_iload pm_m166 d166_199 rfl rfl
theorem d166_201 : decode prog_10_method_64_code 201 = .ok (.iload 6, 2) := by decide +kernel
theorem s166_201 {v0 v1 v2 v3 v4 v5 v7 v8 v9 : Value} {l1 : Int32} {st : List Value} {im : IM} {rm : RM}  : ev 166 201 [v0, v1, v2, v3, v4, v5, .int l1, v7, v8, v9] st im rm = ev 166 203 [v0, v1, v2, v3, v4, v5, .int l1, v7, v8, v9] (.int l1 :: st) (im) (rm) := ev_iload pm_m166 d166_201 rfl rfl
theorem d166_203 : decode prog_10_method_64_code 203 = .ok (.iload 9, 2) := by decide +kernel
theorem s166_203 {v0 v1 v2 v3 v4 v5 v6 v7 v8 : Value} {l1 : Int32} {st : List Value} {im : IM} {rm : RM}  : ev 166 203 [v0, v1, v2, v3, v4, v5, v6, v7, v8, .int l1] st im rm = ev 166 205 [v0, v1, v2, v3, v4, v5, v6, v7, v8, .int l1] (.int l1 :: st) (im) (rm) := ev_iload pm_m166 d166_203 rfl rfl
theorem d166_205 : decode prog_10_method_64_code 205 = .ok (.ishr, 1) := by decide +kernel
theorem s166_205 {v0 v1 v2 v3 v4 v5 v6 v7 v8 v9 : Value} {x : Int32} {y : Int32} {st : List Value} {im : IM} {rm : RM}  : ev 166 205 [v0, v1, v2, v3, v4, v5, v6, v7, v8, v9] (.int y :: .int x :: st) im rm = ev 166 206 [v0, v1, v2, v3, v4, v5, v6, v7, v8, v9] (.int (x >>> (y &&& 31)) :: st) (im) (rm) := ev_ishr pm_m166 d166_205 rfl
theorem d166_206 : decode prog_10_method_64_code 206 = .ok (.iconst 1, 1) := by decide +kernel
theorem s166_206 {v0 v1 v2 v3 v4 v5 v6 v7 v8 v9 : Value}  {st : List Value} {im : IM} {rm : RM}  : ev 166 206 [v0, v1, v2, v3, v4, v5, v6, v7, v8, v9] st im rm = ev 166 207 [v0, v1, v2, v3, v4, v5, v6, v7, v8, v9] (.int (nI 1) :: st) (im) (rm) := ev_iconst pm_m166 d166_206 rfl rfl
theorem d166_207 : decode prog_10_method_64_code 207 = .ok (.iand, 1) := by decide +kernel
theorem s166_207 {v0 v1 v2 v3 v4 v5 v6 v7 v8 v9 : Value} {x : Int32} {y : Int32} {st : List Value} {im : IM} {rm : RM}  : ev 166 207 [v0, v1, v2, v3, v4, v5, v6, v7, v8, v9] (.int y :: .int x :: st) im rm = ev 166 208 [v0, v1, v2, v3, v4, v5, v6, v7, v8, v9] (.int (x &&& y) :: st) (im) (rm) := ev_iand pm_m166 d166_207 rfl
theorem d166_208 : decode prog_10_method_64_code 208 = .ok (.iconst 1, 1) := by decide +kernel
theorem s166_208 {v0 v1 v2 v3 v4 v5 v6 v7 v8 v9 : Value}  {st : List Value} {im : IM} {rm : RM}  : ev 166 208 [v0, v1, v2, v3, v4, v5, v6, v7, v8, v9] st im rm = ev 166 209 [v0, v1, v2, v3, v4, v5, v6, v7, v8, v9] (.int (nI 1) :: st) (im) (rm) := ev_iconst pm_m166 d166_208 rfl rfl
theorem d166_209 : decode prog_10_method_64_code 209 = .ok (.if_icmp .ne 13, 3) := by decide +kernel
theorem s166_209 {v0 v1 v2 v3 v4 v5 v6 v7 v8 v9 : Value} {x : Int32} {y : Int32} {st : List Value} {im : IM} {rm : RM} : ev 166 209 [v0, v1, v2, v3, v4, v5, v6, v7, v8, v9] (.int y :: .int x :: st) im rm = if x = y then ev 166 212 [v0, v1, v2, v3, v4, v5, v6, v7, v8, v9] st im rm else ev 166 222 [v0, pm_u, v2, v3, v4, v5, v6, v7, pm_u, v9] st im rm := ev_icmp_ne pm_m166 d166_209 rfl rfl rfl
theorem d166_212 : decode prog_10_method_64_code 212 = .ok (.aload_n 0, 1) := by decide +kernel
theorem s166_212 {v1 v2 v3 v4 v5 v6 v7 v8 v9 : Value} {l1 : Nat} {st : List Value} {im : IM} {rm : RM}  : ev 166 212 [.ref l1, v1, v2, v3, v4, v5, v6, v7, v8, v9] st im rm = ev 166 213 [.ref l1, v1, v2, v3, v4, v5, v6, v7, v8, v9] (.ref l1 :: st) (im) (rm) := ev_aload_n pm_m166 d166_212 rfl rfl
theorem d166_213 : decode prog_10_method_64_code 213 = .ok (.getfield 85, 3) := by decide +kernel
theorem s166_213 {v0 v1 v2 v3 v4 v5 v6 v7 v8 v9 : Value} {a : Nat} {st : List Value} {im : IM} {rm : RM} (hk : kd a = 18) : ev 166 213 [v0, v1, v2, v3, v4, v5, v6, v7, v8, v9] (.ref a :: st) im rm = ev 166 216 [v0, v1, v2, v3, v4, v5, v6, v7, v8, v9] (pm_ro (rm a 27) :: st) (im) (rm) := ev_getR pm_m166 d166_213 f8_85 rfl hk rfl
theorem d166_216 : decode prog_10_method_64_code 216 = .ok (.iload 9, 2) := by decide +kernel
theorem s166_216 {v0 v1 v2 v3 v4 v5 v6 v7 v8 : Value} {l1 : Int32} {st : List Value} {im : IM} {rm : RM}  : ev 166 216 [v0, v1, v2, v3, v4, v5, v6, v7, v8, .int l1] st im rm = ev 166 218 [v0, v1, v2, v3, v4, v5, v6, v7, v8, .int l1] (.int l1 :: st) (im) (rm) := ev_iload pm_m166 d166_216 rfl rfl
theorem d166_218 : decode prog_10_method_64_code 218 = .ok (.iaload, 1) := by decide +kernel
theorem s166_218 {v0 v1 v2 v3 v4 v5 v6 v7 v8 v9 : Value} {a : Nat} {i : Int32} {st : List Value} {im : IM} {rm : RM} (hk : kd a = 0) (hi : pm_in i (ln a) = true) : ev 166 218 [v0, v1, v2, v3, v4, v5, v6, v7, v8, v9] (.int i :: .ref a :: st) im rm = ev 166 219 [v0, v1, v2, v3, v4, v5, v6, v7, v8, v9] (.int (im a i.toNatClampNeg) :: st) (im) (rm) := ev_iald pm_m166 d166_218 hk hi rfl
theorem d166_219 : decode prog_10_method_64_code 219 = .ok (.goto 4, 3) := by decide +kernel
theorem s166_219 {v0 v1 v2 v3 v4 v5 v6 v7 v8 v9 : Value}  {st : List Value} {im : IM} {rm : RM}  : ev 166 219 [v0, v1, v2, v3, v4, v5, v6, v7, v8, v9] st im rm = ev 166 223 [v0, pm_u, v2, v3, v4, v5, v6, v7, pm_u, v9] st (im) (rm) := ev_goto pm_m166 d166_219 rfl rfl
theorem d166_222 : decode prog_10_method_64_code 222 = .ok (.iconst 0, 1) := by decide +kernel
theorem s166_222 {v0 v1 v2 v3 v4 v5 v6 v7 v8 v9 : Value}  {st : List Value} {im : IM} {rm : RM}  : ev 166 222 [v0, v1, v2, v3, v4, v5, v6, v7, v8, v9] st im rm = ev 166 223 [v0, pm_u, v2, v3, v4, v5, v6, v7, pm_u, v9] (.int (nI 0) :: st) (im) (rm) := ev_iconst pm_m166 d166_222 rfl rfl
theorem d166_223 : decode prog_10_method_64_code 223 = .ok (.iadd, 1) := by decide +kernel
theorem s166_223 {v0 v1 v2 v3 v4 v5 v6 v7 v8 v9 : Value} {x : Int32} {y : Int32} {st : List Value} {im : IM} {rm : RM}  : ev 166 223 [v0, v1, v2, v3, v4, v5, v6, v7, v8, v9] (.int y :: .int x :: st) im rm = ev 166 224 [v0, v1, v2, v3, v4, v5, v6, v7, v8, v9] (.int (x + y) :: st) (im) (rm) := ev_iadd pm_m166 d166_223 rfl
theorem d166_224 : decode prog_10_method_64_code 224 = .ok (.istore 8, 2) := by decide +kernel
theorem s166_224 {v0 v1 v2 v3 v4 v5 v6 v8 v9 : Value} {l1 : Int32} {x2 : Int32} {st : List Value} {im : IM} {rm : RM}  : ev 166 224 [v0, v1, v2, v3, v4, v5, v6, .int l1, v8, v9] (.int x2 :: st) im rm = ev 166 226 [v0, v1, v2, v3, v4, v5, v6, .int l1, .int x2, v9] st (im) (rm) := ev_istore pm_m166 d166_224 (Nat.le_of_ble_eq_true rfl) rfl rfl
theorem d166_226 : decode prog_10_method_64_code 226 = .ok (.iinc 9 1, 3) := by decide +kernel
theorem s166_226 {v0 v1 v2 v3 v4 v5 v6 v7 : Value} {l1 : Int32} {l2 : Int32} {st : List Value} {im : IM} {rm : RM}  : ev 166 226 [v0, v1, v2, v3, v4, v5, v6, v7, .int l1, .int l2] st im rm = ev 166 229 [v0, v1, v2, v3, v4, v5, v6, v7, .int l1, .int (l2 + nI 1)] st (im) (rm) := ev_iinc pm_m166 d166_226 rfl rfl rfl rfl
theorem d166_229 : decode prog_10_method_64_code 229 = .ok (.goto (-64), 3) := by decide +kernel
theorem s166_229 {v0 v1 v2 v3 v4 v5 v6 v7 v8 v9 : Value}  {st : List Value} {im : IM} {rm : RM}  : ev 166 229 [v0, v1, v2, v3, v4, v5, v6, v7, v8, v9] st im rm = ev 166 165 [v0, pm_u, v2, v3, v4, v5, v6, v7, v8, v9] st (im) (rm) := ev_goto pm_m166 d166_229 rfl rfl
theorem d166_232 : decode prog_10_method_64_code 232 = .ok (.iload 7, 2) := by decide +kernel
theorem s166_232 {v0 v1 v2 v3 v4 v5 v6 v8 v9 : Value} {l1 : Int32} {st : List Value} {im : IM} {rm : RM}  : ev 166 232 [v0, v1, v2, v3, v4, v5, v6, .int l1, v8, v9] st im rm = ev 166 234 [v0, v1, v2, v3, v4, v5, v6, .int l1, v8, v9] (.int l1 :: st) (im) (rm) := ev_iload pm_m166 d166_232 rfl rfl
theorem d166_234 : decode prog_10_method_64_code 234 = .ok (.iload_n 3, 1) := by decide +kernel
theorem s166_234 {v0 v1 v2 v4 v5 v6 v7 v8 v9 : Value} {l1 : Int32} {st : List Value} {im : IM} {rm : RM}  : ev 166 234 [v0, v1, v2, .int l1, v4, v5, v6, v7, v8, v9] st im rm = ev 166 235 [v0, v1, v2, .int l1, v4, v5, v6, v7, v8, v9] (.int l1 :: st) (im) (rm) := ev_iload_n pm_m166 d166_234 rfl rfl
theorem d166_235 : decode prog_10_method_64_code 235 = .ok (.if_icmp .ne 18, 3) := by decide +kernel
theorem s166_235 {v0 v1 v2 v3 v4 v5 v6 v7 v8 v9 : Value} {x : Int32} {y : Int32} {st : List Value} {im : IM} {rm : RM} : ev 166 235 [v0, v1, v2, v3, v4, v5, v6, v7, v8, v9] (.int y :: .int x :: st) im rm = if x = y then ev 166 238 [v0, v1, v2, v3, v4, v5, v6, v7, v8, v9] st im rm else ev 166 253 [v0, pm_u, v2, v3, v4, v5, v6, pm_u, pm_u, pm_u] st im rm := ev_icmp_ne pm_m166 d166_235 rfl rfl rfl
theorem d166_238 : decode prog_10_method_64_code 238 = .ok (.iload 8, 2) := by decide +kernel
theorem s166_238 {v0 v1 v2 v3 v4 v5 v6 v7 v9 : Value} {l1 : Int32} {st : List Value} {im : IM} {rm : RM}  : ev 166 238 [v0, v1, v2, v3, v4, v5, v6, v7, .int l1, v9] st im rm = ev 166 240 [v0, v1, v2, v3, v4, v5, v6, v7, .int l1, v9] (.int l1 :: st) (im) (rm) := ev_iload pm_m166 d166_238 rfl rfl
theorem d166_240 : decode prog_10_method_64_code 240 = .ok (.iload 5, 2) := by decide +kernel
theorem s166_240 {v0 v1 v2 v3 v4 v6 v7 v8 v9 : Value} {l1 : Int32} {st : List Value} {im : IM} {rm : RM}  : ev 166 240 [v0, v1, v2, v3, v4, .int l1, v6, v7, v8, v9] st im rm = ev 166 242 [v0, v1, v2, v3, v4, .int l1, v6, v7, v8, v9] (.int l1 :: st) (im) (rm) := ev_iload pm_m166 d166_240 rfl rfl
theorem d166_242 : decode prog_10_method_64_code 242 = .ok (.if_icmp .ge 11, 3) := by decide +kernel
theorem s166_242 {v0 v1 v2 v3 v4 v5 v6 v7 v8 v9 : Value} {x : Int32} {y : Int32} {st : List Value} {im : IM} {rm : RM} : ev 166 242 [v0, v1, v2, v3, v4, v5, v6, v7, v8, v9] (.int y :: .int x :: st) im rm = if y ≤ x then ev 166 253 [v0, pm_u, v2, v3, v4, v5, v6, pm_u, pm_u, pm_u] st im rm else ev 166 245 [v0, v1, v2, v3, v4, v5, v6, v7, v8, v9] st im rm := ev_icmp_ge pm_m166 d166_242 rfl rfl rfl
theorem d166_245 : decode prog_10_method_64_code 245 = .ok (.iload 6, 2) := by decide +kernel
theorem s166_245 {v0 v1 v2 v3 v4 v5 v7 v8 v9 : Value} {l1 : Int32} {st : List Value} {im : IM} {rm : RM}  : ev 166 245 [v0, v1, v2, v3, v4, v5, .int l1, v7, v8, v9] st im rm = ev 166 247 [v0, v1, v2, v3, v4, v5, .int l1, v7, v8, v9] (.int l1 :: st) (im) (rm) := ev_iload pm_m166 d166_245 rfl rfl
theorem d166_247 : decode prog_10_method_64_code 247 = .ok (.istore 4, 2) := by decide +kernel
theorem s166_247 {v0 v1 v2 v4 v5 v6 v7 v8 v9 : Value} {l1 : Int32} {x2 : Int32} {st : List Value} {im : IM} {rm : RM}  : ev 166 247 [v0, v1, v2, .int l1, v4, v5, v6, v7, v8, v9] (.int x2 :: st) im rm = ev 166 249 [v0, v1, v2, .int l1, .int x2, v5, v6, v7, v8, v9] st (im) (rm) := ev_istore pm_m166 d166_247 (Nat.le_of_ble_eq_true rfl) rfl rfl
theorem d166_249 : decode prog_10_method_64_code 249 = .ok (.iload 8, 2) := by decide +kernel
theorem s166_249 {v0 v1 v2 v3 v4 v5 v6 v7 v9 : Value} {l1 : Int32} {st : List Value} {im : IM} {rm : RM}  : ev 166 249 [v0, v1, v2, v3, v4, v5, v6, v7, .int l1, v9] st im rm = ev 166 251 [v0, v1, v2, v3, v4, v5, v6, v7, .int l1, v9] (.int l1 :: st) (im) (rm) := ev_iload pm_m166 d166_249 rfl rfl
theorem d166_251 : decode prog_10_method_64_code 251 = .ok (.istore 5, 2) := by decide +kernel
theorem s166_251 {v0 v1 v2 v3 v5 v6 v7 v8 v9 : Value} {l1 : Int32} {x2 : Int32} {st : List Value} {im : IM} {rm : RM}  : ev 166 251 [v0, v1, v2, v3, .int l1, v5, v6, v7, v8, v9] (.int x2 :: st) im rm = ev 166 253 [v0, pm_u, v2, v3, .int l1, .int x2, v6, pm_u, pm_u, pm_u] st (im) (rm) := ev_istore pm_m166 d166_251 (Nat.le_of_ble_eq_true rfl) rfl rfl
theorem d166_253 : decode prog_10_method_64_code 253 = .ok (.iinc 6 1, 3) := by decide +kernel
theorem s166_253 {v0 v1 v2 v3 v4 v7 v8 v9 : Value} {l1 : Int32} {l2 : Int32} {st : List Value} {im : IM} {rm : RM}  : ev 166 253 [v0, v1, v2, v3, v4, .int l1, .int l2, v7, v8, v9] st im rm = ev 166 256 [v0, v1, v2, v3, v4, .int l1, .int (l2 + nI 1), v7, v8, v9] st (im) (rm) := ev_iinc pm_m166 d166_253 rfl rfl rfl rfl
theorem d166_256 : decode prog_10_method_64_code 256 = .ok (.goto (-107), 3) := by decide +kernel
theorem s166_256 {v0 v1 v2 v3 v4 v5 v6 v7 v8 v9 : Value}  {st : List Value} {im : IM} {rm : RM}  : ev 166 256 [v0, v1, v2, v3, v4, v5, v6, v7, v8, v9] st im rm = ev 166 149 [v0, pm_u, v2, v3, v4, v5, v6, pm_u, pm_u, pm_u] st (im) (rm) := ev_goto pm_m166 d166_256 rfl rfl
theorem d166_259 : decode prog_10_method_64_code 259 = .ok (.iload_n 2, 1) := by decide +kernel
theorem s166_259 {v0 v1 v3 v4 v5 v6 v7 v8 v9 : Value} {l1 : Int32} {st : List Value} {im : IM} {rm : RM}  : ev 166 259 [v0, v1, .int l1, v3, v4, v5, v6, v7, v8, v9] st im rm = ev 166 260 [v0, v1, .int l1, v3, v4, v5, v6, v7, v8, v9] (.int l1 :: st) (im) (rm) := ev_iload_n pm_m166 d166_259 rfl rfl
theorem d166_260 : decode prog_10_method_64_code 260 = .ok (.ifCond .ne 8, 3) := by decide +kernel
theorem s166_260 {v0 v1 v2 v3 v4 v5 v6 v7 v8 v9 : Value} {x : Int32} {st : List Value} {im : IM} {rm : RM} : ev 166 260 [v0, v1, v2, v3, v4, v5, v6, v7, v8, v9] (.int x :: st) im rm = if x = nI 0 then ev 166 263 [v0, v1, v2, v3, v4, v5, v6, v7, v8, v9] st im rm else ev 166 268 [pm_u, pm_u, v2, v3, pm_u, v5, pm_u, pm_u, pm_u, pm_u] st im rm := ev_if_ne (y := 0) pm_m166 d166_260 rfl rfl rfl
theorem d166_263 : decode prog_10_method_64_code 263 = .ok (.iload 4, 2) := by decide +kernel
theorem s166_263 {v0 v1 v2 v3 v5 v6 v7 v8 v9 : Value} {l1 : Int32} {st : List Value} {im : IM} {rm : RM}  : ev 166 263 [v0, v1, v2, v3, .int l1, v5, v6, v7, v8, v9] st im rm = ev 166 265 [v0, v1, v2, v3, .int l1, v5, v6, v7, v8, v9] (.int l1 :: st) (im) (rm) := ev_iload pm_m166 d166_263 rfl rfl
theorem d166_265 : decode prog_10_method_64_code 265 = .ok (.goto 14, 3) := by decide +kernel
theorem s166_265 {v0 v1 v2 v3 v4 v5 v6 v7 v8 v9 : Value}  {st : List Value} {im : IM} {rm : RM}  : ev 166 265 [v0, v1, v2, v3, v4, v5, v6, v7, v8, v9] st im rm = ev 166 279 [pm_u, pm_u, pm_u, pm_u, pm_u, pm_u, pm_u, pm_u, pm_u, pm_u] st (im) (rm) := ev_goto pm_m166 d166_265 rfl rfl
theorem d166_268 : decode prog_10_method_64_code 268 = .ok (.iload_n 2, 1) := by decide +kernel
theorem s166_268 {v0 v1 v3 v4 v5 v6 v7 v8 v9 : Value} {l1 : Int32} {st : List Value} {im : IM} {rm : RM}  : ev 166 268 [v0, v1, .int l1, v3, v4, v5, v6, v7, v8, v9] st im rm = ev 166 269 [v0, v1, .int l1, v3, v4, v5, v6, v7, v8, v9] (.int l1 :: st) (im) (rm) := ev_iload_n pm_m166 d166_268 rfl rfl
theorem d166_269 : decode prog_10_method_64_code 269 = .ok (.iconst 1, 1) := by decide +kernel
theorem s166_269 {v0 v1 v2 v3 v4 v5 v6 v7 v8 v9 : Value}  {st : List Value} {im : IM} {rm : RM}  : ev 166 269 [v0, v1, v2, v3, v4, v5, v6, v7, v8, v9] st im rm = ev 166 270 [v0, v1, v2, v3, v4, v5, v6, v7, v8, v9] (.int (nI 1) :: st) (im) (rm) := ev_iconst pm_m166 d166_269 rfl rfl
theorem d166_270 : decode prog_10_method_64_code 270 = .ok (.if_icmp .ne 8, 3) := by decide +kernel
theorem s166_270 {v0 v1 v2 v3 v4 v5 v6 v7 v8 v9 : Value} {x : Int32} {y : Int32} {st : List Value} {im : IM} {rm : RM} : ev 166 270 [v0, v1, v2, v3, v4, v5, v6, v7, v8, v9] (.int y :: .int x :: st) im rm = if x = y then ev 166 273 [v0, v1, v2, v3, v4, v5, v6, v7, v8, v9] st im rm else ev 166 278 [pm_u, pm_u, pm_u, v3, pm_u, pm_u, pm_u, pm_u, pm_u, pm_u] st im rm := ev_icmp_ne pm_m166 d166_270 rfl rfl rfl
theorem d166_273 : decode prog_10_method_64_code 273 = .ok (.iload 5, 2) := by decide +kernel
theorem s166_273 {v0 v1 v2 v3 v4 v6 v7 v8 v9 : Value} {l1 : Int32} {st : List Value} {im : IM} {rm : RM}  : ev 166 273 [v0, v1, v2, v3, v4, .int l1, v6, v7, v8, v9] st im rm = ev 166 275 [v0, v1, v2, v3, v4, .int l1, v6, v7, v8, v9] (.int l1 :: st) (im) (rm) := ev_iload pm_m166 d166_273 rfl rfl
theorem d166_275 : decode prog_10_method_64_code 275 = .ok (.goto 4, 3) := by decide +kernel
theorem s166_275 {v0 v1 v2 v3 v4 v5 v6 v7 v8 v9 : Value}  {st : List Value} {im : IM} {rm : RM}  : ev 166 275 [v0, v1, v2, v3, v4, v5, v6, v7, v8, v9] st im rm = ev 166 279 [pm_u, pm_u, pm_u, pm_u, pm_u, pm_u, pm_u, pm_u, pm_u, pm_u] st (im) (rm) := ev_goto pm_m166 d166_275 rfl rfl
theorem d166_278 : decode prog_10_method_64_code 278 = .ok (.iload_n 3, 1) := by decide +kernel
theorem s166_278 {v0 v1 v2 v4 v5 v6 v7 v8 v9 : Value} {l1 : Int32} {st : List Value} {im : IM} {rm : RM}  : ev 166 278 [v0, v1, v2, .int l1, v4, v5, v6, v7, v8, v9] st im rm = ev 166 279 [pm_u, pm_u, pm_u, pm_u, pm_u, pm_u, pm_u, pm_u, pm_u, pm_u] (.int l1 :: st) (im) (rm) := ev_iload_n pm_m166 d166_278 rfl rfl
theorem d166_279 : decode prog_10_method_64_code 279 = .ok (.ireturn, 1) := by decide +kernel
theorem s166_279 {v0 v1 v2 v3 v4 v5 v6 v7 v8 v9 : Value} {x : Int32} {im : IM} {rm : RM} : ev 166 279 [v0, v1, v2, v3, v4, v5, v6, v7, v8, v9] [.int x] im rm = some (some (.int x), im, rm) := ev_ireturn pm_m166 d166_279 rfl
theorem d167_0 : decode prog_10_method_65_code 0 = .ok (.iload_n 1, 1) := by decide +kernel
theorem s167_0 {v0 : Value} {l1 : Int32} {st : List Value} {im : IM} {rm : RM}  : ev 167 0 [v0, .int l1] st im rm = ev 167 1 [v0, .int l1] (.int l1 :: st) (im) (rm) := ev_iload_n pm_m167 d167_0 rfl rfl
theorem d167_1 : decode prog_10_method_65_code 1 = .ok (.i2l, 1) := by decide +kernel
theorem s167_1 {v0 v1 : Value} {x : Int32} {st : List Value} {im : IM} {rm : RM}  : ev 167 1 [v0, v1] (.int x :: st) im rm = ev 167 2 [v0, v1] (.long x.toInt64 :: st) (im) (rm) := ev_i2l pm_m167 d167_1 rfl
theorem d167_2 : decode prog_10_method_65_code 2 = .ok (.lconst 1, 1) := by decide +kernel
theorem s167_2 {v0 v1 : Value}  {st : List Value} {im : IM} {rm : RM}  : ev 167 2 [v0, v1] st im rm = ev 167 3 [v0, v1] (.long (lN 1) :: st) (im) (rm) := ev_lconst pm_m167 d167_2 rfl rfl
theorem d167_3 : decode prog_10_method_65_code 3 = .ok (.ldc2_w 143, 3) := by decide +kernel
theorem s167_3 {v0 v1 : Value}  {st : List Value} {im : IM} {rm : RM}  : ev 167 3 [v0, v1] st im rm = ev 167 6 [v0, v1] (.long (lN 60) :: st) (im) (rm) := ev_ldc2 pm_m167 d167_3 (by decide +kernel) rfl
theorem d167_6 : decode prog_10_method_65_code 6 = .ok (.invokestatic 120, 3) := by decide +kernel
theorem s167_6 {v0 v1 : Value} {p1 : Int64} {p2 : Int64} {p3 : Int64} {im : IM} {rm : RM}  : ev 167 6 [v0, v1] [.long p3, .long p2, .long p1] im rm = (ev 104 0 [.long p1, pm_u, .long p2, pm_u, .long p3, pm_u] [] im rm).bind (fun r => ev 167 9 [v0, v1] (r.1.toList ++ []) r.2.1 r.2.2) := ev_callS pm_m167 d167_6 (by decide) l8_120 rfl pm_m104 rfl ⟨rfl, rfl⟩ rfl rfl
theorem d167_9 : decode prog_10_method_65_code 9 = .ok (.ifCond .eq 15, 3) := by decide +kernel
theorem s167_9 {v0 v1 : Value} {x : Int32} {st : List Value} {im : IM} {rm : RM} : ev 167 9 [v0, v1] (.int x :: st) im rm = if x = nI 0 then ev 167 24 [pm_u, pm_u] st im rm else ev 167 12 [v0, v1] st im rm := ev_if_eq (y := 0) pm_m167 d167_9 rfl rfl rfl
theorem d167_12 : decode prog_10_method_65_code 12 = .ok (.aload_n 0, 1) := by decide +kernel
theorem s167_12 {v1 : Value} {l1 : Nat} {st : List Value} {im : IM} {rm : RM}  : ev 167 12 [.ref l1, v1] st im rm = ev 167 13 [.ref l1, v1] (.ref l1 :: st) (im) (rm) := ev_aload_n pm_m167 d167_12 rfl rfl
theorem d167_13 : decode prog_10_method_65_code 13 = .ok (.getfield 330, 3) := by decide +kernel
theorem s167_13 {v0 v1 : Value} {a : Nat} {st : List Value} {im : IM} {rm : RM} (hk : kd a = 18) : ev 167 13 [v0, v1] (.ref a :: st) im rm = ev 167 16 [v0, v1] (.int (im a 28) :: st) (im) (rm) := ev_getI pm_m167 d167_13 f8_330 rfl hk rfl
theorem d167_16 : decode prog_10_method_65_code 16 = .ok (.iload_n 1, 1) := by decide +kernel
theorem s167_16 {v0 : Value} {l1 : Int32} {st : List Value} {im : IM} {rm : RM}  : ev 167 16 [v0, .int l1] st im rm = ev 167 17 [v0, .int l1] (.int l1 :: st) (im) (rm) := ev_iload_n pm_m167 d167_16 rfl rfl
theorem d167_17 : decode prog_10_method_65_code 17 = .ok (.iadd, 1) := by decide +kernel
theorem s167_17 {v0 v1 : Value} {x : Int32} {y : Int32} {st : List Value} {im : IM} {rm : RM}  : ev 167 17 [v0, v1] (.int y :: .int x :: st) im rm = ev 167 18 [v0, v1] (.int (x + y) :: st) (im) (rm) := ev_iadd pm_m167 d167_17 rfl
theorem d167_18 : decode prog_10_method_65_code 18 = .ok (.sipush 200, 3) := by decide +kernel
theorem s167_18 {v0 v1 : Value}  {st : List Value} {im : IM} {rm : RM}  : ev 167 18 [v0, v1] st im rm = ev 167 21 [v0, v1] (.int (nI 200) :: st) (im) (rm) := ev_sipush pm_m167 d167_18 rfl rfl
theorem d167_21 : decode prog_10_method_65_code 21 = .ok (.if_icmp .le 6, 3) := by decide +kernel
theorem s167_21 {v0 v1 : Value} {x : Int32} {y : Int32} {st : List Value} {im : IM} {rm : RM} : ev 167 21 [v0, v1] (.int y :: .int x :: st) im rm = if x ≤ y then ev 167 27 [v0, v1] st im rm else ev 167 24 [pm_u, pm_u] st im rm := ev_icmp_le pm_m167 d167_21 rfl rfl rfl
theorem d167_24 : decode prog_10_method_65_code 24 = .ok (.bipush (-3), 2) := by decide +kernel
theorem s167_24 {v0 v1 : Value}  {st : List Value} {im : IM} {rm : RM}  : ev 167 24 [v0, v1] st im rm = ev 167 26 [v0, v1] (.int ((-3 : Int32)) :: st) (im) (rm) := ev_bipush pm_m167 d167_24 rfl rfl
theorem d167_26 : decode prog_10_method_65_code 26 = .ok (.ireturn, 1) := by decide +kernel
theorem s167_26 {v0 v1 : Value} {x : Int32} {im : IM} {rm : RM} : ev 167 26 [v0, v1] [.int x] im rm = some (some (.int x), im, rm) := ev_ireturn pm_m167 d167_26 rfl
theorem d167_27 : decode prog_10_method_65_code 27 = .ok (.aload_n 0, 1) := by decide +kernel
theorem s167_27 {v1 : Value} {l1 : Nat} {st : List Value} {im : IM} {rm : RM}  : ev 167 27 [.ref l1, v1] st im rm = ev 167 28 [.ref l1, v1] (.ref l1 :: st) (im) (rm) := ev_aload_n pm_m167 d167_27 rfl rfl
theorem d167_28 : decode prog_10_method_65_code 28 = .ok (.dup, 1) := by decide +kernel
theorem s167_28 {v0 v1 : Value} {x1 : Nat} {st : List Value} {im : IM} {rm : RM}  : ev 167 28 [v0, v1] (.ref x1 :: st) im rm = ev 167 29 [v0, v1] (.ref x1 :: .ref x1 :: st) (im) (rm) := ev_dupA pm_m167 d167_28 rfl
theorem d167_29 : decode prog_10_method_65_code 29 = .ok (.getfield 330, 3) := by decide +kernel
theorem s167_29 {v0 v1 : Value} {a : Nat} {st : List Value} {im : IM} {rm : RM} (hk : kd a = 18) : ev 167 29 [v0, v1] (.ref a :: st) im rm = ev 167 32 [v0, v1] (.int (im a 28) :: st) (im) (rm) := ev_getI pm_m167 d167_29 f8_330 rfl hk rfl
theorem d167_32 : decode prog_10_method_65_code 32 = .ok (.iload_n 1, 1) := by decide +kernel
theorem s167_32 {v0 : Value} {l1 : Int32} {st : List Value} {im : IM} {rm : RM}  : ev 167 32 [v0, .int l1] st im rm = ev 167 33 [v0, .int l1] (.int l1 :: st) (im) (rm) := ev_iload_n pm_m167 d167_32 rfl rfl
theorem d167_33 : decode prog_10_method_65_code 33 = .ok (.iadd, 1) := by decide +kernel
theorem s167_33 {v0 v1 : Value} {x : Int32} {y : Int32} {st : List Value} {im : IM} {rm : RM}  : ev 167 33 [v0, v1] (.int y :: .int x :: st) im rm = ev 167 34 [v0, v1] (.int (x + y) :: st) (im) (rm) := ev_iadd pm_m167 d167_33 rfl
theorem d167_34 : decode prog_10_method_65_code 34 = .ok (.putfield 330, 3) := by decide +kernel
theorem s167_34 {v0 v1 : Value} {a : Nat} {v : Int32} {st : List Value} {im : IM} {rm : RM} (hk : kd a = 18) : ev 167 34 [v0, v1] (.int v :: .ref a :: st) im rm = ev 167 37 [v0, v1] st (pm_w2 im a 28 v) (rm) := ev_putI pm_m167 d167_34 f8_330 rfl rfl hk rfl
theorem d167_37 : decode prog_10_method_65_code 37 = .ok (.aload_n 0, 1) := by decide +kernel
theorem s167_37 {v1 : Value} {l1 : Nat} {st : List Value} {im : IM} {rm : RM}  : ev 167 37 [.ref l1, v1] st im rm = ev 167 38 [.ref l1, v1] (.ref l1 :: st) (im) (rm) := ev_aload_n pm_m167 d167_37 rfl rfl
theorem d167_38 : decode prog_10_method_65_code 38 = .ok (.getfield 330, 3) := by decide +kernel
theorem s167_38 {v0 v1 : Value} {a : Nat} {st : List Value} {im : IM} {rm : RM} (hk : kd a = 18) : ev 167 38 [v0, v1] (.ref a :: st) im rm = ev 167 41 [v0, v1] (.int (im a 28) :: st) (im) (rm) := ev_getI pm_m167 d167_38 f8_330 rfl hk rfl
theorem d167_41 : decode prog_10_method_65_code 41 = .ok (.ireturn, 1) := by decide +kernel
theorem s167_41 {v0 v1 : Value} {x : Int32} {im : IM} {rm : RM} : ev 167 41 [v0, v1] [.int x] im rm = some (some (.int x), im, rm) := ev_ireturn pm_m167 d167_41 rfl
theorem d168_0 : decode prog_10_method_66_code 0 = .ok (.iload_n 1, 1) := by decide +kernel
theorem s168_0 {v0 v2 v3 : Value} {l1 : Int32} {st : List Value} {im : IM} {rm : RM}  : ev 168 0 [v0, .int l1, v2, v3] st im rm = ev 168 1 [v0, .int l1, v2, v3] (.int l1 :: st) (im) (rm) := ev_iload_n pm_m168 d168_0 rfl rfl
theorem d168_1 : decode prog_10_method_66_code 1 = .ok (.invokestatic 240, 3) := by decide +kernel
theorem s168_1 {v0 v1 v2 v3 : Value} {p1 : Int32} {im : IM} {rm : RM}  : ev 168 1 [v0, v1, v2, v3] [.int p1] im rm = (ev 107 0 [.int p1] [] im rm).bind (fun r => ev 168 4 [v0, v1, v2, v3] (r.1.toList ++ []) r.2.1 r.2.2) := ev_callS pm_m168 d168_1 (by decide) l8_240 rfl pm_m107 rfl ⟨rfl, rfl⟩ rfl rfl
theorem d168_4 : decode prog_10_method_66_code 4 = .ok (.ifCond .eq 10, 3) := by decide +kernel
theorem s168_4 {v0 v1 v2 v3 : Value} {x : Int32} {st : List Value} {im : IM} {rm : RM} : ev 168 4 [v0, v1, v2, v3] (.int x :: st) im rm = if x = nI 0 then ev 168 14 [pm_u, pm_u, pm_u, pm_u] st im rm else ev 168 7 [v0, v1, v2, v3] st im rm := ev_if_eq (y := 0) pm_m168 d168_4 rfl rfl rfl
theorem d168_7 : decode prog_10_method_66_code 7 = .ok (.iload_n 2, 1) := by decide +kernel
theorem s168_7 {v0 v1 v3 : Value} {l1 : Int32} {st : List Value} {im : IM} {rm : RM}  : ev 168 7 [v0, v1, .int l1, v3] st im rm = ev 168 8 [v0, v1, .int l1, v3] (.int l1 :: st) (im) (rm) := ev_iload_n pm_m168 d168_7 rfl rfl
theorem d168_8 : decode prog_10_method_66_code 8 = .ok (.invokestatic 130, 3) := by decide +kernel
theorem s168_8 {v0 v1 v2 v3 : Value} {p1 : Int32} {im : IM} {rm : RM}  : ev 168 8 [v0, v1, v2, v3] [.int p1] im rm = (ev 106 0 [.int p1] [] im rm).bind (fun r => ev 168 11 [v0, v1, v2, v3] (r.1.toList ++ []) r.2.1 r.2.2) := ev_callS pm_m168 d168_8 (by decide) l8_130 rfl pm_m106 rfl ⟨rfl, rfl⟩ rfl rfl
theorem d168_11 : decode prog_10_method_66_code 11 = .ok (.ifCond .ne 6, 3) := by decide +kernel
theorem s168_11 {v0 v1 v2 v3 : Value} {x : Int32} {st : List Value} {im : IM} {rm : RM} : ev 168 11 [v0, v1, v2, v3] (.int x :: st) im rm = if x = nI 0 then ev 168 14 [pm_u, pm_u, pm_u, pm_u] st im rm else ev 168 17 [v0, v1, v2, v3] st im rm := ev_if_ne (y := 0) pm_m168 d168_11 rfl rfl rfl
theorem d168_14 : decode prog_10_method_66_code 14 = .ok (.bipush (-2), 2) := by decide +kernel
theorem s168_14 {v0 v1 v2 v3 : Value}  {st : List Value} {im : IM} {rm : RM}  : ev 168 14 [v0, v1, v2, v3] st im rm = ev 168 16 [v0, v1, v2, v3] (.int ((-2 : Int32)) :: st) (im) (rm) := ev_bipush pm_m168 d168_14 rfl rfl
theorem d168_16 : decode prog_10_method_66_code 16 = .ok (.ireturn, 1) := by decide +kernel
theorem s168_16 {v0 v1 v2 v3 : Value} {x : Int32} {im : IM} {rm : RM} : ev 168 16 [v0, v1, v2, v3] [.int x] im rm = some (some (.int x), im, rm) := ev_ireturn pm_m168 d168_16 rfl
theorem d168_17 : decode prog_10_method_66_code 17 = .ok (.iload_n 3, 1) := by decide +kernel
theorem s168_17 {v0 v1 v2 : Value} {l1 : Int32} {st : List Value} {im : IM} {rm : RM}  : ev 168 17 [v0, v1, v2, .int l1] st im rm = ev 168 18 [v0, v1, v2, .int l1] (.int l1 :: st) (im) (rm) := ev_iload_n pm_m168 d168_17 rfl rfl
theorem d168_18 : decode prog_10_method_66_code 18 = .ok (.i2l, 1) := by decide +kernel
theorem s168_18 {v0 v1 v2 v3 : Value} {x : Int32} {st : List Value} {im : IM} {rm : RM}  : ev 168 18 [v0, v1, v2, v3] (.int x :: st) im rm = ev 168 19 [v0, v1, v2, v3] (.long x.toInt64 :: st) (im) (rm) := ev_i2l pm_m168 d168_18 rfl
theorem d168_19 : decode prog_10_method_66_code 19 = .ok (.lconst 0, 1) := by decide +kernel
theorem s168_19 {v0 v1 v2 v3 : Value}  {st : List Value} {im : IM} {rm : RM}  : ev 168 19 [v0, v1, v2, v3] st im rm = ev 168 20 [v0, v1, v2, v3] (.long (lN 0) :: st) (im) (rm) := ev_lconst pm_m168 d168_19 rfl rfl
theorem d168_20 : decode prog_10_method_66_code 20 = .ok (.ldc2_w 166, 3) := by decide +kernel
theorem s168_20 {v0 v1 v2 v3 : Value}  {st : List Value} {im : IM} {rm : RM}  : ev 168 20 [v0, v1, v2, v3] st im rm = ev 168 23 [v0, v1, v2, v3] (.long (lN 7) :: st) (im) (rm) := ev_ldc2 pm_m168 d168_20 (by decide +kernel) rfl
theorem d168_23 : decode prog_10_method_66_code 23 = .ok (.invokestatic 120, 3) := by decide +kernel
theorem s168_23 {v0 v1 v2 v3 : Value} {p1 : Int64} {p2 : Int64} {p3 : Int64} {im : IM} {rm : RM}  : ev 168 23 [v0, v1, v2, v3] [.long p3, .long p2, .long p1] im rm = (ev 104 0 [.long p1, pm_u, .long p2, pm_u, .long p3, pm_u] [] im rm).bind (fun r => ev 168 26 [v0, v1, v2, v3] (r.1.toList ++ []) r.2.1 r.2.2) := ev_callS pm_m168 d168_23 (by decide) l8_120 rfl pm_m104 rfl ⟨rfl, rfl⟩ rfl rfl
theorem d168_26 : decode prog_10_method_66_code 26 = .ok (.ifCond .ne 6, 3) := by decide +kernel
theorem s168_26 {v0 v1 v2 v3 : Value} {x : Int32} {st : List Value} {im : IM} {rm : RM} : ev 168 26 [v0, v1, v2, v3] (.int x :: st) im rm = if x = nI 0 then ev 168 29 [v0, v1, v2, v3] st im rm else ev 168 32 [v0, v1, v2, v3] st im rm := ev_if_ne (y := 0) pm_m168 d168_26 rfl rfl rfl
theorem d168_29 : decode prog_10_method_66_code 29 = .ok (.bipush (-3), 2) := by decide +kernel
theorem s168_29 {v0 v1 v2 v3 : Value}  {st : List Value} {im : IM} {rm : RM}  : ev 168 29 [v0, v1, v2, v3] st im rm = ev 168 31 [v0, v1, v2, v3] (.int ((-3 : Int32)) :: st) (im) (rm) := ev_bipush pm_m168 d168_29 rfl rfl
theorem d168_31 : decode prog_10_method_66_code 31 = .ok (.ireturn, 1) := by decide +kernel
theorem s168_31 {v0 v1 v2 v3 : Value} {x : Int32} {im : IM} {rm : RM} : ev 168 31 [v0, v1, v2, v3] [.int x] im rm = some (some (.int x), im, rm) := ev_ireturn pm_m168 d168_31 rfl
theorem d168_32 : decode prog_10_method_66_code 32 = .ok (.aload_n 0, 1) := by decide +kernel
theorem s168_32 {v1 v2 v3 : Value} {l1 : Nat} {st : List Value} {im : IM} {rm : RM}  : ev 168 32 [.ref l1, v1, v2, v3] st im rm = ev 168 33 [.ref l1, v1, v2, v3] (.ref l1 :: st) (im) (rm) := ev_aload_n pm_m168 d168_32 rfl rfl
theorem d168_33 : decode prog_10_method_66_code 33 = .ok (.getfield 296, 3) := by decide +kernel
theorem s168_33 {v0 v1 v2 v3 : Value} {a : Nat} {st : List Value} {im : IM} {rm : RM} (hk : kd a = 18) : ev 168 33 [v0, v1, v2, v3] (.ref a :: st) im rm = ev 168 36 [v0, v1, v2, v3] (.int (im a 33) :: st) (im) (rm) := ev_getI pm_m168 d168_33 f8_296 rfl hk rfl
theorem d168_36 : decode prog_10_method_66_code 36 = .ok (.bipush 20, 2) := by decide +kernel
theorem s168_36 {v0 v1 v2 v3 : Value}  {st : List Value} {im : IM} {rm : RM}  : ev 168 36 [v0, v1, v2, v3] st im rm = ev 168 38 [v0, v1, v2, v3] (.int (nI 20) :: st) (im) (rm) := ev_bipush pm_m168 d168_36 rfl rfl
theorem d168_38 : decode prog_10_method_66_code 38 = .ok (.if_icmp .ne 6, 3) := by decide +kernel
theorem s168_38 {v0 v1 v2 v3 : Value} {x : Int32} {y : Int32} {st : List Value} {im : IM} {rm : RM} : ev 168 38 [v0, v1, v2, v3] (.int y :: .int x :: st) im rm = if x = y then ev 168 41 [v0, v1, v2, v3] st im rm else ev 168 44 [v0, v1, v2, v3] st im rm := ev_icmp_ne pm_m168 d168_38 rfl rfl rfl
theorem d168_41 : decode prog_10_method_66_code 41 = .ok (.bipush (-5), 2) := by decide +kernel
theorem s168_41 {v0 v1 v2 v3 : Value}  {st : List Value} {im : IM} {rm : RM}  : ev 168 41 [v0, v1, v2, v3] st im rm = ev 168 43 [v0, v1, v2, v3] (.int ((-5 : Int32)) :: st) (im) (rm) := ev_bipush pm_m168 d168_41 rfl rfl
theorem d168_43 : decode prog_10_method_66_code 43 = .ok (.ireturn, 1) := by decide +kernel
theorem s168_43 {v0 v1 v2 v3 : Value} {x : Int32} {im : IM} {rm : RM} : ev 168 43 [v0, v1, v2, v3] [.int x] im rm = some (some (.int x), im, rm) := ev_ireturn pm_m168 d168_43 rfl
theorem d168_44 : decode prog_10_method_66_code 44 = .ok (.aload_n 0, 1) := by decide +kernel
theorem s168_44 {v1 v2 v3 : Value} {l1 : Nat} {st : List Value} {im : IM} {rm : RM}  : ev 168 44 [.ref l1, v1, v2, v3] st im rm = ev 168 45 [.ref l1, v1, v2, v3] (.ref l1 :: st) (im) (rm) := ev_aload_n pm_m168 d168_44 rfl rfl
theorem d168_45 : decode prog_10_method_66_code 45 = .ok (.getfield 88, 3) := by decide +kernel
theorem s168_45 {v0 v1 v2 v3 : Value} {a : Nat} {st : List Value} {im : IM} {rm : RM} (hk : kd a = 18) : ev 168 45 [v0, v1, v2, v3] (.ref a :: st) im rm = ev 168 48 [v0, v1, v2, v3] (pm_ro (rm a 29) :: st) (im) (rm) := ev_getR pm_m168 d168_45 f8_88 rfl hk rfl
theorem d168_48 : decode prog_10_method_66_code 48 = .ok (.aload_n 0, 1) := by decide +kernel
theorem s168_48 {v1 v2 v3 : Value} {l1 : Nat} {st : List Value} {im : IM} {rm : RM}  : ev 168 48 [.ref l1, v1, v2, v3] st im rm = ev 168 49 [.ref l1, v1, v2, v3] (.ref l1 :: st) (im) (rm) := ev_aload_n pm_m168 d168_48 rfl rfl
theorem d168_49 : decode prog_10_method_66_code 49 = .ok (.getfield 296, 3) := by decide +kernel
theorem s168_49 {v0 v1 v2 v3 : Value} {a : Nat} {st : List Value} {im : IM} {rm : RM} (hk : kd a = 18) : ev 168 49 [v0, v1, v2, v3] (.ref a :: st) im rm = ev 168 52 [v0, v1, v2, v3] (.int (im a 33) :: st) (im) (rm) := ev_getI pm_m168 d168_49 f8_296 rfl hk rfl
theorem d168_52 : decode prog_10_method_66_code 52 = .ok (.iload_n 1, 1) := by decide +kernel
theorem s168_52 {v0 v2 v3 : Value} {l1 : Int32} {st : List Value} {im : IM} {rm : RM}  : ev 168 52 [v0, .int l1, v2, v3] st im rm = ev 168 53 [v0, .int l1, v2, v3] (.int l1 :: st) (im) (rm) := ev_iload_n pm_m168 d168_52 rfl rfl
theorem d168_53 : decode prog_10_method_66_code 53 = .ok (.iastore, 1) := by decide +kernel
theorem s168_53 {v0 v1 v2 v3 : Value} {a : Nat} {i : Int32} {v : Int32} {st : List Value} {im : IM} {rm : RM} (hk : kd a = 0) (hi : pm_in i (ln a) = true) : ev 168 53 [v0, v1, v2, v3] (.int v :: .int i :: .ref a :: st) im rm = ev 168 54 [v0, v1, v2, v3] st (pm_w2 im a i.toNatClampNeg v) (rm) := ev_iast pm_m168 d168_53 hk hi rfl
theorem d168_54 : decode prog_10_method_66_code 54 = .ok (.aload_n 0, 1) := by decide +kernel
theorem s168_54 {v1 v2 v3 : Value} {l1 : Nat} {st : List Value} {im : IM} {rm : RM}  : ev 168 54 [.ref l1, v1, v2, v3] st im rm = ev 168 55 [.ref l1, v1, v2, v3] (.ref l1 :: st) (im) (rm) := ev_aload_n pm_m168 d168_54 rfl rfl
theorem d168_55 : decode prog_10_method_66_code 55 = .ok (.getfield 91, 3) := by decide +kernel
theorem s168_55 {v0 v1 v2 v3 : Value} {a : Nat} {st : List Value} {im : IM} {rm : RM} (hk : kd a = 18) : ev 168 55 [v0, v1, v2, v3] (.ref a :: st) im rm = ev 168 58 [v0, v1, v2, v3] (pm_ro (rm a 30) :: st) (im) (rm) := ev_getR pm_m168 d168_55 f8_91 rfl hk rfl
theorem d168_58 : decode prog_10_method_66_code 58 = .ok (.aload_n 0, 1) := by decide +kernel
theorem s168_58 {v1 v2 v3 : Value} {l1 : Nat} {st : List Value} {im : IM} {rm : RM}  : ev 168 58 [.ref l1, v1, v2, v3] st im rm = ev 168 59 [.ref l1, v1, v2, v3] (.ref l1 :: st) (im) (rm) := ev_aload_n pm_m168 d168_58 rfl rfl
theorem d168_59 : decode prog_10_method_66_code 59 = .ok (.getfield 296, 3) := by decide +kernel
theorem s168_59 {v0 v1 v2 v3 : Value} {a : Nat} {st : List Value} {im : IM} {rm : RM} (hk : kd a = 18) : ev 168 59 [v0, v1, v2, v3] (.ref a :: st) im rm = ev 168 62 [v0, v1, v2, v3] (.int (im a 33) :: st) (im) (rm) := ev_getI pm_m168 d168_59 f8_296 rfl hk rfl
theorem d168_62 : decode prog_10_method_66_code 62 = .ok (.iload_n 2, 1) := by decide +kernel
theorem s168_62 {v0 v1 v3 : Value} {l1 : Int32} {st : List Value} {im : IM} {rm : RM}  : ev 168 62 [v0, v1, .int l1, v3] st im rm = ev 168 63 [v0, v1, .int l1, v3] (.int l1 :: st) (im) (rm) := ev_iload_n pm_m168 d168_62 rfl rfl
theorem d168_63 : decode prog_10_method_66_code 63 = .ok (.iastore, 1) := by decide +kernel
theorem s168_63 {v0 v1 v2 v3 : Value} {a : Nat} {i : Int32} {v : Int32} {st : List Value} {im : IM} {rm : RM} (hk : kd a = 0) (hi : pm_in i (ln a) = true) : ev 168 63 [v0, v1, v2, v3] (.int v :: .int i :: .ref a :: st) im rm = ev 168 64 [v0, v1, v2, v3] st (pm_w2 im a i.toNatClampNeg v) (rm) := ev_iast pm_m168 d168_63 hk hi rfl
theorem d168_64 : decode prog_10_method_66_code 64 = .ok (.aload_n 0, 1) := by decide +kernel
theorem s168_64 {v1 v2 v3 : Value} {l1 : Nat} {st : List Value} {im : IM} {rm : RM}  : ev 168 64 [.ref l1, v1, v2, v3] st im rm = ev 168 65 [.ref l1, v1, v2, v3] (.ref l1 :: st) (im) (rm) := ev_aload_n pm_m168 d168_64 rfl rfl
theorem d168_65 : decode prog_10_method_66_code 65 = .ok (.getfield 94, 3) := by decide +kernel
theorem s168_65 {v0 v1 v2 v3 : Value} {a : Nat} {st : List Value} {im : IM} {rm : RM} (hk : kd a = 18) : ev 168 65 [v0, v1, v2, v3] (.ref a :: st) im rm = ev 168 68 [v0, v1, v2, v3] (pm_ro (rm a 31) :: st) (im) (rm) := ev_getR pm_m168 d168_65 f8_94 rfl hk rfl
theorem d168_68 : decode prog_10_method_66_code 68 = .ok (.aload_n 0, 1) := by decide +kernel
theorem s168_68 {v1 v2 v3 : Value} {l1 : Nat} {st : List Value} {im : IM} {rm : RM}  : ev 168 68 [.ref l1, v1, v2, v3] st im rm = ev 168 69 [.ref l1, v1, v2, v3] (.ref l1 :: st) (im) (rm) := ev_aload_n pm_m168 d168_68 rfl rfl
theorem d168_69 : decode prog_10_method_66_code 69 = .ok (.getfield 296, 3) := by decide +kernel
theorem s168_69 {v0 v1 v2 v3 : Value} {a : Nat} {st : List Value} {im : IM} {rm : RM} (hk : kd a = 18) : ev 168 69 [v0, v1, v2, v3] (.ref a :: st) im rm = ev 168 72 [v0, v1, v2, v3] (.int (im a 33) :: st) (im) (rm) := ev_getI pm_m168 d168_69 f8_296 rfl hk rfl
theorem d168_72 : decode prog_10_method_66_code 72 = .ok (.iload_n 3, 1) := by decide +kernel
theorem s168_72 {v0 v1 v2 : Value} {l1 : Int32} {st : List Value} {im : IM} {rm : RM}  : ev 168 72 [v0, v1, v2, .int l1] st im rm = ev 168 73 [v0, v1, v2, .int l1] (.int l1 :: st) (im) (rm) := ev_iload_n pm_m168 d168_72 rfl rfl
theorem d168_73 : decode prog_10_method_66_code 73 = .ok (.iastore, 1) := by decide +kernel
theorem s168_73 {v0 v1 v2 v3 : Value} {a : Nat} {i : Int32} {v : Int32} {st : List Value} {im : IM} {rm : RM} (hk : kd a = 0) (hi : pm_in i (ln a) = true) : ev 168 73 [v0, v1, v2, v3] (.int v :: .int i :: .ref a :: st) im rm = ev 168 74 [v0, v1, v2, v3] st (pm_w2 im a i.toNatClampNeg v) (rm) := ev_iast pm_m168 d168_73 hk hi rfl
theorem d168_74 : decode prog_10_method_66_code 74 = .ok (.aload_n 0, 1) := by decide +kernel
theorem s168_74 {v1 v2 v3 : Value} {l1 : Nat} {st : List Value} {im : IM} {rm : RM}  : ev 168 74 [.ref l1, v1, v2, v3] st im rm = ev 168 75 [.ref l1, v1, v2, v3] (.ref l1 :: st) (im) (rm) := ev_aload_n pm_m168 d168_74 rfl rfl
theorem d168_75 : decode prog_10_method_66_code 75 = .ok (.getfield 97, 3) := by decide +kernel
theorem s168_75 {v0 v1 v2 v3 : Value} {a : Nat} {st : List Value} {im : IM} {rm : RM} (hk : kd a = 18) : ev 168 75 [v0, v1, v2, v3] (.ref a :: st) im rm = ev 168 78 [v0, v1, v2, v3] (pm_ro (rm a 32) :: st) (im) (rm) := ev_getR pm_m168 d168_75 f8_97 rfl hk rfl
theorem d168_78 : decode prog_10_method_66_code 78 = .ok (.aload_n 0, 1) := by decide +kernel
theorem s168_78 {v1 v2 v3 : Value} {l1 : Nat} {st : List Value} {im : IM} {rm : RM}  : ev 168 78 [.ref l1, v1, v2, v3] st im rm = ev 168 79 [.ref l1, v1, v2, v3] (.ref l1 :: st) (im) (rm) := ev_aload_n pm_m168 d168_78 rfl rfl
theorem d168_79 : decode prog_10_method_66_code 79 = .ok (.getfield 296, 3) := by decide +kernel
theorem s168_79 {v0 v1 v2 v3 : Value} {a : Nat} {st : List Value} {im : IM} {rm : RM} (hk : kd a = 18) : ev 168 79 [v0, v1, v2, v3] (.ref a :: st) im rm = ev 168 82 [v0, v1, v2, v3] (.int (im a 33) :: st) (im) (rm) := ev_getI pm_m168 d168_79 f8_296 rfl hk rfl
theorem d168_82 : decode prog_10_method_66_code 82 = .ok (.iconst (-1), 1) := by decide +kernel
theorem s168_82 {v0 v1 v2 v3 : Value}  {st : List Value} {im : IM} {rm : RM}  : ev 168 82 [v0, v1, v2, v3] st im rm = ev 168 83 [v0, v1, v2, v3] (.int ((-1 : Int32)) :: st) (im) (rm) := ev_iconst pm_m168 d168_82 rfl rfl
theorem d168_83 : decode prog_10_method_66_code 83 = .ok (.iastore, 1) := by decide +kernel
theorem s168_83 {v0 v1 v2 v3 : Value} {a : Nat} {i : Int32} {v : Int32} {st : List Value} {im : IM} {rm : RM} (hk : kd a = 0) (hi : pm_in i (ln a) = true) : ev 168 83 [v0, v1, v2, v3] (.int v :: .int i :: .ref a :: st) im rm = ev 168 84 [v0, v1, v2, v3] st (pm_w2 im a i.toNatClampNeg v) (rm) := ev_iast pm_m168 d168_83 hk hi rfl
theorem d168_84 : decode prog_10_method_66_code 84 = .ok (.aload_n 0, 1) := by decide +kernel
theorem s168_84 {v1 v2 v3 : Value} {l1 : Nat} {st : List Value} {im : IM} {rm : RM}  : ev 168 84 [.ref l1, v1, v2, v3] st im rm = ev 168 85 [.ref l1, v1, v2, v3] (.ref l1 :: st) (im) (rm) := ev_aload_n pm_m168 d168_84 rfl rfl
theorem d168_85 : decode prog_10_method_66_code 85 = .ok (.dup, 1) := by decide +kernel
theorem s168_85 {v0 v1 v2 v3 : Value} {x1 : Nat} {st : List Value} {im : IM} {rm : RM}  : ev 168 85 [v0, v1, v2, v3] (.ref x1 :: st) im rm = ev 168 86 [v0, v1, v2, v3] (.ref x1 :: .ref x1 :: st) (im) (rm) := ev_dupA pm_m168 d168_85 rfl
theorem d168_86 : decode prog_10_method_66_code 86 = .ok (.getfield 296, 3) := by decide +kernel
theorem s168_86 {v0 v1 v2 v3 : Value} {a : Nat} {st : List Value} {im : IM} {rm : RM} (hk : kd a = 18) : ev 168 86 [v0, v1, v2, v3] (.ref a :: st) im rm = ev 168 89 [v0, v1, v2, v3] (.int (im a 33) :: st) (im) (rm) := ev_getI pm_m168 d168_86 f8_296 rfl hk rfl
theorem d168_89 : decode prog_10_method_66_code 89 = .ok (.iconst 1, 1) := by decide +kernel
theorem s168_89 {v0 v1 v2 v3 : Value}  {st : List Value} {im : IM} {rm : RM}  : ev 168 89 [v0, v1, v2, v3] st im rm = ev 168 90 [v0, v1, v2, v3] (.int (nI 1) :: st) (im) (rm) := ev_iconst pm_m168 d168_89 rfl rfl
theorem d168_90 : decode prog_10_method_66_code 90 = .ok (.iadd, 1) := by decide +kernel
theorem s168_90 {v0 v1 v2 v3 : Value} {x : Int32} {y : Int32} {st : List Value} {im : IM} {rm : RM}  : ev 168 90 [v0, v1, v2, v3] (.int y :: .int x :: st) im rm = ev 168 91 [v0, v1, v2, v3] (.int (x + y) :: st) (im) (rm) := ev_iadd pm_m168 d168_90 rfl
theorem d168_91 : decode prog_10_method_66_code 91 = .ok (.putfield 296, 3) := by decide +kernel
theorem s168_91 {v0 v1 v2 v3 : Value} {a : Nat} {v : Int32} {st : List Value} {im : IM} {rm : RM} (hk : kd a = 18) : ev 168 91 [v0, v1, v2, v3] (.int v :: .ref a :: st) im rm = ev 168 94 [v0, v1, v2, v3] st (pm_w2 im a 33 v) (rm) := ev_putI pm_m168 d168_91 f8_296 rfl rfl hk rfl
theorem d168_94 : decode prog_10_method_66_code 94 = .ok (.aload_n 0, 1) := by decide +kernel
theorem s168_94 {v1 v2 v3 : Value} {l1 : Nat} {st : List Value} {im : IM} {rm : RM}  : ev 168 94 [.ref l1, v1, v2, v3] st im rm = ev 168 95 [.ref l1, v1, v2, v3] (.ref l1 :: st) (im) (rm) := ev_aload_n pm_m168 d168_94 rfl rfl
theorem d168_95 : decode prog_10_method_66_code 95 = .ok (.getfield 296, 3) := by decide +kernel
theorem s168_95 {v0 v1 v2 v3 : Value} {a : Nat} {st : List Value} {im : IM} {rm : RM} (hk : kd a = 18) : ev 168 95 [v0, v1, v2, v3] (.ref a :: st) im rm = ev 168 98 [v0, v1, v2, v3] (.int (im a 33) :: st) (im) (rm) := ev_getI pm_m168 d168_95 f8_296 rfl hk rfl
theorem d168_98 : decode prog_10_method_66_code 98 = .ok (.iconst 1, 1) := by decide +kernel
theorem s168_98 {v0 v1 v2 v3 : Value}  {st : List Value} {im : IM} {rm : RM}  : ev 168 98 [v0, v1, v2, v3] st im rm = ev 168 99 [v0, v1, v2, v3] (.int (nI 1) :: st) (im) (rm) := ev_iconst pm_m168 d168_98 rfl rfl
theorem d168_99 : decode prog_10_method_66_code 99 = .ok (.isub, 1) := by decide +kernel
theorem s168_99 {v0 v1 v2 v3 : Value} {x : Int32} {y : Int32} {st : List Value} {im : IM} {rm : RM}  : ev 168 99 [v0, v1, v2, v3] (.int y :: .int x :: st) im rm = ev 168 100 [v0, v1, v2, v3] (.int (x - y) :: st) (im) (rm) := ev_isub pm_m168 d168_99 rfl
theorem d168_100 : decode prog_10_method_66_code 100 = .ok (.ireturn, 1) := by decide +kernel
theorem s168_100 {v0 v1 v2 v3 : Value} {x : Int32} {im : IM} {rm : RM} : ev 168 100 [v0, v1, v2, v3] [.int x] im rm = some (some (.int x), im, rm) := ev_ireturn pm_m168 d168_100 rfl
theorem d169_0 : decode prog_10_method_67_code 0 = .ok (.iload_n 1, 1) := by decide +kernel
theorem s169_0 {v0 : Value} {l1 : Int32} {st : List Value} {im : IM} {rm : RM}  : ev 169 0 [v0, .int l1] st im rm = ev 169 1 [v0, .int l1] (.int l1 :: st) (im) (rm) := ev_iload_n pm_m169 d169_0 rfl rfl
theorem d169_1 : decode prog_10_method_67_code 1 = .ok (.i2l, 1) := by decide +kernel
theorem s169_1 {v0 v1 : Value} {x : Int32} {st : List Value} {im : IM} {rm : RM}  : ev 169 1 [v0, v1] (.int x :: st) im rm = ev 169 2 [v0, v1] (.long x.toInt64 :: st) (im) (rm) := ev_i2l pm_m169 d169_1 rfl
theorem d169_2 : decode prog_10_method_67_code 2 = .ok (.lconst 0, 1) := by decide +kernel
theorem s169_2 {v0 v1 : Value}  {st : List Value} {im : IM} {rm : RM}  : ev 169 2 [v0, v1] st im rm = ev 169 3 [v0, v1] (.long (lN 0) :: st) (im) (rm) := ev_lconst pm_m169 d169_2 rfl rfl
theorem d169_3 : decode prog_10_method_67_code 3 = .ok (.aload_n 0, 1) := by decide +kernel
theorem s169_3 {v1 : Value} {l1 : Nat} {st : List Value} {im : IM} {rm : RM}  : ev 169 3 [.ref l1, v1] st im rm = ev 169 4 [.ref l1, v1] (.ref l1 :: st) (im) (rm) := ev_aload_n pm_m169 d169_3 rfl rfl
theorem d169_4 : decode prog_10_method_67_code 4 = .ok (.getfield 296, 3) := by decide +kernel
theorem s169_4 {v0 v1 : Value} {a : Nat} {st : List Value} {im : IM} {rm : RM} (hk : kd a = 18) : ev 169 4 [v0, v1] (.ref a :: st) im rm = ev 169 7 [v0, v1] (.int (im a 33) :: st) (im) (rm) := ev_getI pm_m169 d169_4 f8_296 rfl hk rfl
theorem d169_7 : decode prog_10_method_67_code 7 = .ok (.iconst 1, 1) := by decide +kernel
theorem s169_7 {v0 v1 : Value}  {st : List Value} {im : IM} {rm : RM}  : ev 169 7 [v0, v1] st im rm = ev 169 8 [v0, v1] (.int (nI 1) :: st) (im) (rm) := ev_iconst pm_m169 d169_7 rfl rfl
theorem d169_8 : decode prog_10_method_67_code 8 = .ok (.isub, 1) := by decide +kernel
theorem s169_8 {v0 v1 : Value} {x : Int32} {y : Int32} {st : List Value} {im : IM} {rm : RM}  : ev 169 8 [v0, v1] (.int y :: .int x :: st) im rm = ev 169 9 [v0, v1] (.int (x - y) :: st) (im) (rm) := ev_isub pm_m169 d169_8 rfl
theorem d169_9 : decode prog_10_method_67_code 9 = .ok (.i2l, 1) := by decide +kernel
theorem s169_9 {v0 v1 : Value} {x : Int32} {st : List Value} {im : IM} {rm : RM}  : ev 169 9 [v0, v1] (.int x :: st) im rm = ev 169 10 [v0, v1] (.long x.toInt64 :: st) (im) (rm) := ev_i2l pm_m169 d169_9 rfl
theorem d169_10 : decode prog_10_method_67_code 10 = .ok (.invokestatic 120, 3) := by decide +kernel
theorem s169_10 {v0 v1 : Value} {p1 : Int64} {p2 : Int64} {p3 : Int64} {im : IM} {rm : RM}  : ev 169 10 [v0, v1] [.long p3, .long p2, .long p1] im rm = (ev 104 0 [.long p1, pm_u, .long p2, pm_u, .long p3, pm_u] [] im rm).bind (fun r => ev 169 13 [v0, v1] (r.1.toList ++ []) r.2.1 r.2.2) := ev_callS pm_m169 d169_10 (by decide) l8_120 rfl pm_m104 rfl ⟨rfl, rfl⟩ rfl rfl
theorem d169_13 : decode prog_10_method_67_code 13 = .ok (.ifCond .ne 6, 3) := by decide +kernel
theorem s169_13 {v0 v1 : Value} {x : Int32} {st : List Value} {im : IM} {rm : RM} : ev 169 13 [v0, v1] (.int x :: st) im rm = if x = nI 0 then ev 169 16 [v0, v1] st im rm else ev 169 19 [v0, v1] st im rm := ev_if_ne (y := 0) pm_m169 d169_13 rfl rfl rfl
theorem d169_16 : decode prog_10_method_67_code 16 = .ok (.bipush (-2), 2) := by decide +kernel
theorem s169_16 {v0 v1 : Value}  {st : List Value} {im : IM} {rm : RM}  : ev 169 16 [v0, v1] st im rm = ev 169 18 [v0, v1] (.int ((-2 : Int32)) :: st) (im) (rm) := ev_bipush pm_m169 d169_16 rfl rfl
theorem d169_18 : decode prog_10_method_67_code 18 = .ok (.ireturn, 1) := by decide +kernel
theorem s169_18 {v0 v1 : Value} {x : Int32} {im : IM} {rm : RM} : ev 169 18 [v0, v1] [.int x] im rm = some (some (.int x), im, rm) := ev_ireturn pm_m169 d169_18 rfl
theorem d169_19 : decode prog_10_method_67_code 19 = .ok (.aload_n 0, 1) := by decide +kernel
theorem s169_19 {v1 : Value} {l1 : Nat} {st : List Value} {im : IM} {rm : RM}  : ev 169 19 [.ref l1, v1] st im rm = ev 169 20 [.ref l1, v1] (.ref l1 :: st) (im) (rm) := ev_aload_n pm_m169 d169_19 rfl rfl
theorem d169_20 : decode prog_10_method_67_code 20 = .ok (.getfield 97, 3) := by decide +kernel
theorem s169_20 {v0 v1 : Value} {a : Nat} {st : List Value} {im : IM} {rm : RM} (hk : kd a = 18) : ev 169 20 [v0, v1] (.ref a :: st) im rm = ev 169 23 [v0, v1] (pm_ro (rm a 32) :: st) (im) (rm) := ev_getR pm_m169 d169_20 f8_97 rfl hk rfl
theorem d169_23 : decode prog_10_method_67_code 23 = .ok (.iload_n 1, 1) := by decide +kernel
theorem s169_23 {v0 : Value} {l1 : Int32} {st : List Value} {im : IM} {rm : RM}  : ev 169 23 [v0, .int l1] st im rm = ev 169 24 [v0, .int l1] (.int l1 :: st) (im) (rm) := ev_iload_n pm_m169 d169_23 rfl rfl
theorem d169_24 : decode prog_10_method_67_code 24 = .ok (.iaload, 1) := by decide +kernel
theorem s169_24 {v0 v1 : Value} {a : Nat} {i : Int32} {st : List Value} {im : IM} {rm : RM} (hk : kd a = 0) (hi : pm_in i (ln a) = true) : ev 169 24 [v0, v1] (.int i :: .ref a :: st) im rm = ev 169 25 [v0, v1] (.int (im a i.toNatClampNeg) :: st) (im) (rm) := ev_iald pm_m169 d169_24 hk hi rfl
theorem d169_25 : decode prog_10_method_67_code 25 = .ok (.iconst (-1), 1) := by decide +kernel
theorem s169_25 {v0 v1 : Value}  {st : List Value} {im : IM} {rm : RM}  : ev 169 25 [v0, v1] st im rm = ev 169 26 [v0, v1] (.int ((-1 : Int32)) :: st) (im) (rm) := ev_iconst pm_m169 d169_25 rfl rfl
theorem d169_26 : decode prog_10_method_67_code 26 = .ok (.if_icmp .eq 6, 3) := by decide +kernel
theorem s169_26 {v0 v1 : Value} {x : Int32} {y : Int32} {st : List Value} {im : IM} {rm : RM} : ev 169 26 [v0, v1] (.int y :: .int x :: st) im rm = if x = y then ev 169 32 [v0, v1] st im rm else ev 169 29 [v0, v1] st im rm := ev_icmp_eq pm_m169 d169_26 rfl rfl rfl
theorem d169_29 : decode prog_10_method_67_code 29 = .ok (.bipush (-4), 2) := by decide +kernel
theorem s169_29 {v0 v1 : Value}  {st : List Value} {im : IM} {rm : RM}  : ev 169 29 [v0, v1] st im rm = ev 169 31 [v0, v1] (.int ((-4 : Int32)) :: st) (im) (rm) := ev_bipush pm_m169 d169_29 rfl rfl
theorem d169_31 : decode prog_10_method_67_code 31 = .ok (.ireturn, 1) := by decide +kernel
theorem s169_31 {v0 v1 : Value} {x : Int32} {im : IM} {rm : RM} : ev 169 31 [v0, v1] [.int x] im rm = some (some (.int x), im, rm) := ev_ireturn pm_m169 d169_31 rfl
theorem d169_32 : decode prog_10_method_67_code 32 = .ok (.aload_n 0, 1) := by decide +kernel
theorem s169_32 {v1 : Value} {l1 : Nat} {st : List Value} {im : IM} {rm : RM}  : ev 169 32 [.ref l1, v1] st im rm = ev 169 33 [.ref l1, v1] (.ref l1 :: st) (im) (rm) := ev_aload_n pm_m169 d169_32 rfl rfl
theorem d169_33 : decode prog_10_method_67_code 33 = .ok (.getfield 97, 3) := by decide +kernel
theorem s169_33 {v0 v1 : Value} {a : Nat} {st : List Value} {im : IM} {rm : RM} (hk : kd a = 18) : ev 169 33 [v0, v1] (.ref a :: st) im rm = ev 169 36 [v0, v1] (pm_ro (rm a 32) :: st) (im) (rm) := ev_getR pm_m169 d169_33 f8_97 rfl hk rfl
theorem d169_36 : decode prog_10_method_67_code 36 = .ok (.iload_n 1, 1) := by decide +kernel
theorem s169_36 {v0 : Value} {l1 : Int32} {st : List Value} {im : IM} {rm : RM}  : ev 169 36 [v0, .int l1] st im rm = ev 169 37 [v0, .int l1] (.int l1 :: st) (im) (rm) := ev_iload_n pm_m169 d169_36 rfl rfl
theorem d169_37 : decode prog_10_method_67_code 37 = .ok (.aload_n 0, 1) := by decide +kernel
theorem s169_37 {v1 : Value} {l1 : Nat} {st : List Value} {im : IM} {rm : RM}  : ev 169 37 [.ref l1, v1] st im rm = ev 169 38 [.ref l1, v1] (.ref l1 :: st) (im) (rm) := ev_aload_n pm_m169 d169_37 rfl rfl
theorem d169_38 : decode prog_10_method_67_code 38 = .ok (.getfield 330, 3) := by decide +kernel
theorem s169_38 {v0 v1 : Value} {a : Nat} {st : List Value} {im : IM} {rm : RM} (hk : kd a = 18) : ev 169 38 [v0, v1] (.ref a :: st) im rm = ev 169 41 [v0, v1] (.int (im a 28) :: st) (im) (rm) := ev_getI pm_m169 d169_38 f8_330 rfl hk rfl
theorem d169_41 : decode prog_10_method_67_code 41 = .ok (.iastore, 1) := by decide +kernel
theorem s169_41 {v0 v1 : Value} {a : Nat} {i : Int32} {v : Int32} {st : List Value} {im : IM} {rm : RM} (hk : kd a = 0) (hi : pm_in i (ln a) = true) : ev 169 41 [v0, v1] (.int v :: .int i :: .ref a :: st) im rm = ev 169 42 [v0, v1] st (pm_w2 im a i.toNatClampNeg v) (rm) := ev_iast pm_m169 d169_41 hk hi rfl
theorem d169_42 : decode prog_10_method_67_code 42 = .ok (.iconst 1, 1) := by decide +kernel
theorem s169_42 {v0 v1 : Value}  {st : List Value} {im : IM} {rm : RM}  : ev 169 42 [v0, v1] st im rm = ev 169 43 [v0, v1] (.int (nI 1) :: st) (im) (rm) := ev_iconst pm_m169 d169_42 rfl rfl
theorem d169_43 : decode prog_10_method_67_code 43 = .ok (.ireturn, 1) := by decide +kernel
theorem s169_43 {v0 v1 : Value} {x : Int32} {im : IM} {rm : RM} : ev 169 43 [v0, v1] [.int x] im rm = some (some (.int x), im, rm) := ev_ireturn pm_m169 d169_43 rfl
theorem d170_0 : decode prog_10_method_68_code 0 = .ok (.iload_n 1, 1) := by decide +kernel
theorem s170_0 {v0 v2 v3 v4 v5 v6 : Value} {l1 : Int32} {st : List Value} {im : IM} {rm : RM}  : ev 170 0 [v0, .int l1, v2, v3, v4, v5, v6] st im rm = ev 170 1 [v0, .int l1, v2, v3, v4, v5, v6] (.int l1 :: st) (im) (rm) := ev_iload_n pm_m170 d170_0 rfl rfl
theorem d170_1 : decode prog_10_method_68_code 1 = .ok (.invokestatic 240, 3) := by decide +kernel
theorem s170_1 {v0 v1 v2 v3 v4 v5 v6 : Value} {p1 : Int32} {im : IM} {rm : RM}  : ev 170 1 [v0, v1, v2, v3, v4, v5, v6] [.int p1] im rm = (ev 107 0 [.int p1] [] im rm).bind (fun r => ev 170 4 [v0, v1, v2, v3, v4, v5, v6] (r.1.toList ++ []) r.2.1 r.2.2) := ev_callS pm_m170 d170_1 (by decide) l8_240 rfl pm_m107 rfl ⟨rfl, rfl⟩ rfl rfl
theorem d170_4 : decode prog_10_method_68_code 4 = .ok (.ifCond .eq 10, 3) := by decide +kernel
theorem s170_4 {v0 v1 v2 v3 v4 v5 v6 : Value} {x : Int32} {st : List Value} {im : IM} {rm : RM} : ev 170 4 [v0, v1, v2, v3, v4, v5, v6] (.int x :: st) im rm = if x = nI 0 then ev 170 14 [pm_u, pm_u, pm_u, pm_u, pm_u, pm_u, pm_u] st im rm else ev 170 7 [v0, v1, v2, v3, v4, v5, v6] st im rm := ev_if_eq (y := 0) pm_m170 d170_4 rfl rfl rfl
theorem d170_7 : decode prog_10_method_68_code 7 = .ok (.iload_n 2, 1) := by decide +kernel
theorem s170_7 {v0 v1 v3 v4 v5 v6 : Value} {l1 : Int32} {st : List Value} {im : IM} {rm : RM}  : ev 170 7 [v0, v1, .int l1, v3, v4, v5, v6] st im rm = ev 170 8 [v0, v1, .int l1, v3, v4, v5, v6] (.int l1 :: st) (im) (rm) := ev_iload_n pm_m170 d170_7 rfl rfl
theorem d170_8 : decode prog_10_method_68_code 8 = .ok (.invokestatic 130, 3) := by decide +kernel
theorem s170_8 {v0 v1 v2 v3 v4 v5 v6 : Value} {p1 : Int32} {im : IM} {rm : RM}  : ev 170 8 [v0, v1, v2, v3, v4, v5, v6] [.int p1] im rm = (ev 106 0 [.int p1] [] im rm).bind (fun r => ev 170 11 [v0, v1, v2, v3, v4, v5, v6] (r.1.toList ++ []) r.2.1 r.2.2) := ev_callS pm_m170 d170_8 (by decide) l8_130 rfl pm_m106 rfl ⟨rfl, rfl⟩ rfl rfl
theorem d170_11 : decode prog_10_method_68_code 11 = .ok (.ifCond .ne 6, 3) := by decide +kernel
theorem s170_11 {v0 v1 v2 v3 v4 v5 v6 : Value} {x : Int32} {st : List Value} {im : IM} {rm : RM} : ev 170 11 [v0, v1, v2, v3, v4, v5, v6] (.int x :: st) im rm = if x = nI 0 then ev 170 14 [pm_u, pm_u, pm_u, pm_u, pm_u, pm_u, pm_u] st im rm else ev 170 17 [v0, v1, v2, v3, pm_u, pm_u, pm_u] st im rm := ev_if_ne (y := 0) pm_m170 d170_11 rfl rfl rfl
theorem d170_14 : decode prog_10_method_68_code 14 = .ok (.bipush (-2), 2) := by decide +kernel
theorem s170_14 {v0 v1 v2 v3 v4 v5 v6 : Value}  {st : List Value} {im : IM} {rm : RM}  : ev 170 14 [v0, v1, v2, v3, v4, v5, v6] st im rm = ev 170 16 [v0, v1, v2, v3, v4, v5, v6] (.int ((-2 : Int32)) :: st) (im) (rm) := ev_bipush pm_m170 d170_14 rfl rfl
theorem d170_16 : decode prog_10_method_68_code 16 = .ok (.ireturn, 1) := by decide +kernel
theorem s170_16 {v0 v1 v2 v3 v4 v5 v6 : Value} {x : Int32} {im : IM} {rm : RM} : ev 170 16 [v0, v1, v2, v3, v4, v5, v6] [.int x] im rm = some (some (.int x), im, rm) := ev_ireturn pm_m170 d170_16 rfl
theorem d170_17 : decode prog_10_method_68_code 17 = .ok (.iload_n 3, 1) := by decide +kernel
theorem s170_17 {v0 v1 v2 v4 v5 v6 : Value} {l1 : Int32} {st : List Value} {im : IM} {rm : RM}  : ev 170 17 [v0, v1, v2, .int l1, v4, v5, v6] st im rm = ev 170 18 [v0, v1, v2, .int l1, v4, v5, v6] (.int l1 :: st) (im) (rm) := ev_iload_n pm_m170 d170_17 rfl rfl
theorem d170_18 : decode prog_10_method_68_code 18 = .ok (.i2l, 1) := by decide +kernel
theorem s170_18 {v0 v1 v2 v3 v4 v5 v6 : Value} {x : Int32} {st : List Value} {im : IM} {rm : RM}  : ev 170 18 [v0, v1, v2, v3, v4, v5, v6] (.int x :: st) im rm = ev 170 19 [v0, v1, v2, v3, v4, v5, v6] (.long x.toInt64 :: st) (im) (rm) := ev_i2l pm_m170 d170_18 rfl
theorem d170_19 : decode prog_10_method_68_code 19 = .ok (.lconst 0, 1) := by decide +kernel
theorem s170_19 {v0 v1 v2 v3 v4 v5 v6 : Value}  {st : List Value} {im : IM} {rm : RM}  : ev 170 19 [v0, v1, v2, v3, v4, v5, v6] st im rm = ev 170 20 [v0, v1, v2, v3, v4, v5, v6] (.long (lN 0) :: st) (im) (rm) := ev_lconst pm_m170 d170_19 rfl rfl
theorem d170_20 : decode prog_10_method_68_code 20 = .ok (.ldc2_w 333, 3) := by decide +kernel
theorem s170_20 {v0 v1 v2 v3 v4 v5 v6 : Value}  {st : List Value} {im : IM} {rm : RM}  : ev 170 20 [v0, v1, v2, v3, v4, v5, v6] st im rm = ev 170 23 [v0, v1, v2, v3, v4, v5, v6] (.long (lN 200) :: st) (im) (rm) := ev_ldc2 pm_m170 d170_20 (by decide +kernel) rfl
theorem d170_23 : decode prog_10_method_68_code 23 = .ok (.invokestatic 120, 3) := by decide +kernel
theorem s170_23 {v0 v1 v2 v3 v4 v5 v6 : Value} {p1 : Int64} {p2 : Int64} {p3 : Int64} {im : IM} {rm : RM}  : ev 170 23 [v0, v1, v2, v3, v4, v5, v6] [.long p3, .long p2, .long p1] im rm = (ev 104 0 [.long p1, pm_u, .long p2, pm_u, .long p3, pm_u] [] im rm).bind (fun r => ev 170 26 [v0, v1, v2, v3, v4, v5, v6] (r.1.toList ++ []) r.2.1 r.2.2) := ev_callS pm_m170 d170_23 (by decide) l8_120 rfl pm_m104 rfl ⟨rfl, rfl⟩ rfl rfl
theorem d170_26 : decode prog_10_method_68_code 26 = .ok (.ifCond .ne 6, 3) := by decide +kernel
theorem s170_26 {v0 v1 v2 v3 v4 v5 v6 : Value} {x : Int32} {st : List Value} {im : IM} {rm : RM} : ev 170 26 [v0, v1, v2, v3, v4, v5, v6] (.int x :: st) im rm = if x = nI 0 then ev 170 29 [v0, v1, v2, v3, v4, v5, v6] st im rm else ev 170 32 [v0, v1, v2, v3, pm_u, pm_u, pm_u] st im rm := ev_if_ne (y := 0) pm_m170 d170_26 rfl rfl rfl
theorem d170_29 : decode prog_10_method_68_code 29 = .ok (.bipush (-3), 2) := by decide +kernel
theorem s170_29 {v0 v1 v2 v3 v4 v5 v6 : Value}  {st : List Value} {im : IM} {rm : RM}  : ev 170 29 [v0, v1, v2, v3, v4, v5, v6] st im rm = ev 170 31 [v0, v1, v2, v3, v4, v5, v6] (.int ((-3 : Int32)) :: st) (im) (rm) := ev_bipush pm_m170 d170_29 rfl rfl
theorem d170_31 : decode prog_10_method_68_code 31 = .ok (.ireturn, 1) := by decide +kernel
theorem s170_31 {v0 v1 v2 v3 v4 v5 v6 : Value} {x : Int32} {im : IM} {rm : RM} : ev 170 31 [v0, v1, v2, v3, v4, v5, v6] [.int x] im rm = some (some (.int x), im, rm) := ev_ireturn pm_m170 d170_31 rfl
theorem d170_32 : decode prog_10_method_68_code 32 = .ok (.iconst 0, 1) := by decide +kernel
theorem s170_32 {v0 v1 v2 v3 v4 v5 v6 : Value}  {st : List Value} {im : IM} {rm : RM}  : ev 170 32 [v0, v1, v2, v3, v4, v5, v6] st im rm = ev 170 33 [v0, v1, v2, v3, v4, v5, v6] (.int (nI 0) :: st) (im) (rm) := ev_iconst pm_m170 d170_32 rfl rfl
theorem d170_33 : decode prog_10_method_68_code 33 = .ok (.istore 4, 2) := by decide +kernel
theorem s170_33 {v0 v1 v2 v4 v5 v6 : Value} {l1 : Int32} {x2 : Int32} {st : List Value} {im : IM} {rm : RM}  : ev 170 33 [v0, v1, v2, .int l1, v4, v5, v6] (.int x2 :: st) im rm = ev 170 35 [v0, v1, v2, .int l1, .int x2, v5, v6] st (im) (rm) := ev_istore pm_m170 d170_33 (Nat.le_of_ble_eq_true rfl) rfl rfl
theorem d170_35 : decode prog_10_method_68_code 35 = .ok (.iconst 0, 1) := by decide +kernel
theorem s170_35 {v0 v1 v2 v3 v4 v5 v6 : Value}  {st : List Value} {im : IM} {rm : RM}  : ev 170 35 [v0, v1, v2, v3, v4, v5, v6] st im rm = ev 170 36 [v0, v1, v2, v3, v4, v5, v6] (.int (nI 0) :: st) (im) (rm) := ev_iconst pm_m170 d170_35 rfl rfl
theorem d170_36 : decode prog_10_method_68_code 36 = .ok (.istore 5, 2) := by decide +kernel
theorem s170_36 {v0 v1 v2 v3 v5 v6 : Value} {l1 : Int32} {x2 : Int32} {st : List Value} {im : IM} {rm : RM}  : ev 170 36 [v0, v1, v2, v3, .int l1, v5, v6] (.int x2 :: st) im rm = ev 170 38 [v0, v1, v2, v3, .int l1, .int x2, pm_u] st (im) (rm) := ev_istore pm_m170 d170_36 (Nat.le_of_ble_eq_true rfl) rfl rfl
theorem d170_38 : decode prog_10_method_68_code 38 = .ok (.iload 5, 2) := by decide +kernel
theorem s170_38 {v0 v1 v2 v3 v4 v6 : Value} {l1 : Int32} {st : List Value} {im : IM} {rm : RM}  : ev 170 38 [v0, v1, v2, v3, v4, .int l1, v6] st im rm = ev 170 40 [v0, v1, v2, v3, v4, .int l1, v6] (.int l1 :: st) (im) (rm) := ev_iload pm_m170 d170_38 rfl rfl
theorem d170_40 : decode prog_10_method_68_code 40 = .ok (.aload_n 0, 1) := by decide +kernel
theorem s170_40 {v1 v2 v3 v4 v5 v6 : Value} {l1 : Nat} {st : List Value} {im : IM} {rm : RM}  : ev 170 40 [.ref l1, v1, v2, v3, v4, v5, v6] st im rm = ev 170 41 [.ref l1, v1, v2, v3, v4, v5, v6] (.ref l1 :: st) (im) (rm) := ev_aload_n pm_m170 d170_40 rfl rfl
theorem d170_41 : decode prog_10_method_68_code 41 = .ok (.getfield 296, 3) := by decide +kernel
theorem s170_41 {v0 v1 v2 v3 v4 v5 v6 : Value} {a : Nat} {st : List Value} {im : IM} {rm : RM} (hk : kd a = 18) : ev 170 41 [v0, v1, v2, v3, v4, v5, v6] (.ref a :: st) im rm = ev 170 44 [v0, v1, v2, v3, v4, v5, v6] (.int (im a 33) :: st) (im) (rm) := ev_getI pm_m170 d170_41 f8_296 rfl hk rfl
theorem d170_44 : decode prog_10_method_68_code 44 = .ok (.if_icmp .ge 83, 3) := by decide +kernel
theorem s170_44 {v0 v1 v2 v3 v4 v5 v6 : Value} {x : Int32} {y : Int32} {st : List Value} {im : IM} {rm : RM} : ev 170 44 [v0, v1, v2, v3, v4, v5, v6] (.int y :: .int x :: st) im rm = if y ≤ x then ev 170 127 [pm_u, pm_u, pm_u, pm_u, v4, pm_u, pm_u] st im rm else ev 170 47 [v0, v1, v2, v3, v4, v5, v6] st im rm := ev_icmp_ge pm_m170 d170_44 rfl rfl rfl
theorem d170_47 : decode prog_10_method_68_code 47 = .ok (.aload_n 0, 1) := by decide +kernel
theorem s170_47 {v1 v2 v3 v4 v5 v6 : Value} {l1 : Nat} {st : List Value} {im : IM} {rm : RM}  : ev 170 47 [.ref l1, v1, v2, v3, v4, v5, v6] st im rm = ev 170 48 [.ref l1, v1, v2, v3, v4, v5, v6] (.ref l1 :: st) (im) (rm) := ev_aload_n pm_m170 d170_47 rfl rfl
theorem d170_48 : decode prog_10_method_68_code 48 = .ok (.getfield 88, 3) := by decide +kernel
theorem s170_48 {v0 v1 v2 v3 v4 v5 v6 : Value} {a : Nat} {st : List Value} {im : IM} {rm : RM} (hk : kd a = 18) : ev 170 48 [v0, v1, v2, v3, v4, v5, v6] (.ref a :: st) im rm = ev 170 51 [v0, v1, v2, v3, v4, v5, v6] (pm_ro (rm a 29) :: st) (im) (rm) := ev_getR pm_m170 d170_48 f8_88 rfl hk rfl
theorem d170_51 : decode prog_10_method_68_code 51 = .ok (.iload 5, 2) := by decide +kernel
theorem s170_51 {v0 v1 v2 v3 v4 v6 : Value} {l1 : Int32} {st : List Value} {im : IM} {rm : RM}  : ev 170 51 [v0, v1, v2, v3, v4, .int l1, v6] st im rm = ev 170 53 [v0, v1, v2, v3, v4, .int l1, v6] (.int l1 :: st) (im) (rm) := ev_iload pm_m170 d170_51 rfl rfl
theorem d170_53 : decode prog_10_method_68_code 53 = .ok (.iaload, 1) := by decide +kernel
theorem s170_53 {v0 v1 v2 v3 v4 v5 v6 : Value} {a : Nat} {i : Int32} {st : List Value} {im : IM} {rm : RM} (hk : kd a = 0) (hi : pm_in i (ln a) = true) : ev 170 53 [v0, v1, v2, v3, v4, v5, v6] (.int i :: .ref a :: st) im rm = ev 170 54 [v0, v1, v2, v3, v4, v5, v6] (.int (im a i.toNatClampNeg) :: st) (im) (rm) := ev_iald pm_m170 d170_53 hk hi rfl
theorem d170_54 : decode prog_10_method_68_code 54 = .ok (.iload_n 1, 1) := by decide +kernel
theorem s170_54 {v0 v2 v3 v4 v5 v6 : Value} {l1 : Int32} {st : List Value} {im : IM} {rm : RM}  : ev 170 54 [v0, .int l1, v2, v3, v4, v5, v6] st im rm = ev 170 55 [v0, .int l1, v2, v3, v4, v5, v6] (.int l1 :: st) (im) (rm) := ev_iload_n pm_m170 d170_54 rfl rfl
theorem d170_55 : decode prog_10_method_68_code 55 = .ok (.if_icmp .ne 40, 3) := by decide +kernel
theorem s170_55 {v0 v1 v2 v3 v4 v5 v6 : Value} {x : Int32} {y : Int32} {st : List Value} {im : IM} {rm : RM} : ev 170 55 [v0, v1, v2, v3, v4, v5, v6] (.int y :: .int x :: st) im rm = if x = y then ev 170 58 [v0, v1, v2, v3, v4, v5, v6] st im rm else ev 170 95 [v0, v1, v2, v3, v4, v5, pm_u] st im rm := ev_icmp_ne pm_m170 d170_55 rfl rfl rfl
theorem d170_58 : decode prog_10_method_68_code 58 = .ok (.aload_n 0, 1) := by decide +kernel
theorem s170_58 {v1 v2 v3 v4 v5 v6 : Value} {l1 : Nat} {st : List Value} {im : IM} {rm : RM}  : ev 170 58 [.ref l1, v1, v2, v3, v4, v5, v6] st im rm = ev 170 59 [.ref l1, v1, v2, v3, v4, v5, v6] (.ref l1 :: st) (im) (rm) := ev_aload_n pm_m170 d170_58 rfl rfl
theorem d170_59 : decode prog_10_method_68_code 59 = .ok (.getfield 91, 3) := by decide +kernel
theorem s170_59 {v0 v1 v2 v3 v4 v5 v6 : Value} {a : Nat} {st : List Value} {im : IM} {rm : RM} (hk : kd a = 18) : ev 170 59 [v0, v1, v2, v3, v4, v5, v6] (.ref a :: st) im rm = ev 170 62 [v0, v1, v2, v3, v4, v5, v6] (pm_ro (rm a 30) :: st) (im) (rm) := ev_getR pm_m170 d170_59 f8_91 rfl hk rfl
theorem d170_62 : decode prog_10_method_68_code 62 = .ok (.iload 5, 2) := by decide +kernel
theorem s170_62 {v0 v1 v2 v3 v4 v6 : Value} {l1 : Int32} {st : List Value} {im : IM} {rm : RM}  : ev 170 62 [v0, v1, v2, v3, v4, .int l1, v6] st im rm = ev 170 64 [v0, v1, v2, v3, v4, .int l1, v6] (.int l1 :: st) (im) (rm) := ev_iload pm_m170 d170_62 rfl rfl
theorem d170_64 : decode prog_10_method_68_code 64 = .ok (.iaload, 1) := by decide +kernel
theorem s170_64 {v0 v1 v2 v3 v4 v5 v6 : Value} {a : Nat} {i : Int32} {st : List Value} {im : IM} {rm : RM} (hk : kd a = 0) (hi : pm_in i (ln a) = true) : ev 170 64 [v0, v1, v2, v3, v4, v5, v6] (.int i :: .ref a :: st) im rm = ev 170 65 [v0, v1, v2, v3, v4, v5, v6] (.int (im a i.toNatClampNeg) :: st) (im) (rm) := ev_iald pm_m170 d170_64 hk hi rfl
theorem d170_65 : decode prog_10_method_68_code 65 = .ok (.iload_n 2, 1) := by decide +kernel
theorem s170_65 {v0 v1 v3 v4 v5 v6 : Value} {l1 : Int32} {st : List Value} {im : IM} {rm : RM}  : ev 170 65 [v0, v1, .int l1, v3, v4, v5, v6] st im rm = ev 170 66 [v0, v1, .int l1, v3, v4, v5, v6] (.int l1 :: st) (im) (rm) := ev_iload_n pm_m170 d170_65 rfl rfl
theorem d170_66 : decode prog_10_method_68_code 66 = .ok (.if_icmp .ne 29, 3) := by decide +kernel
theorem s170_66 {v0 v1 v2 v3 v4 v5 v6 : Value} {x : Int32} {y : Int32} {st : List Value} {im : IM} {rm : RM} : ev 170 66 [v0, v1, v2, v3, v4, v5, v6] (.int y :: .int x :: st) im rm = if x = y then ev 170 69 [v0, v1, v2, v3, v4, v5, v6] st im rm else ev 170 95 [v0, v1, v2, v3, v4, v5, pm_u] st im rm := ev_icmp_ne pm_m170 d170_66 rfl rfl rfl
theorem d170_69 : decode prog_10_method_68_code 69 = .ok (.aload_n 0, 1) := by decide +kernel
theorem s170_69 {v1 v2 v3 v4 v5 v6 : Value} {l1 : Nat} {st : List Value} {im : IM} {rm : RM}  : ev 170 69 [.ref l1, v1, v2, v3, v4, v5, v6] st im rm = ev 170 70 [.ref l1, v1, v2, v3, v4, v5, v6] (.ref l1 :: st) (im) (rm) := ev_aload_n pm_m170 d170_69 rfl rfl
theorem d170_70 : decode prog_10_method_68_code 70 = .ok (.getfield 97, 3) := by decide +kernel
theorem s170_70 {v0 v1 v2 v3 v4 v5 v6 : Value} {a : Nat} {st : List Value} {im : IM} {rm : RM} (hk : kd a = 18) : ev 170 70 [v0, v1, v2, v3, v4, v5, v6] (.ref a :: st) im rm = ev 170 73 [v0, v1, v2, v3, v4, v5, v6] (pm_ro (rm a 32) :: st) (im) (rm) := ev_getR pm_m170 d170_70 f8_97 rfl hk rfl
theorem d170_73 : decode prog_10_method_68_code 73 = .ok (.iload 5, 2) := by decide +kernel
theorem s170_73 {v0 v1 v2 v3 v4 v6 : Value} {l1 : Int32} {st : List Value} {im : IM} {rm : RM}  : ev 170 73 [v0, v1, v2, v3, v4, .int l1, v6] st im rm = ev 170 75 [v0, v1, v2, v3, v4, .int l1, v6] (.int l1 :: st) (im) (rm) := ev_iload pm_m170 d170_73 rfl rfl
theorem d170_75 : decode prog_10_method_68_code 75 = .ok (.iaload, 1) := by decide +kernel
theorem s170_75 {v0 v1 v2 v3 v4 v5 v6 : Value} {a : Nat} {i : Int32} {st : List Value} {im : IM} {rm : RM} (hk : kd a = 0) (hi : pm_in i (ln a) = true) : ev 170 75 [v0, v1, v2, v3, v4, v5, v6] (.int i :: .ref a :: st) im rm = ev 170 76 [v0, v1, v2, v3, v4, v5, v6] (.int (im a i.toNatClampNeg) :: st) (im) (rm) := ev_iald pm_m170 d170_75 hk hi rfl
theorem d170_76 : decode prog_10_method_68_code 76 = .ok (.iconst (-1), 1) := by decide +kernel
theorem s170_76 {v0 v1 v2 v3 v4 v5 v6 : Value}  {st : List Value} {im : IM} {rm : RM}  : ev 170 76 [v0, v1, v2, v3, v4, v5, v6] st im rm = ev 170 77 [v0, v1, v2, v3, v4, v5, v6] (.int ((-1 : Int32)) :: st) (im) (rm) := ev_iconst pm_m170 d170_76 rfl rfl
theorem d170_77 : decode prog_10_method_68_code 77 = .ok (.if_icmp .eq 18, 3) := by decide +kernel
theorem s170_77 {v0 v1 v2 v3 v4 v5 v6 : Value} {x : Int32} {y : Int32} {st : List Value} {im : IM} {rm : RM} : ev 170 77 [v0, v1, v2, v3, v4, v5, v6] (.int y :: .int x :: st) im rm = if x = y then ev 170 95 [v0, v1, v2, v3, v4, v5, pm_u] st im rm else ev 170 80 [v0, v1, v2, v3, v4, v5, v6] st im rm := ev_icmp_eq pm_m170 d170_77 rfl rfl rfl
theorem d170_80 : decode prog_10_method_68_code 80 = .ok (.aload_n 0, 1) := by decide +kernel
theorem s170_80 {v1 v2 v3 v4 v5 v6 : Value} {l1 : Nat} {st : List Value} {im : IM} {rm : RM}  : ev 170 80 [.ref l1, v1, v2, v3, v4, v5, v6] st im rm = ev 170 81 [.ref l1, v1, v2, v3, v4, v5, v6] (.ref l1 :: st) (im) (rm) := ev_aload_n pm_m170 d170_80 rfl rfl
theorem d170_81 : decode prog_10_method_68_code 81 = .ok (.getfield 97, 3) := by decide +kernel
theorem s170_81 {v0 v1 v2 v3 v4 v5 v6 : Value} {a : Nat} {st : List Value} {im : IM} {rm : RM} (hk : kd a = 18) : ev 170 81 [v0, v1, v2, v3, v4, v5, v6] (.ref a :: st) im rm = ev 170 84 [v0, v1, v2, v3, v4, v5, v6] (pm_ro (rm a 32) :: st) (im) (rm) := ev_getR pm_m170 d170_81 f8_97 rfl hk rfl
theorem d170_84 : decode prog_10_method_68_code 84 = .ok (.iload 5, 2) := by decide +kernel
theorem s170_84 {v0 v1 v2 v3 v4 v6 : Value} {l1 : Int32} {st : List Value} {im : IM} {rm : RM}  : ev 170 84 [v0, v1, v2, v3, v4, .int l1, v6] st im rm = ev 170 86 [v0, v1, v2, v3, v4, .int l1, v6] (.int l1 :: st) (im) (rm) := ev_iload pm_m170 d170_84 rfl rfl
theorem d170_86 : decode prog_10_method_68_code 86 = .ok (.iaload, 1) := by decide +kernel
theorem s170_86 {v0 v1 v2 v3 v4 v5 v6 : Value} {a : Nat} {i : Int32} {st : List Value} {im : IM} {rm : RM} (hk : kd a = 0) (hi : pm_in i (ln a) = true) : ev 170 86 [v0, v1, v2, v3, v4, v5, v6] (.int i :: .ref a :: st) im rm = ev 170 87 [v0, v1, v2, v3, v4, v5, v6] (.int (im a i.toNatClampNeg) :: st) (im) (rm) := ev_iald pm_m170 d170_86 hk hi rfl
theorem d170_87 : decode prog_10_method_68_code 87 = .ok (.iload_n 3, 1) := by decide +kernel
theorem s170_87 {v0 v1 v2 v4 v5 v6 : Value} {l1 : Int32} {st : List Value} {im : IM} {rm : RM}  : ev 170 87 [v0, v1, v2, .int l1, v4, v5, v6] st im rm = ev 170 88 [v0, v1, v2, .int l1, v4, v5, v6] (.int l1 :: st) (im) (rm) := ev_iload_n pm_m170 d170_87 rfl rfl
theorem d170_88 : decode prog_10_method_68_code 88 = .ok (.if_icmp .gt 7, 3) := by decide +kernel
theorem s170_88 {v0 v1 v2 v3 v4 v5 v6 : Value} {x : Int32} {y : Int32} {st : List Value} {im : IM} {rm : RM} : ev 170 88 [v0, v1, v2, v3, v4, v5, v6] (.int y :: .int x :: st) im rm = if y < x then ev 170 95 [v0, v1, v2, v3, v4, v5, pm_u] st im rm else ev 170 91 [v0, v1, v2, v3, v4, v5, v6] st im rm := ev_icmp_gt pm_m170 d170_88 rfl rfl rfl
theorem d170_91 : decode prog_10_method_68_code 91 = .ok (.iconst 1, 1) := by decide +kernel
theorem s170_91 {v0 v1 v2 v3 v4 v5 v6 : Value}  {st : List Value} {im : IM} {rm : RM}  : ev 170 91 [v0, v1, v2, v3, v4, v5, v6] st im rm = ev 170 92 [v0, v1, v2, v3, v4, v5, v6] (.int (nI 1) :: st) (im) (rm) := ev_iconst pm_m170 d170_91 rfl rfl
theorem d170_92 : decode prog_10_method_68_code 92 = .ok (.goto 4, 3) := by decide +kernel
theorem s170_92 {v0 v1 v2 v3 v4 v5 v6 : Value}  {st : List Value} {im : IM} {rm : RM}  : ev 170 92 [v0, v1, v2, v3, v4, v5, v6] st im rm = ev 170 96 [v0, v1, v2, v3, v4, v5, pm_u] st (im) (rm) := ev_goto pm_m170 d170_92 rfl rfl
theorem d170_95 : decode prog_10_method_68_code 95 = .ok (.iconst 0, 1) := by decide +kernel
theorem s170_95 {v0 v1 v2 v3 v4 v5 v6 : Value}  {st : List Value} {im : IM} {rm : RM}  : ev 170 95 [v0, v1, v2, v3, v4, v5, v6] st im rm = ev 170 96 [v0, v1, v2, v3, v4, v5, pm_u] (.int (nI 0) :: st) (im) (rm) := ev_iconst pm_m170 d170_95 rfl rfl
theorem d170_96 : decode prog_10_method_68_code 96 = .ok (.istore 6, 2) := by decide +kernel
theorem s170_96 {v0 v1 v2 v3 v4 v6 : Value} {l1 : Int32} {x2 : Int32} {st : List Value} {im : IM} {rm : RM}  : ev 170 96 [v0, v1, v2, v3, v4, .int l1, v6] (.int x2 :: st) im rm = ev 170 98 [v0, v1, v2, v3, v4, .int l1, .int x2] st (im) (rm) := ev_istore pm_m170 d170_96 (Nat.le_of_ble_eq_true rfl) rfl rfl
theorem d170_98 : decode prog_10_method_68_code 98 = .ok (.iload 4, 2) := by decide +kernel
theorem s170_98 {v0 v1 v2 v3 v5 v6 : Value} {l1 : Int32} {st : List Value} {im : IM} {rm : RM}  : ev 170 98 [v0, v1, v2, v3, .int l1, v5, v6] st im rm = ev 170 100 [v0, v1, v2, v3, .int l1, v5, v6] (.int l1 :: st) (im) (rm) := ev_iload pm_m170 d170_98 rfl rfl
theorem d170_100 : decode prog_10_method_68_code 100 = .ok (.iload 6, 2) := by decide +kernel
theorem s170_100 {v0 v1 v2 v3 v4 v5 : Value} {l1 : Int32} {st : List Value} {im : IM} {rm : RM}  : ev 170 100 [v0, v1, v2, v3, v4, v5, .int l1] st im rm = ev 170 102 [v0, v1, v2, v3, v4, v5, .int l1] (.int l1 :: st) (im) (rm) := ev_iload pm_m170 d170_100 rfl rfl
theorem d170_102 : decode prog_10_method_68_code 102 = .ok (.ifCond .eq 15, 3) := by decide +kernel
theorem s170_102 {v0 v1 v2 v3 v4 v5 v6 : Value} {x : Int32} {st : List Value} {im : IM} {rm : RM} : ev 170 102 [v0, v1, v2, v3, v4, v5, v6] (.int x :: st) im rm = if x = nI 0 then ev 170 117 [v0, v1, v2, v3, pm_u, v5, pm_u] st im rm else ev 170 105 [v0, v1, v2, v3, v4, v5, v6] st im rm := ev_if_eq (y := 0) pm_m170 d170_102 rfl rfl rfl
theorem d170_105 : decode prog_10_method_68_code 105 = .ok (.iconst 1, 1) := by decide +kernel
theorem s170_105 {v0 v1 v2 v3 v4 v5 v6 : Value}  {st : List Value} {im : IM} {rm : RM}  : ev 170 105 [v0, v1, v2, v3, v4, v5, v6] st im rm = ev 170 106 [v0, v1, v2, v3, v4, v5, v6] (.int (nI 1) :: st) (im) (rm) := ev_iconst pm_m170 d170_105 rfl rfl
theorem d170_106 : decode prog_10_method_68_code 106 = .ok (.aload_n 0, 1) := by decide +kernel
theorem s170_106 {v1 v2 v3 v4 v5 v6 : Value} {l1 : Nat} {st : List Value} {im : IM} {rm : RM}  : ev 170 106 [.ref l1, v1, v2, v3, v4, v5, v6] st im rm = ev 170 107 [.ref l1, v1, v2, v3, v4, v5, v6] (.ref l1 :: st) (im) (rm) := ev_aload_n pm_m170 d170_106 rfl rfl
theorem d170_107 : decode prog_10_method_68_code 107 = .ok (.getfield 94, 3) := by decide +kernel
theorem s170_107 {v0 v1 v2 v3 v4 v5 v6 : Value} {a : Nat} {st : List Value} {im : IM} {rm : RM} (hk : kd a = 18) : ev 170 107 [v0, v1, v2, v3, v4, v5, v6] (.ref a :: st) im rm = ev 170 110 [v0, v1, v2, v3, v4, v5, v6] (pm_ro (rm a 31) :: st) (im) (rm) := ev_getR pm_m170 d170_107 f8_94 rfl hk rfl
theorem d170_110 : decode prog_10_method_68_code 110 = .ok (.iload 5, 2) := by decide +kernel
theorem s170_110 {v0 v1 v2 v3 v4 v6 : Value} {l1 : Int32} {st : List Value} {im : IM} {rm : RM}  : ev 170 110 [v0, v1, v2, v3, v4, .int l1, v6] st im rm = ev 170 112 [v0, v1, v2, v3, v4, .int l1, v6] (.int l1 :: st) (im) (rm) := ev_iload pm_m170 d170_110 rfl rfl
theorem d170_112 : decode prog_10_method_68_code 112 = .ok (.iaload, 1) := by decide +kernel
theorem s170_112 {v0 v1 v2 v3 v4 v5 v6 : Value} {a : Nat} {i : Int32} {st : List Value} {im : IM} {rm : RM} (hk : kd a = 0) (hi : pm_in i (ln a) = true) : ev 170 112 [v0, v1, v2, v3, v4, v5, v6] (.int i :: .ref a :: st) im rm = ev 170 113 [v0, v1, v2, v3, v4, v5, v6] (.int (im a i.toNatClampNeg) :: st) (im) (rm) := ev_iald pm_m170 d170_112 hk hi rfl
theorem d170_113 : decode prog_10_method_68_code 113 = .ok (.ishl, 1) := by decide +kernel
theorem s170_113 {v0 v1 v2 v3 v4 v5 v6 : Value} {x : Int32} {y : Int32} {st : List Value} {im : IM} {rm : RM}  : ev 170 113 [v0, v1, v2, v3, v4, v5, v6] (.int y :: .int x :: st) im rm = ev 170 114 [v0, v1, v2, v3, v4, v5, v6] (.int (x <<< (y &&& 31)) :: st) (im) (rm) := ev_ishl pm_m170 d170_113 rfl
theorem d170_114 : decode prog_10_method_68_code 114 = .ok (.goto 4, 3) := by decide +kernel
theorem s170_114 {v0 v1 v2 v3 v4 v5 v6 : Value}  {st : List Value} {im : IM} {rm : RM}  : ev 170 114 [v0, v1, v2, v3, v4, v5, v6] st im rm = ev 170 118 [v0, v1, v2, v3, pm_u, v5, pm_u] st (im) (rm) := ev_goto pm_m170 d170_114 rfl rfl
theorem d170_117 : decode prog_10_method_68_code 117 = .ok (.iconst 0, 1) := by decide +kernel
theorem s170_117 {v0 v1 v2 v3 v4 v5 v6 : Value}  {st : List Value} {im : IM} {rm : RM}  : ev 170 117 [v0, v1, v2, v3, v4, v5, v6] st im rm = ev 170 118 [v0, v1, v2, v3, pm_u, v5, pm_u] (.int (nI 0) :: st) (im) (rm) := ev_iconst pm_m170 d170_117 rfl rfl
theorem d170_118 : decode prog_10_method_68_code 118 = .ok (.ior, 1) := by decide +kernel
theorem s170_118 {v0 v1 v2 v3 v4 v5 v6 : Value} {x : Int32} {y : Int32} {st : List Value} {im : IM} {rm : RM}  : ev 170 118 [v0, v1, v2, v3, v4, v5, v6] (.int y :: .int x :: st) im rm = ev 170 119 [v0, v1, v2, v3, v4, v5, v6] (.int (x ||| y) :: st) (im) (rm) := ev_ior pm_m170 d170_118 rfl
theorem d170_119 : decode prog_10_method_68_code 119 = .ok (.istore 4, 2) := by decide +kernel
theorem s170_119 {v0 v1 v2 v4 v5 v6 : Value} {l1 : Int32} {x2 : Int32} {st : List Value} {im : IM} {rm : RM}  : ev 170 119 [v0, v1, v2, .int l1, v4, v5, v6] (.int x2 :: st) im rm = ev 170 121 [v0, v1, v2, .int l1, .int x2, v5, v6] st (im) (rm) := ev_istore pm_m170 d170_119 (Nat.le_of_ble_eq_true rfl) rfl rfl
theorem d170_121 : decode prog_10_method_68_code 121 = .ok (.iinc 5 1, 3) := by decide +kernel
theorem s170_121 {v0 v1 v2 v3 v6 : Value} {l1 : Int32} {l2 : Int32} {st : List Value} {im : IM} {rm : RM}  : ev 170 121 [v0, v1, v2, v3, .int l1, .int l2, v6] st im rm = ev 170 124 [v0, v1, v2, v3, .int l1, .int (l2 + nI 1), v6] st (im) (rm) := ev_iinc pm_m170 d170_121 rfl rfl rfl rfl
theorem d170_124 : decode prog_10_method_68_code 124 = .ok (.goto (-86), 3) := by decide +kernel
theorem s170_124 {v0 v1 v2 v3 v4 v5 v6 : Value}  {st : List Value} {im : IM} {rm : RM}  : ev 170 124 [v0, v1, v2, v3, v4, v5, v6] st im rm = ev 170 38 [v0, v1, v2, v3, v4, v5, pm_u] st (im) (rm) := ev_goto pm_m170 d170_124 rfl rfl
theorem d170_127 : decode prog_10_method_68_code 127 = .ok (.iload 4, 2) := by decide +kernel
theorem s170_127 {v0 v1 v2 v3 v5 v6 : Value} {l1 : Int32} {st : List Value} {im : IM} {rm : RM}  : ev 170 127 [v0, v1, v2, v3, .int l1, v5, v6] st im rm = ev 170 129 [v0, v1, v2, v3, .int l1, v5, v6] (.int l1 :: st) (im) (rm) := ev_iload pm_m170 d170_127 rfl rfl
theorem d170_129 : decode prog_10_method_68_code 129 = .ok (.ireturn, 1) := by decide +kernel
theorem s170_129 {v0 v1 v2 v3 v4 v5 v6 : Value} {x : Int32} {im : IM} {rm : RM} : ev 170 129 [v0, v1, v2, v3, v4, v5, v6] [.int x] im rm = some (some (.int x), im, rm) := ev_ireturn pm_m170 d170_129 rfl
theorem d171_0 : decode prog_10_method_69_code 0 = .ok (.lconst 0, 1) := by decide +kernel
theorem s171_0 {v0 v1 v2 v3 v4 v5 : Value}  {st : List Value} {im : IM} {rm : RM}  : ev 171 0 [v0, v1, v2, v3, v4, v5] st im rm = ev 171 1 [v0, v1, v2, v3, v4, v5] (.long (lN 0) :: st) (im) (rm) := ev_lconst pm_m171 d171_0 rfl rfl
theorem d171_1 : decode prog_10_method_69_code 1 = .ok (.lstore_n 2, 1) := by decide +kernel
theorem s171_1 {v0 v2 v3 v4 v5 : Value} {l1 : Int32} {x2 : Int64} {st : List Value} {im : IM} {rm : RM}  : ev 171 1 [v0, .int l1, v2, v3, v4, v5] (.long x2 :: st) im rm = ev 171 2 [v0, .int l1, .long x2, pm_u, v4, v5] st (im) (rm) := ev_lstore_n pm_m171 d171_1 (Nat.le_of_ble_eq_true rfl) rfl rfl
theorem d171_2 : decode prog_10_method_69_code 2 = .ok (.iconst 0, 1) := by decide +kernel
theorem s171_2 {v0 v1 v2 v3 v4 v5 : Value}  {st : List Value} {im : IM} {rm : RM}  : ev 171 2 [v0, v1, v2, v3, v4, v5] st im rm = ev 171 3 [v0, v1, v2, v3, v4, v5] (.int (nI 0) :: st) (im) (rm) := ev_iconst pm_m171 d171_2 rfl rfl
theorem d171_3 : decode prog_10_method_69_code 3 = .ok (.istore 4, 2) := by decide +kernel
theorem s171_3 {v0 v1 v2 v4 v5 : Value} {x1 : Int32} {st : List Value} {im : IM} {rm : RM}  : ev 171 3 [v0, v1, v2, pm_u, v4, v5] (.int x1 :: st) im rm = ev 171 5 [v0, v1, v2, pm_u, .int x1, pm_u] st (im) (rm) := ev_istore pm_m171 d171_3 (Nat.le_of_ble_eq_true rfl) rfl rfl
theorem d171_5 : decode prog_10_method_69_code 5 = .ok (.iload 4, 2) := by decide +kernel
theorem s171_5 {v0 v1 v2 v3 v5 : Value} {l1 : Int32} {st : List Value} {im : IM} {rm : RM}  : ev 171 5 [v0, v1, v2, v3, .int l1, v5] st im rm = ev 171 7 [v0, v1, v2, v3, .int l1, v5] (.int l1 :: st) (im) (rm) := ev_iload pm_m171 d171_5 rfl rfl
theorem d171_7 : decode prog_10_method_69_code 7 = .ok (.bipush 6, 2) := by decide +kernel
theorem s171_7 {v0 v1 v2 v3 v4 v5 : Value}  {st : List Value} {im : IM} {rm : RM}  : ev 171 7 [v0, v1, v2, v3, v4, v5] st im rm = ev 171 9 [v0, v1, v2, v3, v4, v5] (.int (nI 6) :: st) (im) (rm) := ev_bipush pm_m171 d171_7 rfl rfl
theorem d171_9 : decode prog_10_method_69_code 9 = .ok (.if_icmp .ge 71, 3) := by decide +kernel
theorem s171_9 {v0 v1 v2 v3 v4 v5 : Value} {x : Int32} {y : Int32} {st : List Value} {im : IM} {rm : RM} : ev 171 9 [v0, v1, v2, v3, v4, v5] (.int y :: .int x :: st) im rm = if y ≤ x then ev 171 80 [pm_u, pm_u, v2, pm_u, pm_u, pm_u] st im rm else ev 171 12 [v0, v1, v2, v3, v4, v5] st im rm := ev_icmp_ge pm_m171 d171_9 rfl rfl rfl
theorem d171_12 : decode prog_10_method_69_code 12 = .ok (.iconst 0, 1) := by decide +kernel
theorem s171_12 {v0 v1 v2 v3 v4 v5 : Value}  {st : List Value} {im : IM} {rm : RM}  : ev 171 12 [v0, v1, v2, v3, v4, v5] st im rm = ev 171 13 [v0, v1, v2, v3, v4, v5] (.int (nI 0) :: st) (im) (rm) := ev_iconst pm_m171 d171_12 rfl rfl
theorem d171_13 : decode prog_10_method_69_code 13 = .ok (.istore 5, 2) := by decide +kernel
theorem s171_13 {v0 v1 v2 v3 v5 : Value} {l1 : Int32} {x2 : Int32} {st : List Value} {im : IM} {rm : RM}  : ev 171 13 [v0, v1, v2, v3, .int l1, v5] (.int x2 :: st) im rm = ev 171 15 [v0, v1, v2, pm_u, .int l1, .int x2] st (im) (rm) := ev_istore pm_m171 d171_13 (Nat.le_of_ble_eq_true rfl) rfl rfl
theorem d171_15 : decode prog_10_method_69_code 15 = .ok (.iload 5, 2) := by decide +kernel
theorem s171_15 {v0 v1 v2 v3 v4 : Value} {l1 : Int32} {st : List Value} {im : IM} {rm : RM}  : ev 171 15 [v0, v1, v2, v3, v4, .int l1] st im rm = ev 171 17 [v0, v1, v2, v3, v4, .int l1] (.int l1 :: st) (im) (rm) := ev_iload pm_m171 d171_15 rfl rfl
theorem d171_17 : decode prog_10_method_69_code 17 = .ok (.iconst 4, 1) := by decide +kernel
theorem s171_17 {v0 v1 v2 v3 v4 v5 : Value}  {st : List Value} {im : IM} {rm : RM}  : ev 171 17 [v0, v1, v2, v3, v4, v5] st im rm = ev 171 18 [v0, v1, v2, v3, v4, v5] (.int (nI 4) :: st) (im) (rm) := ev_iconst pm_m171 d171_17 rfl rfl
theorem d171_18 : decode prog_10_method_69_code 18 = .ok (.if_icmp .ge 56, 3) := by decide +kernel
theorem s171_18 {v0 v1 v2 v3 v4 v5 : Value} {x : Int32} {y : Int32} {st : List Value} {im : IM} {rm : RM} : ev 171 18 [v0, v1, v2, v3, v4, v5] (.int y :: .int x :: st) im rm = if y ≤ x then ev 171 74 [v0, v1, v2, pm_u, v4, pm_u] st im rm else ev 171 21 [v0, v1, v2, v3, v4, v5] st im rm := ev_icmp_ge pm_m171 d171_18 rfl rfl rfl
theorem d171_21 : decode prog_10_method_69_code 21 = .ok (.aload_n 0, 1) := by decide +kernel
theorem s171_21 {v1 v2 v3 v4 v5 : Value} {l1 : Nat} {st : List Value} {im : IM} {rm : RM}  : ev 171 21 [.ref l1, v1, v2, v3, v4, v5] st im rm = ev 171 22 [.ref l1, v1, v2, v3, v4, v5] (.ref l1 :: st) (im) (rm) := ev_aload_n pm_m171 d171_21 rfl rfl
theorem d171_22 : decode prog_10_method_69_code 22 = .ok (.getfield 7, 3) := by decide +kernel
theorem s171_22 {v0 v1 v2 v3 v4 v5 : Value} {a : Nat} {st : List Value} {im : IM} {rm : RM} (hk : kd a = 18) : ev 171 22 [v0, v1, v2, v3, v4, v5] (.ref a :: st) im rm = ev 171 25 [v0, v1, v2, v3, v4, v5] (pm_ro (rm a 0) :: st) (im) (rm) := ev_getR pm_m171 d171_22 f8_7 rfl hk rfl
theorem d171_25 : decode prog_10_method_69_code 25 = .ok (.iload 4, 2) := by decide +kernel
theorem s171_25 {v0 v1 v2 v3 v5 : Value} {l1 : Int32} {st : List Value} {im : IM} {rm : RM}  : ev 171 25 [v0, v1, v2, v3, .int l1, v5] st im rm = ev 171 27 [v0, v1, v2, v3, .int l1, v5] (.int l1 :: st) (im) (rm) := ev_iload pm_m171 d171_25 rfl rfl
theorem d171_27 : decode prog_10_method_69_code 27 = .ok (.iaload, 1) := by decide +kernel
theorem s171_27 {v0 v1 v2 v3 v4 v5 : Value} {a : Nat} {i : Int32} {st : List Value} {im : IM} {rm : RM} (hk : kd a = 0) (hi : pm_in i (ln a) = true) : ev 171 27 [v0, v1, v2, v3, v4, v5] (.int i :: .ref a :: st) im rm = ev 171 28 [v0, v1, v2, v3, v4, v5] (.int (im a i.toNatClampNeg) :: st) (im) (rm) := ev_iald pm_m171 d171_27 hk hi rfl
theorem d171_28 : decode prog_10_method_69_code 28 = .ok (.iconst 1, 1) := by decide +kernel
theorem s171_28 {v0 v1 v2 v3 v4 v5 : Value}  {st : List Value} {im : IM} {rm : RM}  : ev 171 28 [v0, v1, v2, v3, v4, v5] st im rm = ev 171 29 [v0, v1, v2, v3, v4, v5] (.int (nI 1) :: st) (im) (rm) := ev_iconst pm_m171 d171_28 rfl rfl
theorem d171_29 : decode prog_10_method_69_code 29 = .ok (.if_icmp .ne 45, 3) := by decide +kernel
theorem s171_29 {v0 v1 v2 v3 v4 v5 : Value} {x : Int32} {y : Int32} {st : List Value} {im : IM} {rm : RM} : ev 171 29 [v0, v1, v2, v3, v4, v5] (.int y :: .int x :: st) im rm = if x = y then ev 171 32 [v0, v1, v2, v3, v4, v5] st im rm else ev 171 74 [v0, v1, v2, pm_u, v4, pm_u] st im rm := ev_icmp_ne pm_m171 d171_29 rfl rfl rfl
theorem d171_32 : decode prog_10_method_69_code 32 = .ok (.aload_n 0, 1) := by decide +kernel
theorem s171_32 {v1 v2 v3 v4 v5 : Value} {l1 : Nat} {st : List Value} {im : IM} {rm : RM}  : ev 171 32 [.ref l1, v1, v2, v3, v4, v5] st im rm = ev 171 33 [.ref l1, v1, v2, v3, v4, v5] (.ref l1 :: st) (im) (rm) := ev_aload_n pm_m171 d171_32 rfl rfl
theorem d171_33 : decode prog_10_method_69_code 33 = .ok (.getfield 13, 3) := by decide +kernel
theorem s171_33 {v0 v1 v2 v3 v4 v5 : Value} {a : Nat} {st : List Value} {im : IM} {rm : RM} (hk : kd a = 18) : ev 171 33 [v0, v1, v2, v3, v4, v5] (.ref a :: st) im rm = ev 171 36 [v0, v1, v2, v3, v4, v5] (pm_ro (rm a 1) :: st) (im) (rm) := ev_getR pm_m171 d171_33 f8_13 rfl hk rfl
theorem d171_36 : decode prog_10_method_69_code 36 = .ok (.iload 4, 2) := by decide +kernel
theorem s171_36 {v0 v1 v2 v3 v5 : Value} {l1 : Int32} {st : List Value} {im : IM} {rm : RM}  : ev 171 36 [v0, v1, v2, v3, .int l1, v5] st im rm = ev 171 38 [v0, v1, v2, v3, .int l1, v5] (.int l1 :: st) (im) (rm) := ev_iload pm_m171 d171_36 rfl rfl
theorem d171_38 : decode prog_10_method_69_code 38 = .ok (.iaload, 1) := by decide +kernel
theorem s171_38 {v0 v1 v2 v3 v4 v5 : Value} {a : Nat} {i : Int32} {st : List Value} {im : IM} {rm : RM} (hk : kd a = 0) (hi : pm_in i (ln a) = true) : ev 171 38 [v0, v1, v2, v3, v4, v5] (.int i :: .ref a :: st) im rm = ev 171 39 [v0, v1, v2, v3, v4, v5] (.int (im a i.toNatClampNeg) :: st) (im) (rm) := ev_iald pm_m171 d171_38 hk hi rfl
theorem d171_39 : decode prog_10_method_69_code 39 = .ok (.iload_n 1, 1) := by decide +kernel
theorem s171_39 {v0 v2 v3 v4 v5 : Value} {l1 : Int32} {st : List Value} {im : IM} {rm : RM}  : ev 171 39 [v0, .int l1, v2, v3, v4, v5] st im rm = ev 171 40 [v0, .int l1, v2, v3, v4, v5] (.int l1 :: st) (im) (rm) := ev_iload_n pm_m171 d171_39 rfl rfl
theorem d171_40 : decode prog_10_method_69_code 40 = .ok (.if_icmp .ne 34, 3) := by decide +kernel
theorem s171_40 {v0 v1 v2 v3 v4 v5 : Value} {x : Int32} {y : Int32} {st : List Value} {im : IM} {rm : RM} : ev 171 40 [v0, v1, v2, v3, v4, v5] (.int y :: .int x :: st) im rm = if x = y then ev 171 43 [v0, v1, v2, v3, v4, v5] st im rm else ev 171 74 [v0, v1, v2, pm_u, v4, pm_u] st im rm := ev_icmp_ne pm_m171 d171_40 rfl rfl rfl
theorem d171_43 : decode prog_10_method_69_code 43 = .ok (.aload_n 0, 1) := by decide +kernel
theorem s171_43 {v1 v2 v3 v4 v5 : Value} {l1 : Nat} {st : List Value} {im : IM} {rm : RM}  : ev 171 43 [.ref l1, v1, v2, v3, v4, v5] st im rm = ev 171 44 [.ref l1, v1, v2, v3, v4, v5] (.ref l1 :: st) (im) (rm) := ev_aload_n pm_m171 d171_43 rfl rfl
theorem d171_44 : decode prog_10_method_69_code 44 = .ok (.iload 5, 2) := by decide +kernel
theorem s171_44 {v0 v1 v2 v3 v4 : Value} {l1 : Int32} {st : List Value} {im : IM} {rm : RM}  : ev 171 44 [v0, v1, v2, v3, v4, .int l1] st im rm = ev 171 46 [v0, v1, v2, v3, v4, .int l1] (.int l1 :: st) (im) (rm) := ev_iload pm_m171 d171_44 rfl rfl
theorem d171_46 : decode prog_10_method_69_code 46 = .ok (.iload 4, 2) := by decide +kernel
theorem s171_46 {v0 v1 v2 v3 v5 : Value} {l1 : Int32} {st : List Value} {im : IM} {rm : RM}  : ev 171 46 [v0, v1, v2, v3, .int l1, v5] st im rm = ev 171 48 [v0, v1, v2, v3, .int l1, v5] (.int l1 :: st) (im) (rm) := ev_iload pm_m171 d171_46 rfl rfl
theorem d171_48 : decode prog_10_method_69_code 48 = .ok (.invokevirtual 263, 3) := by decide +kernel
theorem s171_48 {v0 v1 v2 v3 v4 v5 : Value} {a : Nat} {p1 : Int32} {p2 : Int32} {im : IM} {rm : RM} (hk : kd a = 18) : ev 171 48 [v0, v1, v2, v3, v4, v5] [.int p2, .int p1, .ref a] im rm = (ev 135 0 [.ref a, .int p1, .int p2, pm_u, pm_u, pm_u, pm_u, pm_u, pm_u] [] im rm).bind (fun r => ev 171 51 [v0, v1, v2, v3, v4, v5] (r.1.toList ++ []) r.2.1 r.2.2) := ev_callV pm_m171 d171_48 l8_263 rfl pm_m135 (by decide) hk rfl ⟨rfl, rfl⟩ rfl rfl
theorem d171_51 : decode prog_10_method_69_code 51 = .ok (.lload_n 2, 1) := by decide +kernel
theorem s171_51 {v0 v1 v3 v4 v5 : Value} {l1 : Int64} {st : List Value} {im : IM} {rm : RM}  : ev 171 51 [v0, v1, .long l1, v3, v4, v5] st im rm = ev 171 52 [v0, v1, .long l1, v3, v4, v5] (.long l1 :: st) (im) (rm) := ev_lload_n pm_m171 d171_51 rfl rfl
theorem d171_52 : decode prog_10_method_69_code 52 = .ok (.aload_n 0, 1) := by decide +kernel
theorem s171_52 {v1 v2 v3 v4 v5 : Value} {l1 : Nat} {st : List Value} {im : IM} {rm : RM}  : ev 171 52 [.ref l1, v1, v2, v3, v4, v5] st im rm = ev 171 53 [.ref l1, v1, v2, v3, v4, v5] (.ref l1 :: st) (im) (rm) := ev_aload_n pm_m171 d171_52 rfl rfl
theorem d171_53 : decode prog_10_method_69_code 53 = .ok (.getfield 79, 3) := by decide +kernel
theorem s171_53 {v0 v1 v2 v3 v4 v5 : Value} {a : Nat} {st : List Value} {im : IM} {rm : RM} (hk : kd a = 18) : ev 171 53 [v0, v1, v2, v3, v4, v5] (.ref a :: st) im rm = ev 171 56 [v0, v1, v2, v3, v4, v5] (pm_ro (rm a 25) :: st) (im) (rm) := ev_getR pm_m171 d171_53 f8_79 rfl hk rfl
theorem d171_56 : decode prog_10_method_69_code 56 = .ok (.iload 5, 2) := by decide +kernel
theorem s171_56 {v0 v1 v2 v3 v4 : Value} {l1 : Int32} {st : List Value} {im : IM} {rm : RM}  : ev 171 56 [v0, v1, v2, v3, v4, .int l1] st im rm = ev 171 58 [v0, v1, v2, v3, v4, .int l1] (.int l1 :: st) (im) (rm) := ev_iload pm_m171 d171_56 rfl rfl
theorem d171_58 : decode prog_10_method_69_code 58 = .ok (.iaload, 1) := by decide +kernel
theorem s171_58 {v0 v1 v2 v3 v4 v5 : Value} {a : Nat} {i : Int32} {st : List Value} {im : IM} {rm : RM} (hk : kd a = 0) (hi : pm_in i (ln a) = true) : ev 171 58 [v0, v1, v2, v3, v4, v5] (.int i :: .ref a :: st) im rm = ev 171 59 [v0, v1, v2, v3, v4, v5] (.int (im a i.toNatClampNeg) :: st) (im) (rm) := ev_iald pm_m171 d171_58 hk hi rfl
theorem d171_59 : decode prog_10_method_69_code 59 = .ok (.i2l, 1) := by decide +kernel
theorem s171_59 {v0 v1 v2 v3 v4 v5 : Value} {x : Int32} {st : List Value} {im : IM} {rm : RM}  : ev 171 59 [v0, v1, v2, v3, v4, v5] (.int x :: st) im rm = ev 171 60 [v0, v1, v2, v3, v4, v5] (.long x.toInt64 :: st) (im) (rm) := ev_i2l pm_m171 d171_59 rfl
theorem d171_60 : decode prog_10_method_69_code 60 = .ok (.aload_n 0, 1) := by decide +kernel
theorem s171_60 {v1 v2 v3 v4 v5 : Value} {l1 : Nat} {st : List Value} {im : IM} {rm : RM}  : ev 171 60 [.ref l1, v1, v2, v3, v4, v5] st im rm = ev 171 61 [.ref l1, v1, v2, v3, v4, v5] (.ref l1 :: st) (im) (rm) := ev_aload_n pm_m171 d171_60 rfl rfl
theorem d171_61 : decode prog_10_method_69_code 61 = .ok (.getfield 252, 3) := by decide +kernel
theorem s171_61 {v0 v1 v2 v3 v4 v5 : Value} {a : Nat} {st : List Value} {im : IM} {rm : RM} (hk : kd a = 18) : ev 171 61 [v0, v1, v2, v3, v4, v5] (.ref a :: st) im rm = ev 171 64 [v0, v1, v2, v3, v4, v5] (.int (im a 43) :: st) (im) (rm) := ev_getI pm_m171 d171_61 f8_252 rfl hk rfl
theorem d171_64 : decode prog_10_method_69_code 64 = .ok (.i2l, 1) := by decide +kernel
theorem s171_64 {v0 v1 v2 v3 v4 v5 : Value} {x : Int32} {st : List Value} {im : IM} {rm : RM}  : ev 171 64 [v0, v1, v2, v3, v4, v5] (.int x :: st) im rm = ev 171 65 [v0, v1, v2, v3, v4, v5] (.long x.toInt64 :: st) (im) (rm) := ev_i2l pm_m171 d171_64 rfl
theorem d171_65 : decode prog_10_method_69_code 65 = .ok (.lmul, 1) := by decide +kernel
theorem s171_65 {v0 v1 v2 v3 v4 v5 : Value} {x : Int64} {y : Int64} {st : List Value} {im : IM} {rm : RM}  : ev 171 65 [v0, v1, v2, v3, v4, v5] (.long y :: .long x :: st) im rm = ev 171 66 [v0, v1, v2, v3, v4, v5] (.long (x * y) :: st) (im) (rm) := ev_lmul pm_m171 d171_65 rfl
theorem d171_66 : decode prog_10_method_69_code 66 = .ok (.ladd, 1) := by decide +kernel
theorem s171_66 {v0 v1 v2 v3 v4 v5 : Value} {x : Int64} {y : Int64} {st : List Value} {im : IM} {rm : RM}  : ev 171 66 [v0, v1, v2, v3, v4, v5] (.long y :: .long x :: st) im rm = ev 171 67 [v0, v1, v2, v3, v4, v5] (.long (x + y) :: st) (im) (rm) := ev_ladd pm_m171 d171_66 rfl
theorem d171_67 : decode prog_10_method_69_code 67 = .ok (.lstore_n 2, 1) := by decide +kernel
theorem s171_67 {v0 v2 v3 v4 v5 : Value} {l1 : Int32} {x2 : Int64} {st : List Value} {im : IM} {rm : RM}  : ev 171 67 [v0, .int l1, v2, v3, v4, v5] (.long x2 :: st) im rm = ev 171 68 [v0, .int l1, .long x2, pm_u, v4, v5] st (im) (rm) := ev_lstore_n pm_m171 d171_67 (Nat.le_of_ble_eq_true rfl) rfl rfl
theorem d171_68 : decode prog_10_method_69_code 68 = .ok (.iinc 5 1, 3) := by decide +kernel
theorem s171_68 {v0 v1 v2 v3 : Value} {l1 : Int32} {l2 : Int32} {st : List Value} {im : IM} {rm : RM}  : ev 171 68 [v0, v1, v2, v3, .int l1, .int l2] st im rm = ev 171 71 [v0, v1, v2, v3, .int l1, .int (l2 + nI 1)] st (im) (rm) := ev_iinc pm_m171 d171_68 rfl rfl rfl rfl
theorem d171_71 : decode prog_10_method_69_code 71 = .ok (.goto (-56), 3) := by decide +kernel
theorem s171_71 {v0 v1 v2 v3 v4 v5 : Value}  {st : List Value} {im : IM} {rm : RM}  : ev 171 71 [v0, v1, v2, v3, v4, v5] st im rm = ev 171 15 [v0, v1, v2, pm_u, v4, v5] st (im) (rm) := ev_goto pm_m171 d171_71 rfl rfl
theorem d171_74 : decode prog_10_method_69_code 74 = .ok (.iinc 4 1, 3) := by decide +kernel
theorem s171_74 {v0 v1 v2 v5 : Value} {l1 : Int32} {st : List Value} {im : IM} {rm : RM}  : ev 171 74 [v0, v1, v2, pm_u, .int l1, v5] st im rm = ev 171 77 [v0, v1, v2, pm_u, .int (l1 + nI 1), v5] st (im) (rm) := ev_iinc pm_m171 d171_74 rfl rfl rfl rfl
theorem d171_77 : decode prog_10_method_69_code 77 = .ok (.goto (-72), 3) := by decide +kernel
theorem s171_77 {v0 v1 v2 v3 v4 v5 : Value}  {st : List Value} {im : IM} {rm : RM}  : ev 171 77 [v0, v1, v2, v3, v4, v5] st im rm = ev 171 5 [v0, v1, v2, pm_u, v4, pm_u] st (im) (rm) := ev_goto pm_m171 d171_77 rfl rfl
theorem d171_80 : decode prog_10_method_69_code 80 = .ok (.lload_n 2, 1) := by decide +kernel
theorem s171_80 {v0 v1 v3 v4 v5 : Value} {l1 : Int64} {st : List Value} {im : IM} {rm : RM}  : ev 171 80 [v0, v1, .long l1, v3, v4, v5] st im rm = ev 171 81 [v0, v1, .long l1, v3, v4, v5] (.long l1 :: st) (im) (rm) := ev_lload_n pm_m171 d171_80 rfl rfl
theorem d171_81 : decode prog_10_method_69_code 81 = .ok (.lreturn, 1) := by decide +kernel
theorem s171_81 {v0 v1 v2 v3 v4 v5 : Value} {x : Int64} {im : IM} {rm : RM} : ev 171 81 [v0, v1, v2, v3, v4, v5] [.long x] im rm = some (some (.long x), im, rm) := ev_lreturn pm_m171 d171_81 rfl
theorem d172_0 : decode prog_10_method_70_code 0 = .ok (.iload_n 1, 1) := by decide +kernel
theorem s172_0 {v0 v2 v3 : Value} {l1 : Int32} {st : List Value} {im : IM} {rm : RM}  : ev 172 0 [v0, .int l1, v2, v3] st im rm = ev 172 1 [v0, .int l1, v2, v3] (.int l1 :: st) (im) (rm) := ev_iload_n pm_m172 d172_0 rfl rfl
theorem d172_1 : decode prog_10_method_70_code 1 = .ok (.invokestatic 130, 3) := by decide +kernel
theorem s172_1 {v0 v1 v2 v3 : Value} {p1 : Int32} {im : IM} {rm : RM}  : ev 172 1 [v0, v1, v2, v3] [.int p1] im rm = (ev 106 0 [.int p1] [] im rm).bind (fun r => ev 172 4 [v0, v1, v2, v3] (r.1.toList ++ []) r.2.1 r.2.2) := ev_callS pm_m172 d172_1 (by decide) l8_130 rfl pm_m106 rfl ⟨rfl, rfl⟩ rfl rfl
theorem d172_4 : decode prog_10_method_70_code 4 = .ok (.ifCond .ne 7, 3) := by decide +kernel
theorem s172_4 {v0 v1 v2 v3 : Value} {x : Int32} {st : List Value} {im : IM} {rm : RM} : ev 172 4 [v0, v1, v2, v3] (.int x :: st) im rm = if x = nI 0 then ev 172 7 [v0, v1, v2, v3] st im rm else ev 172 11 [v0, v1, pm_u, pm_u] st im rm := ev_if_ne (y := 0) pm_m172 d172_4 rfl rfl rfl
theorem d172_7 : decode prog_10_method_70_code 7 = .ok (.ldc2_w 335, 3) := by decide +kernel
theorem s172_7 {v0 v1 v2 v3 : Value}  {st : List Value} {im : IM} {rm : RM}  : ev 172 7 [v0, v1, v2, v3] st im rm = ev 172 10 [v0, v1, v2, v3] (.long ((-2 : Int64)) :: st) (im) (rm) := ev_ldc2 pm_m172 d172_7 (by decide +kernel) rfl
theorem d172_10 : decode prog_10_method_70_code 10 = .ok (.lreturn, 1) := by decide +kernel
theorem s172_10 {v0 v1 v2 v3 : Value} {x : Int64} {im : IM} {rm : RM} : ev 172 10 [v0, v1, v2, v3] [.long x] im rm = some (some (.long x), im, rm) := ev_lreturn pm_m172 d172_10 rfl
theorem d172_11 : decode prog_10_method_70_code 11 = .ok (.aload_n 0, 1) := by decide +kernel
theorem s172_11 {v1 v2 v3 : Value} {l1 : Nat} {st : List Value} {im : IM} {rm : RM}  : ev 172 11 [.ref l1, v1, v2, v3] st im rm = ev 172 12 [.ref l1, v1, v2, v3] (.ref l1 :: st) (im) (rm) := ev_aload_n pm_m172 d172_11 rfl rfl
theorem d172_12 : decode prog_10_method_70_code 12 = .ok (.iload_n 1, 1) := by decide +kernel
theorem s172_12 {v0 v2 v3 : Value} {l1 : Int32} {st : List Value} {im : IM} {rm : RM}  : ev 172 12 [v0, .int l1, v2, v3] st im rm = ev 172 13 [v0, .int l1, v2, v3] (.int l1 :: st) (im) (rm) := ev_iload_n pm_m172 d172_12 rfl rfl
theorem d172_13 : decode prog_10_method_70_code 13 = .ok (.invokevirtual 337, 3) := by decide +kernel
theorem s172_13 {v0 v1 v2 v3 : Value} {a : Nat} {p1 : Int32} {im : IM} {rm : RM} (hk : kd a = 18) : ev 172 13 [v0, v1, v2, v3] [.int p1, .ref a] im rm = (ev 171 0 [.ref a, .int p1, pm_u, pm_u, pm_u, pm_u] [] im rm).bind (fun r => ev 172 16 [v0, v1, v2, v3] (r.1.toList ++ []) r.2.1 r.2.2) := ev_callV pm_m172 d172_13 l8_337 rfl pm_m171 (by decide) hk rfl ⟨rfl, rfl⟩ rfl rfl
theorem d172_16 : decode prog_10_method_70_code 16 = .ok (.lstore_n 2, 1) := by decide +kernel
theorem s172_16 {v0 v2 v3 : Value} {l1 : Int32} {x2 : Int64} {st : List Value} {im : IM} {rm : RM}  : ev 172 16 [v0, .int l1, v2, v3] (.long x2 :: st) im rm = ev 172 17 [v0, .int l1, .long x2, pm_u] st (im) (rm) := ev_lstore_n pm_m172 d172_16 (Nat.le_of_ble_eq_true rfl) rfl rfl
theorem d172_17 : decode prog_10_method_70_code 17 = .ok (.lload_n 2, 1) := by decide +kernel
theorem s172_17 {v0 v1 v3 : Value} {l1 : Int64} {st : List Value} {im : IM} {rm : RM}  : ev 172 17 [v0, v1, .long l1, v3] st im rm = ev 172 18 [v0, v1, .long l1, v3] (.long l1 :: st) (im) (rm) := ev_lload_n pm_m172 d172_17 rfl rfl
theorem d172_18 : decode prog_10_method_70_code 18 = .ok (.lload_n 2, 1) := by decide +kernel
theorem s172_18 {v0 v1 v3 : Value} {l1 : Int64} {st : List Value} {im : IM} {rm : RM}  : ev 172 18 [v0, v1, .long l1, v3] st im rm = ev 172 19 [v0, v1, .long l1, v3] (.long l1 :: st) (im) (rm) := ev_lload_n pm_m172 d172_18 rfl rfl
theorem d172_19 : decode prog_10_method_70_code 19 = .ok (.aload_n 0, 1) := by decide +kernel
theorem s172_19 {v1 v2 v3 : Value} {l1 : Nat} {st : List Value} {im : IM} {rm : RM}  : ev 172 19 [.ref l1, v1, v2, v3] st im rm = ev 172 20 [.ref l1, v1, v2, v3] (.ref l1 :: st) (im) (rm) := ev_aload_n pm_m172 d172_19 rfl rfl
theorem d172_20 : decode prog_10_method_70_code 20 = .ok (.getfield 37, 3) := by decide +kernel
theorem s172_20 {v0 v1 v2 v3 : Value} {a : Nat} {st : List Value} {im : IM} {rm : RM} (hk : kd a = 18) : ev 172 20 [v0, v1, v2, v3] (.ref a :: st) im rm = ev 172 23 [v0, v1, v2, v3] (pm_ro (rm a 9) :: st) (im) (rm) := ev_getR pm_m172 d172_20 f8_37 rfl hk rfl
theorem d172_23 : decode prog_10_method_70_code 23 = .ok (.iconst 3, 1) := by decide +kernel
theorem s172_23 {v0 v1 v2 v3 : Value}  {st : List Value} {im : IM} {rm : RM}  : ev 172 23 [v0, v1, v2, v3] st im rm = ev 172 24 [v0, v1, v2, v3] (.int (nI 3) :: st) (im) (rm) := ev_iconst pm_m172 d172_23 rfl rfl
theorem d172_24 : decode prog_10_method_70_code 24 = .ok (.iaload, 1) := by decide +kernel
theorem s172_24 {v0 v1 v2 v3 : Value} {a : Nat} {i : Int32} {st : List Value} {im : IM} {rm : RM} (hk : kd a = 0) (hi : pm_in i (ln a) = true) : ev 172 24 [v0, v1, v2, v3] (.int i :: .ref a :: st) im rm = ev 172 25 [v0, v1, v2, v3] (.int (im a i.toNatClampNeg) :: st) (im) (rm) := ev_iald pm_m172 d172_24 hk hi rfl
theorem d172_25 : decode prog_10_method_70_code 25 = .ok (.i2l, 1) := by decide +kernel
theorem s172_25 {v0 v1 v2 v3 : Value} {x : Int32} {st : List Value} {im : IM} {rm : RM}  : ev 172 25 [v0, v1, v2, v3] (.int x :: st) im rm = ev 172 26 [v0, v1, v2, v3] (.long x.toInt64 :: st) (im) (rm) := ev_i2l pm_m172 d172_25 rfl
theorem d172_26 : decode prog_10_method_70_code 26 = .ok (.lmul, 1) := by decide +kernel
theorem s172_26 {v0 v1 v2 v3 : Value} {x : Int64} {y : Int64} {st : List Value} {im : IM} {rm : RM}  : ev 172 26 [v0, v1, v2, v3] (.long y :: .long x :: st) im rm = ev 172 27 [v0, v1, v2, v3] (.long (x * y) :: st) (im) (rm) := ev_lmul pm_m172 d172_26 rfl
theorem d172_27 : decode prog_10_method_70_code 27 = .ok (.ldc2_w 153, 3) := by decide +kernel
theorem s172_27 {v0 v1 v2 v3 : Value}  {st : List Value} {im : IM} {rm : RM}  : ev 172 27 [v0, v1, v2, v3] st im rm = ev 172 30 [v0, v1, v2, v3] (.long (lN 100) :: st) (im) (rm) := ev_ldc2 pm_m172 d172_27 (by decide +kernel) rfl
theorem d172_30 : decode prog_10_method_70_code 30 = .ok (.ldiv, 1) := by decide +kernel
theorem s172_30 {v0 v1 v2 v3 : Value} {x : Int64} {y : Int64} {st : List Value} {im : IM} {rm : RM} (h0 : ¬ y = 0) : ev 172 30 [v0, v1, v2, v3] (.long y :: .long x :: st) im rm = ev 172 31 [v0, v1, v2, v3] (.long (x / y) :: st) (im) (rm) := ev_ldiv pm_m172 d172_30 h0 rfl
theorem d172_31 : decode prog_10_method_70_code 31 = .ok (.lsub, 1) := by decide +kernel
theorem s172_31 {v0 v1 v2 v3 : Value} {x : Int64} {y : Int64} {st : List Value} {im : IM} {rm : RM}  : ev 172 31 [v0, v1, v2, v3] (.long y :: .long x :: st) im rm = ev 172 32 [v0, v1, v2, v3] (.long (x - y) :: st) (im) (rm) := ev_lsub pm_m172 d172_31 rfl
theorem d172_32 : decode prog_10_method_70_code 32 = .ok (.aload_n 0, 1) := by decide +kernel
theorem s172_32 {v1 v2 v3 : Value} {l1 : Nat} {st : List Value} {im : IM} {rm : RM}  : ev 172 32 [.ref l1, v1, v2, v3] st im rm = ev 172 33 [.ref l1, v1, v2, v3] (.ref l1 :: st) (im) (rm) := ev_aload_n pm_m172 d172_32 rfl rfl
theorem d172_33 : decode prog_10_method_70_code 33 = .ok (.iload_n 1, 1) := by decide +kernel
theorem s172_33 {v0 v2 v3 : Value} {l1 : Int32} {st : List Value} {im : IM} {rm : RM}  : ev 172 33 [v0, .int l1, v2, v3] st im rm = ev 172 34 [v0, .int l1, v2, v3] (.int l1 :: st) (im) (rm) := ev_iload_n pm_m172 d172_33 rfl rfl
theorem d172_34 : decode prog_10_method_70_code 34 = .ok (.iconst 3, 1) := by decide +kernel
theorem s172_34 {v0 v1 v2 v3 : Value}  {st : List Value} {im : IM} {rm : RM}  : ev 172 34 [v0, v1, v2, v3] st im rm = ev 172 35 [v0, v1, v2, v3] (.int (nI 3) :: st) (im) (rm) := ev_iconst pm_m172 d172_34 rfl rfl
theorem d172_35 : decode prog_10_method_70_code 35 = .ok (.iadd, 1) := by decide +kernel
theorem s172_35 {v0 v1 v2 v3 : Value} {x : Int32} {y : Int32} {st : List Value} {im : IM} {rm : RM}  : ev 172 35 [v0, v1, v2, v3] (.int y :: .int x :: st) im rm = ev 172 36 [v0, v1, v2, v3] (.int (x + y) :: st) (im) (rm) := ev_iadd pm_m172 d172_35 rfl
theorem d172_36 : decode prog_10_method_70_code 36 = .ok (.iconst 4, 1) := by decide +kernel
theorem s172_36 {v0 v1 v2 v3 : Value}  {st : List Value} {im : IM} {rm : RM}  : ev 172 36 [v0, v1, v2, v3] st im rm = ev 172 37 [v0, v1, v2, v3] (.int (nI 4) :: st) (im) (rm) := ev_iconst pm_m172 d172_36 rfl rfl
theorem d172_37 : decode prog_10_method_70_code 37 = .ok (.irem, 1) := by decide +kernel
theorem s172_37 {v0 v1 v2 v3 : Value} {x : Int32} {y : Int32} {st : List Value} {im : IM} {rm : RM} (h0 : ¬ y = 0) : ev 172 37 [v0, v1, v2, v3] (.int y :: .int x :: st) im rm = ev 172 38 [v0, v1, v2, v3] (.int (x - x / y * y) :: st) (im) (rm) := ev_irem pm_m172 d172_37 h0 rfl
theorem d172_38 : decode prog_10_method_70_code 38 = .ok (.invokevirtual 337, 3) := by decide +kernel
theorem s172_38 {v0 v1 v2 v3 : Value} {a : Nat} {p1 : Int32} {r2 : Int64} {im : IM} {rm : RM} (hk : kd a = 18) : ev 172 38 [v0, v1, v2, v3] [.int p1, .ref a, .long r2] im rm = (ev 171 0 [.ref a, .int p1, pm_u, pm_u, pm_u, pm_u] [] im rm).bind (fun r => ev 172 41 [v0, v1, v2, v3] (r.1.toList ++ [.long r2]) r.2.1 r.2.2) := ev_callV pm_m172 d172_38 l8_337 rfl pm_m171 (by decide) hk rfl ⟨rfl, rfl⟩ rfl rfl
theorem d172_41 : decode prog_10_method_70_code 41 = .ok (.aload_n 0, 1) := by decide +kernel
theorem s172_41 {v1 v2 v3 : Value} {l1 : Nat} {st : List Value} {im : IM} {rm : RM}  : ev 172 41 [.ref l1, v1, v2, v3] st im rm = ev 172 42 [.ref l1, v1, v2, v3] (.ref l1 :: st) (im) (rm) := ev_aload_n pm_m172 d172_41 rfl rfl
theorem d172_42 : decode prog_10_method_70_code 42 = .ok (.getfield 37, 3) := by decide +kernel
theorem s172_42 {v0 v1 v2 v3 : Value} {a : Nat} {st : List Value} {im : IM} {rm : RM} (hk : kd a = 18) : ev 172 42 [v0, v1, v2, v3] (.ref a :: st) im rm = ev 172 45 [v0, v1, v2, v3] (pm_ro (rm a 9) :: st) (im) (rm) := ev_getR pm_m172 d172_42 f8_37 rfl hk rfl
theorem d172_45 : decode prog_10_method_70_code 45 = .ok (.iconst 3, 1) := by decide +kernel
theorem s172_45 {v0 v1 v2 v3 : Value}  {st : List Value} {im : IM} {rm : RM}  : ev 172 45 [v0, v1, v2, v3] st im rm = ev 172 46 [v0, v1, v2, v3] (.int (nI 3) :: st) (im) (rm) := ev_iconst pm_m172 d172_45 rfl rfl
theorem d172_46 : decode prog_10_method_70_code 46 = .ok (.iaload, 1) := by decide +kernel
theorem s172_46 {v0 v1 v2 v3 : Value} {a : Nat} {i : Int32} {st : List Value} {im : IM} {rm : RM} (hk : kd a = 0) (hi : pm_in i (ln a) = true) : ev 172 46 [v0, v1, v2, v3] (.int i :: .ref a :: st) im rm = ev 172 47 [v0, v1, v2, v3] (.int (im a i.toNatClampNeg) :: st) (im) (rm) := ev_iald pm_m172 d172_46 hk hi rfl
theorem d172_47 : decode prog_10_method_70_code 47 = .ok (.i2l, 1) := by decide +kernel
theorem s172_47 {v0 v1 v2 v3 : Value} {x : Int32} {st : List Value} {im : IM} {rm : RM}  : ev 172 47 [v0, v1, v2, v3] (.int x :: st) im rm = ev 172 48 [v0, v1, v2, v3] (.long x.toInt64 :: st) (im) (rm) := ev_i2l pm_m172 d172_47 rfl
theorem d172_48 : decode prog_10_method_70_code 48 = .ok (.lmul, 1) := by decide +kernel
theorem s172_48 {v0 v1 v2 v3 : Value} {x : Int64} {y : Int64} {st : List Value} {im : IM} {rm : RM}  : ev 172 48 [v0, v1, v2, v3] (.long y :: .long x :: st) im rm = ev 172 49 [v0, v1, v2, v3] (.long (x * y) :: st) (im) (rm) := ev_lmul pm_m172 d172_48 rfl
theorem d172_49 : decode prog_10_method_70_code 49 = .ok (.ldc2_w 153, 3) := by decide +kernel
theorem s172_49 {v0 v1 v2 v3 : Value}  {st : List Value} {im : IM} {rm : RM}  : ev 172 49 [v0, v1, v2, v3] st im rm = ev 172 52 [v0, v1, v2, v3] (.long (lN 100) :: st) (im) (rm) := ev_ldc2 pm_m172 d172_49 (by decide +kernel) rfl
theorem d172_52 : decode prog_10_method_70_code 52 = .ok (.ldiv, 1) := by decide +kernel
theorem s172_52 {v0 v1 v2 v3 : Value} {x : Int64} {y : Int64} {st : List Value} {im : IM} {rm : RM} (h0 : ¬ y = 0) : ev 172 52 [v0, v1, v2, v3] (.long y :: .long x :: st) im rm = ev 172 53 [v0, v1, v2, v3] (.long (x / y) :: st) (im) (rm) := ev_ldiv pm_m172 d172_52 h0 rfl
theorem d172_53 : decode prog_10_method_70_code 53 = .ok (.ladd, 1) := by decide +kernel
theorem s172_53 {v0 v1 v2 v3 : Value} {x : Int64} {y : Int64} {st : List Value} {im : IM} {rm : RM}  : ev 172 53 [v0, v1, v2, v3] (.long y :: .long x :: st) im rm = ev 172 54 [v0, v1, v2, v3] (.long (x + y) :: st) (im) (rm) := ev_ladd pm_m172 d172_53 rfl
theorem d172_54 : decode prog_10_method_70_code 54 = .ok (.lreturn, 1) := by decide +kernel
theorem s172_54 {v0 v1 v2 v3 : Value} {x : Int64} {im : IM} {rm : RM} : ev 172 54 [v0, v1, v2, v3] [.long x] im rm = some (some (.long x), im, rm) := ev_lreturn pm_m172 d172_54 rfl
theorem d173_0 : decode prog_10_method_71_code 0 = .ok (.iconst 0, 1) := by decide +kernel
theorem s173_0 {v0 v1 v2 v3 : Value}  {st : List Value} {im : IM} {rm : RM}  : ev 173 0 [v0, v1, v2, v3] st im rm = ev 173 1 [v0, v1, v2, v3] (.int (nI 0) :: st) (im) (rm) := ev_iconst pm_m173 d173_0 rfl rfl
theorem d173_1 : decode prog_10_method_71_code 1 = .ok (.istore_n 2, 1) := by decide +kernel
theorem s173_1 {v0 v2 v3 : Value} {l1 : Int32} {x2 : Int32} {st : List Value} {im : IM} {rm : RM}  : ev 173 1 [v0, .int l1, v2, v3] (.int x2 :: st) im rm = ev 173 2 [v0, .int l1, .int x2, v3] st (im) (rm) := ev_istore_n pm_m173 d173_1 (Nat.le_of_ble_eq_true rfl) rfl rfl
theorem d173_2 : decode prog_10_method_71_code 2 = .ok (.iload_n 1, 1) := by decide +kernel
theorem s173_2 {v0 v2 v3 : Value} {l1 : Int32} {st : List Value} {im : IM} {rm : RM}  : ev 173 2 [v0, .int l1, v2, v3] st im rm = ev 173 3 [v0, .int l1, v2, v3] (.int l1 :: st) (im) (rm) := ev_iload_n pm_m173 d173_2 rfl rfl
theorem d173_3 : decode prog_10_method_71_code 3 = .ok (.tableswitch 118 0 5 #[37, 42, 47, 52, 57, 93], 37) := by decide +kernel
theorem s173_3_0 {v0 v1 v2 v3 : Value}  {st : List Value} {im : IM} {rm : RM}  : ev 173 3 [v0, v1, v2, v3] (.int (nI 0) :: st) im rm = ev 173 40 [v0, pm_u, pm_u, pm_u] st (im) (rm) := ev_swI pm_m173 d173_3 (by decide) rfl rfl rfl
theorem s173_3_1 {v0 v1 v2 v3 : Value}  {st : List Value} {im : IM} {rm : RM}  : ev 173 3 [v0, v1, v2, v3] (.int (nI 1) :: st) im rm = ev 173 45 [v0, pm_u, pm_u, pm_u] st (im) (rm) := ev_swI pm_m173 d173_3 (by decide) rfl rfl rfl
theorem s173_3_2 {v0 v1 v2 v3 : Value}  {st : List Value} {im : IM} {rm : RM}  : ev 173 3 [v0, v1, v2, v3] (.int (nI 2) :: st) im rm = ev 173 50 [v0, pm_u, pm_u, pm_u] st (im) (rm) := ev_swI pm_m173 d173_3 (by decide) rfl rfl rfl
theorem s173_3_3 {v0 v1 v2 v3 : Value}  {st : List Value} {im : IM} {rm : RM}  : ev 173 3 [v0, v1, v2, v3] (.int (nI 3) :: st) im rm = ev 173 55 [v0, pm_u, pm_u, pm_u] st (im) (rm) := ev_swI pm_m173 d173_3 (by decide) rfl rfl rfl
theorem s173_3_4 {v0 v1 v2 v3 : Value}  {st : List Value} {im : IM} {rm : RM}  : ev 173 3 [v0, v1, v2, v3] (.int (nI 4) :: st) im rm = ev 173 60 [v0, pm_u, v2, pm_u] st (im) (rm) := ev_swI pm_m173 d173_3 (by decide) rfl rfl rfl
theorem s173_3_5 {v0 v1 v2 v3 : Value}  {st : List Value} {im : IM} {rm : RM}  : ev 173 3 [v0, v1, v2, v3] (.int (nI 5) :: st) im rm = ev 173 96 [v0, pm_u, v2, pm_u] st (im) (rm) := ev_swI pm_m173 d173_3 (by decide) rfl rfl rfl
theorem s173_3_o {v0 v1 v2 v3 : Value} {x : Int32} {st : List Value} {im : IM} {rm : RM} (h1 : x.toInt < 0 ∨ 5 < x.toInt) : ev 173 3 [v0, v1, v2, v3] (.int x :: st) im rm = ev 173 121 [pm_u, pm_u, pm_u, pm_u] st (im) (rm) := ev_swO pm_m173 d173_3 h1 rfl rfl
theorem d173_40 : decode prog_10_method_71_code 40 = .ok (.aload_n 0, 1) := by decide +kernel
theorem s173_40 {v1 v2 v3 : Value} {l1 : Nat} {st : List Value} {im : IM} {rm : RM}  : ev 173 40 [.ref l1, v1, v2, v3] st im rm = ev 173 41 [.ref l1, v1, v2, v3] (.ref l1 :: st) (im) (rm) := ev_aload_n pm_m173 d173_40 rfl rfl
theorem d173_41 : decode prog_10_method_71_code 41 = .ok (.getfield 330, 3) := by decide +kernel
theorem s173_41 {v0 v1 v2 v3 : Value} {a : Nat} {st : List Value} {im : IM} {rm : RM} (hk : kd a = 18) : ev 173 41 [v0, v1, v2, v3] (.ref a :: st) im rm = ev 173 44 [v0, v1, v2, v3] (.int (im a 28) :: st) (im) (rm) := ev_getI pm_m173 d173_41 f8_330 rfl hk rfl
theorem d173_44 : decode prog_10_method_71_code 44 = .ok (.ireturn, 1) := by decide +kernel
theorem s173_44 {v0 v1 v2 v3 : Value} {x : Int32} {im : IM} {rm : RM} : ev 173 44 [v0, v1, v2, v3] [.int x] im rm = some (some (.int x), im, rm) := ev_ireturn pm_m173 d173_44 rfl
theorem d173_45 : decode prog_10_method_71_code 45 = .ok (.aload_n 0, 1) := by decide +kernel
theorem s173_45 {v1 v2 v3 : Value} {l1 : Nat} {st : List Value} {im : IM} {rm : RM}  : ev 173 45 [.ref l1, v1, v2, v3] st im rm = ev 173 46 [.ref l1, v1, v2, v3] (.ref l1 :: st) (im) (rm) := ev_aload_n pm_m173 d173_45 rfl rfl
theorem d173_46 : decode prog_10_method_71_code 46 = .ok (.getfield 174, 3) := by decide +kernel
theorem s173_46 {v0 v1 v2 v3 : Value} {a : Nat} {st : List Value} {im : IM} {rm : RM} (hk : kd a = 18) : ev 173 46 [v0, v1, v2, v3] (.ref a :: st) im rm = ev 173 49 [v0, v1, v2, v3] (.int (im a 11) :: st) (im) (rm) := ev_getI pm_m173 d173_46 f8_174 rfl hk rfl
theorem d173_49 : decode prog_10_method_71_code 49 = .ok (.ireturn, 1) := by decide +kernel
theorem s173_49 {v0 v1 v2 v3 : Value} {x : Int32} {im : IM} {rm : RM} : ev 173 49 [v0, v1, v2, v3] [.int x] im rm = some (some (.int x), im, rm) := ev_ireturn pm_m173 d173_49 rfl
theorem d173_50 : decode prog_10_method_71_code 50 = .ok (.aload_n 0, 1) := by decide +kernel
theorem s173_50 {v1 v2 v3 : Value} {l1 : Nat} {st : List Value} {im : IM} {rm : RM}  : ev 173 50 [.ref l1, v1, v2, v3] st im rm = ev 173 51 [.ref l1, v1, v2, v3] (.ref l1 :: st) (im) (rm) := ev_aload_n pm_m173 d173_50 rfl rfl
theorem d173_51 : decode prog_10_method_71_code 51 = .ok (.getfield 283, 3) := by decide +kernel
theorem s173_51 {v0 v1 v2 v3 : Value} {a : Nat} {st : List Value} {im : IM} {rm : RM} (hk : kd a = 18) : ev 173 51 [v0, v1, v2, v3] (.ref a :: st) im rm = ev 173 54 [v0, v1, v2, v3] (.int (im a 24) :: st) (im) (rm) := ev_getI pm_m173 d173_51 f8_283 rfl hk rfl
theorem d173_54 : decode prog_10_method_71_code 54 = .ok (.ireturn, 1) := by decide +kernel
theorem s173_54 {v0 v1 v2 v3 : Value} {x : Int32} {im : IM} {rm : RM} : ev 173 54 [v0, v1, v2, v3] [.int x] im rm = some (some (.int x), im, rm) := ev_ireturn pm_m173 d173_54 rfl
theorem d173_55 : decode prog_10_method_71_code 55 = .ok (.aload_n 0, 1) := by decide +kernel
theorem s173_55 {v1 v2 v3 : Value} {l1 : Nat} {st : List Value} {im : IM} {rm : RM}  : ev 173 55 [.ref l1, v1, v2, v3] st im rm = ev 173 56 [.ref l1, v1, v2, v3] (.ref l1 :: st) (im) (rm) := ev_aload_n pm_m173 d173_55 rfl rfl
theorem d173_56 : decode prog_10_method_71_code 56 = .ok (.getfield 296, 3) := by decide +kernel
theorem s173_56 {v0 v1 v2 v3 : Value} {a : Nat} {st : List Value} {im : IM} {rm : RM} (hk : kd a = 18) : ev 173 56 [v0, v1, v2, v3] (.ref a :: st) im rm = ev 173 59 [v0, v1, v2, v3] (.int (im a 33) :: st) (im) (rm) := ev_getI pm_m173 d173_56 f8_296 rfl hk rfl
theorem d173_59 : decode prog_10_method_71_code 59 = .ok (.ireturn, 1) := by decide +kernel
theorem s173_59 {v0 v1 v2 v3 : Value} {x : Int32} {im : IM} {rm : RM} : ev 173 59 [v0, v1, v2, v3] [.int x] im rm = some (some (.int x), im, rm) := ev_ireturn pm_m173 d173_59 rfl
theorem d173_60 : decode prog_10_method_71_code 60 = .ok (.iconst 0, 1) := by decide +kernel
theorem s173_60 {v0 v1 v2 v3 : Value}  {st : List Value} {im : IM} {rm : RM}  : ev 173 60 [v0, v1, v2, v3] st im rm = ev 173 61 [v0, v1, v2, v3] (.int (nI 0) :: st) (im) (rm) := ev_iconst pm_m173 d173_60 rfl rfl
theorem d173_61 : decode prog_10_method_71_code 61 = .ok (.istore_n 3, 1) := by decide +kernel
theorem s173_61 {v0 v1 v3 : Value} {l1 : Int32} {x2 : Int32} {st : List Value} {im : IM} {rm : RM}  : ev 173 61 [v0, v1, .int l1, v3] (.int x2 :: st) im rm = ev 173 62 [v0, pm_u, .int l1, .int x2] st (im) (rm) := ev_istore_n pm_m173 d173_61 (Nat.le_of_ble_eq_true rfl) rfl rfl
theorem d173_62 : decode prog_10_method_71_code 62 = .ok (.iload_n 3, 1) := by decide +kernel
theorem s173_62 {v0 v1 v2 : Value} {l1 : Int32} {st : List Value} {im : IM} {rm : RM}  : ev 173 62 [v0, v1, v2, .int l1] st im rm = ev 173 63 [v0, v1, v2, .int l1] (.int l1 :: st) (im) (rm) := ev_iload_n pm_m173 d173_62 rfl rfl
theorem d173_63 : decode prog_10_method_71_code 63 = .ok (.aload_n 0, 1) := by decide +kernel
theorem s173_63 {v1 v2 v3 : Value} {l1 : Nat} {st : List Value} {im : IM} {rm : RM}  : ev 173 63 [.ref l1, v1, v2, v3] st im rm = ev 173 64 [.ref l1, v1, v2, v3] (.ref l1 :: st) (im) (rm) := ev_aload_n pm_m173 d173_63 rfl rfl
theorem d173_64 : decode prog_10_method_71_code 64 = .ok (.getfield 296, 3) := by decide +kernel
theorem s173_64 {v0 v1 v2 v3 : Value} {a : Nat} {st : List Value} {im : IM} {rm : RM} (hk : kd a = 18) : ev 173 64 [v0, v1, v2, v3] (.ref a :: st) im rm = ev 173 67 [v0, v1, v2, v3] (.int (im a 33) :: st) (im) (rm) := ev_getI pm_m173 d173_64 f8_296 rfl hk rfl
theorem d173_67 : decode prog_10_method_71_code 67 = .ok (.if_icmp .ge 27, 3) := by decide +kernel
theorem s173_67 {v0 v1 v2 v3 : Value} {x : Int32} {y : Int32} {st : List Value} {im : IM} {rm : RM} : ev 173 67 [v0, v1, v2, v3] (.int y :: .int x :: st) im rm = if y ≤ x then ev 173 94 [pm_u, pm_u, v2, pm_u] st im rm else ev 173 70 [v0, v1, v2, v3] st im rm := ev_icmp_ge pm_m173 d173_67 rfl rfl rfl
theorem d173_70 : decode prog_10_method_71_code 70 = .ok (.iload_n 2, 1) := by decide +kernel
theorem s173_70 {v0 v1 v3 : Value} {l1 : Int32} {st : List Value} {im : IM} {rm : RM}  : ev 173 70 [v0, v1, .int l1, v3] st im rm = ev 173 71 [v0, v1, .int l1, v3] (.int l1 :: st) (im) (rm) := ev_iload_n pm_m173 d173_70 rfl rfl
theorem d173_71 : decode prog_10_method_71_code 71 = .ok (.aload_n 0, 1) := by decide +kernel
theorem s173_71 {v1 v2 v3 : Value} {l1 : Nat} {st : List Value} {im : IM} {rm : RM}  : ev 173 71 [.ref l1, v1, v2, v3] st im rm = ev 173 72 [.ref l1, v1, v2, v3] (.ref l1 :: st) (im) (rm) := ev_aload_n pm_m173 d173_71 rfl rfl
theorem d173_72 : decode prog_10_method_71_code 72 = .ok (.getfield 97, 3) := by decide +kernel
theorem s173_72 {v0 v1 v2 v3 : Value} {a : Nat} {st : List Value} {im : IM} {rm : RM} (hk : kd a = 18) : ev 173 72 [v0, v1, v2, v3] (.ref a :: st) im rm = ev 173 75 [v0, v1, v2, v3] (pm_ro (rm a 32) :: st) (im) (rm) := ev_getR pm_m173 d173_72 f8_97 rfl hk rfl
theorem d173_75 : decode prog_10_method_71_code 75 = .ok (.iload_n 3, 1) := by decide +kernel
theorem s173_75 {v0 v1 v2 : Value} {l1 : Int32} {st : List Value} {im : IM} {rm : RM}  : ev 173 75 [v0, v1, v2, .int l1] st im rm = ev 173 76 [v0, v1, v2, .int l1] (.int l1 :: st) (im) (rm) := ev_iload_n pm_m173 d173_75 rfl rfl
theorem d173_76 : decode prog_10_method_71_code 76 = .ok (.iaload, 1) := by decide +kernel
theorem s173_76 {v0 v1 v2 v3 : Value} {a : Nat} {i : Int32} {st : List Value} {im : IM} {rm : RM} (hk : kd a = 0) (hi : pm_in i (ln a) = true) : ev 173 76 [v0, v1, v2, v3] (.int i :: .ref a :: st) im rm = ev 173 77 [v0, v1, v2, v3] (.int (im a i.toNatClampNeg) :: st) (im) (rm) := ev_iald pm_m173 d173_76 hk hi rfl
theorem d173_77 : decode prog_10_method_71_code 77 = .ok (.iconst (-1), 1) := by decide +kernel
theorem s173_77 {v0 v1 v2 v3 : Value}  {st : List Value} {im : IM} {rm : RM}  : ev 173 77 [v0, v1, v2, v3] st im rm = ev 173 78 [v0, v1, v2, v3] (.int ((-1 : Int32)) :: st) (im) (rm) := ev_iconst pm_m173 d173_77 rfl rfl
theorem d173_78 : decode prog_10_method_71_code 78 = .ok (.if_icmp .eq 7, 3) := by decide +kernel
theorem s173_78 {v0 v1 v2 v3 : Value} {x : Int32} {y : Int32} {st : List Value} {im : IM} {rm : RM} : ev 173 78 [v0, v1, v2, v3] (.int y :: .int x :: st) im rm = if x = y then ev 173 85 [v0, pm_u, pm_u, v3] st im rm else ev 173 81 [v0, v1, v2, v3] st im rm := ev_icmp_eq pm_m173 d173_78 rfl rfl rfl
theorem d173_81 : decode prog_10_method_71_code 81 = .ok (.iconst 1, 1) := by decide +kernel
theorem s173_81 {v0 v1 v2 v3 : Value}  {st : List Value} {im : IM} {rm : RM}  : ev 173 81 [v0, v1, v2, v3] st im rm = ev 173 82 [v0, v1, v2, v3] (.int (nI 1) :: st) (im) (rm) := ev_iconst pm_m173 d173_81 rfl rfl
theorem d173_82 : decode prog_10_method_71_code 82 = .ok (.goto 4, 3) := by decide +kernel
theorem s173_82 {v0 v1 v2 v3 : Value}  {st : List Value} {im : IM} {rm : RM}  : ev 173 82 [v0, v1, v2, v3] st im rm = ev 173 86 [v0, pm_u, pm_u, v3] st (im) (rm) := ev_goto pm_m173 d173_82 rfl rfl
theorem d173_85 : decode prog_10_method_71_code 85 = .ok (.iconst 0, 1) := by decide +kernel
theorem s173_85 {v0 v1 v2 v3 : Value}  {st : List Value} {im : IM} {rm : RM}  : ev 173 85 [v0, v1, v2, v3] st im rm = ev 173 86 [v0, pm_u, pm_u, v3] (.int (nI 0) :: st) (im) (rm) := ev_iconst pm_m173 d173_85 rfl rfl
theorem d173_86 : decode prog_10_method_71_code 86 = .ok (.iadd, 1) := by decide +kernel
theorem s173_86 {v0 v1 v2 v3 : Value} {x : Int32} {y : Int32} {st : List Value} {im : IM} {rm : RM}  : ev 173 86 [v0, v1, v2, v3] (.int y :: .int x :: st) im rm = ev 173 87 [v0, v1, v2, v3] (.int (x + y) :: st) (im) (rm) := ev_iadd pm_m173 d173_86 rfl
theorem d173_87 : decode prog_10_method_71_code 87 = .ok (.istore_n 2, 1) := by decide +kernel
theorem s173_87 {v0 v2 v3 : Value} {x1 : Int32} {st : List Value} {im : IM} {rm : RM}  : ev 173 87 [v0, pm_u, v2, v3] (.int x1 :: st) im rm = ev 173 88 [v0, pm_u, .int x1, v3] st (im) (rm) := ev_istore_n pm_m173 d173_87 (Nat.le_of_ble_eq_true rfl) rfl rfl
theorem d173_88 : decode prog_10_method_71_code 88 = .ok (.iinc 3 1, 3) := by decide +kernel
theorem s173_88 {v0 v1 : Value} {l1 : Int32} {l2 : Int32} {st : List Value} {im : IM} {rm : RM}  : ev 173 88 [v0, v1, .int l1, .int l2] st im rm = ev 173 91 [v0, v1, .int l1, .int (l2 + nI 1)] st (im) (rm) := ev_iinc pm_m173 d173_88 rfl rfl rfl rfl
theorem d173_91 : decode prog_10_method_71_code 91 = .ok (.goto (-29), 3) := by decide +kernel
theorem s173_91 {v0 v1 v2 v3 : Value}  {st : List Value} {im : IM} {rm : RM}  : ev 173 91 [v0, v1, v2, v3] st im rm = ev 173 62 [v0, pm_u, v2, v3] st (im) (rm) := ev_goto pm_m173 d173_91 rfl rfl
theorem d173_94 : decode prog_10_method_71_code 94 = .ok (.iload_n 2, 1) := by decide +kernel
theorem s173_94 {v0 v1 v3 : Value} {l1 : Int32} {st : List Value} {im : IM} {rm : RM}  : ev 173 94 [v0, v1, .int l1, v3] st im rm = ev 173 95 [v0, v1, .int l1, v3] (.int l1 :: st) (im) (rm) := ev_iload_n pm_m173 d173_94 rfl rfl
theorem d173_95 : decode prog_10_method_71_code 95 = .ok (.ireturn, 1) := by decide +kernel
theorem s173_95 {v0 v1 v2 v3 : Value} {x : Int32} {im : IM} {rm : RM} : ev 173 95 [v0, v1, v2, v3] [.int x] im rm = some (some (.int x), im, rm) := ev_ireturn pm_m173 d173_95 rfl
theorem d173_96 : decode prog_10_method_71_code 96 = .ok (.iconst 0, 1) := by decide +kernel
theorem s173_96 {v0 v1 v2 v3 : Value}  {st : List Value} {im : IM} {rm : RM}  : ev 173 96 [v0, v1, v2, v3] st im rm = ev 173 97 [v0, v1, v2, v3] (.int (nI 0) :: st) (im) (rm) := ev_iconst pm_m173 d173_96 rfl rfl
theorem d173_97 : decode prog_10_method_71_code 97 = .ok (.istore_n 3, 1) := by decide +kernel
theorem s173_97 {v0 v1 v3 : Value} {l1 : Int32} {x2 : Int32} {st : List Value} {im : IM} {rm : RM}  : ev 173 97 [v0, v1, .int l1, v3] (.int x2 :: st) im rm = ev 173 98 [v0, pm_u, .int l1, .int x2] st (im) (rm) := ev_istore_n pm_m173 d173_97 (Nat.le_of_ble_eq_true rfl) rfl rfl
theorem d173_98 : decode prog_10_method_71_code 98 = .ok (.iload_n 3, 1) := by decide +kernel
theorem s173_98 {v0 v1 v2 : Value} {l1 : Int32} {st : List Value} {im : IM} {rm : RM}  : ev 173 98 [v0, v1, v2, .int l1] st im rm = ev 173 99 [v0, v1, v2, .int l1] (.int l1 :: st) (im) (rm) := ev_iload_n pm_m173 d173_98 rfl rfl
theorem d173_99 : decode prog_10_method_71_code 99 = .ok (.bipush 6, 2) := by decide +kernel
theorem s173_99 {v0 v1 v2 v3 : Value}  {st : List Value} {im : IM} {rm : RM}  : ev 173 99 [v0, v1, v2, v3] st im rm = ev 173 101 [v0, v1, v2, v3] (.int (nI 6) :: st) (im) (rm) := ev_bipush pm_m173 d173_99 rfl rfl
theorem d173_101 : decode prog_10_method_71_code 101 = .ok (.if_icmp .ge 18, 3) := by decide +kernel
theorem s173_101 {v0 v1 v2 v3 : Value} {x : Int32} {y : Int32} {st : List Value} {im : IM} {rm : RM} : ev 173 101 [v0, v1, v2, v3] (.int y :: .int x :: st) im rm = if y ≤ x then ev 173 119 [pm_u, pm_u, v2, pm_u] st im rm else ev 173 104 [v0, v1, v2, v3] st im rm := ev_icmp_ge pm_m173 d173_101 rfl rfl rfl
theorem d173_104 : decode prog_10_method_71_code 104 = .ok (.iload_n 2, 1) := by decide +kernel
theorem s173_104 {v0 v1 v3 : Value} {l1 : Int32} {st : List Value} {im : IM} {rm : RM}  : ev 173 104 [v0, v1, .int l1, v3] st im rm = ev 173 105 [v0, v1, .int l1, v3] (.int l1 :: st) (im) (rm) := ev_iload_n pm_m173 d173_104 rfl rfl
theorem d173_105 : decode prog_10_method_71_code 105 = .ok (.aload_n 0, 1) := by decide +kernel
theorem s173_105 {v1 v2 v3 : Value} {l1 : Nat} {st : List Value} {im : IM} {rm : RM}  : ev 173 105 [.ref l1, v1, v2, v3] st im rm = ev 173 106 [.ref l1, v1, v2, v3] (.ref l1 :: st) (im) (rm) := ev_aload_n pm_m173 d173_105 rfl rfl
theorem d173_106 : decode prog_10_method_71_code 106 = .ok (.getfield 16, 3) := by decide +kernel
theorem s173_106 {v0 v1 v2 v3 : Value} {a : Nat} {st : List Value} {im : IM} {rm : RM} (hk : kd a = 18) : ev 173 106 [v0, v1, v2, v3] (.ref a :: st) im rm = ev 173 109 [v0, v1, v2, v3] (pm_ro (rm a 2) :: st) (im) (rm) := ev_getR pm_m173 d173_106 f8_16 rfl hk rfl
theorem d173_109 : decode prog_10_method_71_code 109 = .ok (.iload_n 3, 1) := by decide +kernel
theorem s173_109 {v0 v1 v2 : Value} {l1 : Int32} {st : List Value} {im : IM} {rm : RM}  : ev 173 109 [v0, v1, v2, .int l1] st im rm = ev 173 110 [v0, v1, v2, .int l1] (.int l1 :: st) (im) (rm) := ev_iload_n pm_m173 d173_109 rfl rfl
theorem d173_110 : decode prog_10_method_71_code 110 = .ok (.iaload, 1) := by decide +kernel
theorem s173_110 {v0 v1 v2 v3 : Value} {a : Nat} {i : Int32} {st : List Value} {im : IM} {rm : RM} (hk : kd a = 0) (hi : pm_in i (ln a) = true) : ev 173 110 [v0, v1, v2, v3] (.int i :: .ref a :: st) im rm = ev 173 111 [v0, v1, v2, v3] (.int (im a i.toNatClampNeg) :: st) (im) (rm) := ev_iald pm_m173 d173_110 hk hi rfl
theorem d173_111 : decode prog_10_method_71_code 111 = .ok (.iadd, 1) := by decide +kernel
theorem s173_111 {v0 v1 v2 v3 : Value} {x : Int32} {y : Int32} {st : List Value} {im : IM} {rm : RM}  : ev 173 111 [v0, v1, v2, v3] (.int y :: .int x :: st) im rm = ev 173 112 [v0, v1, v2, v3] (.int (x + y) :: st) (im) (rm) := ev_iadd pm_m173 d173_111 rfl
theorem d173_112 : decode prog_10_method_71_code 112 = .ok (.istore_n 2, 1) := by decide +kernel
theorem s173_112 {v0 v2 v3 : Value} {x1 : Int32} {st : List Value} {im : IM} {rm : RM}  : ev 173 112 [v0, pm_u, v2, v3] (.int x1 :: st) im rm = ev 173 113 [v0, pm_u, .int x1, v3] st (im) (rm) := ev_istore_n pm_m173 d173_112 (Nat.le_of_ble_eq_true rfl) rfl rfl
theorem d173_113 : decode prog_10_method_71_code 113 = .ok (.iinc 3 1, 3) := by decide +kernel
theorem s173_113 {v0 v1 : Value} {l1 : Int32} {l2 : Int32} {st : List Value} {im : IM} {rm : RM}  : ev 173 113 [v0, v1, .int l1, .int l2] st im rm = ev 173 116 [v0, v1, .int l1, .int (l2 + nI 1)] st (im) (rm) := ev_iinc pm_m173 d173_113 rfl rfl rfl rfl
theorem d173_116 : decode prog_10_method_71_code 116 = .ok (.goto (-18), 3) := by decide +kernel
theorem s173_116 {v0 v1 v2 v3 : Value}  {st : List Value} {im : IM} {rm : RM}  : ev 173 116 [v0, v1, v2, v3] st im rm = ev 173 98 [v0, pm_u, v2, v3] st (im) (rm) := ev_goto pm_m173 d173_116 rfl rfl
theorem d173_119 : decode prog_10_method_71_code 119 = .ok (.iload_n 2, 1) := by decide +kernel
theorem s173_119 {v0 v1 v3 : Value} {l1 : Int32} {st : List Value} {im : IM} {rm : RM}  : ev 173 119 [v0, v1, .int l1, v3] st im rm = ev 173 120 [v0, v1, .int l1, v3] (.int l1 :: st) (im) (rm) := ev_iload_n pm_m173 d173_119 rfl rfl
theorem d173_120 : decode prog_10_method_71_code 120 = .ok (.ireturn, 1) := by decide +kernel
theorem s173_120 {v0 v1 v2 v3 : Value} {x : Int32} {im : IM} {rm : RM} : ev 173 120 [v0, v1, v2, v3] [.int x] im rm = some (some (.int x), im, rm) := ev_ireturn pm_m173 d173_120 rfl
theorem d173_121 : decode prog_10_method_71_code 121 = .ok (.bipush (-3), 2) := by decide +kernel
theorem s173_121 {v0 v1 v2 v3 : Value}  {st : List Value} {im : IM} {rm : RM}  : ev 173 121 [v0, v1, v2, v3] st im rm = ev 173 123 [v0, v1, v2, v3] (.int ((-3 : Int32)) :: st) (im) (rm) := ev_bipush pm_m173 d173_121 rfl rfl
theorem d173_123 : decode prog_10_method_71_code 123 = .ok (.ireturn, 1) := by decide +kernel
theorem s173_123 {v0 v1 v2 v3 : Value} {x : Int32} {im : IM} {rm : RM} : ev 173 123 [v0, v1, v2, v3] [.int x] im rm = some (some (.int x), im, rm) := ev_ireturn pm_m173 d173_123 rfl
